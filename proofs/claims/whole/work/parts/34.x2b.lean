set_option maxHeartbeats 4000000 in
set_option maxRecDepth 100000 in
theorem c_X2_digest (l : Launch) (hl0 : l.stackTraces = false) (G : zK) (B0 : Nat) (F : zM) (σ : Sg) (zp0 : Int32) (hC : CS G B0 F σ) : vx_Met l yX2_digest (Cond.code yX2_digest cX2_digest 5 (some FieldType.int) :: zW) (zRm 7 111 1 6) (va_Pc [.ref B0, .int zp0] (zPre G B0 F)) (zQi G B0 (fun r' F' => oA_digest σ zp0 ∧ oB_digest σ zp0 ∧ oC_digest σ zp0 ∧ r' = rr_digest σ zp0 ∧ CS G B0 F' (ss_digest σ zp0) ∧ zCf B0 F F')) (zXC G B0 F (fun E => zPX zEI "" "" (oA_digest σ zp0) (oB_digest σ zp0) (oC_digest σ zp0) E)) 1 6 (zA B0) := by
  refine z_ofx (own := RX2) (by decide) rfl (Nat.le_of_ble_eq_true rfl) ?_
  intro p e s m below meth c ls hx hb hr hml hown hlocks hout hts hl hI
  have hl : lv_has ls 5 [(0, .ref B0), (1, .int zp0)] := hl
  obtain ⟨y01, ⟨fa1, y11, e11⟩, ⟨fb1, y21, e21⟩, ⟨fc1, y31, e31⟩, ⟨n41, t41, y41⟩, ⟨n61, t61, y61⟩, ⟨n81, t81, y81⟩, ⟨fd1, y101⟩, yT1, yP1⟩ := id hC
  refine lv_aload_n hx hb dX2_digest_0 rfl (lv_at hl 0 rfl) ?_
  refine lv_iload_n hx hb dX2_digest_1 rfl (lv_at hl 1 rfl) ?_
  refine z_xcallr hI (z_xV (As := [.int zp0]) (rest := []) ⟨hx, hb, hml, hown, hts⟩ hI y01 rfl (c_X2_textAt l hl0 G B0 F σ zp0 hC) (z_cwV vX2_textAt hts q71 ⟨Nat.le_of_ble_eq_true rfl, Nat.le_of_ble_eq_true rfl⟩) rfl hl.1 rfl (lv_room (Nat.le_of_ble_eq_true rfl)) dX2_digest_2 ⟨Nat.le_of_ble_eq_true rfl, Nat.le_of_ble_eq_true rfl⟩) (z_out hout hlocks (fun E hE => Or.inl ⟨hE.1, fun q => hE.2 (by first | exact q | (simp only [oA_digest, oB_digest, oC_digest, rr_digest, ss_digest] at q; exact q))⟩) (Nat.le_of_ble_eq_true rfl) (Nat.le_of_ble_eq_true rfl)) (fun r3 F2 H locs hp4 hI => ?_)
  obtain ⟨rfl, i5, hi6, rfl, rfl⟩ := hp4
  have hix7 : ix (nI i5) = i5 := ix_nI (by omega)
  have hl : lv_has ls 5 [(0, .ref B0), (1, .int (nI i5))] := hl
  have hx8 := yT1 i5 hi6
  obtain ⟨xnhx8, xrhx8, fhx8, xwhx8, xfhx8⟩ := id hx8
  refine lv_astore_n (lv' := [(2, .ref (B0 + 11 + 2 * i5)), (0, .ref B0), (1, .int (nI i5))]) hx hb dX2_digest_5 rfl hl (by decide) rfl (fun ls hl => ?_)
  refine lv_bipush (v := nI 7) hx hb dX2_digest_6 (by decide) ?_
  refine lv_istore_n (lv' := [(3, .int (nI 7)), (2, .ref (B0 + 11 + 2 * i5)), (0, .ref B0), (1, .int (nI i5))]) hx hb dX2_digest_8 rfl hl (by decide) rfl (fun ls hl => ?_)
  refine lv_iconst (v := nI 0) hx hb dX2_digest_9 (by decide) ?_
  refine lv_istore (lv' := [(4, .int (nI 0)), (3, .int (nI 7)), (2, .ref (B0 + 11 + 2 * i5)), (0, .ref B0), (1, .int (nI i5))]) hx hb dX2_digest_10 hl (by decide) rfl (fun ls hl => ?_)
  refine z_loop (σ := Nat × Int32) (fun xx : Nat × Int32 => match xx with | (k, a) => [(0, .ref B0), (1, .int (nI i5)), (2, .ref (B0 + 11 + 2 * i5)), (4, .int (nI k)), (3, .int a)]) (fun (xx : Nat × Int32) (Fx : zM) => match xx with | (k, a) => F = Fx ∧ k ≤ sn σ i5 ∧ a = dgs (st σ i5) k) (fun xx : Nat × Int32 => match xx with | (k, a) => sn σ i5 - k) (0, nI 7) (nL := 5) (st := []) ?_ (lv_sub hl [3, 4, 2, 0, 1] rfl) hI ?_
  · exact ⟨rfl, Nat.zero_le _, rfl⟩
  · intro xx F9 ls H locs hi hl hI ih
    obtain ⟨k, a⟩ := xx
    have hl : lv_has ls 5 [(0, .ref B0), (1, .int (nI i5)), (2, .ref (B0 + 11 + 2 * i5)), (4, .int (nI k)), (3, .int a)] := hl
    obtain ⟨hF, hk, ha⟩ := hi
    subst hF
    refine lv_iload hx hb dX2_digest_12 (lv_at hl 3 rfl) ?_
    refine lv_aload_n hx hb dX2_digest_14 rfl (lv_at hl 2 rfl) ?_
    refine z_getN hx hb hts hown zlX1 rfl 1 (by decide) (List.mem_of_getElem? (i := 0) rfl) rfl hI xrhx8 rfl dX2_digest_15 ?_
    refine z_icmp_ge (tgt := 40) (a := k) (b := sn σ i5) hx hb dX2_digest_18 (by decide) (by omega) (fun hq10 => ?_) (fun hq10 => ?_)
    · refine lv_iload_n hx hb dX2_digest_40 rfl (lv_at hl 4 rfl) ?_
      refine vx_ret (z_ri hx hb hr hlocks hI ?_ (Nat.le_of_ble_eq_true rfl) (Nat.le_of_ble_eq_true rfl) dX2_digest_41)
      have hkn : k = sn σ i5 := by omega
      refine ⟨_, rfl, (by simp only [oA_digest, oB_digest, oC_digest, rr_digest, ss_digest, hix7] <;> exact ⟨i5, hi6, rfl⟩), (by simp only [oA_digest, oB_digest, oC_digest, rr_digest, ss_digest, hix7] <;> exact trivial), (by simp only [oA_digest, oB_digest, oC_digest, rr_digest, ss_digest, hix7] <;> exact trivial), (by simp only [oA_digest, oB_digest, oC_digest, rr_digest, ss_digest, hix7] <;> (rw [ha, hkn])), (by simp only [oA_digest, oB_digest, oC_digest, rr_digest, ss_digest, hix7] <;> exact hC), zCf.rf⟩
    · refine lv_iload_n hx hb dX2_digest_21 rfl (lv_at hl 4 rfl) ?_
      refine lv_bipush (v := nI 31) hx hb dX2_digest_22 (by decide) ?_
      refine lv_imul hx hb dX2_digest_24 ?_
      refine lv_aload_n hx hb dX2_digest_25 rfl (lv_at hl 2 rfl) ?_
      refine z_getN hx hb hts hown zlX1 rfl 0 (by decide) (List.mem_of_getElem? (i := 1) rfl) rfl hI xrhx8 rfl dX2_digest_26 ?_
      refine lv_iload hx hb dX2_digest_29 (lv_at hl 3 rfl) ?_
      refine z_ild (k := k) (v := st σ i5 k) hx hb hI xwhx8 (by omega) (by omega) (xfhx8 k (by omega)) dX2_digest_31 ?_
      refine lv_iadd hx hb dX2_digest_32 ?_
      refine lv_istore_n (lv' := [(3, .int ((a * (nI 31)) + (st σ i5 k))), (0, .ref B0), (1, .int (nI i5)), (2, .ref (B0 + 11 + 2 * i5)), (4, .int (nI k))]) hx hb dX2_digest_33 rfl hl (by decide) rfl (fun ls hl => ?_)
      refine lv_iinc (k := 4) (v := nI (k + 1)) (lv' := [(4, .int (nI (k + 1))), (3, .int ((a * (nI 31)) + (st σ i5 k))), (0, .ref B0), (1, .int (nI i5)), (2, .ref (B0 + 11 + 2 * i5))]) hx hb dX2_digest_34 hl rfl (nI_add k 1) (by decide) rfl (fun ls hl => ?_)
      refine lv_goto (tgt := 12) hx hb dX2_digest_37 (by decide) ?_
      refine ih (k + 1, (a * (nI 31)) + (st σ i5 k)) _ ls H locs (by first | omega | (dsimp only; omega)) ?_ (lv_sub hl [2, 3, 4, 0, 1] rfl) hI
      exact ⟨rfl, by omega, by rw [ha]; rfl⟩

set_option maxHeartbeats 4000000 in
set_option maxRecDepth 100000 in
theorem c_X2_setRank (l : Launch) (hl0 : l.stackTraces = false) (G : zK) (B0 : Nat) (F : zM) (σ : Sg) (zp0 zp1 : Int32) (hC : CS G B0 F σ) : vx_Met l yX2_setRank (Cond.code yX2_setRank cX2_setRank 4 (some FieldType.int) :: zW) (zRm 7 112 2 12) (va_Pc [.ref B0, .int zp0, .int zp1] (zPre G B0 F)) (zQi G B0 (fun r' F' => oA_setRank σ zp0 zp1 ∧ oB_setRank σ zp0 zp1 ∧ oC_setRank σ zp0 zp1 ∧ r' = rr_setRank σ zp0 zp1 ∧ CS G B0 F' (ss_setRank σ zp0 zp1) ∧ zCf B0 F F')) (zXC G B0 F (fun E => zPX zEI zEA "" (oA_setRank σ zp0 zp1) (oB_setRank σ zp0 zp1) (oC_setRank σ zp0 zp1) E)) 2 12 (zA B0) := by
  refine z_ofx (own := RX2) (by decide) rfl (Nat.le_of_ble_eq_true rfl) ?_
  intro p e s m below meth c ls hx hb hr hml hown hlocks hout hts hl hI
  have hl : lv_has ls 4 [(0, .ref B0), (1, .int zp0), (2, .int zp1)] := hl
  obtain ⟨y01, ⟨fa1, y11, e11⟩, ⟨fb1, y21, e21⟩, ⟨fc1, y31, e31⟩, ⟨n41, t41, y41⟩, ⟨n61, t61, y61⟩, ⟨n81, t81, y81⟩, ⟨fd1, y101⟩, yT1, yP1⟩ := id hC
  refine lv_iload_n hx hb dX2_setRank_0 rfl (lv_at hl 1 rfl) ?_
  refine z_xcallv hI (z_xS (As := [.int zp0]) (rest := []) ⟨hx, hb, hml, hown, hts⟩ hI (c_X2_requireWord l hl0 G B0 F zp0) (z_cwS vX2_requireWord hts q145 ⟨Nat.le_of_ble_eq_true rfl, Nat.le_of_ble_eq_true rfl⟩) rfl hl.1 rfl (lv_room (Nat.le_of_ble_eq_true rfl)) dX2_setRank_1 ⟨Nat.le_of_ble_eq_true rfl, Nat.le_of_ble_eq_true rfl⟩) (z_out hout hlocks (fun E hE => Or.inl ⟨hE.1, fun q => hE.2 (by first | exact q | (simp only [oA_setRank, oB_setRank, oC_setRank, rr_setRank, ss_setRank] at q; exact q))⟩) (Nat.le_of_ble_eq_true rfl) (Nat.le_of_ble_eq_true rfl)) (fun F2 H locs hp4 hI => ?_)
  obtain ⟨rfl, hp4⟩ := hp4
  obtain ⟨kw, hkw, rfl⟩ := hp4
  have hix5 : ix (nI kw) = kw := ix_nI (by omega)
  have hl : lv_has ls 4 [(0, .ref B0), (1, .int (nI kw)), (2, .int zp1)] := hl
  refine lv_iload_n hx hb dX2_setRank_4 rfl (lv_at hl 2 rfl) ?_
  refine lv_bipush (v := -9) hx hb dX2_setRank_5 (by decide) ?_
  refine lv_bipush (v := nI 9) hx hb dX2_setRank_7 (by decide) ?_
  refine z_xcallv hI (z_xS (As := [.int zp1, .int (-9), .int (nI 9)]) (rest := []) ⟨hx, hb, hml, hown, hts⟩ hI (c_X2_requireWithin l hl0 G B0 F zp1 (-9) (nI 9)) (z_cwS vX2_requireWithin hts q206 ⟨Nat.le_of_ble_eq_true rfl, Nat.le_of_ble_eq_true rfl⟩) rfl hl.1 rfl (lv_room (Nat.le_of_ble_eq_true rfl)) dX2_setRank_9 ⟨Nat.le_of_ble_eq_true rfl, Nat.le_of_ble_eq_true rfl⟩) (z_out hout hlocks (fun E hE => Or.inr (Or.inl ⟨hE.1, (by simp only [oA_setRank, oB_setRank, oC_setRank, rr_setRank, ss_setRank, hix5] <;> exact ⟨kw, hkw, rfl⟩), fun q => hE.2 (by simp only [oA_setRank, oB_setRank, oC_setRank, rr_setRank, ss_setRank, hix5] at q; exact q)⟩)) (Nat.le_of_ble_eq_true rfl) (Nat.le_of_ble_eq_true rfl)) (fun F6 H locs hp8 hI => ?_)
  obtain ⟨rfl, hp8, hp8b⟩ := hp8
  refine lv_aload_n hx hb dX2_setRank_12 rfl (lv_at hl 0 rfl) ?_
  refine z_get hx hb hts hown zlX2 rfl 2 (by decide) (hts _ q42) rfl hI y01 rfl dX2_setRank_13 ?_
  refine lv_iload_n hx hb dX2_setRank_16 rfl (lv_at hl 1 rfl) ?_
  refine z_ild (k := kw) (v := rk σ kw) hx hb hI y31 (by omega) (by omega) (e31 kw (by omega)) dX2_setRank_17 ?_
  refine lv_istore_n (lv' := [(3, .int (rk σ kw)), (0, .ref B0), (1, .int (nI kw)), (2, .int zp1)]) hx hb dX2_setRank_18 rfl hl (by decide) rfl (fun ls hl => ?_)
  refine lv_aload_n hx hb dX2_setRank_19 rfl (lv_at hl 1 rfl) ?_
  refine z_get hx hb hts hown zlX2 rfl 2 (by decide) (hts _ q42) rfl hI y01 rfl dX2_setRank_20 ?_
  refine lv_iload_n hx hb dX2_setRank_23 rfl (lv_at hl 2 rfl) ?_
  refine lv_iload_n hx hb dX2_setRank_24 rfl (lv_at hl 3 rfl) ?_
  refine z_ist (k := kw) hx hb hI y31 (by omega) (by omega) dX2_setRank_25 (fun H locs F9 hw10 ho11 hI => ?_)
  have hc12 : F9 B0 = some (zO 2 [.ref (B0 + 1), .ref (B0 + 2), .ref (B0 + 3), .ref (B0 + 4), .ref (B0 + 6), .ref (B0 + 8), .ref (B0 + 10)]) := (ho11 _ (zne y01 y31 (fun q => by cases q))).trans y01
  have hc13 : F9 (B0 + 1) = some (zA1 G 4 fa1) := (ho11 _ (by omega)).trans y11
  have hc14 : F9 (B0 + 2) = some (zA1 G 2 fb1) := (ho11 _ (by omega)).trans y21
  have hc15 : F9 (B0 + 10) = some (zAI G 61 fd1) := (ho11 _ (by omega)).trans y101
  refine lv_iload_n hx hb dX2_setRank_26 rfl (lv_at hl 0 rfl) ?_
  refine vx_ret (z_ri hx hb hr hlocks hI ?_ (Nat.le_of_ble_eq_true rfl) (Nat.le_of_ble_eq_true rfl) dX2_setRank_27)
  refine ⟨_, rfl, (by simp only [oA_setRank, oB_setRank, oC_setRank, rr_setRank, ss_setRank, hix5] <;> exact ⟨kw, hkw, rfl⟩), (by simp only [oA_setRank, oB_setRank, oC_setRank, rr_setRank, ss_setRank, hix5] <;> exact ⟨hp8, hp8b⟩), (by simp only [oA_setRank, oB_setRank, oC_setRank, rr_setRank, ss_setRank, hix5] <;> exact trivial), (by simp only [oA_setRank, oB_setRank, oC_setRank, rr_setRank, ss_setRank, hix5] <;> exact rfl), (by simp only [oA_setRank, oB_setRank, oC_setRank, rr_setRank, ss_setRank, hix5] <;> exact CS.setR hC ho11 hw10 (upd_cg e31)), (fun q hq => ho11 q (by omega))⟩

set_option maxHeartbeats 4000000 in
set_option maxRecDepth 100000 in
theorem c_X2_hush (l : Launch) (hl0 : l.stackTraces = false) (G : zK) (B0 : Nat) (F : zM) (σ : Sg) (zp0 : Int32) (hC : CS G B0 F σ) : vx_Met l yX2_hush (Cond.code yX2_hush cX2_hush 4 (some FieldType.int) :: zW) (zRm 7 111 1 6) (va_Pc [.ref B0, .int zp0] (zPre G B0 F)) (zQi G B0 (fun r' F' => oA_hush σ zp0 ∧ oB_hush σ zp0 ∧ oC_hush σ zp0 ∧ r' = rr_hush σ zp0 ∧ CS G B0 F' (ss_hush σ zp0) ∧ zCf B0 F F')) (zXC G B0 F (fun E => zPX zEI "" "" (oA_hush σ zp0) (oB_hush σ zp0) (oC_hush σ zp0) E)) 1 6 (zA B0) := by
  refine z_ofx (own := RX2) (by decide) rfl (Nat.le_of_ble_eq_true rfl) ?_
  intro p e s m below meth c ls hx hb hr hml hown hlocks hout hts hl hI
  have hl : lv_has ls 4 [(0, .ref B0), (1, .int zp0)] := hl
  obtain ⟨y01, ⟨fa1, y11, e11⟩, ⟨fb1, y21, e21⟩, ⟨fc1, y31, e31⟩, ⟨n41, t41, y41⟩, ⟨n61, t61, y61⟩, ⟨n81, t81, y81⟩, ⟨fd1, y101⟩, yT1, yP1⟩ := id hC
  refine lv_aload_n hx hb dX2_hush_0 rfl (lv_at hl 0 rfl) ?_
  refine lv_iload_n hx hb dX2_hush_1 rfl (lv_at hl 1 rfl) ?_
  refine z_xcallr hI (z_xV (As := [.int zp0]) (rest := []) ⟨hx, hb, hml, hown, hts⟩ hI y01 rfl (c_X2_phraseAt l hl0 G B0 F σ zp0 hC) (z_cwV vX2_phraseAt hts q293 ⟨Nat.le_of_ble_eq_true rfl, Nat.le_of_ble_eq_true rfl⟩) rfl hl.1 rfl (lv_room (Nat.le_of_ble_eq_true rfl)) dX2_hush_2 ⟨Nat.le_of_ble_eq_true rfl, Nat.le_of_ble_eq_true rfl⟩) (z_out hout hlocks (fun E hE => Or.inl ⟨hE.1, fun q => hE.2 (by first | exact q | (simp only [oA_hush, oB_hush, oC_hush, rr_hush, ss_hush] at q; exact q))⟩) (Nat.le_of_ble_eq_true rfl) (Nat.le_of_ble_eq_true rfl)) (fun r3 F2 H locs hp4 hI => ?_)
  obtain ⟨rfl, i5, hi6, rfl, rfl⟩ := hp4
  have hix7 : ix (nI i5) = i5 := ix_nI (by omega)
  have hl : lv_has ls 4 [(0, .ref B0), (1, .int (nI i5))] := hl
  have hx8 := yP1 i5 hi6
  obtain ⟨xnhx8, xrhx8, fhx8, xwhx8, xfhx8⟩ := id hx8
  refine lv_astore_n (lv' := [(2, .ref (B0 + 19 + 2 * i5)), (0, .ref B0), (1, .int (nI i5))]) hx hb dX2_hush_5 rfl hl (by decide) rfl (fun ls hl => ?_)
  refine lv_aload_n hx hb dX2_hush_6 rfl (lv_at hl 0 rfl) ?_
  refine z_getN hx hb hts hown zlX1 rfl 1 (by decide) (List.mem_of_getElem? (i := 0) rfl) rfl hI xrhx8 rfl dX2_hush_7 ?_
  refine lv_istore_n (lv' := [(3, .int (nI (pn σ i5))), (2, .ref (B0 + 19 + 2 * i5)), (0, .ref B0), (1, .int (nI i5))]) hx hb dX2_hush_10 rfl hl (by decide) rfl (fun ls hl => ?_)
  refine lv_aload_n hx hb dX2_hush_11 rfl (lv_at hl 1 rfl) ?_
  refine lv_iconst (v := nI 0) hx hb dX2_hush_12 (by decide) ?_
  refine z_putN hx hb hts hown zlX1 tyX1 tyX1_ok nmX1 rfl 1 (by decide) (List.mem_of_getElem? (i := 0) rfl) rfl hI xrhx8 rfl rfl rfl rfl (Nat.le_of_ble_eq_true rfl) dX2_hush_13 (fun H locs F9 hw10 ho11 hI => ?_)
  have hw10 : F9 (B0 + 19 + 2 * i5) = some (zO 1 [.ref (B0 + 20 + 2 * i5), .int (nI 0)]) := hw10
  have hc12 : F9 B0 = some (zO 2 [.ref (B0 + 1), .ref (B0 + 2), .ref (B0 + 3), .ref (B0 + 4), .ref (B0 + 6), .ref (B0 + 8), .ref (B0 + 10)]) := (ho11 _ (by omega)).trans y01
  have hc13 : F9 (B0 + 1) = some (zA1 G 4 fa1) := (ho11 _ (zne y11 xrhx8 (fun q => by cases q))).trans y11
  have hc14 : F9 (B0 + 2) = some (zA1 G 2 fb1) := (ho11 _ (zne y21 xrhx8 (fun q => by cases q))).trans y21
  have hc15 : F9 (B0 + 3) = some (zAI G 100 fc1) := (ho11 _ (zne y31 xrhx8 (fun q => by cases q))).trans y31
  have hc16 : F9 (B0 + 10) = some (zAI G 61 fd1) := (ho11 _ (zne y101 xrhx8 (fun q => by cases q))).trans y101
  have hc17 : F9 (B0 + 20 + 2 * i5) = some (zAI G 12 fhx8) := (ho11 _ (zne xwhx8 xrhx8 (fun q => by cases q))).trans xwhx8
  refine lv_iload_n hx hb dX2_hush_16 rfl (lv_at hl 0 rfl) ?_
  refine vx_ret (z_ri hx hb hr hlocks hI ?_ (Nat.le_of_ble_eq_true rfl) (Nat.le_of_ble_eq_true rfl) dX2_hush_17)
  refine ⟨_, rfl, (by simp only [oA_hush, oB_hush, oC_hush, rr_hush, ss_hush, hix7] <;> exact ⟨i5, hi6, rfl⟩), (by simp only [oA_hush, oB_hush, oC_hush, rr_hush, ss_hush, hix7] <;> exact trivial), (by simp only [oA_hush, oB_hush, oC_hush, rr_hush, ss_hush, hix7] <;> exact trivial), (by simp only [oA_hush, oB_hush, oC_hush, rr_hush, ss_hush, hix7] <;> exact rfl), (by simp only [oA_hush, oB_hush, oC_hush, rr_hush, ss_hush, hix7] <;> exact CS.setP hC hi6 (zSm.l (b := B0 + 20 + 2 * i5) ho11) ⟨Nat.zero_le _, hw10, _, hc17, fun j hj => absurd hj (Nat.not_lt_zero _)⟩), zCf.sm (zSm.l (b := B0 + 20 + 2 * i5) ho11) (by omega) (by omega)⟩

set_option maxHeartbeats 4000000 in
set_option maxRecDepth 100000 in
theorem c_X2_quote (l : Launch) (hl0 : l.stackTraces = false) (G : zK) (B0 : Nat) (F : zM) (σ : Sg) (zp0 zp1 zp2 zp3 : Int32) (hC : CS G B0 F σ) : vx_Met l yX2_quote (Cond.code yX2_quote cX2_quote 8 (some FieldType.int) :: zW) (zRm 7 112 4 24) (va_Pc [.ref B0, .int zp0, .int zp1, .int zp2, .int zp3] (zPre G B0 F)) (zQi G B0 (fun r' F' => oA_quote σ zp0 zp1 zp2 zp3 ∧ oB_quote σ zp0 zp1 zp2 zp3 ∧ oC_quote σ zp0 zp1 zp2 zp3 ∧ r' = rr_quote σ zp0 zp1 zp2 zp3 ∧ CS G B0 F' (ss_quote σ zp0 zp1 zp2 zp3) ∧ zCf B0 F F')) (zXC G B0 F (fun E => zPX zEI zES "" (oA_quote σ zp0 zp1 zp2 zp3) (oB_quote σ zp0 zp1 zp2 zp3) (oC_quote σ zp0 zp1 zp2 zp3) E)) 4 24 (zA B0) := by
  refine z_ofx (own := RX2) (by decide) rfl (Nat.le_of_ble_eq_true rfl) ?_
  intro p e s m below meth c ls hx hb hr hml hown hlocks hout hts hl hI
  have hl : lv_has ls 8 [(0, .ref B0), (1, .int zp0), (2, .int zp1), (3, .int zp2), (4, .int zp3)] := hl
  obtain ⟨y01, ⟨fa1, y11, e11⟩, ⟨fb1, y21, e21⟩, ⟨fc1, y31, e31⟩, ⟨n41, t41, y41⟩, ⟨n61, t61, y61⟩, ⟨n81, t81, y81⟩, ⟨fd1, y101⟩, yT1, yP1⟩ := id hC
  refine lv_aload_n hx hb dX2_quote_0 rfl (lv_at hl 0 rfl) ?_
  refine lv_iload_n hx hb dX2_quote_1 rfl (lv_at hl 1 rfl) ?_
  refine z_xcallr hI (z_xV (As := [.int zp0]) (rest := []) ⟨hx, hb, hml, hown, hts⟩ hI y01 rfl (c_X2_phraseAt l hl0 G B0 F σ zp0 hC) (z_cwV vX2_phraseAt hts q293 ⟨Nat.le_of_ble_eq_true rfl, Nat.le_of_ble_eq_true rfl⟩) rfl hl.1 rfl (lv_room (Nat.le_of_ble_eq_true rfl)) dX2_quote_2 ⟨Nat.le_of_ble_eq_true rfl, Nat.le_of_ble_eq_true rfl⟩) (z_out hout hlocks (fun E hE => Or.inl ⟨hE.1, fun q => hE.2 (by first | exact q.1 | (simp only [oA_quote, oB_quote, oC_quote, rr_quote, ss_quote] at q; exact q.1))⟩) (Nat.le_of_ble_eq_true rfl) (Nat.le_of_ble_eq_true rfl)) (fun r3 F2 H locs hp4 hI => ?_)
  obtain ⟨rfl, i5, hi6, rfl, rfl⟩ := hp4
  have hix7 : ix (nI i5) = i5 := ix_nI (by omega)
  have hl : lv_has ls 8 [(0, .ref B0), (1, .int (nI i5)), (2, .int zp1), (3, .int zp2), (4, .int zp3)] := hl
  have hx8 := yP1 i5 hi6
  obtain ⟨xnhx8, xrhx8, fhx8, xwhx8, xfhx8⟩ := id hx8
  refine lv_astore (lv' := [(5, .ref (B0 + 19 + 2 * i5)), (0, .ref B0), (1, .int (nI i5)), (2, .int zp1), (3, .int zp2), (4, .int zp3)]) hx hb dX2_quote_5 hl (by decide) rfl (fun ls hl => ?_)
  refine lv_aload_n hx hb dX2_quote_7 rfl (lv_at hl 1 rfl) ?_
  refine lv_iload_n hx hb dX2_quote_8 rfl (lv_at hl 3 rfl) ?_
  refine z_xcallr hI (z_xV (As := [.int zp1]) (rest := []) ⟨hx, hb, hml, hown, hts⟩ hI y01 rfl (c_X2_textAt l hl0 G B0 F σ zp1 hC) (z_cwV vX2_textAt hts q71 ⟨Nat.le_of_ble_eq_true rfl, Nat.le_of_ble_eq_true rfl⟩) rfl hl.1 rfl (lv_room (Nat.le_of_ble_eq_true rfl)) dX2_quote_9 ⟨Nat.le_of_ble_eq_true rfl, Nat.le_of_ble_eq_true rfl⟩) (z_out hout hlocks (fun E hE => Or.inl ⟨hE.1, fun q => hE.2 (by first | exact q.2.1 | (simp only [oA_quote, oB_quote, oC_quote, rr_quote, ss_quote, hix7] at q; exact q.2.1))⟩) (Nat.le_of_ble_eq_true rfl) (Nat.le_of_ble_eq_true rfl)) (fun r10 F9 H locs hp11 hI => ?_)
  obtain ⟨rfl, i12, hi13, rfl, rfl⟩ := hp11
  have hix14 : ix (nI i12) = i12 := ix_nI (by omega)
  have hl : lv_has ls 8 [(5, .ref (B0 + 19 + 2 * i5)), (0, .ref B0), (1, .int (nI i5)), (2, .int (nI i12)), (3, .int zp2), (4, .int zp3)] := hl
  have hx15 := yT1 i12 hi13
  obtain ⟨xnhx15, xrhx15, fhx15, xwhx15, xfhx15⟩ := id hx15
  refine lv_astore (lv' := [(6, .ref (B0 + 11 + 2 * i12)), (5, .ref (B0 + 19 + 2 * i5)), (0, .ref B0), (1, .int (nI i5)), (2, .int (nI i12)), (3, .int zp2), (4, .int zp3)]) hx hb dX2_quote_12 hl (by decide) rfl (fun ls hl => ?_)
  refine lv_aload hx hb dX2_quote_14 (lv_at hl 0 rfl) ?_
  refine lv_iload_n hx hb dX2_quote_16 rfl (lv_at hl 5 rfl) ?_
  refine lv_iload hx hb dX2_quote_17 (lv_at hl 6 rfl) ?_
  refine z_xcallv hI (z_xS (As := [.ref (B0 + 11 + 2 * i12), .int zp2, .int zp3]) (rest := []) ⟨hx, hb, hml, hown, hts⟩ hI (c_X2_requirePart l hl0 G B0 F (B0 + 11 + 2 * i12) (B0 + 12 + 2 * i12) 60 (sn σ i12) (st σ i12) zp2 zp3 ⟨xnhx15, xrhx15, fhx15, xwhx15, xfhx15⟩ (by decide)) (z_cwS vX2_requirePart hts q221 ⟨Nat.le_of_ble_eq_true rfl, Nat.le_of_ble_eq_true rfl⟩) rfl hl.1 rfl (lv_room (Nat.le_of_ble_eq_true rfl)) dX2_quote_19 ⟨Nat.le_of_ble_eq_true rfl, Nat.le_of_ble_eq_true rfl⟩) (z_out hout hlocks (fun E hE => Or.inl ⟨hE.1, fun q => hE.2 (by first | exact q.2.2 | (simp only [oA_quote, oB_quote, oC_quote, rr_quote, ss_quote, hix7, hix14] at q; exact q.2.2))⟩) (Nat.le_of_ble_eq_true rfl) (Nat.le_of_ble_eq_true rfl)) (fun F16 H locs hp18 hI => ?_)
  obtain ⟨rfl, a19, b20, hab21, hbn22, rfl, rfl⟩ := hp18
  have hix23 : ix (nI a19) = a19 := ix_nI (by omega)
  have hix24 : ix (nI b20) = b20 := ix_nI (by omega)
  have hl : lv_has ls 8 [(6, .ref (B0 + 11 + 2 * i12)), (5, .ref (B0 + 19 + 2 * i5)), (0, .ref B0), (1, .int (nI i5)), (2, .int (nI i12)), (3, .int (nI a19)), (4, .int (nI b20))] := hl
  refine lv_iload hx hb dX2_quote_22 (lv_at hl 6 rfl) ?_
  refine lv_iload_n hx hb dX2_quote_24 rfl (lv_at hl 5 rfl) ?_
  refine lv_isub hx hb dX2_quote_25 ?_
  refine z_topi (pk_sub (a := b20) (b := a19) (by omega)) ?_
  refine lv_bipush (v := nI 12) hx hb dX2_quote_26 (by decide) ?_
  refine z_icmp_le (tgt := 41) (a := b20 - a19) (b := 12) hx hb dX2_quote_28 (by decide) (by omega) (fun hq25 => ?_) (fun hq25 => ?_)
  · refine lv_aload hx hb dX2_quote_41 (lv_at hl 1 rfl) ?_
    refine lv_iconst (v := nI 0) hx hb dX2_quote_43 (by decide) ?_
    refine z_putN hx hb hts hown zlX1 tyX1 tyX1_ok nmX1 rfl 1 (by decide) (List.mem_of_getElem? (i := 0) rfl) rfl hI xrhx8 rfl rfl rfl rfl (Nat.le_of_ble_eq_true rfl) dX2_quote_44 (fun H locs F26 hw27 ho28 hI => ?_)
    have hw27 : F26 (B0 + 19 + 2 * i5) = some (zO 1 [.ref (B0 + 20 + 2 * i5), .int (nI 0)]) := hw27
    have hc29 : F26 B0 = some (zO 2 [.ref (B0 + 1), .ref (B0 + 2), .ref (B0 + 3), .ref (B0 + 4), .ref (B0 + 6), .ref (B0 + 8), .ref (B0 + 10)]) := (ho28 _ (by omega)).trans y01
    have hc30 : F26 (B0 + 1) = some (zA1 G 4 fa1) := (ho28 _ (zne y11 xrhx8 (fun q => by cases q))).trans y11
    have hc31 : F26 (B0 + 2) = some (zA1 G 2 fb1) := (ho28 _ (zne y21 xrhx8 (fun q => by cases q))).trans y21
    have hc32 : F26 (B0 + 3) = some (zAI G 100 fc1) := (ho28 _ (zne y31 xrhx8 (fun q => by cases q))).trans y31
    have hc33 : F26 (B0 + 10) = some (zAI G 61 fd1) := (ho28 _ (zne y101 xrhx8 (fun q => by cases q))).trans y101
    have hc34 : F26 (B0 + 20 + 2 * i5) = some (zAI G 12 fhx8) := (ho28 _ (zne xwhx8 xrhx8 (fun q => by cases q))).trans xwhx8
    have hc35 : F26 (B0 + 11 + 2 * i12) = some (zO 1 [.ref (B0 + 12 + 2 * i12), .int (nI (sn σ i12))]) := (ho28 _ (by omega)).trans xrhx15
    have hc36 : F26 (B0 + 12 + 2 * i12) = some (zAI G 60 fhx15) := (ho28 _ (zne xwhx15 xrhx8 (fun q => by cases q))).trans xwhx15
    refine lv_iload_n hx hb dX2_quote_47 rfl (lv_at hl 5 rfl) ?_
    refine lv_istore (lv' := [(7, .int (nI a19)), (6, .ref (B0 + 11 + 2 * i12)), (5, .ref (B0 + 19 + 2 * i5)), (0, .ref B0), (1, .int (nI i5)), (2, .int (nI i12)), (3, .int (nI a19)), (4, .int (nI b20))]) hx hb dX2_quote_48 hl (by decide) rfl (fun ls hl => ?_)
    refine z_loop (σ := Nat) (fun k : Nat => [(0, .ref B0), (1, .int (nI i5)), (2, .int (nI i12)), (3, .int (nI a19)), (4, .int (nI b20)), (5, .ref (B0 + 19 + 2 * i5)), (6, .ref (B0 + 11 + 2 * i12)), (7, .int (nI k))]) (fun (k : Nat) (Fx : zM) => RA G 1 Fx (B0 + 19 + 2 * i5) (B0 + 20 + 2 * i5) 12 (k - a19) (fun j => st σ i12 (a19 + j)) ∧ zSm F Fx (B0 + 19 + 2 * i5) (B0 + 20 + 2 * i5) ∧ a19 ≤ k ∧ k ≤ b20) (fun k : Nat => b20 - k) a19 (nL := 8) (st := []) ?_ (lv_sub hl [3, 4, 5, 6, 7, 2, 1, 0] rfl) hI ?_
    · rw [Nat.sub_self]
      exact ⟨⟨Nat.zero_le _, hw27, _, hc34, fun j hj => absurd hj (Nat.not_lt_zero _)⟩, (zSm.l ho28), Nat.le_refl _, by omega⟩
    · intro k F37 ls H locs hi hl hI ih
      have hl : lv_has ls 8 [(0, .ref B0), (1, .int (nI i5)), (2, .int (nI i12)), (3, .int (nI a19)), (4, .int (nI b20)), (5, .ref (B0 + 19 + 2 * i5)), (6, .ref (B0 + 11 + 2 * i12)), (7, .int (nI k))] := hl
      obtain ⟨ha0, hs0, hk1, hk2⟩ := hi
      have hx2 := (yT1 i12 hi13).go (hs0 _ (by omega) (by omega)) (hs0 _ (by omega) (by omega))
      obtain ⟨xn_, xr_, f_, xw_, xf_⟩ := id ha0
      obtain ⟨xn2, xr2, f2, xw2, xf2⟩ := id hx2
      refine lv_iload hx hb dX2_quote_50 (lv_at hl 7 rfl) ?_
      refine lv_iload hx hb dX2_quote_52 (lv_at hl 4 rfl) ?_
      refine z_icmp_ge (tgt := 76) (a := k) (b := b20) hx hb dX2_quote_54 (by decide) (by omega) (fun hq38 => ?_) (fun hq38 => ?_)
      · refine lv_aload hx hb dX2_quote_76 (lv_at hl 5 rfl) ?_
        refine z_getN hx hb hts hown zlX1 rfl 1 (by decide) (List.mem_of_getElem? (i := 0) rfl) rfl hI xr_ rfl dX2_quote_78 ?_
        refine vx_ret (z_ri hx hb hr hlocks hI ?_ (Nat.le_of_ble_eq_true rfl) (Nat.le_of_ble_eq_true rfl) dX2_quote_81)
        have hkn : k = b20 := by omega
        refine ⟨_, rfl, (by simp only [oA_quote, oB_quote, oC_quote, rr_quote, ss_quote, hix7, hix14, hix23, hix24] <;> exact ⟨⟨i5, hi6, rfl⟩, ⟨i12, hi13, rfl⟩, ⟨a19, b20, hab21, hbn22, rfl, rfl⟩⟩), (by simp only [oA_quote, oB_quote, oC_quote, rr_quote, ss_quote, hix7, hix14, hix23, hix24] <;> exact (by omega)), (by simp only [oA_quote, oB_quote, oC_quote, rr_quote, ss_quote, hix7, hix14, hix23, hix24] <;> exact trivial), (by simp only [oA_quote, oB_quote, oC_quote, rr_quote, ss_quote, hix7, hix14, hix23, hix24] <;> (rw [hkn])), (by simp only [oA_quote, oB_quote, oC_quote, rr_quote, ss_quote, hix7, hix14, hix23, hix24] <;> exact CS.setP hC hi6 hs0 (hkn ▸ ha0)), zCf.sm hs0 (by omega) (by omega)⟩
      · refine lv_aload hx hb dX2_quote_57 (lv_at hl 5 rfl) ?_
        refine lv_aload hx hb dX2_quote_59 (lv_at hl 6 rfl) ?_
        refine z_getN hx hb hts hown zlX1 rfl 0 (by decide) (List.mem_of_getElem? (i := 1) rfl) rfl hI xr2 rfl dX2_quote_61 ?_
        refine lv_iload hx hb dX2_quote_64 (lv_at hl 7 rfl) ?_
        refine z_ild (k := k) (v := st σ i12 k) hx hb hI xw2 (by omega) (by omega) (xf2 k (by omega)) dX2_quote_66 ?_
        refine z_callv hI (z_V (As := [.int (st σ i12 k)]) (rest := []) ⟨hx, hb, hml, hown, hts⟩ hI xr_ rfl (c_X1_append l G B0 F37 (B0 + 19 + 2 * i5) (B0 + 20 + 2 * i5) 12 (k - a19) (fun j => st σ i12 (a19 + j)) (st σ i12 k) ⟨xn_, xr_, f_, xw_, xf_⟩ (by omega) (by omega)) (z_cwV vX1_append hts q168 ⟨Nat.le_of_ble_eq_true rfl, Nat.le_of_ble_eq_true rfl⟩) rfl hl.1 rfl (lv_room (Nat.le_of_ble_eq_true rfl)) dX2_quote_67 ⟨Nat.le_of_ble_eq_true rfl, Nat.le_of_ble_eq_true rfl⟩) (fun F39 H locs hp41 hI => ?_)
        obtain ⟨ha42, hs42⟩ := hp41
        have hc43 : F39 (B0 + 11 + 2 * i12) = some (zO 1 [.ref (B0 + 12 + 2 * i12), .int (nI (sn σ i12))]) := (hs42 _ (by omega) (zne xr2 xw_ (fun q => by cases q))).trans xr2
        have hc44 : F39 (B0 + 12 + 2 * i12) = some (zAI G 60 f2) := (hs42 _ (zne xw2 xr_ (fun q => by cases q)) (by omega)).trans xw2
        obtain ⟨xn_42, xr_42, f_42, xw_42, xf_42⟩ := id ha42
        refine lv_iinc (k := 7) (v := nI (k + 1)) (lv' := [(7, .int (nI (k + 1))), (0, .ref B0), (1, .int (nI i5)), (2, .int (nI i12)), (3, .int (nI a19)), (4, .int (nI b20)), (5, .ref (B0 + 19 + 2 * i5)), (6, .ref (B0 + 11 + 2 * i12))]) hx hb dX2_quote_70 hl rfl (nI_add k 1) (by decide) rfl (fun ls hl => ?_)
        refine lv_goto (tgt := 50) hx hb dX2_quote_73 (by decide) ?_
        refine ih (k + 1) _ ls H locs (by first | omega | (dsimp only; omega)) ?_ (lv_sub hl [1, 2, 3, 4, 5, 6, 7, 0] rfl) hI
        rw [show k - a19 + 1 = k + 1 - a19 by omega] at ha42
        refine ⟨RA.cg ha42 (fun j hj => ?_), (zSm.tr hs0 hs42), by omega, by omega⟩
        by_cases q : j = k - a19
        · subst q; rw [pk_us]; show _ = st σ i12 (a19 + (k - a19)); congr 1; omega
        · rw [pk_un q]
  · refine z_throw (cls := zES) hx hb hl0 hown hlocks hout hts zaX2_96 zbX2_96 q152 q9 (List.mem_of_getElem? (i := 14) rfl) (by decide +kernel) (List.mem_of_getElem? (i := 1) rfl) hI (hl.1.trans hml.symm) dX2_quote_31 dX2_quote_34 dX2_quote_35 dX2_quote_37 dX2_quote_40 ⟨Nat.le_of_ble_eq_true rfl, Nat.le_of_ble_eq_true rfl, Nat.le_of_ble_eq_true rfl, Nat.le_of_ble_eq_true rfl⟩ ?_ (Nat.le_of_ble_eq_true rfl) (Nat.le_of_ble_eq_true rfl)
    exact Or.inr (Or.inl ⟨rfl, (by simp only [oA_quote, oB_quote, oC_quote, rr_quote, ss_quote, hix7, hix14, hix23, hix24] <;> exact ⟨⟨i5, hi6, rfl⟩, ⟨i12, hi13, rfl⟩, ⟨a19, b20, hab21, hbn22, rfl, rfl⟩⟩), fun q => by simp only [oA_quote, oB_quote, oC_quote, rr_quote, ss_quote, hix7, hix14, hix23, hix24] at q; omega⟩)

set_option maxHeartbeats 4000000 in
set_option maxRecDepth 100000 in
theorem c_X2_find (l : Launch) (hl0 : l.stackTraces = false) (G : zK) (B0 : Nat) (F : zM) (σ : Sg) (zp0 : Int32) (hC : CS G B0 F σ) : vx_Met l yX2_find (Cond.code yX2_find cX2_find 3 (some FieldType.int) :: zW) (zRm 7 111 1 6) (va_Pc [.ref B0, .int zp0] (zPre G B0 F)) (zQi G B0 (fun r' F' => oA_find σ zp0 ∧ oB_find σ zp0 ∧ oC_find σ zp0 ∧ r' = rr_find σ zp0 ∧ CS G B0 F' (ss_find σ zp0) ∧ zCf B0 F F')) (zXC G B0 F (fun E => zPX zEI "" "" (oA_find σ zp0) (oB_find σ zp0) (oC_find σ zp0) E)) 1 6 (zA B0) := by
  refine z_ofx (own := RX2) (by decide) rfl (Nat.le_of_ble_eq_true rfl) ?_
  intro p e s m below meth c ls hx hb hr hml hown hlocks hout hts hl hI
  have hl : lv_has ls 3 [(0, .ref B0), (1, .int zp0)] := hl
  obtain ⟨y01, ⟨fa1, y11, e11⟩, ⟨fb1, y21, e21⟩, ⟨fc1, y31, e31⟩, ⟨n41, t41, y41⟩, ⟨n61, t61, y61⟩, ⟨n81, t81, y81⟩, ⟨fd1, y101⟩, yT1, yP1⟩ := id hC
  refine lv_aload_n hx hb dX2_find_0 rfl (lv_at hl 0 rfl) ?_
  refine lv_iload_n hx hb dX2_find_1 rfl (lv_at hl 1 rfl) ?_
  refine z_xcallr hI (z_xV (As := [.int zp0]) (rest := []) ⟨hx, hb, hml, hown, hts⟩ hI y01 rfl (c_X2_textAt l hl0 G B0 F σ zp0 hC) (z_cwV vX2_textAt hts q71 ⟨Nat.le_of_ble_eq_true rfl, Nat.le_of_ble_eq_true rfl⟩) rfl hl.1 rfl (lv_room (Nat.le_of_ble_eq_true rfl)) dX2_find_2 ⟨Nat.le_of_ble_eq_true rfl, Nat.le_of_ble_eq_true rfl⟩) (z_out hout hlocks (fun E hE => Or.inl ⟨hE.1, fun q => hE.2 (by first | exact q | (simp only [oA_find, oB_find, oC_find, rr_find, ss_find] at q; exact q))⟩) (Nat.le_of_ble_eq_true rfl) (Nat.le_of_ble_eq_true rfl)) (fun r3 F2 H locs hp4 hI => ?_)
  obtain ⟨rfl, i5, hi6, rfl, rfl⟩ := hp4
  have hix7 : ix (nI i5) = i5 := ix_nI (by omega)
  have hl : lv_has ls 3 [(0, .ref B0), (1, .int (nI i5))] := hl
  have hx8 := yT1 i5 hi6
  obtain ⟨xnhx8, xrhx8, fhx8, xwhx8, xfhx8⟩ := id hx8
  refine lv_astore_n (lv' := [(2, .ref (B0 + 11 + 2 * i5)), (0, .ref B0), (1, .int (nI i5))]) hx hb dX2_find_5 rfl hl (by decide) rfl (fun ls hl => ?_)
  refine lv_aload_n hx hb dX2_find_6 rfl (lv_at hl 0 rfl) ?_
  refine lv_aload_n hx hb dX2_find_7 rfl (lv_at hl 1 rfl) ?_
  refine z_get hx hb hts hown zlX2 rfl 1 (by decide) (hts _ q41) rfl hI y01 rfl dX2_find_8 ?_
  refine lv_iconst (v := nI 0) hx hb dX2_find_11 (by decide) ?_
  refine z_ald1 (k := 0) (v := B0 + 19 + 2 * 0) hx hb hI y21 (by omega) (by omega) (e21 0 (by omega)) dX2_find_12 ?_
  have hx9 := yP1 0 (by decide)
  obtain ⟨xnhx9, xrhx9, fhx9, xwhx9, xfhx9⟩ := id hx9
  refine lv_iconst (v := nI 0) hx hb dX2_find_13 (by decide) ?_
  refine lv_aload_n hx hb dX2_find_14 rfl (lv_at hl 0 rfl) ?_
  refine z_getN hx hb hts hown zlX1 rfl 1 (by decide) (List.mem_of_getElem? (i := 0) rfl) rfl hI xrhx8 rfl dX2_find_15 ?_
  refine z_calli hI (z_V (As := [.ref (B0 + 19 + 2 * 0), .int (nI 0), .int (nI (sn σ i5))]) (rest := []) ⟨hx, hb, hml, hown, hts⟩ hI xrhx8 rfl (c_X1_firstPlaceOf l G B0 F (B0 + 11 + 2 * i5) (B0 + 12 + 2 * i5) 60 (sn σ i5) (st σ i5) (B0 + 19 + 2 * 0) (B0 + 20 + 2 * 0) 12 (pn σ 0) (pt σ 0) 0 (sn σ i5) ⟨xnhx8, xrhx8, fhx8, xwhx8, xfhx8⟩ (by omega) ⟨xnhx9, xrhx9, fhx9, xwhx9, xfhx9⟩ (by omega) (by omega) (by omega)) (z_cwV vX1_firstPlaceOf hts q327 ⟨Nat.le_of_ble_eq_true rfl, Nat.le_of_ble_eq_true rfl⟩) rfl hl.1 rfl (lv_room (Nat.le_of_ble_eq_true rfl)) dX2_find_18 ⟨Nat.le_of_ble_eq_true rfl, Nat.le_of_ble_eq_true rfl⟩) (fun r11 F10 H locs hp12 hI => ?_)
  obtain ⟨rfl, rfl⟩ := hp12
  refine vx_ret (z_ri hx hb hr hlocks hI ?_ (Nat.le_of_ble_eq_true rfl) (Nat.le_of_ble_eq_true rfl) dX2_find_21)
  refine ⟨_, rfl, (by simp only [oA_find, oB_find, oC_find, rr_find, ss_find, hix7] <;> exact ⟨i5, hi6, rfl⟩), (by simp only [oA_find, oB_find, oC_find, rr_find, ss_find, hix7] <;> exact trivial), (by simp only [oA_find, oB_find, oC_find, rr_find, ss_find, hix7] <;> exact trivial), (by simp only [oA_find, oB_find, oC_find, rr_find, ss_find, hix7] <;> exact rfl), (by simp only [oA_find, oB_find, oC_find, rr_find, ss_find, hix7] <;> exact hC), zCf.rf⟩

set_option maxHeartbeats 4000000 in
set_option maxRecDepth 100000 in
theorem c_X2_findLast (l : Launch) (hl0 : l.stackTraces = false) (G : zK) (B0 : Nat) (F : zM) (σ : Sg) (zp0 : Int32) (hC : CS G B0 F σ) : vx_Met l yX2_findLast (Cond.code yX2_findLast cX2_findLast 2 (some FieldType.int) :: zW) (zRm 7 111 1 6) (va_Pc [.ref B0, .int zp0] (zPre G B0 F)) (zQi G B0 (fun r' F' => oA_findLast σ zp0 ∧ oB_findLast σ zp0 ∧ oC_findLast σ zp0 ∧ r' = rr_findLast σ zp0 ∧ CS G B0 F' (ss_findLast σ zp0) ∧ zCf B0 F F')) (zXC G B0 F (fun E => zPX zEI "" "" (oA_findLast σ zp0) (oB_findLast σ zp0) (oC_findLast σ zp0) E)) 1 6 (zA B0) := by
  refine z_ofx (own := RX2) (by decide) rfl (Nat.le_of_ble_eq_true rfl) ?_
  intro p e s m below meth c ls hx hb hr hml hown hlocks hout hts hl hI
  have hl : lv_has ls 2 [(0, .ref B0), (1, .int zp0)] := hl
  obtain ⟨y01, ⟨fa1, y11, e11⟩, ⟨fb1, y21, e21⟩, ⟨fc1, y31, e31⟩, ⟨n41, t41, y41⟩, ⟨n61, t61, y61⟩, ⟨n81, t81, y81⟩, ⟨fd1, y101⟩, yT1, yP1⟩ := id hC
  refine lv_aload_n hx hb dX2_findLast_0 rfl (lv_at hl 0 rfl) ?_
  refine lv_iload_n hx hb dX2_findLast_1 rfl (lv_at hl 1 rfl) ?_
  refine z_xcallr hI (z_xV (As := [.int zp0]) (rest := []) ⟨hx, hb, hml, hown, hts⟩ hI y01 rfl (c_X2_textAt l hl0 G B0 F σ zp0 hC) (z_cwV vX2_textAt hts q71 ⟨Nat.le_of_ble_eq_true rfl, Nat.le_of_ble_eq_true rfl⟩) rfl hl.1 rfl (lv_room (Nat.le_of_ble_eq_true rfl)) dX2_findLast_2 ⟨Nat.le_of_ble_eq_true rfl, Nat.le_of_ble_eq_true rfl⟩) (z_out hout hlocks (fun E hE => Or.inl ⟨hE.1, fun q => hE.2 (by first | exact q | (simp only [oA_findLast, oB_findLast, oC_findLast, rr_findLast, ss_findLast] at q; exact q))⟩) (Nat.le_of_ble_eq_true rfl) (Nat.le_of_ble_eq_true rfl)) (fun r3 F2 H locs hp4 hI => ?_)
  obtain ⟨rfl, i5, hi6, rfl, rfl⟩ := hp4
  have hix7 : ix (nI i5) = i5 := ix_nI (by omega)
  have hl : lv_has ls 2 [(0, .ref B0), (1, .int (nI i5))] := hl
  have hx8 := yT1 i5 hi6
  obtain ⟨xnhx8, xrhx8, fhx8, xwhx8, xfhx8⟩ := id hx8
  refine lv_aload_n hx hb dX2_findLast_5 rfl (lv_at hl 0 rfl) ?_
  refine z_get hx hb hts hown zlX2 rfl 1 (by decide) (hts _ q41) rfl hI y01 rfl dX2_findLast_6 ?_
  refine lv_iconst (v := nI 0) hx hb dX2_findLast_9 (by decide) ?_
  refine z_ald1 (k := 0) (v := B0 + 19 + 2 * 0) hx hb hI y21 (by omega) (by omega) (e21 0 (by omega)) dX2_findLast_10 ?_
  have hx9 := yP1 0 (by decide)
  obtain ⟨xnhx9, xrhx9, fhx9, xwhx9, xfhx9⟩ := id hx9
  refine z_calli hI (z_V (As := [.ref (B0 + 19 + 2 * 0)]) (rest := []) ⟨hx, hb, hml, hown, hts⟩ hI xrhx8 rfl (c_X1_lastPlaceOf l G B0 F (B0 + 11 + 2 * i5) (B0 + 12 + 2 * i5) 60 (sn σ i5) (st σ i5) (B0 + 19 + 2 * 0) (B0 + 20 + 2 * 0) 12 (pn σ 0) (pt σ 0) ⟨xnhx8, xrhx8, fhx8, xwhx8, xfhx8⟩ (by omega) ⟨xnhx9, xrhx9, fhx9, xwhx9, xfhx9⟩ (by omega)) (z_cwV vX1_lastPlaceOf hts q342 ⟨Nat.le_of_ble_eq_true rfl, Nat.le_of_ble_eq_true rfl⟩) rfl hl.1 rfl (lv_room (Nat.le_of_ble_eq_true rfl)) dX2_findLast_11 ⟨Nat.le_of_ble_eq_true rfl, Nat.le_of_ble_eq_true rfl⟩) (fun r11 F10 H locs hp12 hI => ?_)
  obtain ⟨rfl, rfl⟩ := hp12
  refine vx_ret (z_ri hx hb hr hlocks hI ?_ (Nat.le_of_ble_eq_true rfl) (Nat.le_of_ble_eq_true rfl) dX2_findLast_14)
  refine ⟨_, rfl, (by simp only [oA_findLast, oB_findLast, oC_findLast, rr_findLast, ss_findLast, hix7] <;> exact ⟨i5, hi6, rfl⟩), (by simp only [oA_findLast, oB_findLast, oC_findLast, rr_findLast, ss_findLast, hix7] <;> exact trivial), (by simp only [oA_findLast, oB_findLast, oC_findLast, rr_findLast, ss_findLast, hix7] <;> exact trivial), (by simp only [oA_findLast, oB_findLast, oC_findLast, rr_findLast, ss_findLast, hix7] <;> exact rfl), (by simp only [oA_findLast, oB_findLast, oC_findLast, rr_findLast, ss_findLast, hix7] <;> exact hC), zCf.rf⟩

set_option maxHeartbeats 4000000 in
set_option maxRecDepth 100000 in
theorem c_X2_findIn (l : Launch) (hl0 : l.stackTraces = false) (G : zK) (B0 : Nat) (F : zM) (σ : Sg) (zp0 zp1 zp2 : Int32) (hC : CS G B0 F σ) : vx_Met l yX2_findIn (Cond.code yX2_findIn cX2_findIn 5 (some FieldType.int) :: zW) (zRm 7 112 2 12) (va_Pc [.ref B0, .int zp0, .int zp1, .int zp2] (zPre G B0 F)) (zQi G B0 (fun r' F' => oA_findIn σ zp0 zp1 zp2 ∧ oB_findIn σ zp0 zp1 zp2 ∧ oC_findIn σ zp0 zp1 zp2 ∧ r' = rr_findIn σ zp0 zp1 zp2 ∧ CS G B0 F' (ss_findIn σ zp0 zp1 zp2) ∧ zCf B0 F F')) (zXC G B0 F (fun E => zPX zEI "" "" (oA_findIn σ zp0 zp1 zp2) (oB_findIn σ zp0 zp1 zp2) (oC_findIn σ zp0 zp1 zp2) E)) 2 12 (zA B0) := by
  refine z_ofx (own := RX2) (by decide) rfl (Nat.le_of_ble_eq_true rfl) ?_
  intro p e s m below meth c ls hx hb hr hml hown hlocks hout hts hl hI
  have hl : lv_has ls 5 [(0, .ref B0), (1, .int zp0), (2, .int zp1), (3, .int zp2)] := hl
  obtain ⟨y01, ⟨fa1, y11, e11⟩, ⟨fb1, y21, e21⟩, ⟨fc1, y31, e31⟩, ⟨n41, t41, y41⟩, ⟨n61, t61, y61⟩, ⟨n81, t81, y81⟩, ⟨fd1, y101⟩, yT1, yP1⟩ := id hC
  refine lv_aload_n hx hb dX2_findIn_0 rfl (lv_at hl 0 rfl) ?_
  refine lv_iload_n hx hb dX2_findIn_1 rfl (lv_at hl 1 rfl) ?_
  refine z_xcallr hI (z_xV (As := [.int zp0]) (rest := []) ⟨hx, hb, hml, hown, hts⟩ hI y01 rfl (c_X2_textAt l hl0 G B0 F σ zp0 hC) (z_cwV vX2_textAt hts q71 ⟨Nat.le_of_ble_eq_true rfl, Nat.le_of_ble_eq_true rfl⟩) rfl hl.1 rfl (lv_room (Nat.le_of_ble_eq_true rfl)) dX2_findIn_2 ⟨Nat.le_of_ble_eq_true rfl, Nat.le_of_ble_eq_true rfl⟩) (z_out hout hlocks (fun E hE => Or.inl ⟨hE.1, fun q => hE.2 (by first | exact q.1 | (simp only [oA_findIn, oB_findIn, oC_findIn, rr_findIn, ss_findIn] at q; exact q.1))⟩) (Nat.le_of_ble_eq_true rfl) (Nat.le_of_ble_eq_true rfl)) (fun r3 F2 H locs hp4 hI => ?_)
  obtain ⟨rfl, i5, hi6, rfl, rfl⟩ := hp4
  have hix7 : ix (nI i5) = i5 := ix_nI (by omega)
  have hl : lv_has ls 5 [(0, .ref B0), (1, .int (nI i5)), (2, .int zp1), (3, .int zp2)] := hl
  have hx8 := yT1 i5 hi6
  obtain ⟨xnhx8, xrhx8, fhx8, xwhx8, xfhx8⟩ := id hx8
  refine lv_astore (lv' := [(4, .ref (B0 + 11 + 2 * i5)), (0, .ref B0), (1, .int (nI i5)), (2, .int zp1), (3, .int zp2)]) hx hb dX2_findIn_5 hl (by decide) rfl (fun ls hl => ?_)
  refine lv_aload hx hb dX2_findIn_7 (lv_at hl 0 rfl) ?_
  refine lv_iload_n hx hb dX2_findIn_9 rfl (lv_at hl 3 rfl) ?_
  refine lv_iload_n hx hb dX2_findIn_10 rfl (lv_at hl 4 rfl) ?_
  refine z_xcallv hI (z_xS (As := [.ref (B0 + 11 + 2 * i5), .int zp1, .int zp2]) (rest := []) ⟨hx, hb, hml, hown, hts⟩ hI (c_X2_requirePart l hl0 G B0 F (B0 + 11 + 2 * i5) (B0 + 12 + 2 * i5) 60 (sn σ i5) (st σ i5) zp1 zp2 ⟨xnhx8, xrhx8, fhx8, xwhx8, xfhx8⟩ (by decide)) (z_cwS vX2_requirePart hts q221 ⟨Nat.le_of_ble_eq_true rfl, Nat.le_of_ble_eq_true rfl⟩) rfl hl.1 rfl (lv_room (Nat.le_of_ble_eq_true rfl)) dX2_findIn_11 ⟨Nat.le_of_ble_eq_true rfl, Nat.le_of_ble_eq_true rfl⟩) (z_out hout hlocks (fun E hE => Or.inl ⟨hE.1, fun q => hE.2 (by first | exact q.2 | (simp only [oA_findIn, oB_findIn, oC_findIn, rr_findIn, ss_findIn, hix7] at q; exact q.2))⟩) (Nat.le_of_ble_eq_true rfl) (Nat.le_of_ble_eq_true rfl)) (fun F9 H locs hp11 hI => ?_)
  obtain ⟨rfl, a12, b13, hab14, hbn15, rfl, rfl⟩ := hp11
  have hix16 : ix (nI a12) = a12 := ix_nI (by omega)
  have hix17 : ix (nI b13) = b13 := ix_nI (by omega)
  have hl : lv_has ls 5 [(4, .ref (B0 + 11 + 2 * i5)), (0, .ref B0), (1, .int (nI i5)), (2, .int (nI a12)), (3, .int (nI b13))] := hl
  refine lv_aload hx hb dX2_findIn_14 (lv_at hl 0 rfl) ?_
  refine lv_aload_n hx hb dX2_findIn_16 rfl (lv_at hl 1 rfl) ?_
  refine z_get hx hb hts hown zlX2 rfl 1 (by decide) (hts _ q41) rfl hI y01 rfl dX2_findIn_17 ?_
  refine lv_iconst (v := nI 0) hx hb dX2_findIn_20 (by decide) ?_
  refine z_ald1 (k := 0) (v := B0 + 19 + 2 * 0) hx hb hI y21 (by omega) (by omega) (e21 0 (by omega)) dX2_findIn_21 ?_
  have hx18 := yP1 0 (by decide)
  obtain ⟨xnhx18, xrhx18, fhx18, xwhx18, xfhx18⟩ := id hx18
  refine lv_iload_n hx hb dX2_findIn_22 rfl (lv_at hl 3 rfl) ?_
  refine lv_iload_n hx hb dX2_findIn_23 rfl (lv_at hl 4 rfl) ?_
  refine z_calli hI (z_V (As := [.ref (B0 + 19 + 2 * 0), .int (nI a12), .int (nI b13)]) (rest := []) ⟨hx, hb, hml, hown, hts⟩ hI xrhx8 rfl (c_X1_firstPlaceOf l G B0 F (B0 + 11 + 2 * i5) (B0 + 12 + 2 * i5) 60 (sn σ i5) (st σ i5) (B0 + 19 + 2 * 0) (B0 + 20 + 2 * 0) 12 (pn σ 0) (pt σ 0) a12 b13 ⟨xnhx8, xrhx8, fhx8, xwhx8, xfhx8⟩ (by omega) ⟨xnhx18, xrhx18, fhx18, xwhx18, xfhx18⟩ (by omega) (by omega) (by omega)) (z_cwV vX1_firstPlaceOf hts q327 ⟨Nat.le_of_ble_eq_true rfl, Nat.le_of_ble_eq_true rfl⟩) rfl hl.1 rfl (lv_room (Nat.le_of_ble_eq_true rfl)) dX2_findIn_24 ⟨Nat.le_of_ble_eq_true rfl, Nat.le_of_ble_eq_true rfl⟩) (fun r20 F19 H locs hp21 hI => ?_)
  obtain ⟨rfl, rfl⟩ := hp21
  refine vx_ret (z_ri hx hb hr hlocks hI ?_ (Nat.le_of_ble_eq_true rfl) (Nat.le_of_ble_eq_true rfl) dX2_findIn_27)
  refine ⟨_, rfl, (by simp only [oA_findIn, oB_findIn, oC_findIn, rr_findIn, ss_findIn, hix7, hix16, hix17] <;> exact ⟨⟨i5, hi6, rfl⟩, ⟨a12, b13, hab14, hbn15, rfl, rfl⟩⟩), (by simp only [oA_findIn, oB_findIn, oC_findIn, rr_findIn, ss_findIn, hix7, hix16, hix17] <;> exact trivial), (by simp only [oA_findIn, oB_findIn, oC_findIn, rr_findIn, ss_findIn, hix7, hix16, hix17] <;> exact trivial), (by simp only [oA_findIn, oB_findIn, oC_findIn, rr_findIn, ss_findIn, hix7, hix16, hix17] <;> exact rfl), (by simp only [oA_findIn, oB_findIn, oC_findIn, rr_findIn, ss_findIn, hix7, hix16, hix17] <;> exact hC), zCf.rf⟩

set_option maxHeartbeats 4000000 in
set_option maxRecDepth 100000 in
theorem c_X2_count (l : Launch) (hl0 : l.stackTraces = false) (G : zK) (B0 : Nat) (F : zM) (σ : Sg) (zp0 zp1 : Int32) (hC : CS G B0 F σ) : vx_Met l yX2_count (Cond.code yX2_count cX2_count 5 (some FieldType.int) :: zW) (zRm 7 111 1 6) (va_Pc [.ref B0, .int zp0, .int zp1] (zPre G B0 F)) (zQi G B0 (fun r' F' => oA_count σ zp0 zp1 ∧ oB_count σ zp0 zp1 ∧ oC_count σ zp0 zp1 ∧ r' = rr_count σ zp0 zp1 ∧ CS G B0 F' (ss_count σ zp0 zp1) ∧ zCf B0 F F')) (zXC G B0 F (fun E => zPX zEI "" "" (oA_count σ zp0 zp1) (oB_count σ zp0 zp1) (oC_count σ zp0 zp1) E)) 1 6 (zA B0) := by
  refine z_ofx (own := RX2) (by decide) rfl (Nat.le_of_ble_eq_true rfl) ?_
  intro p e s m below meth c ls hx hb hr hml hown hlocks hout hts hl hI
  have hl : lv_has ls 5 [(0, .ref B0), (1, .int zp0), (2, .int zp1)] := hl
  obtain ⟨y01, ⟨fa1, y11, e11⟩, ⟨fb1, y21, e21⟩, ⟨fc1, y31, e31⟩, ⟨n41, t41, y41⟩, ⟨n61, t61, y61⟩, ⟨n81, t81, y81⟩, ⟨fd1, y101⟩, yT1, yP1⟩ := id hC
  refine lv_aload_n hx hb dX2_count_0 rfl (lv_at hl 0 rfl) ?_
  refine lv_iload_n hx hb dX2_count_1 rfl (lv_at hl 1 rfl) ?_
  refine z_xcallr hI (z_xV (As := [.int zp0]) (rest := []) ⟨hx, hb, hml, hown, hts⟩ hI y01 rfl (c_X2_textAt l hl0 G B0 F σ zp0 hC) (z_cwV vX2_textAt hts q71 ⟨Nat.le_of_ble_eq_true rfl, Nat.le_of_ble_eq_true rfl⟩) rfl hl.1 rfl (lv_room (Nat.le_of_ble_eq_true rfl)) dX2_count_2 ⟨Nat.le_of_ble_eq_true rfl, Nat.le_of_ble_eq_true rfl⟩) (z_out hout hlocks (fun E hE => Or.inl ⟨hE.1, fun q => hE.2 (by first | exact q | (simp only [oA_count, oB_count, oC_count, rr_count, ss_count] at q; exact q))⟩) (Nat.le_of_ble_eq_true rfl) (Nat.le_of_ble_eq_true rfl)) (fun r3 F2 H locs hp4 hI => ?_)
  obtain ⟨rfl, i5, hi6, rfl, rfl⟩ := hp4
  have hix7 : ix (nI i5) = i5 := ix_nI (by omega)
  have hl : lv_has ls 5 [(0, .ref B0), (1, .int (nI i5)), (2, .int zp1)] := hl
  have hx8 := yT1 i5 hi6
  obtain ⟨xnhx8, xrhx8, fhx8, xwhx8, xfhx8⟩ := id hx8
  refine lv_astore_n (lv' := [(3, .ref (B0 + 11 + 2 * i5)), (0, .ref B0), (1, .int (nI i5)), (2, .int zp1)]) hx hb dX2_count_5 rfl hl (by decide) rfl (fun ls hl => ?_)
  refine lv_aload_n hx hb dX2_count_6 rfl (lv_at hl 1 rfl) ?_
  refine z_get hx hb hts hown zlX2 rfl 1 (by decide) (hts _ q41) rfl hI y01 rfl dX2_count_7 ?_
  refine lv_iconst (v := nI 0) hx hb dX2_count_10 (by decide) ?_
  refine z_ald1 (k := 0) (v := B0 + 19 + 2 * 0) hx hb hI y21 (by omega) (by omega) (e21 0 (by omega)) dX2_count_11 ?_
  have hx9 := yP1 0 (by decide)
  obtain ⟨xnhx9, xrhx9, fhx9, xwhx9, xfhx9⟩ := id hx9
  refine lv_astore (lv' := [(4, .ref (B0 + 19 + 2 * 0)), (3, .ref (B0 + 11 + 2 * i5)), (0, .ref B0), (1, .int (nI i5)), (2, .int zp1)]) hx hb dX2_count_12 hl (by decide) rfl (fun ls hl => ?_)
  refine lv_iload_n hx hb dX2_count_14 rfl (lv_at hl 4 rfl) ?_
  refine lv_if_eq (tgt := 27) hx hb dX2_count_15 (by decide) (fun hq10 => ?_) (fun hq10 => ?_)
  · refine lv_aload_n hx hb dX2_count_27 rfl (lv_at hl 1 rfl) ?_
    refine lv_aload hx hb dX2_count_28 (lv_at hl 0 rfl) ?_
    refine z_calli hI (z_V (As := [.ref (B0 + 19 + 2 * 0)]) (rest := []) ⟨hx, hb, hml, hown, hts⟩ hI xrhx8 rfl (c_X1_timesAnywhere l G B0 F (B0 + 11 + 2 * i5) (B0 + 12 + 2 * i5) 60 (sn σ i5) (st σ i5) (B0 + 19 + 2 * 0) (B0 + 20 + 2 * 0) 12 (pn σ 0) (pt σ 0) ⟨xnhx8, xrhx8, fhx8, xwhx8, xfhx8⟩ (by omega) ⟨xnhx9, xrhx9, fhx9, xwhx9, xfhx9⟩ (by omega)) (z_cwV vX1_timesAnywhere hts q364 ⟨Nat.le_of_ble_eq_true rfl, Nat.le_of_ble_eq_true rfl⟩) rfl hl.1 rfl (lv_room (Nat.le_of_ble_eq_true rfl)) dX2_count_30 ⟨Nat.le_of_ble_eq_true rfl, Nat.le_of_ble_eq_true rfl⟩) (fun r12 F11 H locs hp13 hI => ?_)
    obtain ⟨rfl, rfl⟩ := hp13
    refine vx_ret (z_ri hx hb hr hlocks hI ?_ (Nat.le_of_ble_eq_true rfl) (Nat.le_of_ble_eq_true rfl) dX2_count_33)
    refine ⟨_, rfl, (by simp only [oA_count, oB_count, oC_count, rr_count, ss_count, hix7] <;> exact ⟨i5, hi6, rfl⟩), (by simp only [oA_count, oB_count, oC_count, rr_count, ss_count, hix7] <;> exact trivial), (by simp only [oA_count, oB_count, oC_count, rr_count, ss_count, hix7] <;> exact trivial), (by simp only [oA_count, oB_count, oC_count, rr_count, ss_count, hix7] <;> exact (if_pos hq10).symm), (by simp only [oA_count, oB_count, oC_count, rr_count, ss_count, hix7] <;> exact hC), zCf.rf⟩
  · refine lv_aload_n hx hb dX2_count_18 rfl (lv_at hl 1 rfl) ?_
    refine lv_aload hx hb dX2_count_19 (lv_at hl 0 rfl) ?_
    refine z_calli hI (z_V (As := [.ref (B0 + 19 + 2 * 0)]) (rest := []) ⟨hx, hb, hml, hown, hts⟩ hI xrhx8 rfl (c_X1_timesApart l G B0 F (B0 + 11 + 2 * i5) (B0 + 12 + 2 * i5) 60 (sn σ i5) (st σ i5) (B0 + 19 + 2 * 0) (B0 + 20 + 2 * 0) 12 (pn σ 0) (pt σ 0) ⟨xnhx8, xrhx8, fhx8, xwhx8, xfhx8⟩ (by omega) ⟨xnhx9, xrhx9, fhx9, xwhx9, xfhx9⟩ (by omega)) (z_cwV vX1_timesApart hts q360 ⟨Nat.le_of_ble_eq_true rfl, Nat.le_of_ble_eq_true rfl⟩) rfl hl.1 rfl (lv_room (Nat.le_of_ble_eq_true rfl)) dX2_count_21 ⟨Nat.le_of_ble_eq_true rfl, Nat.le_of_ble_eq_true rfl⟩) (fun r15 F14 H locs hp16 hI => ?_)
    obtain ⟨rfl, rfl⟩ := hp16
    refine lv_goto (tgt := 33) hx hb dX2_count_24 (by decide) ?_
    refine vx_ret (z_ri hx hb hr hlocks hI ?_ (Nat.le_of_ble_eq_true rfl) (Nat.le_of_ble_eq_true rfl) dX2_count_33)
    refine ⟨_, rfl, (by simp only [oA_count, oB_count, oC_count, rr_count, ss_count, hix7] <;> exact ⟨i5, hi6, rfl⟩), (by simp only [oA_count, oB_count, oC_count, rr_count, ss_count, hix7] <;> exact trivial), (by simp only [oA_count, oB_count, oC_count, rr_count, ss_count, hix7] <;> exact trivial), (by simp only [oA_count, oB_count, oC_count, rr_count, ss_count, hix7] <;> exact (if_neg hq10).symm), (by simp only [oA_count, oB_count, oC_count, rr_count, ss_count, hix7] <;> exact hC), zCf.rf⟩

set_option maxHeartbeats 4000000 in
set_option maxRecDepth 100000 in
theorem c_X2_replaceWord (l : Launch) (hl0 : l.stackTraces = false) (G : zK) (B0 : Nat) (F : zM) (σ : Sg) (zp0 zp1 zp2 : Int32) (hC : CS G B0 F σ) : vx_Met l yX2_replaceWord (Cond.code yX2_replaceWord cX2_replaceWord 7 (some FieldType.boolean) :: zW) (zRm 7 111 3 18) (va_Pc [.ref B0, .int zp0, .int zp1, .int zp2] (zPre G B0 F)) (zQi G B0 (fun r' F' => oA_replaceWord σ zp0 zp1 zp2 ∧ oB_replaceWord σ zp0 zp1 zp2 ∧ oC_replaceWord σ zp0 zp1 zp2 ∧ r' = rr_replaceWord σ zp0 zp1 zp2 ∧ CS G B0 F' (ss_replaceWord σ zp0 zp1 zp2) ∧ zCf B0 F F')) (zXC G B0 F (fun E => zPX zEI "" "" (oA_replaceWord σ zp0 zp1 zp2) (oB_replaceWord σ zp0 zp1 zp2) (oC_replaceWord σ zp0 zp1 zp2) E)) 3 18 (zA B0) := by
  refine z_ofx (own := RX2) (by decide) rfl (Nat.le_of_ble_eq_true rfl) ?_
  intro p e s m below meth c ls hx hb hr hml hown hlocks hout hts hl hI
  have hl : lv_has ls 7 [(0, .ref B0), (1, .int zp0), (2, .int zp1), (3, .int zp2)] := hl
  obtain ⟨y01, ⟨fa1, y11, e11⟩, ⟨fb1, y21, e21⟩, ⟨fc1, y31, e31⟩, ⟨n41, t41, y41⟩, ⟨n61, t61, y61⟩, ⟨n81, t81, y81⟩, ⟨fd1, y101⟩, yT1, yP1⟩ := id hC
  refine lv_aload_n hx hb dX2_replaceWord_0 rfl (lv_at hl 0 rfl) ?_
  refine lv_iload_n hx hb dX2_replaceWord_1 rfl (lv_at hl 1 rfl) ?_
  refine z_xcallr hI (z_xV (As := [.int zp0]) (rest := []) ⟨hx, hb, hml, hown, hts⟩ hI y01 rfl (c_X2_textAt l hl0 G B0 F σ zp0 hC) (z_cwV vX2_textAt hts q71 ⟨Nat.le_of_ble_eq_true rfl, Nat.le_of_ble_eq_true rfl⟩) rfl hl.1 rfl (lv_room (Nat.le_of_ble_eq_true rfl)) dX2_replaceWord_2 ⟨Nat.le_of_ble_eq_true rfl, Nat.le_of_ble_eq_true rfl⟩) (z_out hout hlocks (fun E hE => Or.inl ⟨hE.1, fun q => hE.2 (by first | exact q.1 | (simp only [oA_replaceWord, oB_replaceWord, oC_replaceWord, rr_replaceWord, ss_replaceWord] at q; exact q.1))⟩) (Nat.le_of_ble_eq_true rfl) (Nat.le_of_ble_eq_true rfl)) (fun r3 F2 H locs hp4 hI => ?_)
  obtain ⟨rfl, i5, hi6, rfl, rfl⟩ := hp4
  have hix7 : ix (nI i5) = i5 := ix_nI (by omega)
  have hl : lv_has ls 7 [(0, .ref B0), (1, .int (nI i5)), (2, .int zp1), (3, .int zp2)] := hl
  have hx8 := yT1 i5 hi6
  obtain ⟨xnhx8, xrhx8, fhx8, xwhx8, xfhx8⟩ := id hx8
  refine lv_astore (lv' := [(4, .ref (B0 + 11 + 2 * i5)), (0, .ref B0), (1, .int (nI i5)), (2, .int zp1), (3, .int zp2)]) hx hb dX2_replaceWord_5 hl (by decide) rfl (fun ls hl => ?_)
  refine lv_iload_n hx hb dX2_replaceWord_7 rfl (lv_at hl 3 rfl) ?_
  refine z_xcallv hI (z_xS (As := [.int zp1]) (rest := []) ⟨hx, hb, hml, hown, hts⟩ hI (c_X2_requireWord l hl0 G B0 F zp1) (z_cwS vX2_requireWord hts q145 ⟨Nat.le_of_ble_eq_true rfl, Nat.le_of_ble_eq_true rfl⟩) rfl hl.1 rfl (lv_room (Nat.le_of_ble_eq_true rfl)) dX2_replaceWord_8 ⟨Nat.le_of_ble_eq_true rfl, Nat.le_of_ble_eq_true rfl⟩) (z_out hout hlocks (fun E hE => Or.inl ⟨hE.1, fun q => hE.2 (by first | exact q.2.1 | (simp only [oA_replaceWord, oB_replaceWord, oC_replaceWord, rr_replaceWord, ss_replaceWord, hix7] at q; exact q.2.1))⟩) (Nat.le_of_ble_eq_true rfl) (Nat.le_of_ble_eq_true rfl)) (fun F9 H locs hp11 hI => ?_)
  obtain ⟨rfl, hp11⟩ := hp11
  refine lv_iload_n hx hb dX2_replaceWord_11 rfl (lv_at hl 4 rfl) ?_
  refine z_xcallv hI (z_xS (As := [.int zp2]) (rest := []) ⟨hx, hb, hml, hown, hts⟩ hI (c_X2_requireWord l hl0 G B0 F zp2) (z_cwS vX2_requireWord hts q145 ⟨Nat.le_of_ble_eq_true rfl, Nat.le_of_ble_eq_true rfl⟩) rfl hl.1 rfl (lv_room (Nat.le_of_ble_eq_true rfl)) dX2_replaceWord_12 ⟨Nat.le_of_ble_eq_true rfl, Nat.le_of_ble_eq_true rfl⟩) (z_out hout hlocks (fun E hE => Or.inl ⟨hE.1, fun q => hE.2 (by first | exact q.2.2 | (simp only [oA_replaceWord, oB_replaceWord, oC_replaceWord, rr_replaceWord, ss_replaceWord, hix7] at q; exact q.2.2))⟩) (Nat.le_of_ble_eq_true rfl) (Nat.le_of_ble_eq_true rfl)) (fun F12 H locs hp14 hI => ?_)
  obtain ⟨rfl, hp14⟩ := hp14
  refine lv_iconst (v := nI 0) hx hb dX2_replaceWord_15 (by decide) ?_
  refine lv_istore (lv' := [(5, .int (nI 0)), (4, .ref (B0 + 11 + 2 * i5)), (0, .ref B0), (1, .int (nI i5)), (2, .int zp1), (3, .int zp2)]) hx hb dX2_replaceWord_16 hl (by decide) rfl (fun ls hl => ?_)
  refine lv_iconst (v := nI 0) hx hb dX2_replaceWord_18 (by decide) ?_
  refine lv_istore (lv' := [(6, .int (nI 0)), (5, .int (nI 0)), (4, .ref (B0 + 11 + 2 * i5)), (0, .ref B0), (1, .int (nI i5)), (2, .int zp1), (3, .int zp2)]) hx hb dX2_replaceWord_19 hl (by decide) rfl (fun ls hl => ?_)
  refine z_loop (σ := Nat × Nat) (fun xx : Nat × Nat => match xx with | (k, b) => [(0, .ref B0), (1, .int (nI i5)), (2, .int zp1), (3, .int zp2), (4, .ref (B0 + 11 + 2 * i5)), (6, .int (nI k)), (5, .int (nI b))]) (fun (xx : Nat × Nat) (Fx : zM) => match xx with | (k, b) => RA G 1 Fx (B0 + 11 + 2 * i5) (B0 + 12 + 2 * i5) 60 (sn σ i5) (fun j => if j < k ∧ st σ i5 j = zp1 then zp2 else st σ i5 j) ∧ zSm F Fx (B0 + 11 + 2 * i5) (B0 + 12 + 2 * i5) ∧ k ≤ sn σ i5 ∧ (b = 0 ∨ b = 1) ∧ (b = 1 ↔ 0 < cnt (st σ i5) zp1 k)) (fun xx : Nat × Nat => match xx with | (k, b) => sn σ i5 - k) (0, 0) (nL := 7) (st := []) ?_ (lv_sub hl [3, 4, 5, 6, 2, 0, 1] rfl) hI ?_
  · exact ⟨RA.cg ⟨xnhx8, xrhx8, fhx8, xwhx8, xfhx8⟩ (fun j hj => (if_neg (fun q => absurd q.1 (Nat.not_lt_zero _))).symm), zSm.rf, Nat.zero_le _, Or.inl rfl, by simp [cnt]⟩
  · intro xx F15 ls H locs hi hl hI ih
    obtain ⟨k, b⟩ := xx
    have hl : lv_has ls 7 [(0, .ref B0), (1, .int (nI i5)), (2, .int zp1), (3, .int zp2), (4, .ref (B0 + 11 + 2 * i5)), (6, .int (nI k)), (5, .int (nI b))] := hl
    obtain ⟨ha0, hs0, hk, hb01, hbi⟩ := hi
    obtain ⟨xn_, xr_, f_, xw_, xf_⟩ := id ha0
    refine lv_iload hx hb dX2_replaceWord_21 (lv_at hl 5 rfl) ?_
    refine lv_aload hx hb dX2_replaceWord_23 (lv_at hl 4 rfl) ?_
    refine z_getN hx hb hts hown zlX1 rfl 1 (by decide) (List.mem_of_getElem? (i := 0) rfl) rfl hI xr_ rfl dX2_replaceWord_25 ?_
    refine z_icmp_ge (tgt := 61) (a := k) (b := sn σ i5) hx hb dX2_replaceWord_28 (by decide) (by omega) (fun hq16 => ?_) (fun hq16 => ?_)
    · refine lv_iload hx hb dX2_replaceWord_61 (lv_at hl 6 rfl) ?_
      refine vx_ret (z_rz hx hb hr hlocks (hb01.elim (fun q => Or.inl (by rw [q]; rfl)) (fun q => Or.inr (by rw [q]; rfl))) hI ?_ (Nat.le_of_ble_eq_true rfl) (Nat.le_of_ble_eq_true rfl) dX2_replaceWord_63)
      have hkn : k = sn σ i5 := by omega
      refine ⟨_, rfl, (by simp only [oA_replaceWord, oB_replaceWord, oC_replaceWord, rr_replaceWord, ss_replaceWord, hix7] <;> exact ⟨⟨i5, hi6, rfl⟩, hp11, hp14⟩), (by simp only [oA_replaceWord, oB_replaceWord, oC_replaceWord, rr_replaceWord, ss_replaceWord, hix7] <;> exact trivial), (by simp only [oA_replaceWord, oB_replaceWord, oC_replaceWord, rr_replaceWord, ss_replaceWord, hix7] <;> exact trivial), (by simp only [oA_replaceWord, oB_replaceWord, oC_replaceWord, rr_replaceWord, ss_replaceWord, hix7] <;> exact (pI_of hb01 (by rw [← hkn]; exact hbi))), (by simp only [oA_replaceWord, oB_replaceWord, oC_replaceWord, rr_replaceWord, ss_replaceWord, hix7] <;> exact CS.setT hC hi6 hs0 (RA.cg ha0 (fun j hj => by rw [hkn]; by_cases e : st σ i5 j = zp1 <;> simp [e, hj]))), zCf.sm hs0 (by omega) (by omega)⟩
    · refine lv_aload hx hb dX2_replaceWord_31 (lv_at hl 4 rfl) ?_
      refine z_getN hx hb hts hown zlX1 rfl 0 (by decide) (List.mem_of_getElem? (i := 1) rfl) rfl hI xr_ rfl dX2_replaceWord_33 ?_
      refine lv_iload hx hb dX2_replaceWord_36 (lv_at hl 5 rfl) ?_
      refine z_ild (k := k) (v := st σ i5 k) hx hb hI xw_ (by omega) (by omega) ((xf_ k (by omega)).trans (if_neg (fun q => absurd q.1 (Nat.lt_irrefl _)))) dX2_replaceWord_38 ?_
      refine lv_iload_n hx hb dX2_replaceWord_39 rfl (lv_at hl 2 rfl) ?_
      refine lv_icmp_ne (tgt := 55) hx hb dX2_replaceWord_40 (by decide) (fun hq17 => ?_) (fun hq17 => ?_)
      · refine lv_iinc (k := 5) (v := nI (k + 1)) (lv' := [(6, .int (nI (k + 1))), (0, .ref B0), (1, .int (nI i5)), (2, .int zp1), (3, .int zp2), (4, .ref (B0 + 11 + 2 * i5)), (5, .int (nI b))]) hx hb dX2_replaceWord_55 hl rfl (nI_add k 1) (by decide) rfl (fun ls hl => ?_)
        refine lv_goto (tgt := 21) hx hb dX2_replaceWord_58 (by decide) ?_
        refine ih (k + 1, b) _ ls H locs (by first | omega | (dsimp only; omega)) ?_ (lv_sub hl [1, 2, 3, 4, 5, 0, 6] rfl) hI
        refine ⟨RA.cg ha0 (fun j hj => ?_), hs0, by omega, hb01, ?_⟩
        · by_cases e : j = k
          · subst e; rw [if_neg (fun z => hq17 z.2), if_neg (fun z => hq17 z.2)]
          · by_cases e2 : j < k ∧ st σ i5 j = zp1
            · rw [if_pos e2, if_pos ⟨by omega, e2.2⟩]
            · rw [if_neg e2, if_neg (fun z => e2 ⟨by omega, z.2⟩)]
        · rw [hbi]; simp only [cnt, if_neg hq17, Nat.add_zero]
      · refine lv_aload hx hb dX2_replaceWord_43 (lv_at hl 4 rfl) ?_
        refine z_getN hx hb hts hown zlX1 rfl 0 (by decide) (List.mem_of_getElem? (i := 1) rfl) rfl hI xr_ rfl dX2_replaceWord_45 ?_
        refine lv_iload hx hb dX2_replaceWord_48 (lv_at hl 5 rfl) ?_
        refine lv_iload_n hx hb dX2_replaceWord_50 rfl (lv_at hl 3 rfl) ?_
        refine z_ist (k := k) hx hb hI xw_ (by omega) (by omega) dX2_replaceWord_51 (fun H locs F18 hw19 ho20 hI => ?_)
        have hc21 : F18 (B0 + 11 + 2 * i5) = some (zO 1 [.ref (B0 + 12 + 2 * i5), .int (nI (sn σ i5))]) := (ho20 _ (zne xr_ xw_ (fun q => by cases q))).trans xr_
        refine lv_iconst (v := nI 1) hx hb dX2_replaceWord_52 (by decide) ?_
        refine lv_istore (lv' := [(5, .int (nI 1)), (0, .ref B0), (1, .int (nI i5)), (2, .int zp1), (3, .int zp2), (4, .ref (B0 + 11 + 2 * i5)), (6, .int (nI k))]) hx hb dX2_replaceWord_53 hl (by decide) rfl (fun ls hl => ?_)
        refine lv_iinc (k := 6) (v := nI (k + 1)) (lv' := [(6, .int (nI (k + 1))), (5, .int (nI 1)), (0, .ref B0), (1, .int (nI i5)), (2, .int zp1), (3, .int zp2), (4, .ref (B0 + 11 + 2 * i5))]) hx hb dX2_replaceWord_55 hl rfl (nI_add k 1) (by decide) rfl (fun ls hl => ?_)
        refine lv_goto (tgt := 21) hx hb dX2_replaceWord_58 (by decide) ?_
        refine ih (k + 1, 1) _ ls H locs (by first | omega | (dsimp only; omega)) ?_ (lv_sub hl [2, 3, 4, 5, 6, 0, 1] rfl) hI
        refine ⟨⟨xn_, hc21, _, hw19, fun j hj => ?_⟩, (zSm.tr hs0 (zSm.r ho20)), by omega, Or.inr rfl, ?_⟩
        · by_cases e : j = k
          · subst e; rw [pk_us]; dsimp only; rw [if_pos ⟨Nat.lt_succ_self _, hq17⟩]
          · rw [pk_un e, xf_ j hj]; dsimp only
            by_cases e2 : j < k ∧ st σ i5 j = zp1
            · rw [if_pos e2, if_pos ⟨by omega, e2.2⟩]
            · rw [if_neg e2, if_neg (fun z => e2 ⟨by omega, z.2⟩)]
        · refine ⟨fun _ => ?_, fun _ => rfl⟩; simp only [cnt, if_pos hq17]; omega

set_option maxHeartbeats 4000000 in
set_option maxRecDepth 100000 in
theorem c_X2_different (l : Launch) (hl0 : l.stackTraces = false) (G : zK) (B0 : Nat) (F : zM) (σ : Sg) (zp0 : Int32) (hC : CS G B0 F σ) : vx_Met l yX2_different (Cond.code yX2_different cX2_different 5 (some FieldType.int) :: zW) (zRm 7 111 1 6) (va_Pc [.ref B0, .int zp0] (zPre G B0 F)) (zQi G B0 (fun r' F' => oA_different σ zp0 ∧ oB_different σ zp0 ∧ oC_different σ zp0 ∧ r' = rr_different σ zp0 ∧ CS G B0 F' (ss_different σ zp0) ∧ zCf B0 F F')) (zXC G B0 F (fun E => zPX zEI "" "" (oA_different σ zp0) (oB_different σ zp0) (oC_different σ zp0) E)) 1 6 (zA B0) := by
  refine z_ofx (own := RX2) (by decide) rfl (Nat.le_of_ble_eq_true rfl) ?_
  intro p e s m below meth c ls hx hb hr hml hown hlocks hout hts hl hI
  have hl : lv_has ls 5 [(0, .ref B0), (1, .int zp0)] := hl
  obtain ⟨y01, ⟨fa1, y11, e11⟩, ⟨fb1, y21, e21⟩, ⟨fc1, y31, e31⟩, ⟨n41, t41, y41⟩, ⟨n61, t61, y61⟩, ⟨n81, t81, y81⟩, ⟨fd1, y101⟩, yT1, yP1⟩ := id hC
  refine lv_aload_n hx hb dX2_different_0 rfl (lv_at hl 0 rfl) ?_
  refine lv_iload_n hx hb dX2_different_1 rfl (lv_at hl 1 rfl) ?_
  refine z_xcallr hI (z_xV (As := [.int zp0]) (rest := []) ⟨hx, hb, hml, hown, hts⟩ hI y01 rfl (c_X2_textAt l hl0 G B0 F σ zp0 hC) (z_cwV vX2_textAt hts q71 ⟨Nat.le_of_ble_eq_true rfl, Nat.le_of_ble_eq_true rfl⟩) rfl hl.1 rfl (lv_room (Nat.le_of_ble_eq_true rfl)) dX2_different_2 ⟨Nat.le_of_ble_eq_true rfl, Nat.le_of_ble_eq_true rfl⟩) (z_out hout hlocks (fun E hE => Or.inl ⟨hE.1, fun q => hE.2 (by first | exact q | (simp only [oA_different, oB_different, oC_different, rr_different, ss_different] at q; exact q))⟩) (Nat.le_of_ble_eq_true rfl) (Nat.le_of_ble_eq_true rfl)) (fun r3 F2 H locs hp4 hI => ?_)
  obtain ⟨rfl, i5, hi6, rfl, rfl⟩ := hp4
  have hix7 : ix (nI i5) = i5 := ix_nI (by omega)
  have hl : lv_has ls 5 [(0, .ref B0), (1, .int (nI i5))] := hl
  have hx8 := yT1 i5 hi6
  obtain ⟨xnhx8, xrhx8, fhx8, xwhx8, xfhx8⟩ := id hx8
  refine lv_astore_n (lv' := [(2, .ref (B0 + 11 + 2 * i5)), (0, .ref B0), (1, .int (nI i5))]) hx hb dX2_different_5 rfl hl (by decide) rfl (fun ls hl => ?_)
  refine lv_iconst (v := nI 0) hx hb dX2_different_6 (by decide) ?_
  refine lv_istore_n (lv' := [(3, .int (nI 0)), (2, .ref (B0 + 11 + 2 * i5)), (0, .ref B0), (1, .int (nI i5))]) hx hb dX2_different_7 rfl hl (by decide) rfl (fun ls hl => ?_)
  refine lv_iconst (v := nI 0) hx hb dX2_different_8 (by decide) ?_
  refine lv_istore (lv' := [(4, .int (nI 0)), (3, .int (nI 0)), (2, .ref (B0 + 11 + 2 * i5)), (0, .ref B0), (1, .int (nI i5))]) hx hb dX2_different_9 hl (by decide) rfl (fun ls hl => ?_)
  refine z_loop (σ := Nat × Nat) (fun xx : Nat × Nat => match xx with | (k, a) => [(0, .ref B0), (1, .int (nI i5)), (2, .ref (B0 + 11 + 2 * i5)), (4, .int (nI k)), (3, .int (nI a))]) (fun (xx : Nat × Nat) (Fx : zM) => match xx with | (k, a) => F = Fx ∧ k ≤ sn σ i5 ∧ a = zct (fun j => cnt (st σ i5) (st σ i5 j) j = 0) k) (fun xx : Nat × Nat => match xx with | (k, a) => sn σ i5 - k) (0, 0) (nL := 5) (st := []) ?_ (lv_sub hl [3, 4, 2, 0, 1] rfl) hI ?_
  · exact ⟨rfl, Nat.zero_le _, rfl⟩
  · intro xx F9 ls H locs hi hl hI ih
    obtain ⟨k, a⟩ := xx
    have hl : lv_has ls 5 [(0, .ref B0), (1, .int (nI i5)), (2, .ref (B0 + 11 + 2 * i5)), (4, .int (nI k)), (3, .int (nI a))] := hl
    obtain ⟨hF, hk, ha⟩ := hi
    subst hF
    have hcn := zct_le (fun j => cnt (st σ i5) (st σ i5 j) j = 0) k
    refine lv_iload hx hb dX2_different_11 (lv_at hl 3 rfl) ?_
    refine lv_aload_n hx hb dX2_different_13 rfl (lv_at hl 2 rfl) ?_
    refine z_getN hx hb hts hown zlX1 rfl 1 (by decide) (List.mem_of_getElem? (i := 0) rfl) rfl hI xrhx8 rfl dX2_different_14 ?_
    refine z_icmp_ge (tgt := 38) (a := k) (b := sn σ i5) hx hb dX2_different_17 (by decide) (by omega) (fun hq10 => ?_) (fun hq10 => ?_)
    · refine lv_iload_n hx hb dX2_different_38 rfl (lv_at hl 4 rfl) ?_
      refine vx_ret (z_ri hx hb hr hlocks hI ?_ (Nat.le_of_ble_eq_true rfl) (Nat.le_of_ble_eq_true rfl) dX2_different_39)
      have hkn : k = sn σ i5 := by omega
      refine ⟨_, rfl, (by simp only [oA_different, oB_different, oC_different, rr_different, ss_different, hix7] <;> exact ⟨i5, hi6, rfl⟩), (by simp only [oA_different, oB_different, oC_different, rr_different, ss_different, hix7] <;> exact trivial), (by simp only [oA_different, oB_different, oC_different, rr_different, ss_different, hix7] <;> exact trivial), (by simp only [oA_different, oB_different, oC_different, rr_different, ss_different, hix7] <;> (rw [ha, hkn])), (by simp only [oA_different, oB_different, oC_different, rr_different, ss_different, hix7] <;> exact hC), zCf.rf⟩
    · refine lv_aload_n hx hb dX2_different_20 rfl (lv_at hl 2 rfl) ?_
      refine lv_iload hx hb dX2_different_21 (lv_at hl 3 rfl) ?_
      refine z_calli hI (z_V (As := [.int (nI k)]) (rest := []) ⟨hx, hb, hml, hown, hts⟩ hI xrhx8 rfl (c_X1_isFirstOfItsWord l G B0 F (B0 + 11 + 2 * i5) (B0 + 12 + 2 * i5) 60 (sn σ i5) (st σ i5) k ⟨xnhx8, xrhx8, fhx8, xwhx8, xfhx8⟩ (by omega) (by omega)) (z_cwV vX1_isFirstOfItsWord hts q416 ⟨Nat.le_of_ble_eq_true rfl, Nat.le_of_ble_eq_true rfl⟩) rfl hl.1 rfl (lv_room (Nat.le_of_ble_eq_true rfl)) dX2_different_23 ⟨Nat.le_of_ble_eq_true rfl, Nat.le_of_ble_eq_true rfl⟩) (fun r12 F11 H locs hp13 hI => ?_)
      obtain ⟨rfl, rfl⟩ := hp13
      refine z_ifp_eq (tgt := 32) hx hb dX2_different_26 (by decide) (fun hq14 => ?_) (fun hq14 => ?_)
      · refine lv_iinc (k := 3) (v := nI (k + 1)) (lv' := [(4, .int (nI (k + 1))), (0, .ref B0), (1, .int (nI i5)), (2, .ref (B0 + 11 + 2 * i5)), (3, .int (nI a))]) hx hb dX2_different_32 hl rfl (nI_add k 1) (by decide) rfl (fun ls hl => ?_)
        refine lv_goto (tgt := 11) hx hb dX2_different_35 (by decide) ?_
        refine ih (k + 1, a) _ ls H locs (by first | omega | (dsimp only; omega)) ?_ (lv_sub hl [1, 2, 3, 0, 4] rfl) hI
        exact ⟨rfl, by omega, by rw [zct_f (P := fun j => cnt (st σ i5) (st σ i5 j) j = 0) hq14, ha]⟩
      · refine lv_iinc (k := 4) (v := nI (a + 1)) (lv' := [(3, .int (nI (a + 1))), (0, .ref B0), (1, .int (nI i5)), (2, .ref (B0 + 11 + 2 * i5)), (4, .int (nI k))]) hx hb dX2_different_29 hl rfl (nI_add a 1) (by decide) rfl (fun ls hl => ?_)
        refine lv_iinc (k := 4) (v := nI (k + 1)) (lv' := [(4, .int (nI (k + 1))), (3, .int (nI (a + 1))), (0, .ref B0), (1, .int (nI i5)), (2, .ref (B0 + 11 + 2 * i5))]) hx hb dX2_different_32 hl rfl (nI_add k 1) (by decide) rfl (fun ls hl => ?_)
        refine lv_goto (tgt := 11) hx hb dX2_different_35 (by decide) ?_
        refine ih (k + 1, a + 1) _ ls H locs (by first | omega | (dsimp only; omega)) ?_ (lv_sub hl [2, 3, 4, 0, 1] rfl) hI
        exact ⟨rfl, by omega, by rw [zct_t (P := fun j => cnt (st σ i5) (st σ i5 j) j = 0) hq14, ha]⟩

set_option maxHeartbeats 4000000 in
set_option maxRecDepth 100000 in
theorem c_X2_isApart (l : Launch) (hl0 : l.stackTraces = false) (G : zK) (B0 : Nat) (F : zM) (σ : Sg) (zp0 zp1 : Int32) (hC : CS G B0 F σ) : vx_Met l yX2_isApart (Cond.code yX2_isApart cX2_isApart 6 (some FieldType.boolean) :: zW) (zRm 7 111 2 12) (va_Pc [.ref B0, .int zp0, .int zp1] (zPre G B0 F)) (zQi G B0 (fun r' F' => oA_isApart σ zp0 zp1 ∧ oB_isApart σ zp0 zp1 ∧ oC_isApart σ zp0 zp1 ∧ r' = rr_isApart σ zp0 zp1 ∧ CS G B0 F' (ss_isApart σ zp0 zp1) ∧ zCf B0 F F')) (zXC G B0 F (fun E => zPX zEI "" "" (oA_isApart σ zp0 zp1) (oB_isApart σ zp0 zp1) (oC_isApart σ zp0 zp1) E)) 2 12 (zA B0) := by
  refine z_ofx (own := RX2) (by decide) rfl (Nat.le_of_ble_eq_true rfl) ?_
  intro p e s m below meth c ls hx hb hr hml hown hlocks hout hts hl hI
  have hl : lv_has ls 6 [(0, .ref B0), (1, .int zp0), (2, .int zp1)] := hl
  obtain ⟨y01, ⟨fa1, y11, e11⟩, ⟨fb1, y21, e21⟩, ⟨fc1, y31, e31⟩, ⟨n41, t41, y41⟩, ⟨n61, t61, y61⟩, ⟨n81, t81, y81⟩, ⟨fd1, y101⟩, yT1, yP1⟩ := id hC
  refine lv_aload_n hx hb dX2_isApart_0 rfl (lv_at hl 0 rfl) ?_
  refine lv_iload_n hx hb dX2_isApart_1 rfl (lv_at hl 1 rfl) ?_
  refine z_xcallr hI (z_xV (As := [.int zp0]) (rest := []) ⟨hx, hb, hml, hown, hts⟩ hI y01 rfl (c_X2_textAt l hl0 G B0 F σ zp0 hC) (z_cwV vX2_textAt hts q71 ⟨Nat.le_of_ble_eq_true rfl, Nat.le_of_ble_eq_true rfl⟩) rfl hl.1 rfl (lv_room (Nat.le_of_ble_eq_true rfl)) dX2_isApart_2 ⟨Nat.le_of_ble_eq_true rfl, Nat.le_of_ble_eq_true rfl⟩) (z_out hout hlocks (fun E hE => Or.inl ⟨hE.1, fun q => hE.2 (by first | exact q.1 | (simp only [oA_isApart, oB_isApart, oC_isApart, rr_isApart, ss_isApart] at q; exact q.1))⟩) (Nat.le_of_ble_eq_true rfl) (Nat.le_of_ble_eq_true rfl)) (fun r3 F2 H locs hp4 hI => ?_)
  obtain ⟨rfl, i5, hi6, rfl, rfl⟩ := hp4
  have hix7 : ix (nI i5) = i5 := ix_nI (by omega)
  have hl : lv_has ls 6 [(0, .ref B0), (1, .int (nI i5)), (2, .int zp1)] := hl
  have hx8 := yT1 i5 hi6
  obtain ⟨xnhx8, xrhx8, fhx8, xwhx8, xfhx8⟩ := id hx8
  refine lv_astore_n (lv' := [(3, .ref (B0 + 11 + 2 * i5)), (0, .ref B0), (1, .int (nI i5)), (2, .int zp1)]) hx hb dX2_isApart_5 rfl hl (by decide) rfl (fun ls hl => ?_)
  refine lv_aload_n hx hb dX2_isApart_6 rfl (lv_at hl 1 rfl) ?_
  refine lv_iload_n hx hb dX2_isApart_7 rfl (lv_at hl 3 rfl) ?_
  refine z_xcallr hI (z_xV (As := [.int zp1]) (rest := []) ⟨hx, hb, hml, hown, hts⟩ hI y01 rfl (c_X2_textAt l hl0 G B0 F σ zp1 hC) (z_cwV vX2_textAt hts q71 ⟨Nat.le_of_ble_eq_true rfl, Nat.le_of_ble_eq_true rfl⟩) rfl hl.1 rfl (lv_room (Nat.le_of_ble_eq_true rfl)) dX2_isApart_8 ⟨Nat.le_of_ble_eq_true rfl, Nat.le_of_ble_eq_true rfl⟩) (z_out hout hlocks (fun E hE => Or.inl ⟨hE.1, fun q => hE.2 (by first | exact q.2 | (simp only [oA_isApart, oB_isApart, oC_isApart, rr_isApart, ss_isApart, hix7] at q; exact q.2))⟩) (Nat.le_of_ble_eq_true rfl) (Nat.le_of_ble_eq_true rfl)) (fun r10 F9 H locs hp11 hI => ?_)
  obtain ⟨rfl, i12, hi13, rfl, rfl⟩ := hp11
  have hix14 : ix (nI i12) = i12 := ix_nI (by omega)
  have hl : lv_has ls 6 [(3, .ref (B0 + 11 + 2 * i5)), (0, .ref B0), (1, .int (nI i5)), (2, .int (nI i12))] := hl
  have hx15 := yT1 i12 hi13
  obtain ⟨xnhx15, xrhx15, fhx15, xwhx15, xfhx15⟩ := id hx15
  refine lv_astore (lv' := [(4, .ref (B0 + 11 + 2 * i12)), (3, .ref (B0 + 11 + 2 * i5)), (0, .ref B0), (1, .int (nI i5)), (2, .int (nI i12))]) hx hb dX2_isApart_11 hl (by decide) rfl (fun ls hl => ?_)
  refine lv_iconst (v := nI 0) hx hb dX2_isApart_13 (by decide) ?_
  refine lv_istore (lv' := [(5, .int (nI 0)), (4, .ref (B0 + 11 + 2 * i12)), (3, .ref (B0 + 11 + 2 * i5)), (0, .ref B0), (1, .int (nI i5)), (2, .int (nI i12))]) hx hb dX2_isApart_14 hl (by decide) rfl (fun ls hl => ?_)
  refine z_loop (σ := Nat) (fun k : Nat => [(0, .ref B0), (1, .int (nI i5)), (2, .int (nI i12)), (3, .ref (B0 + 11 + 2 * i5)), (4, .ref (B0 + 11 + 2 * i12)), (5, .int (nI k))]) (fun (k : Nat) (Fx : zM) => F = Fx ∧ k ≤ sn σ i5 ∧ ∀ j, j < k → ¬ 0 < cnt (st σ i12) (st σ i5 j) (sn σ i12)) (fun k : Nat => sn σ i5 - k) 0 (nL := 6) (st := []) ?_ (lv_sub hl [3, 4, 5, 2, 1, 0] rfl) hI ?_
  · exact ⟨rfl, Nat.zero_le _, fun j hj => absurd hj (Nat.not_lt_zero _)⟩
  · intro k F16 ls H locs hi hl hI ih
    have hl : lv_has ls 6 [(0, .ref B0), (1, .int (nI i5)), (2, .int (nI i12)), (3, .ref (B0 + 11 + 2 * i5)), (4, .ref (B0 + 11 + 2 * i12)), (5, .int (nI k))] := hl
    obtain ⟨hF, hk, ha⟩ := hi
    subst hF
    refine lv_iload hx hb dX2_isApart_16 (lv_at hl 5 rfl) ?_
    refine lv_aload_n hx hb dX2_isApart_18 rfl (lv_at hl 3 rfl) ?_
    refine z_getN hx hb hts hown zlX1 rfl 1 (by decide) (List.mem_of_getElem? (i := 0) rfl) rfl hI xrhx8 rfl dX2_isApart_19 ?_
    refine z_icmp_ge (tgt := 48) (a := k) (b := sn σ i5) hx hb dX2_isApart_22 (by decide) (by omega) (fun hq17 => ?_) (fun hq17 => ?_)
    · refine lv_iconst (v := nI 1) hx hb dX2_isApart_48 (by decide) ?_
      refine vx_ret (z_rz hx hb hr hlocks (Or.inr rfl) hI ?_ (Nat.le_of_ble_eq_true rfl) (Nat.le_of_ble_eq_true rfl) dX2_isApart_49)
      refine ⟨_, rfl, (by simp only [oA_isApart, oB_isApart, oC_isApart, rr_isApart, ss_isApart, hix7, hix14] <;> exact ⟨⟨i5, hi6, rfl⟩, ⟨i12, hi13, rfl⟩⟩), (by simp only [oA_isApart, oB_isApart, oC_isApart, rr_isApart, ss_isApart, hix7, hix14] <;> exact trivial), (by simp only [oA_isApart, oB_isApart, oC_isApart, rr_isApart, ss_isApart, hix7, hix14] <;> exact trivial), (by simp only [oA_isApart, oB_isApart, oC_isApart, rr_isApart, ss_isApart, hix7, hix14] <;> exact (pI_t (fun j hj => ha j (by omega)))), (by simp only [oA_isApart, oB_isApart, oC_isApart, rr_isApart, ss_isApart, hix7, hix14] <;> exact hC), zCf.rf⟩
    · refine lv_aload hx hb dX2_isApart_25 (lv_at hl 4 rfl) ?_
      refine lv_aload_n hx hb dX2_isApart_27 rfl (lv_at hl 3 rfl) ?_
      refine z_getN hx hb hts hown zlX1 rfl 0 (by decide) (List.mem_of_getElem? (i := 1) rfl) rfl hI xrhx8 rfl dX2_isApart_28 ?_
      refine lv_iload hx hb dX2_isApart_31 (lv_at hl 5 rfl) ?_
      refine z_ild (k := k) (v := st σ i5 k) hx hb hI xwhx8 (by omega) (by omega) (xfhx8 k (by omega)) dX2_isApart_33 ?_
      refine z_calli hI (z_V (As := [.int (st σ i5 k)]) (rest := []) ⟨hx, hb, hml, hown, hts⟩ hI xrhx15 rfl (c_X1_hasWord l G B0 F (B0 + 11 + 2 * i12) (B0 + 12 + 2 * i12) 60 (sn σ i12) (st σ i12) (st σ i5 k) ⟨xnhx15, xrhx15, fhx15, xwhx15, xfhx15⟩ (by omega)) (z_cwV vX1_hasWord hts q454 ⟨Nat.le_of_ble_eq_true rfl, Nat.le_of_ble_eq_true rfl⟩) rfl hl.1 rfl (lv_room (Nat.le_of_ble_eq_true rfl)) dX2_isApart_34 ⟨Nat.le_of_ble_eq_true rfl, Nat.le_of_ble_eq_true rfl⟩) (fun r19 F18 H locs hp20 hI => ?_)
      obtain ⟨rfl, rfl⟩ := hp20
      refine z_ifp_eq (tgt := 42) hx hb dX2_isApart_37 (by decide) (fun hq21 => ?_) (fun hq21 => ?_)
      · refine lv_iinc (k := 5) (v := nI (k + 1)) (lv' := [(5, .int (nI (k + 1))), (0, .ref B0), (1, .int (nI i5)), (2, .int (nI i12)), (3, .ref (B0 + 11 + 2 * i5)), (4, .ref (B0 + 11 + 2 * i12))]) hx hb dX2_isApart_42 hl rfl (nI_add k 1) (by decide) rfl (fun ls hl => ?_)
        refine lv_goto (tgt := 16) hx hb dX2_isApart_45 (by decide) ?_
        refine ih (k + 1) _ ls H locs (by first | omega | (dsimp only; omega)) ?_ (lv_sub hl [1, 2, 3, 4, 5, 0] rfl) hI
        refine ⟨rfl, by omega, fun j hj => ?_⟩
        by_cases q : j = k
        · subst q; exact hq21
        · exact ha j (by omega)
      · refine lv_iconst (v := nI 0) hx hb dX2_isApart_40 (by decide) ?_
        refine vx_ret (z_rz hx hb hr hlocks (Or.inl rfl) hI ?_ (Nat.le_of_ble_eq_true rfl) (Nat.le_of_ble_eq_true rfl) dX2_isApart_41)
        refine ⟨_, rfl, (by simp only [oA_isApart, oB_isApart, oC_isApart, rr_isApart, ss_isApart, hix7, hix14] <;> exact ⟨⟨i5, hi6, rfl⟩, ⟨i12, hi13, rfl⟩⟩), (by simp only [oA_isApart, oB_isApart, oC_isApart, rr_isApart, ss_isApart, hix7, hix14] <;> exact trivial), (by simp only [oA_isApart, oB_isApart, oC_isApart, rr_isApart, ss_isApart, hix7, hix14] <;> exact trivial), (by simp only [oA_isApart, oB_isApart, oC_isApart, rr_isApart, ss_isApart, hix7, hix14] <;> exact (pI_f (fun z => z k (by omega) hq21))), (by simp only [oA_isApart, oB_isApart, oC_isApart, rr_isApart, ss_isApart, hix7, hix14] <;> exact hC), zCf.rf⟩

set_option maxHeartbeats 4000000 in
set_option maxRecDepth 100000 in
theorem c_X2_alone (l : Launch) (hl0 : l.stackTraces = false) (G : zK) (B0 : Nat) (F : zM) (σ : Sg) (zp0 zp1 : Int32) (hC : CS G B0 F σ) : vx_Met l yX2_alone (Cond.code yX2_alone cX2_alone 7 (some FieldType.int) :: zW) (zRm 7 111 2 12) (va_Pc [.ref B0, .int zp0, .int zp1] (zPre G B0 F)) (zQi G B0 (fun r' F' => oA_alone σ zp0 zp1 ∧ oB_alone σ zp0 zp1 ∧ oC_alone σ zp0 zp1 ∧ r' = rr_alone σ zp0 zp1 ∧ CS G B0 F' (ss_alone σ zp0 zp1) ∧ zCf B0 F F')) (zXC G B0 F (fun E => zPX zEI "" "" (oA_alone σ zp0 zp1) (oB_alone σ zp0 zp1) (oC_alone σ zp0 zp1) E)) 2 12 (zA B0) := by
  refine z_ofx (own := RX2) (by decide) rfl (Nat.le_of_ble_eq_true rfl) ?_
  intro p e s m below meth c ls hx hb hr hml hown hlocks hout hts hl hI
  have hl : lv_has ls 7 [(0, .ref B0), (1, .int zp0), (2, .int zp1)] := hl
  obtain ⟨y01, ⟨fa1, y11, e11⟩, ⟨fb1, y21, e21⟩, ⟨fc1, y31, e31⟩, ⟨n41, t41, y41⟩, ⟨n61, t61, y61⟩, ⟨n81, t81, y81⟩, ⟨fd1, y101⟩, yT1, yP1⟩ := id hC
  refine lv_aload_n hx hb dX2_alone_0 rfl (lv_at hl 0 rfl) ?_
  refine lv_iload_n hx hb dX2_alone_1 rfl (lv_at hl 1 rfl) ?_
  refine z_xcallr hI (z_xV (As := [.int zp0]) (rest := []) ⟨hx, hb, hml, hown, hts⟩ hI y01 rfl (c_X2_textAt l hl0 G B0 F σ zp0 hC) (z_cwV vX2_textAt hts q71 ⟨Nat.le_of_ble_eq_true rfl, Nat.le_of_ble_eq_true rfl⟩) rfl hl.1 rfl (lv_room (Nat.le_of_ble_eq_true rfl)) dX2_alone_2 ⟨Nat.le_of_ble_eq_true rfl, Nat.le_of_ble_eq_true rfl⟩) (z_out hout hlocks (fun E hE => Or.inl ⟨hE.1, fun q => hE.2 (by first | exact q.1 | (simp only [oA_alone, oB_alone, oC_alone, rr_alone, ss_alone] at q; exact q.1))⟩) (Nat.le_of_ble_eq_true rfl) (Nat.le_of_ble_eq_true rfl)) (fun r3 F2 H locs hp4 hI => ?_)
  obtain ⟨rfl, i5, hi6, rfl, rfl⟩ := hp4
  have hix7 : ix (nI i5) = i5 := ix_nI (by omega)
  have hl : lv_has ls 7 [(0, .ref B0), (1, .int (nI i5)), (2, .int zp1)] := hl
  have hx8 := yT1 i5 hi6
  obtain ⟨xnhx8, xrhx8, fhx8, xwhx8, xfhx8⟩ := id hx8
  refine lv_astore_n (lv' := [(3, .ref (B0 + 11 + 2 * i5)), (0, .ref B0), (1, .int (nI i5)), (2, .int zp1)]) hx hb dX2_alone_5 rfl hl (by decide) rfl (fun ls hl => ?_)
  refine lv_aload_n hx hb dX2_alone_6 rfl (lv_at hl 1 rfl) ?_
  refine lv_iload_n hx hb dX2_alone_7 rfl (lv_at hl 3 rfl) ?_
  refine z_xcallr hI (z_xV (As := [.int zp1]) (rest := []) ⟨hx, hb, hml, hown, hts⟩ hI y01 rfl (c_X2_textAt l hl0 G B0 F σ zp1 hC) (z_cwV vX2_textAt hts q71 ⟨Nat.le_of_ble_eq_true rfl, Nat.le_of_ble_eq_true rfl⟩) rfl hl.1 rfl (lv_room (Nat.le_of_ble_eq_true rfl)) dX2_alone_8 ⟨Nat.le_of_ble_eq_true rfl, Nat.le_of_ble_eq_true rfl⟩) (z_out hout hlocks (fun E hE => Or.inl ⟨hE.1, fun q => hE.2 (by first | exact q.2 | (simp only [oA_alone, oB_alone, oC_alone, rr_alone, ss_alone, hix7] at q; exact q.2))⟩) (Nat.le_of_ble_eq_true rfl) (Nat.le_of_ble_eq_true rfl)) (fun r10 F9 H locs hp11 hI => ?_)
  obtain ⟨rfl, i12, hi13, rfl, rfl⟩ := hp11
  have hix14 : ix (nI i12) = i12 := ix_nI (by omega)
  have hl : lv_has ls 7 [(3, .ref (B0 + 11 + 2 * i5)), (0, .ref B0), (1, .int (nI i5)), (2, .int (nI i12))] := hl
  have hx15 := yT1 i12 hi13
  obtain ⟨xnhx15, xrhx15, fhx15, xwhx15, xfhx15⟩ := id hx15
  refine lv_astore (lv' := [(4, .ref (B0 + 11 + 2 * i12)), (3, .ref (B0 + 11 + 2 * i5)), (0, .ref B0), (1, .int (nI i5)), (2, .int (nI i12))]) hx hb dX2_alone_11 hl (by decide) rfl (fun ls hl => ?_)
  refine lv_iconst (v := nI 0) hx hb dX2_alone_13 (by decide) ?_
  refine lv_istore (lv' := [(5, .int (nI 0)), (4, .ref (B0 + 11 + 2 * i12)), (3, .ref (B0 + 11 + 2 * i5)), (0, .ref B0), (1, .int (nI i5)), (2, .int (nI i12))]) hx hb dX2_alone_14 hl (by decide) rfl (fun ls hl => ?_)
  refine lv_iconst (v := nI 0) hx hb dX2_alone_16 (by decide) ?_
  refine lv_istore (lv' := [(6, .int (nI 0)), (5, .int (nI 0)), (4, .ref (B0 + 11 + 2 * i12)), (3, .ref (B0 + 11 + 2 * i5)), (0, .ref B0), (1, .int (nI i5)), (2, .int (nI i12))]) hx hb dX2_alone_17 hl (by decide) rfl (fun ls hl => ?_)
  refine z_loop (σ := Nat × Nat) (fun xx : Nat × Nat => match xx with | (k, a) => [(0, .ref B0), (1, .int (nI i5)), (2, .int (nI i12)), (3, .ref (B0 + 11 + 2 * i5)), (4, .ref (B0 + 11 + 2 * i12)), (6, .int (nI k)), (5, .int (nI a))]) (fun (xx : Nat × Nat) (Fx : zM) => match xx with | (k, a) => F = Fx ∧ k ≤ sn σ i5 ∧ a = zct (fun j => cnt (st σ i5) (st σ i5 j) j = 0 ∧ ¬ 0 < cnt (st σ i12) (st σ i5 j) (sn σ i12)) k) (fun xx : Nat × Nat => match xx with | (k, a) => sn σ i5 - k) (0, 0) (nL := 7) (st := []) ?_ (lv_sub hl [4, 5, 6, 3, 2, 0, 1] rfl) hI ?_
  · exact ⟨rfl, Nat.zero_le _, rfl⟩
  · intro xx F16 ls H locs hi hl hI ih
    obtain ⟨k, a⟩ := xx
    have hl : lv_has ls 7 [(0, .ref B0), (1, .int (nI i5)), (2, .int (nI i12)), (3, .ref (B0 + 11 + 2 * i5)), (4, .ref (B0 + 11 + 2 * i12)), (6, .int (nI k)), (5, .int (nI a))] := hl
    obtain ⟨hF, hk, ha⟩ := hi
    subst hF
    have hcn := zct_le (fun j => cnt (st σ i5) (st σ i5 j) j = 0 ∧ ¬ 0 < cnt (st σ i12) (st σ i5 j) (sn σ i12)) k
    refine lv_iload hx hb dX2_alone_19 (lv_at hl 5 rfl) ?_
    refine lv_aload_n hx hb dX2_alone_21 rfl (lv_at hl 3 rfl) ?_
    refine z_getN hx hb hts hown zlX1 rfl 1 (by decide) (List.mem_of_getElem? (i := 0) rfl) rfl hI xrhx8 rfl dX2_alone_22 ?_
    refine z_icmp_ge (tgt := 61) (a := k) (b := sn σ i5) hx hb dX2_alone_25 (by decide) (by omega) (fun hq17 => ?_) (fun hq17 => ?_)
    · refine lv_iload hx hb dX2_alone_61 (lv_at hl 6 rfl) ?_
      refine vx_ret (z_ri hx hb hr hlocks hI ?_ (Nat.le_of_ble_eq_true rfl) (Nat.le_of_ble_eq_true rfl) dX2_alone_63)
      have hkn : k = sn σ i5 := by omega
      refine ⟨_, rfl, (by simp only [oA_alone, oB_alone, oC_alone, rr_alone, ss_alone, hix7, hix14] <;> exact ⟨⟨i5, hi6, rfl⟩, ⟨i12, hi13, rfl⟩⟩), (by simp only [oA_alone, oB_alone, oC_alone, rr_alone, ss_alone, hix7, hix14] <;> exact trivial), (by simp only [oA_alone, oB_alone, oC_alone, rr_alone, ss_alone, hix7, hix14] <;> exact trivial), (by simp only [oA_alone, oB_alone, oC_alone, rr_alone, ss_alone, hix7, hix14] <;> (rw [ha, hkn])), (by simp only [oA_alone, oB_alone, oC_alone, rr_alone, ss_alone, hix7, hix14] <;> exact hC), zCf.rf⟩
    · refine lv_aload_n hx hb dX2_alone_28 rfl (lv_at hl 3 rfl) ?_
      refine lv_iload hx hb dX2_alone_29 (lv_at hl 5 rfl) ?_
      refine z_calli hI (z_V (As := [.int (nI k)]) (rest := []) ⟨hx, hb, hml, hown, hts⟩ hI xrhx8 rfl (c_X1_isFirstOfItsWord l G B0 F (B0 + 11 + 2 * i5) (B0 + 12 + 2 * i5) 60 (sn σ i5) (st σ i5) k ⟨xnhx8, xrhx8, fhx8, xwhx8, xfhx8⟩ (by omega) (by omega)) (z_cwV vX1_isFirstOfItsWord hts q416 ⟨Nat.le_of_ble_eq_true rfl, Nat.le_of_ble_eq_true rfl⟩) rfl hl.1 rfl (lv_room (Nat.le_of_ble_eq_true rfl)) dX2_alone_31 ⟨Nat.le_of_ble_eq_true rfl, Nat.le_of_ble_eq_true rfl⟩) (fun r19 F18 H locs hp20 hI => ?_)
      obtain ⟨rfl, rfl⟩ := hp20
      refine z_ifp_eq (tgt := 55) hx hb dX2_alone_34 (by decide) (fun hq21 => ?_) (fun hq21 => ?_)
      · refine lv_iinc (k := 5) (v := nI (k + 1)) (lv' := [(6, .int (nI (k + 1))), (0, .ref B0), (1, .int (nI i5)), (2, .int (nI i12)), (3, .ref (B0 + 11 + 2 * i5)), (4, .ref (B0 + 11 + 2 * i12)), (5, .int (nI a))]) hx hb dX2_alone_55 hl rfl (nI_add k 1) (by decide) rfl (fun ls hl => ?_)
        refine lv_goto (tgt := 19) hx hb dX2_alone_58 (by decide) ?_
        refine ih (k + 1, a) _ ls H locs (by first | omega | (dsimp only; omega)) ?_ (lv_sub hl [1, 2, 3, 4, 5, 0, 6] rfl) hI
        exact ⟨rfl, by omega, by rw [zct_f (fun z => hq21 z.1), ha]⟩
      · refine lv_aload hx hb dX2_alone_37 (lv_at hl 4 rfl) ?_
        refine lv_aload_n hx hb dX2_alone_39 rfl (lv_at hl 3 rfl) ?_
        refine z_getN hx hb hts hown zlX1 rfl 0 (by decide) (List.mem_of_getElem? (i := 1) rfl) rfl hI xrhx8 rfl dX2_alone_40 ?_
        refine lv_iload hx hb dX2_alone_43 (lv_at hl 5 rfl) ?_
        refine z_ild (k := k) (v := st σ i5 k) hx hb hI xwhx8 (by omega) (by omega) (xfhx8 k (by omega)) dX2_alone_45 ?_
        refine z_calli hI (z_V (As := [.int (st σ i5 k)]) (rest := []) ⟨hx, hb, hml, hown, hts⟩ hI xrhx15 rfl (c_X1_hasWord l G B0 F (B0 + 11 + 2 * i12) (B0 + 12 + 2 * i12) 60 (sn σ i12) (st σ i12) (st σ i5 k) ⟨xnhx15, xrhx15, fhx15, xwhx15, xfhx15⟩ (by omega)) (z_cwV vX1_hasWord hts q454 ⟨Nat.le_of_ble_eq_true rfl, Nat.le_of_ble_eq_true rfl⟩) rfl hl.1 rfl (lv_room (Nat.le_of_ble_eq_true rfl)) dX2_alone_46 ⟨Nat.le_of_ble_eq_true rfl, Nat.le_of_ble_eq_true rfl⟩) (fun r23 F22 H locs hp24 hI => ?_)
        obtain ⟨rfl, rfl⟩ := hp24
        refine z_ifp_ne (tgt := 55) hx hb dX2_alone_49 (by decide) (fun hq25 => ?_) (fun hq25 => ?_)
        · refine lv_iinc (k := 5) (v := nI (k + 1)) (lv' := [(6, .int (nI (k + 1))), (0, .ref B0), (1, .int (nI i5)), (2, .int (nI i12)), (3, .ref (B0 + 11 + 2 * i5)), (4, .ref (B0 + 11 + 2 * i12)), (5, .int (nI a))]) hx hb dX2_alone_55 hl rfl (nI_add k 1) (by decide) rfl (fun ls hl => ?_)
          refine lv_goto (tgt := 19) hx hb dX2_alone_58 (by decide) ?_
          refine ih (k + 1, a) _ ls H locs (by first | omega | (dsimp only; omega)) ?_ (lv_sub hl [1, 2, 3, 4, 5, 0, 6] rfl) hI
          exact ⟨rfl, by omega, by rw [zct_f (fun z => z.2 hq25), ha]⟩
        · refine lv_iinc (k := 6) (v := nI (a + 1)) (lv' := [(5, .int (nI (a + 1))), (0, .ref B0), (1, .int (nI i5)), (2, .int (nI i12)), (3, .ref (B0 + 11 + 2 * i5)), (4, .ref (B0 + 11 + 2 * i12)), (6, .int (nI k))]) hx hb dX2_alone_52 hl rfl (nI_add a 1) (by decide) rfl (fun ls hl => ?_)
          refine lv_iinc (k := 6) (v := nI (k + 1)) (lv' := [(6, .int (nI (k + 1))), (5, .int (nI (a + 1))), (0, .ref B0), (1, .int (nI i5)), (2, .int (nI i12)), (3, .ref (B0 + 11 + 2 * i5)), (4, .ref (B0 + 11 + 2 * i12))]) hx hb dX2_alone_55 hl rfl (nI_add k 1) (by decide) rfl (fun ls hl => ?_)
          refine lv_goto (tgt := 19) hx hb dX2_alone_58 (by decide) ?_
          refine ih (k + 1, a + 1) _ ls H locs (by first | omega | (dsimp only; omega)) ?_ (lv_sub hl [2, 3, 4, 5, 6, 0, 1] rfl) hI
          exact ⟨rfl, by omega, by rw [zct_t ⟨hq21, hq25⟩, ha]⟩

set_option maxHeartbeats 4000000 in
set_option maxRecDepth 100000 in
theorem c_X2_fill (l : Launch) (hl0 : l.stackTraces = false) (G : zK) (B0 : Nat) (F : zM) (σ : Sg) (zp0 zp1 zp2 zp3 : Int32) (hC : CS G B0 F σ) : vx_Met l yX2_fill (Cond.code yX2_fill cX2_fill 8 (some FieldType.int) :: zW) (zRm 7 112 3 18) (va_Pc [.ref B0, .int zp0, .int zp1, .int zp2, .int zp3] (zPre G B0 F)) (zQi G B0 (fun r' F' => oA_fill σ zp0 zp1 zp2 zp3 ∧ oB_fill σ zp0 zp1 zp2 zp3 ∧ oC_fill σ zp0 zp1 zp2 zp3 ∧ r' = rr_fill σ zp0 zp1 zp2 zp3 ∧ CS G B0 F' (ss_fill σ zp0 zp1 zp2 zp3) ∧ zCf B0 F F')) (zXC G B0 F (fun E => zPX zEI "" "" (oA_fill σ zp0 zp1 zp2 zp3) (oB_fill σ zp0 zp1 zp2 zp3) (oC_fill σ zp0 zp1 zp2 zp3) E)) 3 18 (zA B0) := by
  refine z_ofx (own := RX2) (by decide) rfl (Nat.le_of_ble_eq_true rfl) ?_
  intro p e s m below meth c ls hx hb hr hml hown hlocks hout hts hl hI
  have hl : lv_has ls 8 [(0, .ref B0), (1, .int zp0), (2, .int zp1), (3, .int zp2), (4, .int zp3)] := hl
  obtain ⟨y01, ⟨fa1, y11, e11⟩, ⟨fb1, y21, e21⟩, ⟨fc1, y31, e31⟩, ⟨n41, t41, y41⟩, ⟨n61, t61, y61⟩, ⟨n81, t81, y81⟩, ⟨fd1, y101⟩, yT1, yP1⟩ := id hC
  refine lv_aload_n hx hb dX2_fill_0 rfl (lv_at hl 0 rfl) ?_
  refine lv_iload_n hx hb dX2_fill_1 rfl (lv_at hl 1 rfl) ?_
  refine z_xcallr hI (z_xV (As := [.int zp0]) (rest := []) ⟨hx, hb, hml, hown, hts⟩ hI y01 rfl (c_X2_textAt l hl0 G B0 F σ zp0 hC) (z_cwV vX2_textAt hts q71 ⟨Nat.le_of_ble_eq_true rfl, Nat.le_of_ble_eq_true rfl⟩) rfl hl.1 rfl (lv_room (Nat.le_of_ble_eq_true rfl)) dX2_fill_2 ⟨Nat.le_of_ble_eq_true rfl, Nat.le_of_ble_eq_true rfl⟩) (z_out hout hlocks (fun E hE => Or.inl ⟨hE.1, fun q => hE.2 (by first | exact q.1 | (simp only [oA_fill, oB_fill, oC_fill, rr_fill, ss_fill] at q; exact q.1))⟩) (Nat.le_of_ble_eq_true rfl) (Nat.le_of_ble_eq_true rfl)) (fun r3 F2 H locs hp4 hI => ?_)
  obtain ⟨rfl, i5, hi6, rfl, rfl⟩ := hp4
  have hix7 : ix (nI i5) = i5 := ix_nI (by omega)
  have hl : lv_has ls 8 [(0, .ref B0), (1, .int (nI i5)), (2, .int zp1), (3, .int zp2), (4, .int zp3)] := hl
  have hx8 := yT1 i5 hi6
  obtain ⟨xnhx8, xrhx8, fhx8, xwhx8, xfhx8⟩ := id hx8
  refine lv_astore (lv' := [(5, .ref (B0 + 11 + 2 * i5)), (0, .ref B0), (1, .int (nI i5)), (2, .int zp1), (3, .int zp2), (4, .int zp3)]) hx hb dX2_fill_5 hl (by decide) rfl (fun ls hl => ?_)
  refine lv_aload hx hb dX2_fill_7 (lv_at hl 0 rfl) ?_
  refine lv_iload_n hx hb dX2_fill_9 rfl (lv_at hl 3 rfl) ?_
  refine lv_iload_n hx hb dX2_fill_10 rfl (lv_at hl 4 rfl) ?_
  refine z_xcallv hI (z_xS (As := [.ref (B0 + 11 + 2 * i5), .int zp1, .int zp2]) (rest := []) ⟨hx, hb, hml, hown, hts⟩ hI (c_X2_requirePart l hl0 G B0 F (B0 + 11 + 2 * i5) (B0 + 12 + 2 * i5) 60 (sn σ i5) (st σ i5) zp1 zp2 ⟨xnhx8, xrhx8, fhx8, xwhx8, xfhx8⟩ (by decide)) (z_cwS vX2_requirePart hts q221 ⟨Nat.le_of_ble_eq_true rfl, Nat.le_of_ble_eq_true rfl⟩) rfl hl.1 rfl (lv_room (Nat.le_of_ble_eq_true rfl)) dX2_fill_11 ⟨Nat.le_of_ble_eq_true rfl, Nat.le_of_ble_eq_true rfl⟩) (z_out hout hlocks (fun E hE => Or.inl ⟨hE.1, fun q => hE.2 (by first | exact q.2.1 | (simp only [oA_fill, oB_fill, oC_fill, rr_fill, ss_fill, hix7] at q; exact q.2.1))⟩) (Nat.le_of_ble_eq_true rfl) (Nat.le_of_ble_eq_true rfl)) (fun F9 H locs hp11 hI => ?_)
  obtain ⟨rfl, a12, b13, hab14, hbn15, rfl, rfl⟩ := hp11
  have hix16 : ix (nI a12) = a12 := ix_nI (by omega)
  have hix17 : ix (nI b13) = b13 := ix_nI (by omega)
  have hl : lv_has ls 8 [(5, .ref (B0 + 11 + 2 * i5)), (0, .ref B0), (1, .int (nI i5)), (2, .int (nI a12)), (3, .int (nI b13)), (4, .int zp3)] := hl
  refine lv_iload hx hb dX2_fill_14 (lv_at hl 5 rfl) ?_
  refine z_xcallv hI (z_xS (As := [.int zp3]) (rest := []) ⟨hx, hb, hml, hown, hts⟩ hI (c_X2_requireWord l hl0 G B0 F zp3) (z_cwS vX2_requireWord hts q145 ⟨Nat.le_of_ble_eq_true rfl, Nat.le_of_ble_eq_true rfl⟩) rfl hl.1 rfl (lv_room (Nat.le_of_ble_eq_true rfl)) dX2_fill_16 ⟨Nat.le_of_ble_eq_true rfl, Nat.le_of_ble_eq_true rfl⟩) (z_out hout hlocks (fun E hE => Or.inl ⟨hE.1, fun q => hE.2 (by first | exact q.2.2 | (simp only [oA_fill, oB_fill, oC_fill, rr_fill, ss_fill, hix7, hix16, hix17] at q; exact q.2.2))⟩) (Nat.le_of_ble_eq_true rfl) (Nat.le_of_ble_eq_true rfl)) (fun F18 H locs hp20 hI => ?_)
  obtain ⟨rfl, hp20⟩ := hp20
  refine lv_iconst (v := nI 0) hx hb dX2_fill_19 (by decide) ?_
  refine lv_istore (lv' := [(6, .int (nI 0)), (5, .ref (B0 + 11 + 2 * i5)), (0, .ref B0), (1, .int (nI i5)), (2, .int (nI a12)), (3, .int (nI b13)), (4, .int zp3)]) hx hb dX2_fill_20 hl (by decide) rfl (fun ls hl => ?_)
  refine lv_iload_n hx hb dX2_fill_22 rfl (lv_at hl 4 rfl) ?_
  refine lv_istore (lv' := [(7, .int (nI a12)), (6, .int (nI 0)), (5, .ref (B0 + 11 + 2 * i5)), (0, .ref B0), (1, .int (nI i5)), (2, .int (nI a12)), (3, .int (nI b13)), (4, .int zp3)]) hx hb dX2_fill_23 hl (by decide) rfl (fun ls hl => ?_)
  refine z_loop (σ := Nat × Nat) (fun xx : Nat × Nat => match xx with | (k, b) => [(0, .ref B0), (1, .int (nI i5)), (2, .int (nI a12)), (3, .int (nI b13)), (4, .int zp3), (5, .ref (B0 + 11 + 2 * i5)), (7, .int (nI k)), (6, .int (nI b))]) (fun (xx : Nat × Nat) (Fx : zM) => match xx with | (k, b) => RA G 1 Fx (B0 + 11 + 2 * i5) (B0 + 12 + 2 * i5) 60 (sn σ i5) (fun j => if a12 ≤ j ∧ j < k then zp3 else st σ i5 j) ∧ zSm F Fx (B0 + 11 + 2 * i5) (B0 + 12 + 2 * i5) ∧ a12 ≤ k ∧ k ≤ b13 ∧ b = fild (st σ i5) zp3 a12 (k - a12)) (fun xx : Nat × Nat => match xx with | (k, b) => b13 - k) (a12, 0) (nL := 8) (st := []) ?_ (lv_sub hl [3, 4, 5, 6, 7, 2, 0, 1] rfl) hI ?_
  · refine ⟨RA.cg ⟨xnhx8, xrhx8, fhx8, xwhx8, xfhx8⟩ (fun j hj => (if_neg (fun q => by omega)).symm), zSm.rf, Nat.le_refl _, by omega, ?_⟩
    rw [Nat.sub_self]; rfl
  · intro xx F21 ls H locs hi hl hI ih
    obtain ⟨k, b⟩ := xx
    have hl : lv_has ls 8 [(0, .ref B0), (1, .int (nI i5)), (2, .int (nI a12)), (3, .int (nI b13)), (4, .int zp3), (5, .ref (B0 + 11 + 2 * i5)), (7, .int (nI k)), (6, .int (nI b))] := hl
    obtain ⟨ha0, hs0, hk, hk2, hbf⟩ := hi
    obtain ⟨xn_, xr_, f_, xw_, xf_⟩ := id ha0
    have hfl := fild_le (st σ i5) zp3 a12 (k - a12)
    refine lv_iload hx hb dX2_fill_25 (lv_at hl 6 rfl) ?_
    refine lv_iload_n hx hb dX2_fill_27 rfl (lv_at hl 3 rfl) ?_
    refine z_icmp_ge (tgt := 63) (a := k) (b := b13) hx hb dX2_fill_28 (by decide) (by omega) (fun hq22 => ?_) (fun hq22 => ?_)
    · refine lv_iload hx hb dX2_fill_63 (lv_at hl 7 rfl) ?_
      refine vx_ret (z_ri hx hb hr hlocks hI ?_ (Nat.le_of_ble_eq_true rfl) (Nat.le_of_ble_eq_true rfl) dX2_fill_65)
      have hkn : k = b13 := by omega
      refine ⟨_, rfl, (by simp only [oA_fill, oB_fill, oC_fill, rr_fill, ss_fill, hix7, hix16, hix17] <;> exact ⟨⟨i5, hi6, rfl⟩, ⟨a12, b13, hab14, hbn15, rfl, rfl⟩, hp20⟩), (by simp only [oA_fill, oB_fill, oC_fill, rr_fill, ss_fill, hix7, hix16, hix17] <;> exact trivial), (by simp only [oA_fill, oB_fill, oC_fill, rr_fill, ss_fill, hix7, hix16, hix17] <;> exact trivial), (by simp only [oA_fill, oB_fill, oC_fill, rr_fill, ss_fill, hix7, hix16, hix17] <;> (rw [hbf, hkn])), (by simp only [oA_fill, oB_fill, oC_fill, rr_fill, ss_fill, hix7, hix16, hix17] <;> exact CS.setT hC hi6 hs0 (hkn ▸ ha0)), zCf.sm hs0 (by omega) (by omega)⟩
    · refine lv_aload hx hb dX2_fill_31 (lv_at hl 5 rfl) ?_
      refine z_getN hx hb hts hown zlX1 rfl 0 (by decide) (List.mem_of_getElem? (i := 1) rfl) rfl hI xr_ rfl dX2_fill_33 ?_
      refine lv_iload hx hb dX2_fill_36 (lv_at hl 6 rfl) ?_
      refine z_ild (k := k) (v := st σ i5 k) hx hb hI xw_ (by omega) (by omega) ((xf_ k (by omega)).trans (if_neg (fun q => absurd q.2 (Nat.lt_irrefl _)))) dX2_fill_38 ?_
      refine lv_iload hx hb dX2_fill_39 (lv_at hl 4 rfl) ?_
      refine lv_icmp_eq (tgt := 57) hx hb dX2_fill_41 (by decide) (fun hq23 => ?_) (fun hq23 => ?_)
      · refine lv_iinc (k := 6) (v := nI (k + 1)) (lv' := [(7, .int (nI (k + 1))), (0, .ref B0), (1, .int (nI i5)), (2, .int (nI a12)), (3, .int (nI b13)), (4, .int zp3), (5, .ref (B0 + 11 + 2 * i5)), (6, .int (nI b))]) hx hb dX2_fill_57 hl rfl (nI_add k 1) (by decide) rfl (fun ls hl => ?_)
        refine lv_goto (tgt := 25) hx hb dX2_fill_60 (by decide) ?_
        refine ih (k + 1, b) _ ls H locs (by first | omega | (dsimp only; omega)) ?_ (lv_sub hl [1, 2, 3, 4, 5, 6, 0, 7] rfl) hI
        refine ⟨RA.cg ha0 (fun j hj => ?_), hs0, by omega, by omega, ?_⟩
        · by_cases e : j = k
          · subst e; rw [if_neg (fun z => absurd z.2 (Nat.lt_irrefl _)), if_pos ⟨by omega, Nat.lt_succ_self _⟩, hq23]
          · by_cases e2 : a12 ≤ j ∧ j < k
            · rw [if_pos e2, if_pos ⟨e2.1, by omega⟩]
            · rw [if_neg e2, if_neg (fun z => e2 ⟨z.1, by omega⟩)]
        · rw [show k + 1 - a12 = (k - a12) + 1 by omega]; simp only [fild]; rw [show a12 + (k - a12) = k by omega]; rw [if_pos hq23, hbf, Nat.add_zero]
      · refine lv_aload hx hb dX2_fill_44 (lv_at hl 5 rfl) ?_
        refine z_getN hx hb hts hown zlX1 rfl 0 (by decide) (List.mem_of_getElem? (i := 1) rfl) rfl hI xr_ rfl dX2_fill_46 ?_
        refine lv_iload hx hb dX2_fill_49 (lv_at hl 6 rfl) ?_
        refine lv_iload hx hb dX2_fill_51 (lv_at hl 4 rfl) ?_
        refine z_ist (k := k) hx hb hI xw_ (by omega) (by omega) dX2_fill_53 (fun H locs F24 hw25 ho26 hI => ?_)
        have hc27 : F24 (B0 + 11 + 2 * i5) = some (zO 1 [.ref (B0 + 12 + 2 * i5), .int (nI (sn σ i5))]) := (ho26 _ (zne xr_ xw_ (fun q => by cases q))).trans xr_
        refine lv_iinc (k := 7) (v := nI (b + 1)) (lv' := [(6, .int (nI (b + 1))), (0, .ref B0), (1, .int (nI i5)), (2, .int (nI a12)), (3, .int (nI b13)), (4, .int zp3), (5, .ref (B0 + 11 + 2 * i5)), (7, .int (nI k))]) hx hb dX2_fill_54 hl rfl (nI_add b 1) (by decide) rfl (fun ls hl => ?_)
        refine lv_iinc (k := 7) (v := nI (k + 1)) (lv' := [(7, .int (nI (k + 1))), (6, .int (nI (b + 1))), (0, .ref B0), (1, .int (nI i5)), (2, .int (nI a12)), (3, .int (nI b13)), (4, .int zp3), (5, .ref (B0 + 11 + 2 * i5))]) hx hb dX2_fill_57 hl rfl (nI_add k 1) (by decide) rfl (fun ls hl => ?_)
        refine lv_goto (tgt := 25) hx hb dX2_fill_60 (by decide) ?_
        refine ih (k + 1, b + 1) _ ls H locs (by first | omega | (dsimp only; omega)) ?_ (lv_sub hl [2, 3, 4, 5, 6, 7, 0, 1] rfl) hI
        refine ⟨⟨xn_, hc27, _, hw25, fun j hj => ?_⟩, (zSm.tr hs0 (zSm.r ho26)), by omega, by omega, ?_⟩
        · by_cases e : j = k
          · subst e; rw [pk_us]; dsimp only; rw [if_pos ⟨by omega, Nat.lt_succ_self _⟩]
          · rw [pk_un e, xf_ j hj]; dsimp only
            by_cases e2 : a12 ≤ j ∧ j < k
            · rw [if_pos e2, if_pos ⟨e2.1, by omega⟩]
            · rw [if_neg e2, if_neg (fun z => e2 ⟨z.1, by omega⟩)]
        · rw [show k + 1 - a12 = (k - a12) + 1 by omega]; simp only [fild]; rw [show a12 + (k - a12) = k by omega]; rw [if_neg hq23, hbf]

set_option maxHeartbeats 4000000 in
set_option maxRecDepth 100000 in
theorem c_X2_addMany (l : Launch) (hl0 : l.stackTraces = false) (G : zK) (B0 : Nat) (F : zM) (σ : Sg) (zp0 zp1 zp2 : Int32) (hC : CS G B0 F σ) : vx_Met l yX2_addMany (Cond.code yX2_addMany cX2_addMany 6 (some FieldType.int) :: zW) (zRm 7 111 4 24) (va_Pc [.ref B0, .int zp0, .int zp1, .int zp2] (zPre G B0 F)) (zQi G B0 (fun r' F' => oA_addMany σ zp0 zp1 zp2 ∧ oB_addMany σ zp0 zp1 zp2 ∧ oC_addMany σ zp0 zp1 zp2 ∧ r' = rr_addMany σ zp0 zp1 zp2 ∧ CS G B0 F' (ss_addMany σ zp0 zp1 zp2) ∧ zCf B0 F F')) (zXC G B0 F (fun E => zPX zEI zEA zES (oA_addMany σ zp0 zp1 zp2) (oB_addMany σ zp0 zp1 zp2) (oC_addMany σ zp0 zp1 zp2) E)) 4 24 (zA B0) := by
  refine z_ofx (own := RX2) (by decide) rfl (Nat.le_of_ble_eq_true rfl) ?_
  intro p e s m below meth c ls hx hb hr hml hown hlocks hout hts hl hI
  have hl : lv_has ls 6 [(0, .ref B0), (1, .int zp0), (2, .int zp1), (3, .int zp2)] := hl
  obtain ⟨y01, ⟨fa1, y11, e11⟩, ⟨fb1, y21, e21⟩, ⟨fc1, y31, e31⟩, ⟨n41, t41, y41⟩, ⟨n61, t61, y61⟩, ⟨n81, t81, y81⟩, ⟨fd1, y101⟩, yT1, yP1⟩ := id hC
  refine lv_aload_n hx hb dX2_addMany_0 rfl (lv_at hl 0 rfl) ?_
  refine lv_iload_n hx hb dX2_addMany_1 rfl (lv_at hl 1 rfl) ?_
  refine z_xcallr hI (z_xV (As := [.int zp0]) (rest := []) ⟨hx, hb, hml, hown, hts⟩ hI y01 rfl (c_X2_textAt l hl0 G B0 F σ zp0 hC) (z_cwV vX2_textAt hts q71 ⟨Nat.le_of_ble_eq_true rfl, Nat.le_of_ble_eq_true rfl⟩) rfl hl.1 rfl (lv_room (Nat.le_of_ble_eq_true rfl)) dX2_addMany_2 ⟨Nat.le_of_ble_eq_true rfl, Nat.le_of_ble_eq_true rfl⟩) (z_out hout hlocks (fun E hE => Or.inl ⟨hE.1, fun q => hE.2 (by first | exact q.1 | (simp only [oA_addMany, oB_addMany, oC_addMany, rr_addMany, ss_addMany] at q; exact q.1))⟩) (Nat.le_of_ble_eq_true rfl) (Nat.le_of_ble_eq_true rfl)) (fun r3 F2 H locs hp4 hI => ?_)
  obtain ⟨rfl, i5, hi6, rfl, rfl⟩ := hp4
  have hix7 : ix (nI i5) = i5 := ix_nI (by omega)
  have hl : lv_has ls 6 [(0, .ref B0), (1, .int (nI i5)), (2, .int zp1), (3, .int zp2)] := hl
  have hx8 := yT1 i5 hi6
  obtain ⟨xnhx8, xrhx8, fhx8, xwhx8, xfhx8⟩ := id hx8
  refine lv_astore (lv' := [(4, .ref (B0 + 11 + 2 * i5)), (0, .ref B0), (1, .int (nI i5)), (2, .int zp1), (3, .int zp2)]) hx hb dX2_addMany_5 hl (by decide) rfl (fun ls hl => ?_)
  refine lv_iload_n hx hb dX2_addMany_7 rfl (lv_at hl 3 rfl) ?_
  refine z_xcallv hI (z_xS (As := [.int zp1]) (rest := []) ⟨hx, hb, hml, hown, hts⟩ hI (c_X2_requireWord l hl0 G B0 F zp1) (z_cwS vX2_requireWord hts q145 ⟨Nat.le_of_ble_eq_true rfl, Nat.le_of_ble_eq_true rfl⟩) rfl hl.1 rfl (lv_room (Nat.le_of_ble_eq_true rfl)) dX2_addMany_8 ⟨Nat.le_of_ble_eq_true rfl, Nat.le_of_ble_eq_true rfl⟩) (z_out hout hlocks (fun E hE => Or.inl ⟨hE.1, fun q => hE.2 (by first | exact q.2 | (simp only [oA_addMany, oB_addMany, oC_addMany, rr_addMany, ss_addMany, hix7] at q; exact q.2))⟩) (Nat.le_of_ble_eq_true rfl) (Nat.le_of_ble_eq_true rfl)) (fun F9 H locs hp11 hI => ?_)
  obtain ⟨rfl, hp11⟩ := hp11
  refine lv_iload_n hx hb dX2_addMany_11 rfl (lv_at hl 4 rfl) ?_
  refine z_xcallv hI (z_xS (As := [.int zp2]) (rest := []) ⟨hx, hb, hml, hown, hts⟩ hI (c_X2_requireNotNegative l hl0 G B0 F zp2) (z_cwS vX2_requireNotNegative hts q180 ⟨Nat.le_of_ble_eq_true rfl, Nat.le_of_ble_eq_true rfl⟩) rfl hl.1 rfl (lv_room (Nat.le_of_ble_eq_true rfl)) dX2_addMany_12 ⟨Nat.le_of_ble_eq_true rfl, Nat.le_of_ble_eq_true rfl⟩) (z_out hout hlocks (fun E hE => Or.inr (Or.inl ⟨hE.1, (by simp only [oA_addMany, oB_addMany, oC_addMany, rr_addMany, ss_addMany, hix7] <;> exact ⟨⟨i5, hi6, rfl⟩, hp11⟩), fun q => hE.2 (by simp only [oA_addMany, oB_addMany, oC_addMany, rr_addMany, ss_addMany, hix7] at q; exact q)⟩)) (Nat.le_of_ble_eq_true rfl) (Nat.le_of_ble_eq_true rfl)) (fun F12 H locs hp14 hI => ?_)
  obtain ⟨rfl, hp14⟩ := hp14
  have hn9 := hp14
  obtain ⟨mm, hmm, rfl⟩ := nI_of (show ¬ zp2 < 0 from fun q => by rw [Int32.lt_iff_toInt_lt] at q; rw [Int32.le_iff_toInt_le] at hp14; omega)
  have hix15 : ix (nI mm) = mm := ix_nI (by omega)
  have hl : lv_has ls 6 [(4, .ref (B0 + 11 + 2 * i5)), (0, .ref B0), (1, .int (nI i5)), (2, .int zp1), (3, .int (nI mm))] := hl
  refine lv_aload hx hb dX2_addMany_15 (lv_at hl 0 rfl) ?_
  refine lv_iload_n hx hb dX2_addMany_17 rfl (lv_at hl 4 rfl) ?_
  refine z_xcallv hI (z_xS (As := [.ref (B0 + 11 + 2 * i5), .int (nI mm)]) (rest := []) ⟨hx, hb, hml, hown, hts⟩ hI (c_X2_requireRoom l hl0 G B0 F (B0 + 11 + 2 * i5) (B0 + 12 + 2 * i5) 60 (sn σ i5) (st σ i5) (nI mm) ⟨xnhx8, xrhx8, fhx8, xwhx8, xfhx8⟩ (by decide)) (z_cwS vX2_requireRoom hts q149 ⟨Nat.le_of_ble_eq_true rfl, Nat.le_of_ble_eq_true rfl⟩) rfl hl.1 rfl (lv_room (Nat.le_of_ble_eq_true rfl)) dX2_addMany_18 ⟨Nat.le_of_ble_eq_true rfl, Nat.le_of_ble_eq_true rfl⟩) (z_out hout hlocks (fun E hE => Or.inr (Or.inr ⟨hE.1, (by simp only [oA_addMany, oB_addMany, oC_addMany, rr_addMany, ss_addMany, hix7, hix15] <;> exact ⟨⟨i5, hi6, rfl⟩, hp11⟩), (by simp only [oA_addMany, oB_addMany, oC_addMany, rr_addMany, ss_addMany, hix7, hix15] <;> exact hn9), fun q => hE.2 (by simp only [oA_addMany, oB_addMany, oC_addMany, rr_addMany, ss_addMany, hix7, hix15] at q; exact q)⟩)) (Nat.le_of_ble_eq_true rfl) (Nat.le_of_ble_eq_true rfl)) (fun F16 H locs hp18 hI => ?_)
  obtain ⟨rfl, hrm⟩ := hp18
  have hrn := (nI_leI (by omega) (by omega)).mp hrm
  refine lv_iconst (v := nI 0) hx hb dX2_addMany_21 (by decide) ?_
  refine lv_istore (lv' := [(5, .int (nI 0)), (4, .ref (B0 + 11 + 2 * i5)), (0, .ref B0), (1, .int (nI i5)), (2, .int zp1), (3, .int (nI mm))]) hx hb dX2_addMany_22 hl (by decide) rfl (fun ls hl => ?_)
  refine z_loop (σ := Nat) (fun k : Nat => [(0, .ref B0), (1, .int (nI i5)), (2, .int zp1), (3, .int (nI mm)), (4, .ref (B0 + 11 + 2 * i5)), (5, .int (nI k))]) (fun (k : Nat) (Fx : zM) => RA G 1 Fx (B0 + 11 + 2 * i5) (B0 + 12 + 2 * i5) 60 (sn σ i5 + k) (catt (st σ i5) (sn σ i5) (fun _ => zp1)) ∧ zSm F Fx (B0 + 11 + 2 * i5) (B0 + 12 + 2 * i5) ∧ k ≤ mm) (fun k : Nat => mm - k) 0 (nL := 6) (st := []) ?_ (lv_sub hl [2, 3, 4, 5, 1, 0] rfl) hI ?_
  · exact ⟨RA.cg ⟨xnhx8, xrhx8, fhx8, xwhx8, xfhx8⟩ (fun j hj => (catt_lo (by omega)).symm), zSm.rf, Nat.zero_le _⟩
  · intro k F19 ls H locs hi hl hI ih
    have hl : lv_has ls 6 [(0, .ref B0), (1, .int (nI i5)), (2, .int zp1), (3, .int (nI mm)), (4, .ref (B0 + 11 + 2 * i5)), (5, .int (nI k))] := hl
    obtain ⟨ha0, hs0, hk⟩ := hi
    obtain ⟨xn_, xr_, f_, xw_, xf_⟩ := id ha0
    refine lv_iload hx hb dX2_addMany_24 (lv_at hl 5 rfl) ?_
    refine lv_iload_n hx hb dX2_addMany_26 rfl (lv_at hl 3 rfl) ?_
    refine z_icmp_ge (tgt := 42) (a := k) (b := mm) hx hb dX2_addMany_27 (by decide) (by omega) (fun hq20 => ?_) (fun hq20 => ?_)
    · refine lv_aload hx hb dX2_addMany_42 (lv_at hl 4 rfl) ?_
      refine z_getN hx hb hts hown zlX1 rfl 1 (by decide) (List.mem_of_getElem? (i := 0) rfl) rfl hI xr_ rfl dX2_addMany_44 ?_
      refine vx_ret (z_ri hx hb hr hlocks hI ?_ (Nat.le_of_ble_eq_true rfl) (Nat.le_of_ble_eq_true rfl) dX2_addMany_47)
      have hkn : k = mm := by omega
      refine ⟨_, rfl, (by simp only [oA_addMany, oB_addMany, oC_addMany, rr_addMany, ss_addMany, hix7, hix15] <;> exact ⟨⟨i5, hi6, rfl⟩, hp11⟩), (by simp only [oA_addMany, oB_addMany, oC_addMany, rr_addMany, ss_addMany, hix7, hix15] <;> exact hn9), (by simp only [oA_addMany, oB_addMany, oC_addMany, rr_addMany, ss_addMany, hix7, hix15] <;> exact hrm), (by simp only [oA_addMany, oB_addMany, oC_addMany, rr_addMany, ss_addMany, hix7, hix15] <;> (rw [hkn])), (by simp only [oA_addMany, oB_addMany, oC_addMany, rr_addMany, ss_addMany, hix7, hix15] <;> exact CS.setT hC hi6 hs0 (hkn ▸ ha0)), zCf.sm hs0 (by omega) (by omega)⟩
    · refine lv_aload hx hb dX2_addMany_30 (lv_at hl 4 rfl) ?_
      refine lv_iload_n hx hb dX2_addMany_32 rfl (lv_at hl 2 rfl) ?_
      refine z_callv hI (z_V (As := [.int zp1]) (rest := []) ⟨hx, hb, hml, hown, hts⟩ hI xr_ rfl (c_X1_append l G B0 F19 (B0 + 11 + 2 * i5) (B0 + 12 + 2 * i5) 60 (sn σ i5 + k) (catt (st σ i5) (sn σ i5) (fun _ => zp1)) zp1 ⟨xn_, xr_, f_, xw_, xf_⟩ (by omega) (by omega)) (z_cwV vX1_append hts q168 ⟨Nat.le_of_ble_eq_true rfl, Nat.le_of_ble_eq_true rfl⟩) rfl hl.1 rfl (lv_room (Nat.le_of_ble_eq_true rfl)) dX2_addMany_33 ⟨Nat.le_of_ble_eq_true rfl, Nat.le_of_ble_eq_true rfl⟩) (fun F21 H locs hp23 hI => ?_)
      obtain ⟨ha24, hs24⟩ := hp23
      obtain ⟨xn_24, xr_24, f_24, xw_24, xf_24⟩ := id ha24
      refine lv_iinc (k := 5) (v := nI (k + 1)) (lv' := [(5, .int (nI (k + 1))), (0, .ref B0), (1, .int (nI i5)), (2, .int zp1), (3, .int (nI mm)), (4, .ref (B0 + 11 + 2 * i5))]) hx hb dX2_addMany_36 hl rfl (nI_add k 1) (by decide) rfl (fun ls hl => ?_)
      refine lv_goto (tgt := 24) hx hb dX2_addMany_39 (by decide) ?_
      refine ih (k + 1) _ ls H locs (by first | omega | (dsimp only; omega)) ?_ (lv_sub hl [1, 2, 3, 4, 5, 0] rfl) hI
      refine ⟨RA.cg ha24 (fun j hj => ?_), (zSm.tr hs0 hs24), by omega⟩
      by_cases q : j = sn σ i5 + k
      · subst q; rw [pk_us, catt_hi]
      · rw [pk_un q]

