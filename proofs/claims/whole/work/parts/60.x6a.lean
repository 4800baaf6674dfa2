def oA_meanWord (σ : Sg) (zp0 : Int32) : Prop := okT zp0
def oB_meanWord (σ : Sg) (zp0 : Int32) : Prop := True
def oC_meanWord (σ : Sg) (zp0 : Int32) : Prop := True
noncomputable def rr_meanWord (σ : Sg) (zp0 : Int32) : UInt64 := mnw (st σ (ix zp0)) (sn σ (ix zp0))
noncomputable def ss_meanWord (σ : Sg) (zp0 : Int32) : Sg := σ
def oA_share (σ : Sg) (zp0 zp1 : Int32) : Prop := okT zp0 ∧ okW zp1
def oB_share (σ : Sg) (zp0 zp1 : Int32) : Prop := True
def oC_share (σ : Sg) (zp0 zp1 : Int32) : Prop := True
noncomputable def rr_share (σ : Sg) (zp0 zp1 : Int32) : UInt32 := shr (st σ (ix zp0)) (sn σ (ix zp0)) zp1
noncomputable def ss_share (σ : Sg) (zp0 zp1 : Int32) : Sg := σ
set_option maxHeartbeats 4000000 in
set_option maxRecDepth 100000 in
theorem c_X2_meanWord (l : Launch) (hl0 : l.stackTraces = false) (G : zK) (B0 : Nat) (F : zM) (σ : Sg) (zp0 : Int32) (hC : CS G B0 F σ) : vx_Met l yX2_meanWord (Cond.code yX2_meanWord cX2_meanWord 5 (some FieldType.double) :: zW) (zRm 7 111 1 6) (va_Pc [.ref B0, .int zp0] (zPre G B0 F)) (zQd G B0 (fun r' F' => oA_meanWord σ zp0 ∧ oB_meanWord σ zp0 ∧ oC_meanWord σ zp0 ∧ r' = rr_meanWord σ zp0 ∧ CS G B0 F' (ss_meanWord σ zp0) ∧ zCf B0 F F')) (zXC G B0 F (fun E => zPX zEI "" "" (oA_meanWord σ zp0) (oB_meanWord σ zp0) (oC_meanWord σ zp0) E)) 1 6 (zA B0) := by
  refine z_ofx (own := RX2) (by decide) rfl (Nat.le_of_ble_eq_true rfl) ?_
  intro p e s m below meth c ls hx hb hr hml hown hlocks hout hts hl hI
  have hl : lv_has ls 5 [(0, .ref B0), (1, .int zp0)] := hl
  obtain ⟨y01, ⟨fa1, y11, e11⟩, ⟨fb1, y21, e21⟩, ⟨fc1, y31, e31⟩, ⟨n41, t41, y41⟩, ⟨n61, t61, y61⟩, ⟨n81, t81, y81⟩, ⟨fd1, y101⟩, yT1, yP1⟩ := id hC
  refine lv_aload_n hx hb dX2_meanWord_0 rfl (lv_at hl 0 rfl) ?_
  refine lv_iload_n hx hb dX2_meanWord_1 rfl (lv_at hl 1 rfl) ?_
  refine z_xcallr hI (z_xV (As := [.int zp0]) (rest := []) ⟨hx, hb, hml, hown, hts⟩ hI y01 rfl (c_X2_textAt l hl0 G B0 F σ zp0 hC) (z_cwV vX2_textAt hts q71 ⟨Nat.le_of_ble_eq_true rfl, Nat.le_of_ble_eq_true rfl⟩) rfl hl.1 rfl (lv_room (Nat.le_of_ble_eq_true rfl)) dX2_meanWord_2 ⟨Nat.le_of_ble_eq_true rfl, Nat.le_of_ble_eq_true rfl⟩) (z_out hout hlocks (fun E hE => Or.inl ⟨hE.1, fun q => hE.2 (by first | exact q | (simp only [oA_meanWord, oB_meanWord, oC_meanWord, rr_meanWord, ss_meanWord] at q; exact q))⟩) (Nat.le_of_ble_eq_true rfl) (Nat.le_of_ble_eq_true rfl)) (fun r3 F2 H locs hp4 hI => ?_)
  obtain ⟨rfl, i5, hi6, rfl, rfl⟩ := hp4
  have hix7 : ix (nI i5) = i5 := ix_nI (by omega)
  have hl : lv_has ls 5 [(0, .ref B0), (1, .int (nI i5))] := hl
  have hx8 := yT1 i5 hi6
  obtain ⟨xnhx8, xrhx8, fhx8, xwhx8, xfhx8⟩ := id hx8
  refine lv_astore_n (lv' := [(2, .ref (B0 + 11 + 2 * i5)), (0, .ref B0), (1, .int (nI i5))]) hx hb dX2_meanWord_5 rfl hl (by decide) rfl (fun ls hl => ?_)
  refine lv_aload_n hx hb dX2_meanWord_6 rfl (lv_at hl 0 rfl) ?_
  refine z_getN hx hb hts hown zlX1 rfl 1 (by decide) (List.mem_of_getElem? (i := 0) rfl) rfl hI xrhx8 rfl dX2_meanWord_7 ?_
  refine z_if_ne (tgt := 15) (a := sn σ i5) hx hb dX2_meanWord_10 (by decide) (by omega) (fun hq9 => ?_) (fun hq9 => ?_)
  · refine lv_iconst (v := nI 0) hx hb dX2_meanWord_15 (by decide) ?_
    refine lv_istore_n (lv' := [(3, .int (nI 0)), (2, .ref (B0 + 11 + 2 * i5)), (0, .ref B0), (1, .int (nI i5))]) hx hb dX2_meanWord_16 rfl hl (by decide) rfl (fun ls hl => ?_)
    refine lv_iconst (v := nI 0) hx hb dX2_meanWord_17 (by decide) ?_
    refine lv_istore (lv' := [(4, .int (nI 0)), (3, .int (nI 0)), (2, .ref (B0 + 11 + 2 * i5)), (0, .ref B0), (1, .int (nI i5))]) hx hb dX2_meanWord_18 hl (by decide) rfl (fun ls hl => ?_)
    refine z_loop (σ := Nat × Int32) (fun xx : Nat × Int32 => match xx with | (k, a) => [(0, .ref B0), (1, .int (nI i5)), (2, .ref (B0 + 11 + 2 * i5)), (4, .int (nI k)), (3, .int a)]) (fun (xx : Nat × Int32) (Fx : zM) => match xx with | (k, a) => F = Fx ∧ k ≤ sn σ i5 ∧ a = smm (st σ i5) k) (fun xx : Nat × Int32 => match xx with | (k, a) => sn σ i5 - k) (0, nI 0) (nL := 5) (st := []) ?_ (lv_sub hl [3, 4, 2, 0, 1] rfl) hI ?_
    · exact ⟨rfl, Nat.zero_le _, rfl⟩
    · intro xx F10 ls H locs hi hl hI ih
      obtain ⟨k, a⟩ := xx
      have hl : lv_has ls 5 [(0, .ref B0), (1, .int (nI i5)), (2, .ref (B0 + 11 + 2 * i5)), (4, .int (nI k)), (3, .int a)] := hl
      obtain ⟨hF, hk, ha⟩ := hi
      subst hF
      refine lv_iload hx hb dX2_meanWord_20 (lv_at hl 3 rfl) ?_
      refine lv_aload_n hx hb dX2_meanWord_22 rfl (lv_at hl 2 rfl) ?_
      refine z_getN hx hb hts hown zlX1 rfl 1 (by decide) (List.mem_of_getElem? (i := 0) rfl) rfl hI xrhx8 rfl dX2_meanWord_23 ?_
      refine z_icmp_ge (tgt := 45) (a := k) (b := sn σ i5) hx hb dX2_meanWord_26 (by decide) (by omega) (fun hq11 => ?_) (fun hq11 => ?_)
      · refine lv_iload_n hx hb dX2_meanWord_45 rfl (lv_at hl 4 rfl) ?_
        refine lv_i2d hx hb dX2_meanWord_46 ?_
        refine lv_aload_n hx hb dX2_meanWord_47 rfl (lv_at hl 2 rfl) ?_
        refine z_getN hx hb hts hown zlX1 rfl 1 (by decide) (List.mem_of_getElem? (i := 0) rfl) rfl hI xrhx8 rfl dX2_meanWord_48 ?_
        refine lv_i2d hx hb dX2_meanWord_51 ?_
        refine lv_ddiv hx hb dX2_meanWord_52 (fz_ddiv (fz_i2d _) (by omega) (by omega)) ?_
        refine vx_ret (z_rd hx hb hr hlocks hI ?_ (Nat.le_of_ble_eq_true rfl) (Nat.le_of_ble_eq_true rfl) dX2_meanWord_53)
        have hkn : k = sn σ i5 := by omega
        refine ⟨_, rfl, (by simp only [oA_meanWord, oB_meanWord, oC_meanWord, rr_meanWord, ss_meanWord, hix7] <;> exact ⟨i5, hi6, rfl⟩), (by simp only [oA_meanWord, oB_meanWord, oC_meanWord, rr_meanWord, ss_meanWord, hix7] <;> exact trivial), (by simp only [oA_meanWord, oB_meanWord, oC_meanWord, rr_meanWord, ss_meanWord, hix7] <;> exact trivial), (by simp only [oA_meanWord, oB_meanWord, oC_meanWord, rr_meanWord, ss_meanWord, hix7] <;> (unfold mnw; rw [if_neg (by omega), ha, hkn])), (by simp only [oA_meanWord, oB_meanWord, oC_meanWord, rr_meanWord, ss_meanWord, hix7] <;> exact hC), zCf.rf⟩
      · refine lv_iload_n hx hb dX2_meanWord_29 rfl (lv_at hl 4 rfl) ?_
        refine lv_aload_n hx hb dX2_meanWord_30 rfl (lv_at hl 2 rfl) ?_
        refine z_getN hx hb hts hown zlX1 rfl 0 (by decide) (List.mem_of_getElem? (i := 1) rfl) rfl hI xrhx8 rfl dX2_meanWord_31 ?_
        refine lv_iload hx hb dX2_meanWord_34 (lv_at hl 3 rfl) ?_
        refine z_ild (k := k) (v := st σ i5 k) hx hb hI xwhx8 (by omega) (by omega) (xfhx8 k (by omega)) dX2_meanWord_36 ?_
        refine lv_iadd hx hb dX2_meanWord_37 ?_
        refine lv_istore_n (lv' := [(3, .int (a + (st σ i5 k))), (0, .ref B0), (1, .int (nI i5)), (2, .ref (B0 + 11 + 2 * i5)), (4, .int (nI k))]) hx hb dX2_meanWord_38 rfl hl (by decide) rfl (fun ls hl => ?_)
        refine lv_iinc (k := 4) (v := nI (k + 1)) (lv' := [(4, .int (nI (k + 1))), (3, .int (a + (st σ i5 k))), (0, .ref B0), (1, .int (nI i5)), (2, .ref (B0 + 11 + 2 * i5))]) hx hb dX2_meanWord_39 hl rfl (nI_add k 1) (by decide) rfl (fun ls hl => ?_)
        refine lv_goto (tgt := 20) hx hb dX2_meanWord_42 (by decide) ?_
        refine ih (k + 1, a + (st σ i5 k)) _ ls H locs (by first | omega | (dsimp only; omega)) ?_ (lv_sub hl [2, 3, 4, 0, 1] rfl) hI
        exact ⟨rfl, by omega, by rw [ha]; rfl⟩
  · refine lv_dconst0 hx hb dX2_meanWord_13 ?_
    refine vx_ret (z_rd hx hb hr hlocks hI ?_ (Nat.le_of_ble_eq_true rfl) (Nat.le_of_ble_eq_true rfl) dX2_meanWord_14)
    refine ⟨_, rfl, (by simp only [oA_meanWord, oB_meanWord, oC_meanWord, rr_meanWord, ss_meanWord, hix7] <;> exact ⟨i5, hi6, rfl⟩), (by simp only [oA_meanWord, oB_meanWord, oC_meanWord, rr_meanWord, ss_meanWord, hix7] <;> exact trivial), (by simp only [oA_meanWord, oB_meanWord, oC_meanWord, rr_meanWord, ss_meanWord, hix7] <;> exact trivial), (by simp only [oA_meanWord, oB_meanWord, oC_meanWord, rr_meanWord, ss_meanWord, hix7] <;> (unfold mnw; rw [if_pos (by omega)])), (by simp only [oA_meanWord, oB_meanWord, oC_meanWord, rr_meanWord, ss_meanWord, hix7] <;> exact hC), zCf.rf⟩

set_option maxHeartbeats 4000000 in
set_option maxRecDepth 100000 in
theorem c_X2_share (l : Launch) (hl0 : l.stackTraces = false) (G : zK) (B0 : Nat) (F : zM) (σ : Sg) (zp0 zp1 : Int32) (hC : CS G B0 F σ) : vx_Met l yX2_share (Cond.code yX2_share cX2_share 4 (some FieldType.float) :: zW) (zRm 7 111 2 12) (va_Pc [.ref B0, .int zp0, .int zp1] (zPre G B0 F)) (zQf G B0 (fun r' F' => oA_share σ zp0 zp1 ∧ oB_share σ zp0 zp1 ∧ oC_share σ zp0 zp1 ∧ r' = rr_share σ zp0 zp1 ∧ CS G B0 F' (ss_share σ zp0 zp1) ∧ zCf B0 F F')) (zXC G B0 F (fun E => zPX zEI "" "" (oA_share σ zp0 zp1) (oB_share σ zp0 zp1) (oC_share σ zp0 zp1) E)) 2 12 (zA B0) := by
  refine z_ofx (own := RX2) (by decide) rfl (Nat.le_of_ble_eq_true rfl) ?_
  intro p e s m below meth c ls hx hb hr hml hown hlocks hout hts hl hI
  have hl : lv_has ls 4 [(0, .ref B0), (1, .int zp0), (2, .int zp1)] := hl
  obtain ⟨y01, ⟨fa1, y11, e11⟩, ⟨fb1, y21, e21⟩, ⟨fc1, y31, e31⟩, ⟨n41, t41, y41⟩, ⟨n61, t61, y61⟩, ⟨n81, t81, y81⟩, ⟨fd1, y101⟩, yT1, yP1⟩ := id hC
  refine lv_aload_n hx hb dX2_share_0 rfl (lv_at hl 0 rfl) ?_
  refine lv_iload_n hx hb dX2_share_1 rfl (lv_at hl 1 rfl) ?_
  refine z_xcallr hI (z_xV (As := [.int zp0]) (rest := []) ⟨hx, hb, hml, hown, hts⟩ hI y01 rfl (c_X2_textAt l hl0 G B0 F σ zp0 hC) (z_cwV vX2_textAt hts q71 ⟨Nat.le_of_ble_eq_true rfl, Nat.le_of_ble_eq_true rfl⟩) rfl hl.1 rfl (lv_room (Nat.le_of_ble_eq_true rfl)) dX2_share_2 ⟨Nat.le_of_ble_eq_true rfl, Nat.le_of_ble_eq_true rfl⟩) (z_out hout hlocks (fun E hE => Or.inl ⟨hE.1, fun q => hE.2 (by first | exact q.1 | (simp only [oA_share, oB_share, oC_share, rr_share, ss_share] at q; exact q.1))⟩) (Nat.le_of_ble_eq_true rfl) (Nat.le_of_ble_eq_true rfl)) (fun r3 F2 H locs hp4 hI => ?_)
  obtain ⟨rfl, i5, hi6, rfl, rfl⟩ := hp4
  have hix7 : ix (nI i5) = i5 := ix_nI (by omega)
  have hl : lv_has ls 4 [(0, .ref B0), (1, .int (nI i5)), (2, .int zp1)] := hl
  have hx8 := yT1 i5 hi6
  obtain ⟨xnhx8, xrhx8, fhx8, xwhx8, xfhx8⟩ := id hx8
  refine lv_astore_n (lv' := [(3, .ref (B0 + 11 + 2 * i5)), (0, .ref B0), (1, .int (nI i5)), (2, .int zp1)]) hx hb dX2_share_5 rfl hl (by decide) rfl (fun ls hl => ?_)
  refine lv_iload_n hx hb dX2_share_6 rfl (lv_at hl 3 rfl) ?_
  refine z_xcallv hI (z_xS (As := [.int zp1]) (rest := []) ⟨hx, hb, hml, hown, hts⟩ hI (c_X2_requireWord l hl0 G B0 F zp1) (z_cwS vX2_requireWord hts q145 ⟨Nat.le_of_ble_eq_true rfl, Nat.le_of_ble_eq_true rfl⟩) rfl hl.1 rfl (lv_room (Nat.le_of_ble_eq_true rfl)) dX2_share_7 ⟨Nat.le_of_ble_eq_true rfl, Nat.le_of_ble_eq_true rfl⟩) (z_out hout hlocks (fun E hE => Or.inl ⟨hE.1, fun q => hE.2 (by first | exact q.2 | (simp only [oA_share, oB_share, oC_share, rr_share, ss_share, hix7] at q; exact q.2))⟩) (Nat.le_of_ble_eq_true rfl) (Nat.le_of_ble_eq_true rfl)) (fun F9 H locs hp11 hI => ?_)
  obtain ⟨rfl, hp11⟩ := hp11
  refine lv_aload_n hx hb dX2_share_10 rfl (lv_at hl 0 rfl) ?_
  refine z_getN hx hb hts hown zlX1 rfl 1 (by decide) (List.mem_of_getElem? (i := 0) rfl) rfl hI xrhx8 rfl dX2_share_11 ?_
  refine z_if_ne (tgt := 19) (a := sn σ i5) hx hb dX2_share_14 (by decide) (by omega) (fun hq12 => ?_) (fun hq12 => ?_)
  · refine lv_aload_n hx hb dX2_share_19 rfl (lv_at hl 0 rfl) ?_
    refine lv_iload_n hx hb dX2_share_20 rfl (lv_at hl 3 rfl) ?_
    refine z_calli hI (z_V (As := [.int zp1]) (rest := []) ⟨hx, hb, hml, hown, hts⟩ hI xrhx8 rfl (c_X1_timesOf l G B0 F (B0 + 11 + 2 * i5) (B0 + 12 + 2 * i5) 60 (sn σ i5) (st σ i5) zp1 ⟨xnhx8, xrhx8, fhx8, xwhx8, xfhx8⟩ (by omega)) (z_cwV vX1_timesOf hts q405 ⟨Nat.le_of_ble_eq_true rfl, Nat.le_of_ble_eq_true rfl⟩) rfl hl.1 rfl (lv_room (Nat.le_of_ble_eq_true rfl)) dX2_share_21 ⟨Nat.le_of_ble_eq_true rfl, Nat.le_of_ble_eq_true rfl⟩) (fun r14 F13 H locs hp15 hI => ?_)
    obtain ⟨rfl, rfl⟩ := hp15
    refine lv_i2f hx hb dX2_share_24 ?_
    refine lv_aload_n hx hb dX2_share_25 rfl (lv_at hl 0 rfl) ?_
    refine z_getN hx hb hts hown zlX1 rfl 1 (by decide) (List.mem_of_getElem? (i := 0) rfl) rfl hI xrhx8 rfl dX2_share_26 ?_
    refine lv_i2f hx hb dX2_share_29 ?_
    refine lv_fdiv hx hb dX2_share_30 (fz_fdiv (fz_i2f _) (by omega) (by omega)) ?_
    refine vx_ret (z_rf hx hb hr hlocks hI ?_ (Nat.le_of_ble_eq_true rfl) (Nat.le_of_ble_eq_true rfl) dX2_share_31)
    refine ⟨_, rfl, (by simp only [oA_share, oB_share, oC_share, rr_share, ss_share, hix7] <;> exact ⟨⟨i5, hi6, rfl⟩, hp11⟩), (by simp only [oA_share, oB_share, oC_share, rr_share, ss_share, hix7] <;> exact trivial), (by simp only [oA_share, oB_share, oC_share, rr_share, ss_share, hix7] <;> exact trivial), (by simp only [oA_share, oB_share, oC_share, rr_share, ss_share, hix7] <;> (unfold shr; rw [if_neg (by omega)])), (by simp only [oA_share, oB_share, oC_share, rr_share, ss_share, hix7] <;> exact hC), zCf.rf⟩
  · refine lv_fconst0 hx hb dX2_share_17 ?_
    refine vx_ret (z_rf hx hb hr hlocks hI ?_ (Nat.le_of_ble_eq_true rfl) (Nat.le_of_ble_eq_true rfl) dX2_share_18)
    refine ⟨_, rfl, (by simp only [oA_share, oB_share, oC_share, rr_share, ss_share, hix7] <;> exact ⟨⟨i5, hi6, rfl⟩, hp11⟩), (by simp only [oA_share, oB_share, oC_share, rr_share, ss_share, hix7] <;> exact trivial), (by simp only [oA_share, oB_share, oC_share, rr_share, ss_share, hix7] <;> exact trivial), (by simp only [oA_share, oB_share, oC_share, rr_share, ss_share, hix7] <;> (unfold shr; rw [if_pos (by omega)])), (by simp only [oA_share, oB_share, oC_share, rr_share, ss_share, hix7] <;> exact hC), zCf.rf⟩

set_option maxHeartbeats 4000000 in
set_option maxRecDepth 100000 in
theorem c_X4_meanWord (l : Launch) (G : zK) (B0 : Nat) (F : zM) (σ : Sg) (th zp0 : Int32) (hM : MS G B0 F σ th) (hK : SgOk σ) : Met l yX4_meanWord (Cond.code yX4_meanWord cX4_meanWord 4 (some FieldType.double) :: zW) (zRm 2 45 0 0) (va_Pc [.ref (B0 + 23), .int zp0] (zPre G B0 F)) (zQd G B0 (zRP G B0 F σ (oA_meanWord σ zp0) (oB_meanWord σ zp0) (oC_meanWord σ zp0) (ss_meanWord σ zp0) (rr_meanWord σ zp0))) 0 0 (zA B0) := by
  refine z_of (own := RX4) (by decide) rfl (Nat.le_of_ble_eq_true rfl) ?_
  intro p e s m below meth c ls hx hb hr hml hown hlocks hnm hts hl hI
  have hl : lv_has ls 4 [(0, .ref (B0 + 23)), (1, .int zp0)] := hl
  obtain ⟨m01, ⟨ma1, m11, me11⟩, ⟨mb1, m21, me21⟩, ⟨mc1, m31, me31⟩, ⟨n91, t91, m41⟩, mT1, mP1⟩ := id hM
  refine lv_aload_n hx hb dX4_meanWord_0 rfl (lv_at hl 0 rfl) ?_
  refine lv_iload_n hx hb dX4_meanWord_1 rfl (lv_at hl 1 rfl) ?_
  refine z_calli hI (z_S (As := [.int zp0]) (rest := [.ref (B0 + 23)]) ⟨hx, hb, hml, hown, hts⟩ hI (c_X4_isText l G B0 F zp0) (z_cwS vX4_isText hts q772 ⟨Nat.le_of_ble_eq_true rfl, Nat.le_of_ble_eq_true rfl⟩) rfl hl.1 rfl (lv_room (Nat.le_of_ble_eq_true rfl)) dX4_meanWord_2 ⟨Nat.le_of_ble_eq_true rfl, Nat.le_of_ble_eq_true rfl⟩) (fun r3 F2 H locs hp4 hI => ?_)
  obtain ⟨rfl, rfl⟩ := hp4
  refine lv_iconst (v := nI 1) hx hb dX4_meanWord_5 (by decide) ?_
  refine z_topi (pI_1 (P := True) trivial) ?_
  refine lv_iconst (v := nI 1) hx hb dX4_meanWord_6 (by decide) ?_
  refine z_topi (pI_1 (P := True) trivial) ?_
  refine z_calli hI (z_V (As := [.int (pI (okT zp0)), .int (pI (True)), .int (pI (True))]) (rest := []) ⟨hx, hb, hml, hown, hts⟩ hI m01 rfl (c_X4_passes l G B0 F σ th (okT zp0) (True) (True) hM) (z_cwV vX4_passes hts q788 ⟨Nat.le_of_ble_eq_true rfl, Nat.le_of_ble_eq_true rfl⟩) rfl hl.1 rfl (lv_room (Nat.le_of_ble_eq_true rfl)) dX4_meanWord_7 ⟨Nat.le_of_ble_eq_true rfl, Nat.le_of_ble_eq_true rfl⟩) (fun r6 F5 H locs hp7 hI => ?_)
  obtain ⟨⟨th1, hM1, hz1⟩, rfl, ho1⟩ := hp7
  have hp1 : (okT zp0) ↔ oA_meanWord σ zp0 := Iff.rfl
  have hp2 : oA_meanWord σ zp0 → ((True) ↔ oB_meanWord σ zp0) := fun _ => Iff.rfl
  have hp3 : oA_meanWord σ zp0 → oB_meanWord σ zp0 → ((True) ↔ oC_meanWord σ zp0) := fun _ _ => Iff.rfl
  have hz2 := zTh_cg hp1 hp2 hp3 hz1
  refine z_topi (pI_cg (zC_cg hp1 hp2 hp3)) ?_
  have hmf1 : zMf B0 F F5 := fun q hq => ho1 q (by omega)
  obtain ⟨m08, ⟨ma8, m18, me18⟩, ⟨mb8, m28, me28⟩, ⟨mc8, m38, me38⟩, ⟨n98, t98, m48⟩, mT8, mP8⟩ := id hM1
  refine z_ifp_ne (tgt := 15) hx hb dX4_meanWord_10 (by decide) (fun hq9 => ?_) (fun hq9 => ?_)
  · obtain ⟨hA, hB, hC0⟩ := id hq9
    have hc0 := hA
    obtain ⟨i10, hi11, rfl⟩ := id hc0
    have hix12 : ix (nI i10) = i10 := ix_nI (by omega)
    have hl : lv_has ls 4 [(0, .ref (B0 + 23)), (1, .int (nI i10))] := hl
    have hsbi10 := (hK.1 i10 hi11).1
    have hx13 := mT8 i10 hi11
    obtain ⟨xnhx13, xrhx13, fhx13, xwhx13, xfhx13⟩ := id hx13
    refine lv_iconst (v := nI 0) hx hb dX4_meanWord_15 (by decide) ?_
    refine lv_istore_n (lv' := [(2, .int (nI 0)), (0, .ref (B0 + 23)), (1, .int (nI i10))]) hx hb dX4_meanWord_16 rfl hl (by decide) rfl (fun ls hl => ?_)
    refine lv_iconst (v := nI 0) hx hb dX4_meanWord_17 (by decide) ?_
    refine lv_istore_n (lv' := [(3, .int (nI 0)), (2, .int (nI 0)), (0, .ref (B0 + 23)), (1, .int (nI i10))]) hx hb dX4_meanWord_18 rfl hl (by decide) rfl (fun ls hl => ?_)
    refine z_loop (σ := Nat × Int32) (fun xx : Nat × Int32 => match xx with | (k, a) => [(0, .ref (B0 + 23)), (1, .int (nI i10)), (3, .int (nI k)), (2, .int a)]) (fun (xx : Nat × Int32) (Fx : zM) => match xx with | (k, a) => F5 = Fx ∧ k ≤ sn σ i10 ∧ a = smm (st σ i10) k) (fun xx : Nat × Int32 => match xx with | (k, a) => sn σ i10 - k) (0, nI 0) (nL := 4) (st := []) ?_ (lv_sub hl [2, 3, 0, 1] rfl) hI ?_
    · exact ⟨rfl, Nat.zero_le _, rfl⟩
    · intro xx F14 ls H locs hi hl hI ih
      obtain ⟨k, a⟩ := xx
      have hl : lv_has ls 4 [(0, .ref (B0 + 23)), (1, .int (nI i10)), (3, .int (nI k)), (2, .int a)] := hl
      obtain ⟨hF, hk, ha⟩ := hi
      subst hF
      refine lv_iload_n hx hb dX4_meanWord_19 rfl (lv_at hl 2 rfl) ?_
      refine lv_aload_n hx hb dX4_meanWord_20 rfl (lv_at hl 0 rfl) ?_
      refine z_get hx hb hts hown zlX4 rfl 1 (by decide) (hts _ q753) rfl hI m08 rfl dX4_meanWord_21 ?_
      refine lv_iload_n hx hb dX4_meanWord_24 rfl (lv_at hl 1 rfl) ?_
      refine z_ald3 (k := i10) (v := B0 + 25 + 2 * i10) hx hb hI m18 (by omega) (by omega) (me18 i10 (by omega)) dX4_meanWord_25 ?_
      refine z_getN hx hb hts hown zlX3 rfl 1 (by decide) (List.mem_of_getElem? (i := 2) rfl) rfl hI xrhx13 rfl dX4_meanWord_26 ?_
      refine z_icmp_ge (tgt := 51) (a := k) (b := sn σ i10) hx hb dX4_meanWord_29 (by decide) (by omega) (fun hq15 => ?_) (fun hq15 => ?_)
      · refine lv_aload_n hx hb dX4_meanWord_51 rfl (lv_at hl 0 rfl) ?_
        refine z_get hx hb hts hown zlX4 rfl 1 (by decide) (hts _ q753) rfl hI m08 rfl dX4_meanWord_52 ?_
        refine lv_iload_n hx hb dX4_meanWord_55 rfl (lv_at hl 1 rfl) ?_
        refine z_ald3 (k := i10) (v := B0 + 25 + 2 * i10) hx hb hI m18 (by omega) (by omega) (me18 i10 (by omega)) dX4_meanWord_56 ?_
        refine z_getN hx hb hts hown zlX3 rfl 1 (by decide) (List.mem_of_getElem? (i := 2) rfl) rfl hI xrhx13 rfl dX4_meanWord_57 ?_
        refine z_if_ne (tgt := 67) (a := sn σ i10) hx hb dX4_meanWord_60 (by decide) (by omega) (fun hq16 => ?_) (fun hq16 => ?_)
        · refine lv_iload_n hx hb dX4_meanWord_67 rfl (lv_at hl 3 rfl) ?_
          refine lv_i2d hx hb dX4_meanWord_68 ?_
          refine lv_aload_n hx hb dX4_meanWord_69 rfl (lv_at hl 0 rfl) ?_
          refine z_get hx hb hts hown zlX4 rfl 1 (by decide) (hts _ q753) rfl hI m08 rfl dX4_meanWord_70 ?_
          refine lv_iload_n hx hb dX4_meanWord_73 rfl (lv_at hl 1 rfl) ?_
          refine z_ald3 (k := i10) (v := B0 + 25 + 2 * i10) hx hb hI m18 (by omega) (by omega) (me18 i10 (by omega)) dX4_meanWord_74 ?_
          refine z_getN hx hb hts hown zlX3 rfl 1 (by decide) (List.mem_of_getElem? (i := 2) rfl) rfl hI xrhx13 rfl dX4_meanWord_75 ?_
          refine lv_i2d hx hb dX4_meanWord_78 ?_
          refine lv_ddiv hx hb dX4_meanWord_79 (fz_ddiv (fz_i2d _) (by omega) (by omega)) ?_
          refine z_rd hx hb hr hlocks hI ?_ (Nat.le_of_ble_eq_true rfl) (Nat.le_of_ble_eq_true rfl) dX4_meanWord_80
          have hkn : k = sn σ i10 := by omega
          refine ⟨_, rfl, th1, _, hM1, hz2, fun _ => ⟨(by simp only [oA_meanWord, oB_meanWord, oC_meanWord, rr_meanWord, ss_meanWord, hix12] <;> exact rfl), (by simp only [oA_meanWord, oB_meanWord, oC_meanWord, rr_meanWord, ss_meanWord, hix12] <;> (unfold mnw; rw [if_neg (by omega), ha, hkn]))⟩, fun q => absurd ⟨hA, hB, hC0⟩ q, hmf1⟩
        · refine lv_dconst0 hx hb dX4_meanWord_63 ?_
          refine lv_goto (tgt := 80) hx hb dX4_meanWord_64 (by decide) ?_
          refine z_rd hx hb hr hlocks hI ?_ (Nat.le_of_ble_eq_true rfl) (Nat.le_of_ble_eq_true rfl) dX4_meanWord_80
          refine ⟨_, rfl, th1, _, hM1, hz2, fun _ => ⟨(by simp only [oA_meanWord, oB_meanWord, oC_meanWord, rr_meanWord, ss_meanWord, hix12] <;> exact rfl), (by simp only [oA_meanWord, oB_meanWord, oC_meanWord, rr_meanWord, ss_meanWord, hix12] <;> (unfold mnw; rw [if_pos (by omega)]))⟩, fun q => absurd ⟨hA, hB, hC0⟩ q, hmf1⟩
      · refine lv_iload_n hx hb dX4_meanWord_32 rfl (lv_at hl 3 rfl) ?_
        refine lv_aload_n hx hb dX4_meanWord_33 rfl (lv_at hl 0 rfl) ?_
        refine z_get hx hb hts hown zlX4 rfl 1 (by decide) (hts _ q753) rfl hI m08 rfl dX4_meanWord_34 ?_
        refine lv_iload_n hx hb dX4_meanWord_37 rfl (lv_at hl 1 rfl) ?_
        refine z_ald3 (k := i10) (v := B0 + 25 + 2 * i10) hx hb hI m18 (by omega) (by omega) (me18 i10 (by omega)) dX4_meanWord_38 ?_
        refine lv_iload_n hx hb dX4_meanWord_39 rfl (lv_at hl 2 rfl) ?_
        refine z_calli hI (z_V (As := [.int (nI k)]) (rest := [.int a]) ⟨hx, hb, hml, hown, hts⟩ hI xrhx13 rfl (c_X3_at l G B0 F5 (B0 + 25 + 2 * i10) (B0 + 26 + 2 * i10) 60 (sn σ i10) (st σ i10) k ⟨xnhx13, xrhx13, fhx13, xwhx13, xfhx13⟩ (by omega) (by omega)) (z_cwV vX3_at hts q829 ⟨Nat.le_of_ble_eq_true rfl, Nat.le_of_ble_eq_true rfl⟩) rfl hl.1 rfl (lv_room (Nat.le_of_ble_eq_true rfl)) dX4_meanWord_40 ⟨Nat.le_of_ble_eq_true rfl, Nat.le_of_ble_eq_true rfl⟩) (fun r18 F17 H locs hp19 hI => ?_)
        obtain ⟨rfl, rfl⟩ := hp19
        refine lv_iadd hx hb dX4_meanWord_43 ?_
        refine lv_istore_n (lv' := [(2, .int (a + ((st σ i10) k))), (0, .ref (B0 + 23)), (1, .int (nI i10)), (3, .int (nI k))]) hx hb dX4_meanWord_44 rfl hl (by decide) rfl (fun ls hl => ?_)
        refine lv_iinc (k := 3) (v := nI (k + 1)) (lv' := [(3, .int (nI (k + 1))), (2, .int (a + ((st σ i10) k))), (0, .ref (B0 + 23)), (1, .int (nI i10))]) hx hb dX4_meanWord_45 hl rfl (nI_add k 1) (by decide) rfl (fun ls hl => ?_)
        refine lv_goto (tgt := 19) hx hb dX4_meanWord_48 (by decide) ?_
        refine ih (k + 1, a + ((st σ i10) k)) _ ls H locs (by first | omega | (dsimp only; omega)) ?_ (lv_sub hl [2, 3, 0, 1] rfl) hI
        exact ⟨rfl, by omega, by rw [ha]; rfl⟩
  · refine lv_dconst0 hx hb dX4_meanWord_13 ?_
    refine z_rd hx hb hr hlocks hI ?_ (Nat.le_of_ble_eq_true rfl) (Nat.le_of_ble_eq_true rfl) dX4_meanWord_14
    exact ⟨_, rfl, th1, σ, hM1, hz2, fun q => absurd q hq9, fun _ => rfl, hmf1⟩

set_option maxHeartbeats 4000000 in
set_option maxRecDepth 100000 in
theorem c_X4_share (l : Launch) (G : zK) (B0 : Nat) (F : zM) (σ : Sg) (th zp0 zp1 : Int32) (hM : MS G B0 F σ th) (hK : SgOk σ) : Met l yX4_share (Cond.code yX4_share cX4_share 4 (some FieldType.float) :: zW) (zRm 2 45 0 0) (va_Pc [.ref (B0 + 23), .int zp0, .int zp1] (zPre G B0 F)) (zQf G B0 (zRP G B0 F σ (oA_share σ zp0 zp1) (oB_share σ zp0 zp1) (oC_share σ zp0 zp1) (ss_share σ zp0 zp1) (rr_share σ zp0 zp1))) 0 0 (zA B0) := by
  refine z_of (own := RX4) (by decide) rfl (Nat.le_of_ble_eq_true rfl) ?_
  intro p e s m below meth c ls hx hb hr hml hown hlocks hnm hts hl hI
  have hl : lv_has ls 4 [(0, .ref (B0 + 23)), (1, .int zp0), (2, .int zp1)] := hl
  obtain ⟨m01, ⟨ma1, m11, me11⟩, ⟨mb1, m21, me21⟩, ⟨mc1, m31, me31⟩, ⟨n91, t91, m41⟩, mT1, mP1⟩ := id hM
  refine lv_aload_n hx hb dX4_share_0 rfl (lv_at hl 0 rfl) ?_
  refine z_join (σ := Int32) (fun xj : Int32 => [(0, .ref (B0 + 23)), (1, .int zp0), (2, .int zp1)]) (fun xj : Int32 => [.int xj, .ref (B0 + 23)]) (fun (xj : Int32) (Fx : zM) => F = Fx ∧ xj = pI (okT zp0 ∧ okW zp1)) 20 4 G B0 ?_ (fun jn20 => ?_)
  · intro xj F2 ls H locs hi hl hI
    have hl : lv_has ls 4 [(0, .ref (B0 + 23)), (1, .int zp0), (2, .int zp1)] := hl
    obtain ⟨hF, hx9⟩ := hi
    subst hF
    subst hx9
    refine lv_iconst (v := nI 1) hx hb dX4_share_20 (by decide) ?_
    refine z_topi (pI_1 (P := True) trivial) ?_
    refine lv_iconst (v := nI 1) hx hb dX4_share_21 (by decide) ?_
    refine z_topi (pI_1 (P := True) trivial) ?_
    refine z_calli hI (z_V (As := [.int (pI (okT zp0 ∧ okW zp1)), .int (pI (True)), .int (pI (True))]) (rest := []) ⟨hx, hb, hml, hown, hts⟩ hI m01 rfl (c_X4_passes l G B0 F σ th (okT zp0 ∧ okW zp1) (True) (True) hM) (z_cwV vX4_passes hts q788 ⟨Nat.le_of_ble_eq_true rfl, Nat.le_of_ble_eq_true rfl⟩) rfl hl.1 rfl (lv_room (Nat.le_of_ble_eq_true rfl)) dX4_share_22 ⟨Nat.le_of_ble_eq_true rfl, Nat.le_of_ble_eq_true rfl⟩) (fun r4 F3 H locs hp5 hI => ?_)
    obtain ⟨⟨th1, hM1, hz1⟩, rfl, ho1⟩ := hp5
    have hp1 : (okT zp0 ∧ okW zp1) ↔ oA_share σ zp0 zp1 := Iff.rfl
    have hp2 : oA_share σ zp0 zp1 → ((True) ↔ oB_share σ zp0 zp1) := fun _ => Iff.rfl
    have hp3 : oA_share σ zp0 zp1 → oB_share σ zp0 zp1 → ((True) ↔ oC_share σ zp0 zp1) := fun _ _ => Iff.rfl
    have hz2 := zTh_cg hp1 hp2 hp3 hz1
    refine z_topi (pI_cg (zC_cg hp1 hp2 hp3)) ?_
    have hmf1 : zMf B0 F F3 := fun q hq => ho1 q (by omega)
    obtain ⟨m06, ⟨ma6, m16, me16⟩, ⟨mb6, m26, me26⟩, ⟨mc6, m36, me36⟩, ⟨n96, t96, m46⟩, mT6, mP6⟩ := id hM1
    refine z_ifp_ne (tgt := 30) hx hb dX4_share_25 (by decide) (fun hq7 => ?_) (fun hq7 => ?_)
    · obtain ⟨hA, hB, hC0⟩ := id hq7
      obtain ⟨hc0, hc1⟩ := id hA
      obtain ⟨i8, hi9, rfl⟩ := id hc0
      have hix10 : ix (nI i8) = i8 := ix_nI (by omega)
      have hl : lv_has ls 4 [(0, .ref (B0 + 23)), (1, .int (nI i8)), (2, .int zp1)] := hl
      have hsbi8 := (hK.1 i8 hi9).1
      have hx11 := mT6 i8 hi9
      obtain ⟨xnhx11, xrhx11, fhx11, xwhx11, xfhx11⟩ := id hx11
      refine lv_aload_n hx hb dX4_share_30 rfl (lv_at hl 0 rfl) ?_
      refine z_get hx hb hts hown zlX4 rfl 1 (by decide) (hts _ q753) rfl hI m06 rfl dX4_share_31 ?_
      refine lv_iload_n hx hb dX4_share_34 rfl (lv_at hl 1 rfl) ?_
      refine z_ald3 (k := i8) (v := B0 + 25 + 2 * i8) hx hb hI m16 (by omega) (by omega) (me16 i8 (by omega)) dX4_share_35 ?_
      refine z_getN hx hb hts hown zlX3 rfl 1 (by decide) (List.mem_of_getElem? (i := 2) rfl) rfl hI xrhx11 rfl dX4_share_36 ?_
      refine lv_istore_n (lv' := [(3, .int (nI (sn σ i8))), (0, .ref (B0 + 23)), (1, .int (nI i8)), (2, .int zp1)]) hx hb dX4_share_39 rfl hl (by decide) rfl (fun ls hl => ?_)
      refine lv_iload_n hx hb dX4_share_40 rfl (lv_at hl 0 rfl) ?_
      refine z_if_ne (tgt := 48) (a := sn σ i8) hx hb dX4_share_41 (by decide) (by omega) (fun hq12 => ?_) (fun hq12 => ?_)
      · refine lv_aload_n hx hb dX4_share_48 rfl (lv_at hl 1 rfl) ?_
        refine z_get hx hb hts hown zlX4 rfl 1 (by decide) (hts _ q753) rfl hI m06 rfl dX4_share_49 ?_
        refine lv_iload_n hx hb dX4_share_52 rfl (lv_at hl 2 rfl) ?_
        refine z_ald3 (k := i8) (v := B0 + 25 + 2 * i8) hx hb hI m16 (by omega) (by omega) (me16 i8 (by omega)) dX4_share_53 ?_
        refine lv_iload_n hx hb dX4_share_54 rfl (lv_at hl 3 rfl) ?_
        refine z_calli hI (z_V (As := [.int zp1]) (rest := []) ⟨hx, hb, hml, hown, hts⟩ hI xrhx11 rfl (c_X3_often l G B0 F3 (B0 + 25 + 2 * i8) (B0 + 26 + 2 * i8) 60 (sn σ i8) (st σ i8) zp1 ⟨xnhx11, xrhx11, fhx11, xwhx11, xfhx11⟩ (by omega)) (z_cwV vX3_often hts q931 ⟨Nat.le_of_ble_eq_true rfl, Nat.le_of_ble_eq_true rfl⟩) rfl hl.1 rfl (lv_room (Nat.le_of_ble_eq_true rfl)) dX4_share_55 ⟨Nat.le_of_ble_eq_true rfl, Nat.le_of_ble_eq_true rfl⟩) (fun r14 F13 H locs hp15 hI => ?_)
        obtain ⟨rfl, rfl⟩ := hp15
        refine lv_i2f hx hb dX4_share_58 ?_
        refine lv_iload_n hx hb dX4_share_59 rfl (lv_at hl 0 rfl) ?_
        refine lv_i2f hx hb dX4_share_60 ?_
        refine lv_fdiv hx hb dX4_share_61 (fz_fdiv (fz_i2f _) (by omega) (by omega)) ?_
        refine z_rf hx hb hr hlocks hI ?_ (Nat.le_of_ble_eq_true rfl) (Nat.le_of_ble_eq_true rfl) dX4_share_62
        refine ⟨_, rfl, th1, _, hM1, hz2, fun _ => ⟨(by simp only [oA_share, oB_share, oC_share, rr_share, ss_share, hix10] <;> exact rfl), (by simp only [oA_share, oB_share, oC_share, rr_share, ss_share, hix10] <;> (unfold shr; rw [if_neg (by omega)]))⟩, fun q => absurd ⟨hA, hB, hC0⟩ q, hmf1⟩
      · refine lv_fconst0 hx hb dX4_share_44 ?_
        refine lv_goto (tgt := 62) hx hb dX4_share_45 (by decide) ?_
        refine z_rf hx hb hr hlocks hI ?_ (Nat.le_of_ble_eq_true rfl) (Nat.le_of_ble_eq_true rfl) dX4_share_62
        refine ⟨_, rfl, th1, _, hM1, hz2, fun _ => ⟨(by simp only [oA_share, oB_share, oC_share, rr_share, ss_share, hix10] <;> exact rfl), (by simp only [oA_share, oB_share, oC_share, rr_share, ss_share, hix10] <;> (unfold shr; rw [if_pos (by omega)]))⟩, fun q => absurd ⟨hA, hB, hC0⟩ q, hmf1⟩
    · refine lv_fconst0 hx hb dX4_share_28 ?_
      refine z_rf hx hb hr hlocks hI ?_ (Nat.le_of_ble_eq_true rfl) (Nat.le_of_ble_eq_true rfl) dX4_share_29
      exact ⟨_, rfl, th1, σ, hM1, hz2, fun q => absurd q hq7, fun _ => rfl, hmf1⟩
  · refine lv_iload_n hx hb dX4_share_1 rfl (lv_at hl 1 rfl) ?_
    refine z_calli hI (z_S (As := [.int zp0]) (rest := [.ref (B0 + 23)]) ⟨hx, hb, hml, hown, hts⟩ hI (c_X4_isText l G B0 F zp0) (z_cwS vX4_isText hts q772 ⟨Nat.le_of_ble_eq_true rfl, Nat.le_of_ble_eq_true rfl⟩) rfl hl.1 rfl (lv_room (Nat.le_of_ble_eq_true rfl)) dX4_share_2 ⟨Nat.le_of_ble_eq_true rfl, Nat.le_of_ble_eq_true rfl⟩) (fun r17 F16 H locs hp18 hI => ?_)
    obtain ⟨rfl, rfl⟩ := hp18
    refine z_ifp_eq (tgt := 19) hx hb dX4_share_5 (by decide) (fun hq19 => ?_) (fun hq19 => ?_)
    · refine lv_iconst (v := nI 0) hx hb dX4_share_19 (by decide) ?_
      refine jn20 (nI 0) _ ls H locs ?_ (lv_sub hl [0, 1, 2] rfl) hI
      exact ⟨rfl, pI_f (fun z => by have z2 := z.1; first | exact hq19 z2 | (first | exact hq19 z2 | exact i_le_n.mp z2 hq19 | exact l_le_n.mp z2 (lg_gt.mp hq19) | exact l_le_n.mp z2 (lg_lt.mp hq19) | exact hq19 ((in_pl1 (by omega)).mpr z2) | omega))⟩
    · refine lv_iload_n hx hb dX4_share_8 rfl (lv_at hl 2 rfl) ?_
      refine z_calli hI (z_S (As := [.int zp1]) (rest := [.ref (B0 + 23)]) ⟨hx, hb, hml, hown, hts⟩ hI (c_X4_isWord l G B0 F zp1) (z_cwS vX4_isWord hts q779 ⟨Nat.le_of_ble_eq_true rfl, Nat.le_of_ble_eq_true rfl⟩) rfl hl.1 rfl (lv_room (Nat.le_of_ble_eq_true rfl)) dX4_share_9 ⟨Nat.le_of_ble_eq_true rfl, Nat.le_of_ble_eq_true rfl⟩) (fun r21 F20 H locs hp22 hI => ?_)
      obtain ⟨rfl, rfl⟩ := hp22
      refine z_ifp_eq (tgt := 19) hx hb dX4_share_12 (by decide) (fun hq23 => ?_) (fun hq23 => ?_)
      · refine lv_iconst (v := nI 0) hx hb dX4_share_19 (by decide) ?_
        refine jn20 (nI 0) _ ls H locs ?_ (lv_sub hl [0, 1, 2] rfl) hI
        exact ⟨rfl, pI_f (fun z => by have z2 := z.2; first | exact hq23 z2 | (first | exact hq23 z2 | exact i_le_n.mp z2 hq23 | exact l_le_n.mp z2 (lg_gt.mp hq23) | exact l_le_n.mp z2 (lg_lt.mp hq23) | exact hq23 ((in_pl1 (by omega)).mpr z2) | omega))⟩
      · refine lv_iconst (v := nI 1) hx hb dX4_share_15 (by decide) ?_
        refine lv_goto (tgt := 20) hx hb dX4_share_16 (by decide) ?_
        refine jn20 (nI 1) _ ls H locs ?_ (lv_sub hl [0, 1, 2] rfl) hI
        exact ⟨rfl, pI_t ⟨(by first | exact hq19 | exact i_le_n.mpr hq19 | exact l_le_n.mpr (fun q => hq19 (lg_gt.mpr q)) | exact l_le_n.mpr (fun q => hq19 (lg_lt.mpr q)) | exact (in_pl1 (by omega)).mp hq19 | omega), (by first | exact hq23 | exact i_le_n.mpr hq23 | exact l_le_n.mpr (fun q => hq23 (lg_gt.mpr q)) | exact l_le_n.mpr (fun q => hq23 (lg_lt.mpr q)) | exact (in_pl1 (by omega)).mp hq23 | omega)⟩⟩

