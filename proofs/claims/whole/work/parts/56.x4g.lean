set_option maxHeartbeats 4000000 in
set_option maxRecDepth 100000 in
theorem c_X4_sort (l : Launch) (G : zK) (B0 : Nat) (F : zM) (σ : Sg) (th zp0 zp1 zp2 : Int32) (hM : MS G B0 F σ th) (hK : SgOk σ) : Met l yX4_sort (Cond.code yX4_sort cX4_sort 7 (some FieldType.int) :: zW) (zRm 2 45 0 0) (va_Pc [.ref (B0 + 23), .int zp0, .int zp1, .int zp2] (zPre G B0 F)) (zQi G B0 (zRP G B0 F σ (oA_sort σ zp0 zp1 zp2) (oB_sort σ zp0 zp1 zp2) (oC_sort σ zp0 zp1 zp2) (ss_sort σ zp0 zp1 zp2) (rr_sort σ zp0 zp1 zp2))) 0 0 (zA B0) := by
  refine z_of (own := RX4) (by decide) rfl (Nat.le_of_ble_eq_true rfl) ?_
  intro p e s m below meth c ls hx hb hr hml hown hlocks hnm hts hl hI
  have hl : lv_has ls 7 [(0, .ref (B0 + 23)), (1, .int zp0), (2, .int zp1), (3, .int zp2)] := hl
  obtain ⟨m01, ⟨ma1, m11, me11⟩, ⟨mb1, m21, me21⟩, ⟨mc1, m31, me31⟩, ⟨n91, t91, m41⟩, mT1, mP1⟩ := id hM
  refine lv_aload_n hx hb dX4_sort_0 rfl (lv_at hl 0 rfl) ?_
  refine lv_iload_n hx hb dX4_sort_1 rfl (lv_at hl 1 rfl) ?_
  refine z_calli hI (z_S (As := [.int zp0]) (rest := [.ref (B0 + 23)]) ⟨hx, hb, hml, hown, hts⟩ hI (c_X4_isText l G B0 F zp0) (z_cwS vX4_isText hts q772 ⟨Nat.le_of_ble_eq_true rfl, Nat.le_of_ble_eq_true rfl⟩) rfl hl.1 rfl (lv_room (Nat.le_of_ble_eq_true rfl)) dX4_sort_2 ⟨Nat.le_of_ble_eq_true rfl, Nat.le_of_ble_eq_true rfl⟩) (fun r3 F2 H locs hp4 hI => ?_)
  obtain ⟨rfl, rfl⟩ := hp4
  refine lv_iload_n hx hb dX4_sort_5 rfl (lv_at hl 2 rfl) ?_
  refine z_calli hI (z_S (As := [.int zp1]) (rest := [.int (pI (okT zp0)), .ref (B0 + 23)]) ⟨hx, hb, hml, hown, hts⟩ hI (c_X4_isOrder l G B0 F zp1) (z_cwS vX4_isOrder hts q959 ⟨Nat.le_of_ble_eq_true rfl, Nat.le_of_ble_eq_true rfl⟩) rfl hl.1 rfl (lv_room (Nat.le_of_ble_eq_true rfl)) dX4_sort_6 ⟨Nat.le_of_ble_eq_true rfl, Nat.le_of_ble_eq_true rfl⟩) (fun r6 F5 H locs hp7 hI => ?_)
  obtain ⟨rfl, rfl⟩ := hp7
  refine lv_iconst (v := nI 1) hx hb dX4_sort_9 (by decide) ?_
  refine z_topi (pI_1 (P := True) trivial) ?_
  refine z_calli hI (z_V (As := [.int (pI (okT zp0)), .int (pI (okB zp1)), .int (pI (True))]) (rest := []) ⟨hx, hb, hml, hown, hts⟩ hI m01 rfl (c_X4_passes l G B0 F σ th (okT zp0) (okB zp1) (True) hM) (z_cwV vX4_passes hts q788 ⟨Nat.le_of_ble_eq_true rfl, Nat.le_of_ble_eq_true rfl⟩) rfl hl.1 rfl (lv_room (Nat.le_of_ble_eq_true rfl)) dX4_sort_10 ⟨Nat.le_of_ble_eq_true rfl, Nat.le_of_ble_eq_true rfl⟩) (fun r9 F8 H locs hp10 hI => ?_)
  obtain ⟨⟨th1, hM1, hz1⟩, rfl, ho1⟩ := hp10
  have hp1 : (okT zp0) ↔ oA_sort σ zp0 zp1 zp2 := Iff.rfl
  have hp2 : oA_sort σ zp0 zp1 zp2 → ((okB zp1) ↔ oB_sort σ zp0 zp1 zp2) := fun _ => Iff.rfl
  have hp3 : oA_sort σ zp0 zp1 zp2 → oB_sort σ zp0 zp1 zp2 → ((True) ↔ oC_sort σ zp0 zp1 zp2) := fun _ _ => Iff.rfl
  have hz2 := zTh_cg hp1 hp2 hp3 hz1
  refine z_topi (pI_cg (zC_cg hp1 hp2 hp3)) ?_
  have hmf1 : zMf B0 F F8 := fun q hq => ho1 q (by omega)
  obtain ⟨m011, ⟨ma11, m111, me111⟩, ⟨mb11, m211, me211⟩, ⟨mc11, m311, me311⟩, ⟨n911, t911, m411⟩, mT11, mP11⟩ := id hM1
  refine z_ifp_ne (tgt := 18) hx hb dX4_sort_13 (by decide) (fun hq12 => ?_) (fun hq12 => ?_)
  · obtain ⟨hA, hB, hC0⟩ := id hq12
    have hc0 := hA
    obtain ⟨i13, hi14, rfl⟩ := id hc0
    have hix15 : ix (nI i13) = i13 := ix_nI (by omega)
    have hl : lv_has ls 7 [(0, .ref (B0 + 23)), (1, .int (nI i13)), (2, .int zp1), (3, .int zp2)] := hl
    have hsbi13 := (hK.1 i13 hi14).1
    have hx16 := mT11 i13 hi14
    obtain ⟨xnhx16, xrhx16, fhx16, xwhx16, xfhx16⟩ := id hx16
    refine lv_aload_n hx hb dX4_sort_18 rfl (lv_at hl 0 rfl) ?_
    refine z_get hx hb hts hown zlX4 rfl 1 (by decide) (hts _ q753) rfl hI m011 rfl dX4_sort_19 ?_
    refine lv_iload_n hx hb dX4_sort_22 rfl (lv_at hl 1 rfl) ?_
    refine z_ald3 (k := i13) (v := B0 + 25 + 2 * i13) hx hb hI m111 (by omega) (by omega) (me111 i13 (by omega)) dX4_sort_23 ?_
    refine lv_astore (lv' := [(4, .ref (B0 + 25 + 2 * i13)), (0, .ref (B0 + 23)), (1, .int (nI i13)), (2, .int zp1), (3, .int zp2)]) hx hb dX4_sort_24 hl (by decide) rfl (fun ls hl => ?_)
    refine lv_aload_n hx hb dX4_sort_26 rfl (lv_at hl 1 rfl) ?_
    refine z_get hx hb hts hown zlX4 rfl 3 (by decide) (hts _ q755) rfl hI m011 rfl dX4_sort_27 ?_
    obtain ⟨xnsp, xrsp, fsp, xwsp, xfsp⟩ := id m411
    refine lv_aload hx hb dX4_sort_30 (lv_at hl 0 rfl) ?_
    refine z_callv hI (z_V (As := [.ref (B0 + 25 + 2 * i13)]) (rest := []) ⟨hx, hb, hml, hown, hts⟩ hI xrsp rfl (c_X3_takes l G B0 F8 (B0 + 38) (B0 + 39) 60 n911 t911 (B0 + 25 + 2 * i13) (B0 + 26 + 2 * i13) 60 (sn σ i13) (st σ i13) ⟨xnsp, xrsp, fsp, xwsp, xfsp⟩ (by omega) ⟨xnhx16, xrhx16, fhx16, xwhx16, xfhx16⟩ (by omega) (by omega) (by omega) (by omega)) (z_cwV vX3_takes hts q922 ⟨Nat.le_of_ble_eq_true rfl, Nat.le_of_ble_eq_true rfl⟩) rfl hl.1 rfl (lv_room (Nat.le_of_ble_eq_true rfl)) dX4_sort_32 ⟨Nat.le_of_ble_eq_true rfl, Nat.le_of_ble_eq_true rfl⟩) (fun F17 H locs hp19 hI => ?_)
    obtain ⟨ha20, hs20⟩ := hp19
    have hc21 : F17 (B0 + 23) = some (zO 4 [.int th1, .ref (B0 + 24), .ref (B0 + 33), .ref (B0 + 38), .ref (B0 + 40)]) := (hs20 _ (zne m011 xrsp (fun q => by cases q)) (zne m011 xwsp (fun q => by cases q))).trans m011
    have hc22 : F17 (B0 + 24) = some (zA3 G 4 ma11) := (hs20 _ (zne m111 xrsp (fun q => by cases q)) (by omega)).trans m111
    have hc23 : F17 (B0 + 33) = some (zA3 G 2 mb11) := (hs20 _ (zne m211 xrsp (fun q => by cases q)) (by omega)).trans m211
    have hc24 : F17 (B0 + 40) = some (zAI G 100 mc11) := (hs20 _ (zne m311 xrsp (fun q => by cases q)) (by omega)).trans m311
    have hc25 : F17 (B0 + 25 + 2 * i13) = some (zO 3 [.ref (B0 + 26 + 2 * i13), .int (nI (sn σ i13))]) := (hs20 _ (by omega) (zne xrhx16 xwsp (fun q => by cases q))).trans xrhx16
    have hc26 : F17 (B0 + 26 + 2 * i13) = some (zAI G 60 fhx16) := (hs20 _ (zne xwhx16 xrsp (fun q => by cases q)) (by omega)).trans xwhx16
    obtain ⟨xn_20, xr_20, f_20, xw_20, xf_20⟩ := id ha20
    have hM3 := MS.setW hM1 hs20 ha20
    have hmf3 := zMf.tr hmf1 (zMf.sm (a := B0 + 38) (b := B0 + 39) hs20 (by omega) (by omega))
    have hsp := ha20
    obtain ⟨m027, ⟨ma27, m127, me127⟩, ⟨mb27, m227, me227⟩, ⟨mc27, m327, me327⟩, ⟨n927, t927, m427⟩, mT27, mP27⟩ := id hM3
    have hx28 := mT27 i13 hi14
    obtain ⟨xnhx28, xrhx28, fhx28, xwhx28, xfhx28⟩ := id hx28
    obtain ⟨xnsp, xrsp, fsp, xwsp, xfsp⟩ := id hsp
    refine lv_iconst (v := nI 1) hx hb dX4_sort_35 (by decide) ?_
    refine lv_istore (lv' := [(5, .int (nI 1)), (4, .ref (B0 + 25 + 2 * i13)), (0, .ref (B0 + 23)), (1, .int (nI i13)), (2, .int zp1), (3, .int zp2)]) hx hb dX4_sort_36 hl (by decide) rfl (fun ls hl => ?_)
    refine z_loop (σ := Nat) (fun k : Nat => [(0, .ref (B0 + 23)), (1, .int (nI i13)), (2, .int zp1), (3, .int zp2), (4, .ref (B0 + 25 + 2 * i13)), (5, .int (nI k))]) (fun (k : Nat) (Fx : zM) => RA G 3 Fx (B0 + 25 + 2 * i13) (B0 + 26 + 2 * i13) 60 (sn σ i13) (srt (psd (rk σ) zp1 zp2) (st σ i13) (k - 1)) ∧ zSm F17 Fx (B0 + 25 + 2 * i13) (B0 + 26 + 2 * i13) ∧ 1 ≤ k ∧ (k ≤ sn σ i13 ∨ k = 1)) (fun k : Nat => sn σ i13 - k) 1 (nL := 7) (st := []) ?_ (lv_sub hl [2, 3, 4, 5, 1, 0] rfl) hI ?_
    · exact ⟨RA.cg ⟨xnhx28, xrhx28, fhx28, xwhx28, xfhx28⟩ (fun j hj => rfl), zSm.rf, Nat.le_refl _, Or.inr rfl⟩
    · intro k F29 ls H locs hi hl hI ih
      have hl : lv_has ls 7 [(0, .ref (B0 + 23)), (1, .int (nI i13)), (2, .int zp1), (3, .int zp2), (4, .ref (B0 + 25 + 2 * i13)), (5, .int (nI k))] := hl
      obtain ⟨ha0, hs0, hk1, hk2⟩ := hi
      have hM2 := MS.setT hM3 hi14 hs0 ha0
      obtain ⟨m030, ⟨ma30, m130, me130⟩, ⟨mb30, m230, me230⟩, ⟨mc30, m330, me330⟩, ⟨n930, t930, m430⟩, mT30, mP30⟩ := id hM2
      have hsp2 := hsp.go (hs0 _ (by omega) (by omega)) (hs0 _ (by omega) (by omega))
      obtain ⟨xn_, xr_, f_, xw_, xf_⟩ := id ha0
      obtain ⟨xnsp, xrsp, fsp, xwsp, xfsp⟩ := id hsp2
      refine lv_iload hx hb dX4_sort_38 (lv_at hl 5 rfl) ?_
      refine lv_aload hx hb dX4_sort_40 (lv_at hl 4 rfl) ?_
      refine z_getN hx hb hts hown zlX3 rfl 1 (by decide) (List.mem_of_getElem? (i := 2) rfl) rfl hI xr_ rfl dX4_sort_42 ?_
      refine z_icmp_ge (tgt := 145) (a := k) (b := sn σ i13) hx hb dX4_sort_45 (by decide) (by omega) (fun hq31 => ?_) (fun hq31 => ?_)
      · refine lv_aload hx hb dX4_sort_145 (lv_at hl 4 rfl) ?_
        refine lv_aload_n hx hb dX4_sort_147 rfl (lv_at hl 0 rfl) ?_
        refine z_get hx hb hts hown zlX4 rfl 3 (by decide) (hts _ q755) rfl hI m030 rfl dX4_sort_148 ?_
        refine z_calli hI (z_V (As := [.ref (B0 + 38)]) (rest := []) ⟨hx, hb, hml, hown, hts⟩ hI xr_ rfl (c_X3_others l G B0 F29 (B0 + 25 + 2 * i13) (B0 + 26 + 2 * i13) 60 (sn σ i13) (srt (psd (rk σ) zp1 zp2) (st σ i13) (k - 1)) (B0 + 38) (B0 + 39) 60 (st σ i13) ⟨xn_, xr_, f_, xw_, xf_⟩ (by omega) ⟨xnsp, xrsp, fsp, xwsp, xfsp⟩ (by omega)) (z_cwV vX3_others hts q984 ⟨Nat.le_of_ble_eq_true rfl, Nat.le_of_ble_eq_true rfl⟩) rfl hl.1 rfl (lv_room (Nat.le_of_ble_eq_true rfl)) dX4_sort_151 ⟨Nat.le_of_ble_eq_true rfl, Nat.le_of_ble_eq_true rfl⟩) (fun r33 F32 H locs hp34 hI => ?_)
        obtain ⟨rfl, rfl⟩ := hp34
        refine z_ri hx hb hr hlocks hI ?_ (Nat.le_of_ble_eq_true rfl) (Nat.le_of_ble_eq_true rfl) dX4_sort_154
        have hkn : k - 1 = sn σ i13 - 1 := by omega
        refine ⟨_, rfl, th1, _, (MS.setT hM3 hi14 hs0 (hkn ▸ ha0)), hz2, fun _ => ⟨(by simp only [oA_sort, oB_sort, oC_sort, rr_sort, ss_sort, hix15] <;> exact rfl), (by simp only [oA_sort, oB_sort, oC_sort, rr_sort, ss_sort, hix15] <;> (rw [hkn]))⟩, fun q => absurd ⟨hA, hB, hC0⟩ q, zMf.tr hmf3 (zMf.sm hs0 (by omega) (by omega))⟩
      · refine lv_iload hx hb dX4_sort_48 (lv_at hl 5 rfl) ?_
        refine lv_istore (lv' := [(6, .int (nI k)), (0, .ref (B0 + 23)), (1, .int (nI i13)), (2, .int zp1), (3, .int zp2), (4, .ref (B0 + 25 + 2 * i13)), (5, .int (nI k))]) hx hb dX4_sort_50 hl (by decide) rfl (fun ls hl => ?_)
        refine z_loop (σ := Nat) (fun q : Nat => [(0, .ref (B0 + 23)), (1, .int (nI i13)), (2, .int zp1), (3, .int zp2), (4, .ref (B0 + 25 + 2 * i13)), (5, .int (nI k)), (6, .int (nI q))]) (fun (q : Nat) (Fx : zM) => RA G 3 Fx (B0 + 25 + 2 * i13) (B0 + 26 + 2 * i13) 60 (sn σ i13) (insk (srt (psd (rk σ) zp1 zp2) (st σ i13) (k - 1)) q k) ∧ zSm F17 Fx (B0 + 25 + 2 * i13) (B0 + 26 + 2 * i13) ∧ q ≤ k ∧ lnd (psd (rk σ) zp1 zp2) (srt (psd (rk σ) zp1 zp2) (st σ i13) (k - 1)) ((srt (psd (rk σ) zp1 zp2) (st σ i13) (k - 1)) k) k = lnd (psd (rk σ) zp1 zp2) (srt (psd (rk σ) zp1 zp2) (st σ i13) (k - 1)) ((srt (psd (rk σ) zp1 zp2) (st σ i13) (k - 1)) k) q) (fun q : Nat => q) k (nL := 7) (st := []) ?_ (lv_sub hl [1, 2, 3, 4, 5, 6, 0] rfl) hI ?_
        · exact ⟨RA.cg ⟨xn_, xr_, f_, xw_, xf_⟩ (fun j hj => insk_0 j), hs0, Nat.le_refl _, rfl⟩
        · intro q F35 ls H locs hi hl hI ih52
          have hl : lv_has ls 7 [(0, .ref (B0 + 23)), (1, .int (nI i13)), (2, .int zp1), (3, .int zp2), (4, .ref (B0 + 25 + 2 * i13)), (5, .int (nI k)), (6, .int (nI q))] := hl
          obtain ⟨ha0, hs0, hq1, hq2⟩ := hi
          have hM2 := MS.setT hM3 hi14 hs0 ha0
          obtain ⟨m036, ⟨ma36, m136, me136⟩, ⟨mb36, m236, me236⟩, ⟨mc36, m336, me336⟩, ⟨n936, t936, m436⟩, mT36, mP36⟩ := id hM2
          have hsp2 := hsp.go (hs0 _ (by omega) (by omega)) (hs0 _ (by omega) (by omega))
          obtain ⟨xn_, xr_, f_, xw_, xf_⟩ := id ha0
          obtain ⟨xnsp, xrsp, fsp, xwsp, xfsp⟩ := id hsp2
          have hsw := srt_wok (P := (psd (rk σ) zp1 zp2)) (k := k - 1) (hK.w hi14) (by omega)
          refine lv_iload hx hb dX4_sort_52 (lv_at hl 6 rfl) ?_
          refine z_if_le (tgt := 139) (a := q) hx hb dX4_sort_54 (by decide) (by omega) (fun hq37 => ?_) (fun hq37 => ?_)
          · have hlq : lnd (psd (rk σ) zp1 zp2) (srt (psd (rk σ) zp1 zp2) (st σ i13) (k - 1)) ((srt (psd (rk σ) zp1 zp2) (st σ i13) (k - 1)) k) k = q := by rw [hq2, hq37]; rfl
            refine lv_iinc (k := 5) (v := nI (k + 1)) (lv' := [(5, .int (nI (k + 1))), (0, .ref (B0 + 23)), (1, .int (nI i13)), (2, .int zp1), (3, .int zp2), (4, .ref (B0 + 25 + 2 * i13)), (6, .int (nI q))]) hx hb dX4_sort_139 hl rfl (nI_add k 1) (by decide) rfl (fun ls hl => ?_)
            refine lv_goto (tgt := 38) hx hb dX4_sort_142 (by decide) ?_
            refine ih (k + 1) _ ls H locs (by first | omega | (dsimp only; omega)) ?_ (lv_sub hl [1, 2, 3, 4, 5, 0] rfl) hI
            have hs9 := srt_at (P := (psd (rk σ) zp1 zp2)) (t := st σ i13) hk1 hlq
            refine ⟨RA.cg ⟨xn_, xr_, f_, xw_, xf_⟩ (fun j hj => ?_), hs0, by omega, by omega⟩
            rw [show k + 1 - 1 = k by omega, hs9]
          · have hd1 := insk_p (t := (srt (psd (rk σ) zp1 zp2) (st σ i13) (k - 1))) (k := k) hq37
            have hd2 : insk (srt (psd (rk σ) zp1 zp2) (st σ i13) (k - 1)) q k q = (srt (psd (rk σ) zp1 zp2) (st σ i13) (k - 1)) k := insk_q
            refine lv_iload_n hx hb dX4_sort_57 rfl (lv_at hl 3 rfl) ?_
            refine lv_if_eq (tgt := 93) hx hb dX4_sort_58 (by decide) (fun hq38 => ?_) (fun hq38 => ?_)
            · refine lv_aload_n hx hb dX4_sort_93 rfl (lv_at hl 0 rfl) ?_
              refine lv_aload hx hb dX4_sort_94 (lv_at hl 4 rfl) ?_
              refine lv_iload hx hb dX4_sort_96 (lv_at hl 6 rfl) ?_
              refine lv_iconst (v := nI 1) hx hb dX4_sort_98 (by decide) ?_
              refine lv_isub hx hb dX4_sort_99 ?_
              refine z_topi (pk_sub (a := q) (b := 1) (by omega)) ?_
              refine z_calli hI (z_V (As := [.int (nI (q - 1))]) (rest := [.ref (B0 + 23)]) ⟨hx, hb, hml, hown, hts⟩ hI xr_ rfl (c_X3_at l G B0 F35 (B0 + 25 + 2 * i13) (B0 + 26 + 2 * i13) 60 (sn σ i13) (insk (srt (psd (rk σ) zp1 zp2) (st σ i13) (k - 1)) q k) (q - 1) ⟨xn_, xr_, f_, xw_, xf_⟩ (by omega) (by omega)) (z_cwV vX3_at hts q829 ⟨Nat.le_of_ble_eq_true rfl, Nat.le_of_ble_eq_true rfl⟩) rfl hl.1 rfl (lv_room (Nat.le_of_ble_eq_true rfl)) dX4_sort_100 ⟨Nat.le_of_ble_eq_true rfl, Nat.le_of_ble_eq_true rfl⟩) (fun r40 F39 H locs hp41 hI => ?_)
              obtain ⟨rfl, rfl⟩ := hp41
              refine lv_iload_n hx hb dX4_sort_103 rfl (lv_at hl 2 rfl) ?_
              refine z_calli hI (z_V (As := [.int ((insk (srt (psd (rk σ) zp1 zp2) (st σ i13) (k - 1)) q k) (q - 1)), .int zp1]) (rest := []) ⟨hx, hb, hml, hown, hts⟩ hI m036 rfl (c_X4_valueOf l G B0 F35 ((sT σ i13 (sn σ i13) (insk (srt (psd (rk σ) zp1 zp2) (st σ i13) (k - 1)) q k))) th1 zp1 ((insk (srt (psd (rk σ) zp1 zp2) (st σ i13) (k - 1)) q k) (q - 1)) hM2 hB ((show ∃ k9, k9 < 100 ∧ insk (srt (psd (rk σ) zp1 zp2) (st σ i13) (k - 1)) q k (q - 1) = nI k9 from by rw [hd1]; exact hsw (q - 1) (by omega)))) (z_cwV vX4_valueOf hts q966 ⟨Nat.le_of_ble_eq_true rfl, Nat.le_of_ble_eq_true rfl⟩) rfl hl.1 rfl (lv_room (Nat.le_of_ble_eq_true rfl)) dX4_sort_104 ⟨Nat.le_of_ble_eq_true rfl, Nat.le_of_ble_eq_true rfl⟩) (fun r43 F42 H locs hp44 hI => ?_)
              obtain ⟨rfl, rfl⟩ := hp44
              refine lv_aload_n hx hb dX4_sort_107 rfl (lv_at hl 0 rfl) ?_
              refine lv_aload hx hb dX4_sort_108 (lv_at hl 4 rfl) ?_
              refine lv_iload hx hb dX4_sort_110 (lv_at hl 6 rfl) ?_
              refine z_calli hI (z_V (As := [.int (nI q)]) (rest := [.ref (B0 + 23), .int (kv (rk ((sT σ i13 (sn σ i13) (insk (srt (psd (rk σ) zp1 zp2) (st σ i13) (k - 1)) q k)))) zp1 ((insk (srt (psd (rk σ) zp1 zp2) (st σ i13) (k - 1)) q k) (q - 1)))]) ⟨hx, hb, hml, hown, hts⟩ hI xr_ rfl (c_X3_at l G B0 F35 (B0 + 25 + 2 * i13) (B0 + 26 + 2 * i13) 60 (sn σ i13) (insk (srt (psd (rk σ) zp1 zp2) (st σ i13) (k - 1)) q k) q ⟨xn_, xr_, f_, xw_, xf_⟩ (by omega) (by omega)) (z_cwV vX3_at hts q829 ⟨Nat.le_of_ble_eq_true rfl, Nat.le_of_ble_eq_true rfl⟩) rfl hl.1 rfl (lv_room (Nat.le_of_ble_eq_true rfl)) dX4_sort_112 ⟨Nat.le_of_ble_eq_true rfl, Nat.le_of_ble_eq_true rfl⟩) (fun r46 F45 H locs hp47 hI => ?_)
              obtain ⟨rfl, rfl⟩ := hp47
              refine lv_iload_n hx hb dX4_sort_115 rfl (lv_at hl 2 rfl) ?_
              refine z_calli hI (z_V (As := [.int ((insk (srt (psd (rk σ) zp1 zp2) (st σ i13) (k - 1)) q k) q), .int zp1]) (rest := [.int (kv (rk ((sT σ i13 (sn σ i13) (insk (srt (psd (rk σ) zp1 zp2) (st σ i13) (k - 1)) q k)))) zp1 ((insk (srt (psd (rk σ) zp1 zp2) (st σ i13) (k - 1)) q k) (q - 1)))]) ⟨hx, hb, hml, hown, hts⟩ hI m036 rfl (c_X4_valueOf l G B0 F35 ((sT σ i13 (sn σ i13) (insk (srt (psd (rk σ) zp1 zp2) (st σ i13) (k - 1)) q k))) th1 zp1 ((insk (srt (psd (rk σ) zp1 zp2) (st σ i13) (k - 1)) q k) q) hM2 hB ((show ∃ k9, k9 < 100 ∧ insk (srt (psd (rk σ) zp1 zp2) (st σ i13) (k - 1)) q k q = nI k9 from by rw [hd2]; exact hsw k (by omega)))) (z_cwV vX4_valueOf hts q966 ⟨Nat.le_of_ble_eq_true rfl, Nat.le_of_ble_eq_true rfl⟩) rfl hl.1 rfl (lv_room (Nat.le_of_ble_eq_true rfl)) dX4_sort_116 ⟨Nat.le_of_ble_eq_true rfl, Nat.le_of_ble_eq_true rfl⟩) (fun r49 F48 H locs hp50 hI => ?_)
              obtain ⟨rfl, rfl⟩ := hp50
              refine lv_icmp_le (tgt := 139) hx hb dX4_sort_119 (by decide) (fun hq51 => ?_) (fun hq51 => ?_)
              · rw [hd1, hd2] at hq51
                have hlq : lnd (psd (rk σ) zp1 zp2) (srt (psd (rk σ) zp1 zp2) (st σ i13) (k - 1)) ((srt (psd (rk σ) zp1 zp2) (st σ i13) (k - 1)) k) k = q := by rw [hq2, lnd_fq hq37 (fun z => i_le_n.mp hq51 (z.1 hq38))]
                refine lv_iinc (k := 5) (v := nI (k + 1)) (lv' := [(5, .int (nI (k + 1))), (0, .ref (B0 + 23)), (1, .int (nI i13)), (2, .int zp1), (3, .int zp2), (4, .ref (B0 + 25 + 2 * i13)), (6, .int (nI q))]) hx hb dX4_sort_139 hl rfl (nI_add k 1) (by decide) rfl (fun ls hl => ?_)
                refine lv_goto (tgt := 38) hx hb dX4_sort_142 (by decide) ?_
                refine ih (k + 1) _ ls H locs (by first | omega | (dsimp only; omega)) ?_ (lv_sub hl [1, 2, 3, 4, 5, 0] rfl) hI
                have hs9 := srt_at (P := (psd (rk σ) zp1 zp2)) (t := st σ i13) hk1 hlq
                refine ⟨RA.cg ⟨xn_, xr_, f_, xw_, xf_⟩ (fun j hj => ?_), hs0, by omega, by omega⟩
                rw [show k + 1 - 1 = k by omega, hs9]
              · rw [hd1, hd2] at hq51
                have hps : (psd (rk σ) zp1 zp2) ((srt (psd (rk σ) zp1 zp2) (st σ i13) (k - 1)) k) ((srt (psd (rk σ) zp1 zp2) (st σ i13) (k - 1)) (q - 1)) := ⟨fun _ => i_n_le.mp hq51, fun e => absurd hq38 e⟩
                refine lv_aload hx hb dX4_sort_122 (lv_at hl 4 rfl) ?_
                refine lv_iload hx hb dX4_sort_124 (lv_at hl 6 rfl) ?_
                refine lv_iconst (v := nI 1) hx hb dX4_sort_126 (by decide) ?_
                refine lv_isub hx hb dX4_sort_127 ?_
                refine z_topi (pk_sub (a := q) (b := 1) (by omega)) ?_
                refine lv_iload hx hb dX4_sort_128 (lv_at hl 6 rfl) ?_
                refine z_callv hI (z_V (As := [.int (nI (q - 1)), .int (nI q)]) (rest := []) ⟨hx, hb, hml, hown, hts⟩ hI xr_ rfl (c_X3_swap l G B0 F35 (B0 + 25 + 2 * i13) (B0 + 26 + 2 * i13) 60 (sn σ i13) (insk (srt (psd (rk σ) zp1 zp2) (st σ i13) (k - 1)) q k) (q - 1) q ⟨xn_, xr_, f_, xw_, xf_⟩ (by omega) (by omega) (by omega)) (z_cwV vX3_swap hts q980 ⟨Nat.le_of_ble_eq_true rfl, Nat.le_of_ble_eq_true rfl⟩) rfl hl.1 rfl (lv_room (Nat.le_of_ble_eq_true rfl)) dX4_sort_130 ⟨Nat.le_of_ble_eq_true rfl, Nat.le_of_ble_eq_true rfl⟩) (fun F52 H locs hp54 hI => ?_)
                obtain ⟨ha55, hs55⟩ := hp54
                have hc56 : F52 (B0 + 23) = some (zO 4 [.int th1, .ref (B0 + 24), .ref (B0 + 33), .ref (B0 + 38), .ref (B0 + 40)]) := (hs55 _ (zne m036 xr_ (fun q => by cases q)) (zne m036 xw_ (fun q => by cases q))).trans m036
                have hc57 : F52 (B0 + 24) = some (zA3 G 4 ma36) := (hs55 _ (zne m136 xr_ (fun q => by cases q)) (by omega)).trans m136
                have hc58 : F52 (B0 + 33) = some (zA3 G 2 mb36) := (hs55 _ (zne m236 xr_ (fun q => by cases q)) (by omega)).trans m236
                have hc59 : F52 (B0 + 40) = some (zAI G 100 mc36) := (hs55 _ (zne m336 xr_ (fun q => by cases q)) (by omega)).trans m336
                have hc60 : F52 (B0 + 38) = some (zO 3 [.ref (B0 + 39), .int (nI (sn σ i13))]) := (hs55 _ (by omega) (zne xrsp xw_ (fun q => by cases q))).trans xrsp
                have hc61 : F52 (B0 + 39) = some (zAI G 60 fsp) := (hs55 _ (zne xwsp xr_ (fun q => by cases q)) (by omega)).trans xwsp
                obtain ⟨xn_55, xr_55, f_55, xw_55, xf_55⟩ := id ha55
                refine lv_iinc (k := 6) (v := nI (q - 1)) (lv' := [(6, .int (nI (q - 1))), (0, .ref (B0 + 23)), (1, .int (nI i13)), (2, .int zp1), (3, .int zp2), (4, .ref (B0 + 25 + 2 * i13)), (5, .int (nI k))]) hx hb dX4_sort_133 hl rfl (sb_m1 (p := q) (by omega)) (by decide) rfl (fun ls hl => ?_)
                refine lv_goto (tgt := 52) hx hb dX4_sort_136 (by decide) ?_
                refine ih52 (q - 1) _ ls H locs (by first | omega | (dsimp only; omega)) ?_ (lv_sub hl [1, 2, 3, 4, 5, 6, 0] rfl) hI
                refine ⟨RA.cg ha55 (fun j hj => insk_s hq37 (by omega) j), (zSm.tr hs0 hs55), by omega, ?_⟩
                rw [hq2, lnd_tq hq37 hps]
            · refine lv_aload_n hx hb dX4_sort_61 rfl (lv_at hl 0 rfl) ?_
              refine lv_aload hx hb dX4_sort_62 (lv_at hl 4 rfl) ?_
              refine lv_iload hx hb dX4_sort_64 (lv_at hl 6 rfl) ?_
              refine lv_iconst (v := nI 1) hx hb dX4_sort_66 (by decide) ?_
              refine lv_isub hx hb dX4_sort_67 ?_
              refine z_topi (pk_sub (a := q) (b := 1) (by omega)) ?_
              refine z_calli hI (z_V (As := [.int (nI (q - 1))]) (rest := [.ref (B0 + 23)]) ⟨hx, hb, hml, hown, hts⟩ hI xr_ rfl (c_X3_at l G B0 F35 (B0 + 25 + 2 * i13) (B0 + 26 + 2 * i13) 60 (sn σ i13) (insk (srt (psd (rk σ) zp1 zp2) (st σ i13) (k - 1)) q k) (q - 1) ⟨xn_, xr_, f_, xw_, xf_⟩ (by omega) (by omega)) (z_cwV vX3_at hts q829 ⟨Nat.le_of_ble_eq_true rfl, Nat.le_of_ble_eq_true rfl⟩) rfl hl.1 rfl (lv_room (Nat.le_of_ble_eq_true rfl)) dX4_sort_68 ⟨Nat.le_of_ble_eq_true rfl, Nat.le_of_ble_eq_true rfl⟩) (fun r63 F62 H locs hp64 hI => ?_)
              obtain ⟨rfl, rfl⟩ := hp64
              refine lv_iload_n hx hb dX4_sort_71 rfl (lv_at hl 2 rfl) ?_
              refine z_calli hI (z_V (As := [.int ((insk (srt (psd (rk σ) zp1 zp2) (st σ i13) (k - 1)) q k) (q - 1)), .int zp1]) (rest := []) ⟨hx, hb, hml, hown, hts⟩ hI m036 rfl (c_X4_valueOf l G B0 F35 ((sT σ i13 (sn σ i13) (insk (srt (psd (rk σ) zp1 zp2) (st σ i13) (k - 1)) q k))) th1 zp1 ((insk (srt (psd (rk σ) zp1 zp2) (st σ i13) (k - 1)) q k) (q - 1)) hM2 hB ((show ∃ k9, k9 < 100 ∧ insk (srt (psd (rk σ) zp1 zp2) (st σ i13) (k - 1)) q k (q - 1) = nI k9 from by rw [hd1]; exact hsw (q - 1) (by omega)))) (z_cwV vX4_valueOf hts q966 ⟨Nat.le_of_ble_eq_true rfl, Nat.le_of_ble_eq_true rfl⟩) rfl hl.1 rfl (lv_room (Nat.le_of_ble_eq_true rfl)) dX4_sort_72 ⟨Nat.le_of_ble_eq_true rfl, Nat.le_of_ble_eq_true rfl⟩) (fun r66 F65 H locs hp67 hI => ?_)
              obtain ⟨rfl, rfl⟩ := hp67
              refine lv_aload_n hx hb dX4_sort_75 rfl (lv_at hl 0 rfl) ?_
              refine lv_aload hx hb dX4_sort_76 (lv_at hl 4 rfl) ?_
              refine lv_iload hx hb dX4_sort_78 (lv_at hl 6 rfl) ?_
              refine z_calli hI (z_V (As := [.int (nI q)]) (rest := [.ref (B0 + 23), .int (kv (rk ((sT σ i13 (sn σ i13) (insk (srt (psd (rk σ) zp1 zp2) (st σ i13) (k - 1)) q k)))) zp1 ((insk (srt (psd (rk σ) zp1 zp2) (st σ i13) (k - 1)) q k) (q - 1)))]) ⟨hx, hb, hml, hown, hts⟩ hI xr_ rfl (c_X3_at l G B0 F35 (B0 + 25 + 2 * i13) (B0 + 26 + 2 * i13) 60 (sn σ i13) (insk (srt (psd (rk σ) zp1 zp2) (st σ i13) (k - 1)) q k) q ⟨xn_, xr_, f_, xw_, xf_⟩ (by omega) (by omega)) (z_cwV vX3_at hts q829 ⟨Nat.le_of_ble_eq_true rfl, Nat.le_of_ble_eq_true rfl⟩) rfl hl.1 rfl (lv_room (Nat.le_of_ble_eq_true rfl)) dX4_sort_80 ⟨Nat.le_of_ble_eq_true rfl, Nat.le_of_ble_eq_true rfl⟩) (fun r69 F68 H locs hp70 hI => ?_)
              obtain ⟨rfl, rfl⟩ := hp70
              refine lv_iload_n hx hb dX4_sort_83 rfl (lv_at hl 2 rfl) ?_
              refine z_calli hI (z_V (As := [.int ((insk (srt (psd (rk σ) zp1 zp2) (st σ i13) (k - 1)) q k) q), .int zp1]) (rest := [.int (kv (rk ((sT σ i13 (sn σ i13) (insk (srt (psd (rk σ) zp1 zp2) (st σ i13) (k - 1)) q k)))) zp1 ((insk (srt (psd (rk σ) zp1 zp2) (st σ i13) (k - 1)) q k) (q - 1)))]) ⟨hx, hb, hml, hown, hts⟩ hI m036 rfl (c_X4_valueOf l G B0 F35 ((sT σ i13 (sn σ i13) (insk (srt (psd (rk σ) zp1 zp2) (st σ i13) (k - 1)) q k))) th1 zp1 ((insk (srt (psd (rk σ) zp1 zp2) (st σ i13) (k - 1)) q k) q) hM2 hB ((show ∃ k9, k9 < 100 ∧ insk (srt (psd (rk σ) zp1 zp2) (st σ i13) (k - 1)) q k q = nI k9 from by rw [hd2]; exact hsw k (by omega)))) (z_cwV vX4_valueOf hts q966 ⟨Nat.le_of_ble_eq_true rfl, Nat.le_of_ble_eq_true rfl⟩) rfl hl.1 rfl (lv_room (Nat.le_of_ble_eq_true rfl)) dX4_sort_84 ⟨Nat.le_of_ble_eq_true rfl, Nat.le_of_ble_eq_true rfl⟩) (fun r72 F71 H locs hp73 hI => ?_)
              obtain ⟨rfl, rfl⟩ := hp73
              refine lv_icmp_ge (tgt := 139) hx hb dX4_sort_87 (by decide) (fun hq74 => ?_) (fun hq74 => ?_)
              · rw [hd1, hd2] at hq74
                have hlq : lnd (psd (rk σ) zp1 zp2) (srt (psd (rk σ) zp1 zp2) (st σ i13) (k - 1)) ((srt (psd (rk σ) zp1 zp2) (st σ i13) (k - 1)) k) k = q := by rw [hq2, lnd_fq hq37 (fun z => i_le_n.mp hq74 (z.2 hq38))]
                refine lv_iinc (k := 5) (v := nI (k + 1)) (lv' := [(5, .int (nI (k + 1))), (0, .ref (B0 + 23)), (1, .int (nI i13)), (2, .int zp1), (3, .int zp2), (4, .ref (B0 + 25 + 2 * i13)), (6, .int (nI q))]) hx hb dX4_sort_139 hl rfl (nI_add k 1) (by decide) rfl (fun ls hl => ?_)
                refine lv_goto (tgt := 38) hx hb dX4_sort_142 (by decide) ?_
                refine ih (k + 1) _ ls H locs (by first | omega | (dsimp only; omega)) ?_ (lv_sub hl [1, 2, 3, 4, 5, 0] rfl) hI
                have hs9 := srt_at (P := (psd (rk σ) zp1 zp2)) (t := st σ i13) hk1 hlq
                refine ⟨RA.cg ⟨xn_, xr_, f_, xw_, xf_⟩ (fun j hj => ?_), hs0, by omega, by omega⟩
                rw [show k + 1 - 1 = k by omega, hs9]
              · rw [hd1, hd2] at hq74
                have hps : (psd (rk σ) zp1 zp2) ((srt (psd (rk σ) zp1 zp2) (st σ i13) (k - 1)) k) ((srt (psd (rk σ) zp1 zp2) (st σ i13) (k - 1)) (q - 1)) := ⟨fun e => absurd e hq38, fun _ => i_n_le.mp hq74⟩
                refine lv_goto (tgt := 122) hx hb dX4_sort_90 (by decide) ?_
                refine lv_aload hx hb dX4_sort_122 (lv_at hl 4 rfl) ?_
                refine lv_iload hx hb dX4_sort_124 (lv_at hl 6 rfl) ?_
                refine lv_iconst (v := nI 1) hx hb dX4_sort_126 (by decide) ?_
                refine lv_isub hx hb dX4_sort_127 ?_
                refine z_topi (pk_sub (a := q) (b := 1) (by omega)) ?_
                refine lv_iload hx hb dX4_sort_128 (lv_at hl 6 rfl) ?_
                refine z_callv hI (z_V (As := [.int (nI (q - 1)), .int (nI q)]) (rest := []) ⟨hx, hb, hml, hown, hts⟩ hI xr_ rfl (c_X3_swap l G B0 F35 (B0 + 25 + 2 * i13) (B0 + 26 + 2 * i13) 60 (sn σ i13) (insk (srt (psd (rk σ) zp1 zp2) (st σ i13) (k - 1)) q k) (q - 1) q ⟨xn_, xr_, f_, xw_, xf_⟩ (by omega) (by omega) (by omega)) (z_cwV vX3_swap hts q980 ⟨Nat.le_of_ble_eq_true rfl, Nat.le_of_ble_eq_true rfl⟩) rfl hl.1 rfl (lv_room (Nat.le_of_ble_eq_true rfl)) dX4_sort_130 ⟨Nat.le_of_ble_eq_true rfl, Nat.le_of_ble_eq_true rfl⟩) (fun F75 H locs hp77 hI => ?_)
                obtain ⟨ha78, hs78⟩ := hp77
                have hc79 : F75 (B0 + 23) = some (zO 4 [.int th1, .ref (B0 + 24), .ref (B0 + 33), .ref (B0 + 38), .ref (B0 + 40)]) := (hs78 _ (zne m036 xr_ (fun q => by cases q)) (zne m036 xw_ (fun q => by cases q))).trans m036
                have hc80 : F75 (B0 + 24) = some (zA3 G 4 ma36) := (hs78 _ (zne m136 xr_ (fun q => by cases q)) (by omega)).trans m136
                have hc81 : F75 (B0 + 33) = some (zA3 G 2 mb36) := (hs78 _ (zne m236 xr_ (fun q => by cases q)) (by omega)).trans m236
                have hc82 : F75 (B0 + 40) = some (zAI G 100 mc36) := (hs78 _ (zne m336 xr_ (fun q => by cases q)) (by omega)).trans m336
                have hc83 : F75 (B0 + 38) = some (zO 3 [.ref (B0 + 39), .int (nI (sn σ i13))]) := (hs78 _ (by omega) (zne xrsp xw_ (fun q => by cases q))).trans xrsp
                have hc84 : F75 (B0 + 39) = some (zAI G 60 fsp) := (hs78 _ (zne xwsp xr_ (fun q => by cases q)) (by omega)).trans xwsp
                obtain ⟨xn_78, xr_78, f_78, xw_78, xf_78⟩ := id ha78
                refine lv_iinc (k := 6) (v := nI (q - 1)) (lv' := [(6, .int (nI (q - 1))), (0, .ref (B0 + 23)), (1, .int (nI i13)), (2, .int zp1), (3, .int zp2), (4, .ref (B0 + 25 + 2 * i13)), (5, .int (nI k))]) hx hb dX4_sort_133 hl rfl (sb_m1 (p := q) (by omega)) (by decide) rfl (fun ls hl => ?_)
                refine lv_goto (tgt := 52) hx hb dX4_sort_136 (by decide) ?_
                refine ih52 (q - 1) _ ls H locs (by first | omega | (dsimp only; omega)) ?_ (lv_sub hl [1, 2, 3, 4, 5, 6, 0] rfl) hI
                refine ⟨RA.cg ha78 (fun j hj => insk_s hq37 (by omega) j), (zSm.tr hs0 hs78), by omega, ?_⟩
                rw [hq2, lnd_tq hq37 hps]
  · refine lv_iconst (v := nI 0) hx hb dX4_sort_16 (by decide) ?_
    refine z_ri hx hb hr hlocks hI ?_ (Nat.le_of_ble_eq_true rfl) (Nat.le_of_ble_eq_true rfl) dX4_sort_17
    exact ⟨_, rfl, th1, σ, hM1, hz2, fun q => absurd q hq12, fun _ => rfl, hmf1⟩

theorem mv_by {x : Int32} {m : Nat} (h0 : 0 < m) (h : m ≤ 100) : (x - x / nI m * nI m + nI m) - (x - x / nI m * nI m + nI m) / nI m * nI m = nI (fmd x m) := by
  have hl := fmd_lt x h0
  have e1 : (x - x / nI m * nI m).toInt = x.toInt.tmod m := by rw [rem_toInt, nI_toInt (by omega)]
  have hb1 := Int.tmod_lt_of_pos x.toInt (show (0 : Int) < m by omega)
  have hb2 := Int.lt_tmod_of_pos x.toInt (show (0 : Int) < m by omega)
  have e2 : (x - x / nI m * nI m + nI m).toInt = x.toInt.tmod m + m := by
    rw [Int32.toInt_add, e1, nI_toInt (by omega), Int.bmod_eq_of_le] <;> omega
  apply Int32.toInt_inj.mp
  rw [rem_toInt, e2, nI_toInt (by omega), nI_toInt (by omega), Int.tmod_eq_emod_of_nonneg (by omega), Int.add_emod_right]
  unfold fmd
  rw [Int.toNat_of_nonneg (Int.emod_nonneg _ (by omega))]
  rw [Int.tmod_def, Int.sub_emod]
  rw [Int.mul_emod_right, Int.sub_zero, Int.emod_emod_of_dvd _ (Int.dvd_refl _)]
set_option maxHeartbeats 4000000 in
set_option maxRecDepth 100000 in
theorem c_X4_move (l : Launch) (G : zK) (B0 : Nat) (F : zM) (σ : Sg) (th zp0 zp1 zp2 zp3 : Int32) (hM : MS G B0 F σ th) (hK : SgOk σ) : Met l yX4_move (Cond.code yX4_move cX4_move 8 (some FieldType.int) :: zW) (zRm 3 68 0 0) (va_Pc [.ref (B0 + 23), .int zp0, .int zp1, .int zp2, .int zp3] (zPre G B0 F)) (zQi G B0 (zRP G B0 F σ (oA_move σ zp0 zp1 zp2 zp3) (oB_move σ zp0 zp1 zp2 zp3) (oC_move σ zp0 zp1 zp2 zp3) (ss_move σ zp0 zp1 zp2 zp3) (rr_move σ zp0 zp1 zp2 zp3))) 0 0 (zA B0) := by
  refine z_of (own := RX4) (by decide) rfl (Nat.le_of_ble_eq_true rfl) ?_
  intro p e s m below meth c ls hx hb hr hml hown hlocks hnm hts hl hI
  have hl : lv_has ls 8 [(0, .ref (B0 + 23)), (1, .int zp0), (2, .int zp1), (3, .int zp2), (4, .int zp3)] := hl
  obtain ⟨m01, ⟨ma1, m11, me11⟩, ⟨mb1, m21, me21⟩, ⟨mc1, m31, me31⟩, ⟨n91, t91, m41⟩, mT1, mP1⟩ := id hM
  refine lv_aload_n hx hb dX4_move_0 rfl (lv_at hl 0 rfl) ?_
  refine lv_aload_n hx hb dX4_move_1 rfl (lv_at hl 0 rfl) ?_
  refine lv_iload_n hx hb dX4_move_2 rfl (lv_at hl 1 rfl) ?_
  refine lv_iload_n hx hb dX4_move_3 rfl (lv_at hl 2 rfl) ?_
  refine lv_iload_n hx hb dX4_move_4 rfl (lv_at hl 3 rfl) ?_
  refine z_calli hI (z_V (As := [.int zp0, .int zp1, .int zp2]) (rest := [.ref (B0 + 23)]) ⟨hx, hb, hml, hown, hts⟩ hI m01 rfl (c_X4_isPart l G B0 F σ th zp0 zp1 zp2 hM hK) (z_cwV vX4_isPart hts q813 ⟨Nat.le_of_ble_eq_true rfl, Nat.le_of_ble_eq_true rfl⟩) rfl hl.1 rfl (lv_room (Nat.le_of_ble_eq_true rfl)) dX4_move_5 ⟨Nat.le_of_ble_eq_true rfl, Nat.le_of_ble_eq_true rfl⟩) (fun r3 F2 H locs hp4 hI => ?_)
  obtain ⟨rfl, rfl⟩ := hp4
  refine lv_iconst (v := nI 1) hx hb dX4_move_8 (by decide) ?_
  refine z_topi (pI_1 (P := True) trivial) ?_
  refine lv_iconst (v := nI 1) hx hb dX4_move_9 (by decide) ?_
  refine z_topi (pI_1 (P := True) trivial) ?_
  refine z_calli hI (z_V (As := [.int (pI (okT zp0 ∧ okR (sn σ (ix zp0)) zp1 zp2)), .int (pI (True)), .int (pI (True))]) (rest := []) ⟨hx, hb, hml, hown, hts⟩ hI m01 rfl (c_X4_passes l G B0 F σ th (okT zp0 ∧ okR (sn σ (ix zp0)) zp1 zp2) (True) (True) hM) (z_cwV vX4_passes hts q788 ⟨Nat.le_of_ble_eq_true rfl, Nat.le_of_ble_eq_true rfl⟩) rfl hl.1 rfl (lv_room (Nat.le_of_ble_eq_true rfl)) dX4_move_10 ⟨Nat.le_of_ble_eq_true rfl, Nat.le_of_ble_eq_true rfl⟩) (fun r6 F5 H locs hp7 hI => ?_)
  obtain ⟨⟨th1, hM1, hz1⟩, rfl, ho1⟩ := hp7
  have hp1 : (okT zp0 ∧ okR (sn σ (ix zp0)) zp1 zp2) ↔ oA_move σ zp0 zp1 zp2 zp3 := Iff.rfl
  have hp2 : oA_move σ zp0 zp1 zp2 zp3 → ((True) ↔ oB_move σ zp0 zp1 zp2 zp3) := fun _ => Iff.rfl
  have hp3 : oA_move σ zp0 zp1 zp2 zp3 → oB_move σ zp0 zp1 zp2 zp3 → ((True) ↔ oC_move σ zp0 zp1 zp2 zp3) := fun _ _ => Iff.rfl
  have hz2 := zTh_cg hp1 hp2 hp3 hz1
  refine z_topi (pI_cg (zC_cg hp1 hp2 hp3)) ?_
  have hmf1 : zMf B0 F F5 := fun q hq => ho1 q (by omega)
  obtain ⟨m08, ⟨ma8, m18, me18⟩, ⟨mb8, m28, me28⟩, ⟨mc8, m38, me38⟩, ⟨n98, t98, m48⟩, mT8, mP8⟩ := id hM1
  refine z_ifp_eq (tgt := 21) hx hb dX4_move_13 (by decide) (fun hq9 => ?_) (fun hq9 => ?_)
  · refine lv_iconst (v := nI 0) hx hb dX4_move_21 (by decide) ?_
    refine z_ri hx hb hr hlocks hI ?_ (Nat.le_of_ble_eq_true rfl) (Nat.le_of_ble_eq_true rfl) dX4_move_22
    exact ⟨_, rfl, th1, σ, hM1, hz2, fun q => absurd q hq9, fun _ => rfl, hmf1⟩
  · obtain ⟨hA, hB, hC0⟩ := id hq9
    obtain ⟨hc0, hc1⟩ := id hA
    obtain ⟨i10, hi11, rfl⟩ := id hc0
    have hix12 : ix (nI i10) = i10 := ix_nI (by omega)
    have hl : lv_has ls 8 [(0, .ref (B0 + 23)), (1, .int (nI i10)), (2, .int zp1), (3, .int zp2), (4, .int zp3)] := hl
    have hsbi10 := (hK.1 i10 hi11).1
    obtain ⟨a13, b14, hab15, hbn16, rfl, rfl⟩ := id hc1
    simp only [hix12] at hbn16
    have hl : lv_has ls 8 [(0, .ref (B0 + 23)), (1, .int (nI i10)), (2, .int (nI a13)), (3, .int (nI b14)), (4, .int zp3)] := hl
    have hx17 := mT8 i10 hi11
    obtain ⟨xnhx17, xrhx17, fhx17, xwhx17, xfhx17⟩ := id hx17
    have hix18 : ix (nI a13) = a13 := ix_nI (by omega)
    have hix19 : ix (nI b14) = b14 := ix_nI (by omega)
    refine lv_iload_n hx hb dX4_move_16 rfl (lv_at hl 2 rfl) ?_
    refine lv_iload_n hx hb dX4_move_17 rfl (lv_at hl 3 rfl) ?_
    refine z_icmp_ne (tgt := 23) (a := a13) (b := b14) hx hb dX4_move_18 (by decide) (by omega) (fun hq20 => ?_) (fun hq20 => ?_)
    · have hfl := fmd_lt zp3 (show 0 < b14 - a13 by omega)
      refine lv_iload_n hx hb dX4_move_23 rfl (lv_at hl 3 rfl) ?_
      refine lv_iload_n hx hb dX4_move_24 rfl (lv_at hl 2 rfl) ?_
      refine lv_isub hx hb dX4_move_25 ?_
      refine z_topi (pk_sub (a := b14) (b := a13) (by omega)) ?_
      refine lv_istore (lv' := [(5, .int (nI (b14 - a13))), (0, .ref (B0 + 23)), (1, .int (nI i10)), (2, .int (nI a13)), (3, .int (nI b14)), (4, .int zp3)]) hx hb dX4_move_26 hl (by decide) rfl (fun ls hl => ?_)
      refine lv_iload hx hb dX4_move_28 (lv_at hl 5 rfl) ?_
      refine lv_iload hx hb dX4_move_30 (lv_at hl 0 rfl) ?_
      refine lv_irem hx hb dX4_move_32 (nI_ne0 (by omega) (by omega)) ?_
      refine lv_iload hx hb dX4_move_33 (lv_at hl 0 rfl) ?_
      refine lv_iadd hx hb dX4_move_35 ?_
      refine lv_iload hx hb dX4_move_36 (lv_at hl 0 rfl) ?_
      refine lv_irem hx hb dX4_move_38 (nI_ne0 (by omega) (by omega)) ?_
      refine z_topi (mv_by (m := b14 - a13) (by omega) (by omega)) ?_
      refine lv_istore (lv' := [(6, .int (nI (fmd zp3 (b14 - a13)))), (5, .int (nI (b14 - a13))), (0, .ref (B0 + 23)), (1, .int (nI i10)), (2, .int (nI a13)), (3, .int (nI b14)), (4, .int zp3)]) hx hb dX4_move_39 hl (by decide) rfl (fun ls hl => ?_)
      refine lv_aload_n hx hb dX4_move_41 rfl (lv_at hl 2 rfl) ?_
      refine z_get hx hb hts hown zlX4 rfl 3 (by decide) (hts _ q755) rfl hI m08 rfl dX4_move_42 ?_
      refine lv_aload_n hx hb dX4_move_45 rfl (lv_at hl 2 rfl) ?_
      refine z_get hx hb hts hown zlX4 rfl 1 (by decide) (hts _ q753) rfl hI m08 rfl dX4_move_46 ?_
      obtain ⟨xnsp, xrsp, fsp, xwsp, xfsp⟩ := id m48
      refine lv_iload_n hx hb dX4_move_49 rfl (lv_at hl 3 rfl) ?_
      refine z_ald3 (k := i10) (v := B0 + 25 + 2 * i10) hx hb hI m18 (by omega) (by omega) (me18 i10 (by omega)) dX4_move_50 ?_
      refine z_callv hI (z_V (As := [.ref (B0 + 25 + 2 * i10)]) (rest := []) ⟨hx, hb, hml, hown, hts⟩ hI xrsp rfl (c_X3_takes l G B0 F5 (B0 + 38) (B0 + 39) 60 n98 t98 (B0 + 25 + 2 * i10) (B0 + 26 + 2 * i10) 60 (sn σ i10) (st σ i10) ⟨xnsp, xrsp, fsp, xwsp, xfsp⟩ (by omega) ⟨xnhx17, xrhx17, fhx17, xwhx17, xfhx17⟩ (by omega) (by omega) (by omega) (by omega)) (z_cwV vX3_takes hts q922 ⟨Nat.le_of_ble_eq_true rfl, Nat.le_of_ble_eq_true rfl⟩) rfl hl.1 rfl (lv_room (Nat.le_of_ble_eq_true rfl)) dX4_move_51 ⟨Nat.le_of_ble_eq_true rfl, Nat.le_of_ble_eq_true rfl⟩) (fun F21 H locs hp23 hI => ?_)
      obtain ⟨ha24, hs24⟩ := hp23
      have hc25 : F21 (B0 + 23) = some (zO 4 [.int th1, .ref (B0 + 24), .ref (B0 + 33), .ref (B0 + 38), .ref (B0 + 40)]) := (hs24 _ (zne m08 xrsp (fun q => by cases q)) (zne m08 xwsp (fun q => by cases q))).trans m08
      have hc26 : F21 (B0 + 24) = some (zA3 G 4 ma8) := (hs24 _ (zne m18 xrsp (fun q => by cases q)) (by omega)).trans m18
      have hc27 : F21 (B0 + 33) = some (zA3 G 2 mb8) := (hs24 _ (zne m28 xrsp (fun q => by cases q)) (by omega)).trans m28
      have hc28 : F21 (B0 + 40) = some (zAI G 100 mc8) := (hs24 _ (zne m38 xrsp (fun q => by cases q)) (by omega)).trans m38
      have hc29 : F21 (B0 + 25 + 2 * i10) = some (zO 3 [.ref (B0 + 26 + 2 * i10), .int (nI (sn σ i10))]) := (hs24 _ (by omega) (zne xrhx17 xwsp (fun q => by cases q))).trans xrhx17
      have hc30 : F21 (B0 + 26 + 2 * i10) = some (zAI G 60 fhx17) := (hs24 _ (zne xwhx17 xrsp (fun q => by cases q)) (by omega)).trans xwhx17
      obtain ⟨xn_24, xr_24, f_24, xw_24, xf_24⟩ := id ha24
      have hM3 := MS.setW hM1 hs24 ha24
      have hmf3 := zMf.tr hmf1 (zMf.sm (a := B0 + 38) (b := B0 + 39) hs24 (by omega) (by omega))
      have hsp := ha24
      obtain ⟨m031, ⟨ma31, m131, me131⟩, ⟨mb31, m231, me231⟩, ⟨mc31, m331, me331⟩, ⟨n931, t931, m431⟩, mT31, mP31⟩ := id hM3
      have hx32 := mT31 i10 hi11
      obtain ⟨xnhx32, xrhx32, fhx32, xwhx32, xfhx32⟩ := id hx32
      obtain ⟨xnsp, xrsp, fsp, xwsp, xfsp⟩ := id hsp
      refine lv_iconst (v := nI 0) hx hb dX4_move_54 (by decide) ?_
      refine lv_istore (lv' := [(7, .int (nI 0)), (6, .int (nI (fmd zp3 (b14 - a13)))), (5, .int (nI (b14 - a13))), (0, .ref (B0 + 23)), (1, .int (nI i10)), (2, .int (nI a13)), (3, .int (nI b14)), (4, .int zp3)]) hx hb dX4_move_55 hl (by decide) rfl (fun ls hl => ?_)
      refine z_loop (σ := Nat) (fun k : Nat => [(0, .ref (B0 + 23)), (1, .int (nI i10)), (2, .int (nI a13)), (3, .int (nI b14)), (4, .int zp3), (5, .int (nI (b14 - a13))), (6, .int (nI (fmd zp3 (b14 - a13)))), (7, .int (nI k))]) (fun (k : Nat) (Fx : zM) => RA G 3 Fx (B0 + 25 + 2 * i10) (B0 + 26 + 2 * i10) 60 (sn σ i10) (mvk (st σ i10) a13 b14 (fmd zp3 (b14 - a13)) k) ∧ zSm F21 Fx (B0 + 25 + 2 * i10) (B0 + 26 + 2 * i10) ∧ k ≤ b14 - a13) (fun k : Nat => b14 - a13 - k) 0 (nL := 8) (st := []) ?_ (lv_sub hl [3, 4, 5, 6, 7, 2, 1, 0] rfl) hI ?_
      · exact ⟨RA.cg ⟨xnhx32, xrhx32, fhx32, xwhx32, xfhx32⟩ (fun j hj => mvk_0 j), zSm.rf, Nat.zero_le _⟩
      · intro k F33 ls H locs hi hl hI ih
        have hl : lv_has ls 8 [(0, .ref (B0 + 23)), (1, .int (nI i10)), (2, .int (nI a13)), (3, .int (nI b14)), (4, .int zp3), (5, .int (nI (b14 - a13))), (6, .int (nI (fmd zp3 (b14 - a13)))), (7, .int (nI k))] := hl
        obtain ⟨ha0, hs0, hk⟩ := hi
        have hM2 := MS.setT hM3 hi11 hs0 ha0
        obtain ⟨m034, ⟨ma34, m134, me134⟩, ⟨mb34, m234, me234⟩, ⟨mc34, m334, me334⟩, ⟨n934, t934, m434⟩, mT34, mP34⟩ := id hM2
        have hsp2 := hsp.go (hs0 _ (by omega) (by omega)) (hs0 _ (by omega) (by omega))
        obtain ⟨xn_, xr_, f_, xw_, xf_⟩ := id ha0
        obtain ⟨xnsp, xrsp, fsp, xwsp, xfsp⟩ := id hsp2
        have hmm := Nat.mod_lt (k + (fmd zp3 (b14 - a13))) (show 0 < b14 - a13 by omega)
        refine lv_iload hx hb dX4_move_57 (lv_at hl 7 rfl) ?_
        refine lv_iload hx hb dX4_move_59 (lv_at hl 5 rfl) ?_
        refine z_icmp_ge (tgt := 101) (a := k) (b := b14 - a13) hx hb dX4_move_61 (by decide) (by omega) (fun hq35 => ?_) (fun hq35 => ?_)
        · refine lv_iload hx hb dX4_move_101 (lv_at hl 6 rfl) ?_
          refine z_ri hx hb hr hlocks hI ?_ (Nat.le_of_ble_eq_true rfl) (Nat.le_of_ble_eq_true rfl) dX4_move_103
          have h9 : mby zp3 (b14 - a13) = fmd zp3 (b14 - a13) := mby_pos (by omega)
          have hkn : k = b14 - a13 := by omega
          refine ⟨_, rfl, th1, _, (MS.setT hM3 hi11 hs0 (RA.cg (t' := mvt (st σ i10) a13 b14 (mby zp3 (b14 - a13))) ha0 (fun j hj => by rw [hkn, h9]; exact mvk_e j))), hz2, fun _ => ⟨(by simp only [oA_move, oB_move, oC_move, rr_move, ss_move, hix12, hix18, hix19] <;> exact rfl), (by simp only [oA_move, oB_move, oC_move, rr_move, ss_move, hix12, hix18, hix19] <;> (rw [h9]))⟩, fun q => absurd ⟨hA, hB, hC0⟩ q, zMf.tr hmf3 (zMf.sm hs0 (by omega) (by omega))⟩
        · refine lv_aload_n hx hb dX4_move_64 rfl (lv_at hl 0 rfl) ?_
          refine z_get hx hb hts hown zlX4 rfl 1 (by decide) (hts _ q753) rfl hI m034 rfl dX4_move_65 ?_
          refine lv_iload_n hx hb dX4_move_68 rfl (lv_at hl 1 rfl) ?_
          refine z_ald3 (k := i10) (v := B0 + 25 + 2 * i10) hx hb hI m134 (by omega) (by omega) (me134 i10 (by omega)) dX4_move_69 ?_
          refine z_getN hx hb hts hown zlX3 rfl 0 (by decide) (List.mem_of_getElem? (i := 3) rfl) rfl hI xr_ rfl dX4_move_70 ?_
          refine lv_iload_n hx hb dX4_move_73 rfl (lv_at hl 2 rfl) ?_
          refine lv_iload hx hb dX4_move_74 (lv_at hl 7 rfl) ?_
          refine lv_iload hx hb dX4_move_76 (lv_at hl 6 rfl) ?_
          refine lv_iadd hx hb dX4_move_78 ?_
          refine z_topi (nI_add k (fmd zp3 (b14 - a13))) ?_
          refine lv_iload hx hb dX4_move_79 (lv_at hl 5 rfl) ?_
          refine lv_irem hx hb dX4_move_81 (nI_ne0 (by omega) (by omega)) ?_
          refine z_topi (pk_rem (a := k + (fmd zp3 (b14 - a13))) (d := b14 - a13) (by omega) (by omega) (by omega)) ?_
          refine lv_iadd hx hb dX4_move_82 ?_
          refine z_topi (nI_add a13 ((k + (fmd zp3 (b14 - a13))) % (b14 - a13))) ?_
          refine lv_aload_n hx hb dX4_move_83 rfl (lv_at hl 0 rfl) ?_
          refine z_get hx hb hts hown zlX4 rfl 3 (by decide) (hts _ q755) rfl hI m034 rfl dX4_move_84 ?_
          refine lv_iload_n hx hb dX4_move_87 rfl (lv_at hl 2 rfl) ?_
          refine lv_iload hx hb dX4_move_88 (lv_at hl 7 rfl) ?_
          refine lv_iadd hx hb dX4_move_90 ?_
          refine z_topi (nI_add a13 k) ?_
          refine z_calli hI (z_V (As := [.int (nI (a13 + k))]) (rest := [.int (nI (a13 + ((k + (fmd zp3 (b14 - a13))) % (b14 - a13)))), .ref (B0 + 26 + 2 * i10)]) ⟨hx, hb, hml, hown, hts⟩ hI xrsp rfl (c_X3_at l G B0 F33 (B0 + 38) (B0 + 39) 60 (sn σ i10) (st σ i10) (a13 + k) ⟨xnsp, xrsp, fsp, xwsp, xfsp⟩ (by omega) (by omega)) (z_cwV vX3_at hts q829 ⟨Nat.le_of_ble_eq_true rfl, Nat.le_of_ble_eq_true rfl⟩) rfl hl.1 rfl (lv_room (Nat.le_of_ble_eq_true rfl)) dX4_move_91 ⟨Nat.le_of_ble_eq_true rfl, Nat.le_of_ble_eq_true rfl⟩) (fun r37 F36 H locs hp38 hI => ?_)
          obtain ⟨rfl, rfl⟩ := hp38
          refine z_ist (k := a13 + ((k + (fmd zp3 (b14 - a13))) % (b14 - a13))) hx hb hI xw_ (by omega) (by omega) dX4_move_94 (fun H locs F39 hw40 ho41 hI => ?_)
          have hc42 : F39 (B0 + 23) = some (zO 4 [.int th1, .ref (B0 + 24), .ref (B0 + 33), .ref (B0 + 38), .ref (B0 + 40)]) := (ho41 _ (zne m034 xw_ (fun q => by cases q))).trans m034
          have hc43 : F39 (B0 + 24) = some (zA3 G 4 ma34) := (ho41 _ (by omega)).trans m134
          have hc44 : F39 (B0 + 33) = some (zA3 G 2 mb34) := (ho41 _ (by omega)).trans m234
          have hc45 : F39 (B0 + 40) = some (zAI G 100 mc34) := (ho41 _ (by omega)).trans m334
          have hc46 : F39 (B0 + 25 + 2 * i10) = some (zO 3 [.ref (B0 + 26 + 2 * i10), .int (nI (sn σ i10))]) := (ho41 _ (zne xr_ xw_ (fun q => by cases q))).trans xr_
          have hc47 : F39 (B0 + 38) = some (zO 3 [.ref (B0 + 39), .int (nI (sn σ i10))]) := (ho41 _ (zne xrsp xw_ (fun q => by cases q))).trans xrsp
          have hc48 : F39 (B0 + 39) = some (zAI G 60 fsp) := (ho41 _ (by omega)).trans xwsp
          refine lv_iinc (k := 7) (v := nI (k + 1)) (lv' := [(7, .int (nI (k + 1))), (0, .ref (B0 + 23)), (1, .int (nI i10)), (2, .int (nI a13)), (3, .int (nI b14)), (4, .int zp3), (5, .int (nI (b14 - a13))), (6, .int (nI (fmd zp3 (b14 - a13))))]) hx hb dX4_move_95 hl rfl (nI_add k 1) (by decide) rfl (fun ls hl => ?_)
          refine lv_goto (tgt := 57) hx hb dX4_move_98 (by decide) ?_
          refine ih (k + 1) _ ls H locs (by first | omega | (dsimp only; omega)) ?_ (lv_sub hl [1, 2, 3, 4, 5, 6, 7, 0] rfl) hI
          refine ⟨⟨xn_, hc46, _, hw40, fun j hj => ?_⟩, (zSm.tr hs0 (zSm.r ho41)), by omega⟩
          rw [← mvk_s hfl (by omega)]
          exact upd_cg xf_ j hj
    · refine lv_iconst (v := nI 0) hx hb dX4_move_21 (by decide) ?_
      refine z_ri hx hb hr hlocks hI ?_ (Nat.le_of_ble_eq_true rfl) (Nat.le_of_ble_eq_true rfl) dX4_move_22
      have h9 : mby zp3 (b14 - a13) = 0 := if_pos (by omega)
      refine ⟨_, rfl, th1, _, (hM1.cgT (i := i10) (t := mvt (st σ i10) a13 b14 (mby zp3 (b14 - a13))) (fun q _ => mvt_0 (by omega) q)), hz2, fun _ => ⟨(by simp only [oA_move, oB_move, oC_move, rr_move, ss_move, hix12, hix18, hix19] <;> exact rfl), (by simp only [oA_move, oB_move, oC_move, rr_move, ss_move, hix12, hix18, hix19] <;> (rw [h9]))⟩, fun q => absurd ⟨hA, hB, hC0⟩ q, hmf1⟩

theorem rp_room2 {T a b n : Nat} (hT : T ≤ 100) (ha : a ≤ 100) (hb : b ≤ 100) (hn : n ≤ 60) : nI n + nI T * (nI b - nI a) ≤ nI 60 ↔ n + T * b ≤ 60 + T * a := by
  have h1 : T * a ≤ 100 * 100 := Nat.mul_le_mul hT ha
  have h2 : T * b ≤ 100 * 100 := Nat.mul_le_mul hT hb
  rw [Int32.mul_sub, pk_mul, pk_mul, Int32.le_iff_toInt_le, Int32.toInt_add, pk_sub_toInt (by omega) (by omega), nI_toInt (by omega), nI_toInt (by omega), Int.bmod_eq_of_le (by omega) (by omega)]
  omega
theorem rpl_run {P : Nat → Prop} {t q' : Nat → Int32} {m m' k : Nat} (hz : (zap P m (k + 1)).2 = k + m) : ∀ {d : Nat}, 1 ≤ d → d ≤ m → rpl P t m q' m' (k + d) = rpl P t m q' m' (k + 1) ∧ zap P m (k + d) = zap P m (k + 1)
  | 0, h, _ => absurd h (by omega)
  | d + 1, h1, h2 => by
    by_cases e : d = 0
    · subst e; exact ⟨rfl, rfl⟩
    · obtain ⟨i1, i2⟩ := rpl_run (t := t) (q' := q') (m' := m') hz (d := d) (by omega) (by omega)
      have hlt : k + d < (zap P m (k + d)).2 := by rw [i2, hz]; omega
      refine ⟨?_, ?_⟩
      · rw [← Nat.add_assoc, rpl_s hlt, i1]
      · rw [← Nat.add_assoc, zap_f (fun z => by have := z.1; omega), i2]
theorem re4_cg {σ : Sg} {p : Int32} {x : Nat} (hK : SgOk σ) (hT : okT p) (hx : x ≤ 61) (h : okT p ∧ 0 < pn σ 0 → x = tms (st σ (ix p)) (sn σ (ix p)) (pt σ 0) (pn σ 0)) : (0 < pn σ 0 ∧ okT p ∧ nI (sn σ (ix p)) + nI x * (nI (pn σ 1) - nI (pn σ 0)) ≤ nI 60) ↔ (0 < pn σ 0 ∧ sn σ (ix p) + tms (st σ (ix p)) (sn σ (ix p)) (pt σ 0) (pn σ 0) * pn σ 1 ≤ 60 + tms (st σ (ix p)) (sn σ (ix p)) (pt σ 0) (pn σ 0) * pn σ 0) := by
  have hn := sg_le hK hT
  have h0 := hK.2 0 (by decide)
  have h1 := hK.2 1 (by decide)
  constructor
  · rintro ⟨a, b, c⟩
    rw [rp_room2 (by omega) (by omega) (by omega) hn, h ⟨b, a⟩] at c
    exact ⟨a, c⟩
  · rintro ⟨a, c⟩
    rw [← h ⟨hT, a⟩] at c
    exact ⟨a, hT, (rp_room2 (by omega) (by omega) (by omega) hn).mpr c⟩
set_option maxHeartbeats 4000000 in
set_option maxRecDepth 100000 in
theorem c_X4_replace (l : Launch) (G : zK) (B0 : Nat) (F : zM) (σ : Sg) (th zp0 : Int32) (hM : MS G B0 F σ th) (hK : SgOk σ) : Met l yX4_replace (Cond.code yX4_replace cX4_replace 9 (some FieldType.int) :: zW) (zRm 4 93 0 0) (va_Pc [.ref (B0 + 23), .int zp0] (zPre G B0 F)) (zQi G B0 (zRP G B0 F σ (oA_replace σ zp0) (oB_replace σ zp0) (oC_replace σ zp0) (ss_replace σ zp0) (rr_replace σ zp0))) 0 0 (zA B0) := by
  refine z_of (own := RX4) (by decide) rfl (Nat.le_of_ble_eq_true rfl) ?_
  intro p e s m below meth c ls hx hb hr hml hown hlocks hnm hts hl hI
  have hl : lv_has ls 9 [(0, .ref (B0 + 23)), (1, .int zp0)] := hl
  obtain ⟨m01, ⟨ma1, m11, me11⟩, ⟨mb1, m21, me21⟩, ⟨mc1, m31, me31⟩, ⟨n91, t91, m41⟩, mT1, mP1⟩ := id hM
  refine lv_iload_n hx hb dX4_replace_0 rfl (lv_at hl 1 rfl) ?_
  refine z_calli hI (z_S (As := [.int zp0]) (rest := []) ⟨hx, hb, hml, hown, hts⟩ hI (c_X4_isText l G B0 F zp0) (z_cwS vX4_isText hts q772 ⟨Nat.le_of_ble_eq_true rfl, Nat.le_of_ble_eq_true rfl⟩) rfl hl.1 rfl (lv_room (Nat.le_of_ble_eq_true rfl)) dX4_replace_1 ⟨Nat.le_of_ble_eq_true rfl, Nat.le_of_ble_eq_true rfl⟩) (fun r3 F2 H locs hp4 hI => ?_)
  obtain ⟨rfl, rfl⟩ := hp4
  refine lv_istore_n (lv' := [(2, .int (pI (okT zp0))), (0, .ref (B0 + 23)), (1, .int zp0)]) hx hb dX4_replace_4 rfl hl (by decide) rfl (fun ls hl => ?_)
  refine lv_aload_n hx hb dX4_replace_5 rfl (lv_at hl 1 rfl) ?_
  refine z_get hx hb hts hown zlX4 rfl 2 (by decide) (hts _ q754) rfl hI m01 rfl dX4_replace_6 ?_
  refine lv_iconst (v := nI 0) hx hb dX4_replace_9 (by decide) ?_
  refine z_ald3 (k := 0) (v := B0 + 34 + 2 * 0) hx hb hI m21 (by omega) (by omega) (me21 0 (by omega)) dX4_replace_10 ?_
  refine lv_astore_n (lv' := [(3, .ref (B0 + 34 + 2 * 0)), (2, .int (pI (okT zp0))), (0, .ref (B0 + 23)), (1, .int zp0)]) hx hb dX4_replace_11 rfl hl (by decide) rfl (fun ls hl => ?_)
  have hb0 := hK.2 0 (by decide)
  have hb1 := hK.2 1 (by decide)
  have hx5 : RA G 3 F (B0 + 34 + 2 * 0) (B0 + 35 + 2 * 0) 60 (pn σ 0) (pt σ 0) := mP1 0 (by decide)
  obtain ⟨xnhx5, xrhx5, fhx5, xwhx5, xfhx5⟩ := id hx5
  have hx6 : RA G 3 F (B0 + 34 + 2 * 1) (B0 + 35 + 2 * 1) 60 (pn σ 1) (pt σ 1) := mP1 1 (by decide)
  obtain ⟨xnhx6, xrhx6, fhx6, xwhx6, xfhx6⟩ := id hx6
  refine lv_iload_n hx hb dX4_replace_12 rfl (lv_at hl 1 rfl) ?_
  refine z_join (σ := Nat) (fun x : Nat => [(3, .ref (B0 + 34 + 2 * 0)), (2, .int (pI (okT zp0))), (0, .ref (B0 + 23)), (1, .int zp0)]) (fun x : Nat => [.int (nI x)]) (fun (x : Nat) (Fx : zM) => F = Fx ∧ x ≤ 61 ∧ (okT zp0 ∧ 0 < pn σ 0 → x = tms (st σ (ix zp0)) (sn σ (ix zp0)) (pt σ 0) (pn σ 0))) 38 9 G B0 ?_ (fun jn38 => ?_)
  · intro x F7 ls H locs hi hl hI
    have hl : lv_has ls 9 [(3, .ref (B0 + 34 + 2 * 0)), (2, .int (pI (okT zp0))), (0, .ref (B0 + 23)), (1, .int zp0)] := hl
    obtain ⟨hF, hx1, hx2⟩ := hi
    subst hF
    refine lv_istore (lv' := [(4, .int (nI x)), (3, .ref (B0 + 34 + 2 * 0)), (2, .int (pI (okT zp0))), (0, .ref (B0 + 23)), (1, .int zp0)]) hx hb dX4_replace_38 hl (by decide) rfl (fun ls hl => ?_)
    refine z_join (σ := Int32) (fun xj : Int32 => [(4, .int (nI x)), (3, .ref (B0 + 34 + 2 * 0)), (2, .int (pI (okT zp0))), (0, .ref (B0 + 23)), (1, .int zp0)]) (fun xj : Int32 => [.int xj]) (fun (xj : Int32) (Fx : zM) => F = Fx ∧ xj = pI (okT zp0 ∧ nI (sn σ (ix zp0)) + nI x * (nI (pn σ 1) - nI (pn σ 0)) ≤ nI 60)) 81 9 G B0 ?_ (fun jn81 => ?_)
    · intro xj F8 ls H locs hi hl hI
      have hl : lv_has ls 9 [(4, .int (nI x)), (3, .ref (B0 + 34 + 2 * 0)), (2, .int (pI (okT zp0))), (0, .ref (B0 + 23)), (1, .int zp0)] := hl
      obtain ⟨hF, hx9⟩ := hi
      subst hF
      subst hx9
      refine lv_istore (lv' := [(5, .int (pI (okT zp0 ∧ nI (sn σ (ix zp0)) + nI x * (nI (pn σ 1) - nI (pn σ 0)) ≤ nI 60))), (4, .int (nI x)), (3, .ref (B0 + 34 + 2 * 0)), (2, .int (pI (okT zp0))), (0, .ref (B0 + 23)), (1, .int zp0)]) hx hb dX4_replace_81 hl (by decide) rfl (fun ls hl => ?_)
      refine lv_aload_n hx hb dX4_replace_83 rfl (lv_at hl 4 rfl) ?_
      refine lv_iload_n hx hb dX4_replace_84 rfl (lv_at hl 3 rfl) ?_
      refine z_join (σ := Int32) (fun xj : Int32 => [(5, .int (pI (okT zp0 ∧ nI (sn σ (ix zp0)) + nI x * (nI (pn σ 1) - nI (pn σ 0)) ≤ nI 60))), (4, .int (nI x)), (3, .ref (B0 + 34 + 2 * 0)), (2, .int (pI (okT zp0))), (0, .ref (B0 + 23)), (1, .int zp0)]) (fun xj : Int32 => [.int xj, .int (pI (okT zp0)), .ref (B0 + 23)]) (fun (xj : Int32) (Fx : zM) => F = Fx ∧ xj = pI (0 < pn σ 0 ∧ (okT zp0 ∧ nI (sn σ (ix zp0)) + nI x * (nI (pn σ 1) - nI (pn σ 0)) ≤ nI 60))) 102 9 G B0 ?_ (fun jn102 => ?_)
      · intro xj F9 ls H locs hi hl hI
        have hl : lv_has ls 9 [(5, .int (pI (okT zp0 ∧ nI (sn σ (ix zp0)) + nI x * (nI (pn σ 1) - nI (pn σ 0)) ≤ nI 60))), (4, .int (nI x)), (3, .ref (B0 + 34 + 2 * 0)), (2, .int (pI (okT zp0))), (0, .ref (B0 + 23)), (1, .int zp0)] := hl
        obtain ⟨hF, hx9⟩ := hi
        subst hF
        subst hx9
        refine lv_iconst (v := nI 1) hx hb dX4_replace_102 (by decide) ?_
        refine z_topi (pI_1 (P := True) trivial) ?_
        refine z_calli hI (z_V (As := [.int (pI (okT zp0)), .int (pI (0 < pn σ 0 ∧ (okT zp0 ∧ nI (sn σ (ix zp0)) + nI x * (nI (pn σ 1) - nI (pn σ 0)) ≤ nI 60))), .int (pI (True))]) (rest := []) ⟨hx, hb, hml, hown, hts⟩ hI m01 rfl (c_X4_passes l G B0 F σ th (okT zp0) (0 < pn σ 0 ∧ (okT zp0 ∧ nI (sn σ (ix zp0)) + nI x * (nI (pn σ 1) - nI (pn σ 0)) ≤ nI 60)) (True) hM) (z_cwV vX4_passes hts q788 ⟨Nat.le_of_ble_eq_true rfl, Nat.le_of_ble_eq_true rfl⟩) rfl hl.1 rfl (lv_room (Nat.le_of_ble_eq_true rfl)) dX4_replace_103 ⟨Nat.le_of_ble_eq_true rfl, Nat.le_of_ble_eq_true rfl⟩) (fun r11 F10 H locs hp12 hI => ?_)
        obtain ⟨⟨th1, hM1, hz1⟩, rfl, ho1⟩ := hp12
        have hp1 : (okT zp0) ↔ oA_replace σ zp0 := Iff.rfl
        have hp2 : oA_replace σ zp0 → ((0 < pn σ 0 ∧ (okT zp0 ∧ nI (sn σ (ix zp0)) + nI x * (nI (pn σ 1) - nI (pn σ 0)) ≤ nI 60)) ↔ oB_replace σ zp0) := fun h => re4_cg hK h hx1 hx2
        have hp3 : oA_replace σ zp0 → oB_replace σ zp0 → ((True) ↔ oC_replace σ zp0) := fun _ _ => Iff.rfl
        have hz2 := zTh_cg hp1 hp2 hp3 hz1
        refine z_topi (pI_cg (zC_cg hp1 hp2 hp3)) ?_
        have hmf1 : zMf B0 F F10 := fun q hq => ho1 q (by omega)
        obtain ⟨m013, ⟨ma13, m113, me113⟩, ⟨mb13, m213, me213⟩, ⟨mc13, m313, me313⟩, ⟨n913, t913, m413⟩, mT13, mP13⟩ := id hM1
        refine z_ifp_ne (tgt := 111) hx hb dX4_replace_106 (by decide) (fun hq14 => ?_) (fun hq14 => ?_)
        · obtain ⟨hA, hB, hC0⟩ := id hq14
          have hc0 := hA
          obtain ⟨i15, hi16, rfl⟩ := id hc0
          have hix17 : ix (nI i15) = i15 := ix_nI (by omega)
          have hl : lv_has ls 9 [(5, .int (pI (okT (nI i15) ∧ nI (sn σ (ix (nI i15))) + nI x * (nI (pn σ 1) - nI (pn σ 0)) ≤ nI 60))), (4, .int (nI x)), (3, .ref (B0 + 34 + 2 * 0)), (2, .int (pI (okT (nI i15)))), (0, .ref (B0 + 23)), (1, .int (nI i15))] := hl
          have hsbi15 := (hK.1 i15 hi16).1
          have hx18 := mT13 i15 hi16
          obtain ⟨xnhx18, xrhx18, fhx18, xwhx18, xfhx18⟩ := id hx18
          obtain ⟨hm, hfit⟩ := id hB
          have hxt := hx2 ⟨hA, hm⟩
          simp only [hix17] at hxt hfit
          have hN := rpt_n (t := st σ i15) (q := pt σ 0) (q' := pt σ 1) (n := sn σ i15) (m' := pn σ 1) hm
          obtain ⟨xnsp, xrsp, fsp, xwsp, xfsp⟩ := id m413
          have hx19 : RA G 3 F10 (B0 + 34 + 2 * 0) (B0 + 35 + 2 * 0) 60 (pn σ 0) (pt σ 0) := mP13 0 (by decide)
          obtain ⟨xnhx19, xrhx19, fhx19, xwhx19, xfhx19⟩ := id hx19
          have hx20 : RA G 3 F10 (B0 + 34 + 2 * 1) (B0 + 35 + 2 * 1) 60 (pn σ 1) (pt σ 1) := mP13 1 (by decide)
          obtain ⟨xnhx20, xrhx20, fhx20, xwhx20, xfhx20⟩ := id hx20
          refine lv_aload_n hx hb dX4_replace_111 rfl (lv_at hl 4 rfl) ?_
          refine z_get hx hb hts hown zlX4 rfl 3 (by decide) (hts _ q755) rfl hI m013 rfl dX4_replace_112 ?_
          refine lv_aload_n hx hb dX4_replace_115 rfl (lv_at hl 4 rfl) ?_
          refine z_get hx hb hts hown zlX4 rfl 1 (by decide) (hts _ q753) rfl hI m013 rfl dX4_replace_116 ?_
          refine lv_iload_n hx hb dX4_replace_119 rfl (lv_at hl 5 rfl) ?_
          refine z_ald3 (k := i15) (v := B0 + 25 + 2 * i15) hx hb hI m113 (by omega) (by omega) (me113 i15 (by omega)) dX4_replace_120 ?_
          refine z_callv hI (z_V (As := [.ref (B0 + 25 + 2 * i15)]) (rest := []) ⟨hx, hb, hml, hown, hts⟩ hI xrsp rfl (c_X3_takes l G B0 F10 (B0 + 38) (B0 + 39) 60 n913 t913 (B0 + 25 + 2 * i15) (B0 + 26 + 2 * i15) 60 (sn σ i15) (st σ i15) ⟨xnsp, xrsp, fsp, xwsp, xfsp⟩ (by omega) ⟨xnhx18, xrhx18, fhx18, xwhx18, xfhx18⟩ (by omega) (by omega) (by omega) (by omega)) (z_cwV vX3_takes hts q922 ⟨Nat.le_of_ble_eq_true rfl, Nat.le_of_ble_eq_true rfl⟩) rfl hl.1 rfl (lv_room (Nat.le_of_ble_eq_true rfl)) dX4_replace_121 ⟨Nat.le_of_ble_eq_true rfl, Nat.le_of_ble_eq_true rfl⟩) (fun F21 H locs hp23 hI => ?_)
          obtain ⟨ha24, hs24⟩ := hp23
          have hc25 : F21 (B0 + 23) = some (zO 4 [.int th1, .ref (B0 + 24), .ref (B0 + 33), .ref (B0 + 38), .ref (B0 + 40)]) := (hs24 _ (zne m013 xrsp (fun q => by cases q)) (zne m013 xwsp (fun q => by cases q))).trans m013
          have hc26 : F21 (B0 + 24) = some (zA3 G 4 ma13) := (hs24 _ (zne m113 xrsp (fun q => by cases q)) (by omega)).trans m113
          have hc27 : F21 (B0 + 33) = some (zA3 G 2 mb13) := (hs24 _ (zne m213 xrsp (fun q => by cases q)) (by omega)).trans m213
          have hc28 : F21 (B0 + 40) = some (zAI G 100 mc13) := (hs24 _ (zne m313 xrsp (fun q => by cases q)) (by omega)).trans m313
          have hc29 : F21 (B0 + 25 + 2 * i15) = some (zO 3 [.ref (B0 + 26 + 2 * i15), .int (nI (sn σ i15))]) := (hs24 _ (by omega) (zne xrhx18 xwsp (fun q => by cases q))).trans xrhx18
          have hc30 : F21 (B0 + 26 + 2 * i15) = some (zAI G 60 fhx18) := (hs24 _ (zne xwhx18 xrsp (fun q => by cases q)) (by omega)).trans xwhx18
          have hc31 : F21 (B0 + 34 + 2 * 0) = some (zO 3 [.ref (B0 + 35 + 2 * 0), .int (nI (pn σ 0))]) := (hs24 _ (by omega) (zne xrhx19 xwsp (fun q => by cases q))).trans xrhx19
          have hc32 : F21 (B0 + 35 + 2 * 0) = some (zAI G 60 fhx19) := (hs24 _ (zne xwhx19 xrsp (fun q => by cases q)) (by omega)).trans xwhx19
          have hc33 : F21 (B0 + 34 + 2 * 1) = some (zO 3 [.ref (B0 + 35 + 2 * 1), .int (nI (pn σ 1))]) := (hs24 _ (by omega) (zne xrhx20 xwsp (fun q => by cases q))).trans xrhx20
          have hc34 : F21 (B0 + 35 + 2 * 1) = some (zAI G 60 fhx20) := (hs24 _ (zne xwhx20 xrsp (fun q => by cases q)) (by omega)).trans xwhx20
          obtain ⟨xn_24, xr_24, f_24, xw_24, xf_24⟩ := id ha24
          have hM3 := MS.setW hM1 hs24 ha24
          have hmf3 := zMf.tr hmf1 (zMf.sm (a := B0 + 38) (b := B0 + 39) hs24 (by omega) (by omega))
          have hsp := ha24
          obtain ⟨m035, ⟨ma35, m135, me135⟩, ⟨mb35, m235, me235⟩, ⟨mc35, m335, me335⟩, ⟨n935, t935, m435⟩, mT35, mP35⟩ := id hM3
          have hx36 := mT35 i15 hi16
          obtain ⟨xnhx36, xrhx36, fhx36, xwhx36, xfhx36⟩ := id hx36
          obtain ⟨xnsp, xrsp, fsp, xwsp, xfsp⟩ := id hsp
          have hx37 : RA G 3 F21 (B0 + 34 + 2 * 0) (B0 + 35 + 2 * 0) 60 (pn σ 0) (pt σ 0) := mP35 0 (by decide)
          obtain ⟨xnhx37, xrhx37, fhx37, xwhx37, xfhx37⟩ := id hx37
          have hx38 : RA G 3 F21 (B0 + 34 + 2 * 1) (B0 + 35 + 2 * 1) 60 (pn σ 1) (pt σ 1) := mP35 1 (by decide)
          obtain ⟨xnhx38, xrhx38, fhx38, xwhx38, xfhx38⟩ := id hx38
          refine lv_aload_n hx hb dX4_replace_124 rfl (lv_at hl 4 rfl) ?_
          refine z_get hx hb hts hown zlX4 rfl 1 (by decide) (hts _ q753) rfl hI m035 rfl dX4_replace_125 ?_
          refine lv_iload_n hx hb dX4_replace_128 rfl (lv_at hl 5 rfl) ?_
          refine z_ald3 (k := i15) (v := B0 + 25 + 2 * i15) hx hb hI m135 (by omega) (by omega) (me135 i15 (by omega)) dX4_replace_129 ?_
          refine lv_iconst (v := nI 0) hx hb dX4_replace_130 (by decide) ?_
          refine z_putN hx hb hts hown zlX3 tyX3 tyX3_ok nmX3 rfl 1 (by decide) (List.mem_of_getElem? (i := 2) rfl) rfl hI xrhx36 rfl rfl rfl rfl (Nat.le_of_ble_eq_true rfl) dX4_replace_131 (fun H locs F39 hw40 ho41 hI => ?_)
          have hw40 : F39 (B0 + 25 + 2 * i15) = some (zO 3 [.ref (B0 + 26 + 2 * i15), .int (nI 0)]) := hw40
          have hc42 : F39 (B0 + 23) = some (zO 4 [.int th1, .ref (B0 + 24), .ref (B0 + 33), .ref (B0 + 38), .ref (B0 + 40)]) := (ho41 _ (zne m035 xrhx36 (fun q => by cases q))).trans m035
          have hc43 : F39 (B0 + 24) = some (zA3 G 4 ma35) := (ho41 _ (zne m135 xrhx36 (fun q => by cases q))).trans m135
          have hc44 : F39 (B0 + 33) = some (zA3 G 2 mb35) := (ho41 _ (zne m235 xrhx36 (fun q => by cases q))).trans m235
          have hc45 : F39 (B0 + 40) = some (zAI G 100 mc35) := (ho41 _ (zne m335 xrhx36 (fun q => by cases q))).trans m335
          have hc46 : F39 (B0 + 26 + 2 * i15) = some (zAI G 60 fhx36) := (ho41 _ (zne xwhx36 xrhx36 (fun q => by cases q))).trans xwhx36
          have hc47 : F39 (B0 + 38) = some (zO 3 [.ref (B0 + 39), .int (nI (sn σ i15))]) := (ho41 _ (by omega)).trans xrsp
          have hc48 : F39 (B0 + 39) = some (zAI G 60 fsp) := (ho41 _ (zne xwsp xrhx36 (fun q => by cases q))).trans xwsp
          have hc49 : F39 (B0 + 34 + 2 * 0) = some (zO 3 [.ref (B0 + 35 + 2 * 0), .int (nI (pn σ 0))]) := (ho41 _ (by omega)).trans xrhx37
          have hc50 : F39 (B0 + 35 + 2 * 0) = some (zAI G 60 fhx37) := (ho41 _ (zne xwhx37 xrhx36 (fun q => by cases q))).trans xwhx37
          have hc51 : F39 (B0 + 34 + 2 * 1) = some (zO 3 [.ref (B0 + 35 + 2 * 1), .int (nI (pn σ 1))]) := (ho41 _ (by omega)).trans xrhx38
          have hc52 : F39 (B0 + 35 + 2 * 1) = some (zAI G 60 fhx38) := (ho41 _ (zne xwhx38 xrhx36 (fun q => by cases q))).trans xwhx38
          refine lv_iconst (v := nI 0) hx hb dX4_replace_134 (by decide) ?_
          refine lv_istore (lv' := [(6, .int (nI 0)), (5, .int (pI (okT (nI i15) ∧ nI (sn σ (ix (nI i15))) + nI x * (nI (pn σ 1) - nI (pn σ 0)) ≤ nI 60))), (4, .int (nI x)), (3, .ref (B0 + 34 + 2 * 0)), (2, .int (pI (okT (nI i15)))), (0, .ref (B0 + 23)), (1, .int (nI i15))]) hx hb dX4_replace_135 hl (by decide) rfl (fun ls hl => ?_)
          refine z_loop (σ := Nat) (fun k : Nat => [(0, .ref (B0 + 23)), (1, .int (nI i15)), (2, .int (pI (okT (nI i15)))), (3, .ref (B0 + 34 + 2 * 0)), (4, .int (nI x)), (5, .int (pI (okT (nI i15) ∧ nI (sn σ (ix (nI i15))) + nI x * (nI (pn σ 1) - nI (pn σ 0)) ≤ nI 60))), (6, .int (nI k))]) (fun (k : Nat) (Fx : zM) => RA G 3 Fx (B0 + 25 + 2 * i15) (B0 + 26 + 2 * i15) 60 (rpl (hld (st σ i15) (sn σ i15) (pt σ 0) (pn σ 0)) (st σ i15) (pn σ 0) (pt σ 1) (pn σ 1) k).1 (rpl (hld (st σ i15) (sn σ i15) (pt σ 0) (pn σ 0)) (st σ i15) (pn σ 0) (pt σ 1) (pn σ 1) k).2 ∧ zSm F21 Fx (B0 + 25 + 2 * i15) (B0 + 26 + 2 * i15) ∧ k ≤ sn σ i15 ∧ (zap (hld (st σ i15) (sn σ i15) (pt σ 0) (pn σ 0)) (pn σ 0) k).2 ≤ k) (fun k : Nat => sn σ i15 - k) 0 (nL := 9) (st := []) ?_ (lv_sub hl [5, 6, 4, 3, 2, 1, 0] rfl) hI ?_
          · exact ⟨⟨Nat.zero_le _, hw40, _, hc46, fun j hj => absurd hj (Nat.not_lt_zero _)⟩, (zSm.l ho41), Nat.zero_le _, Nat.le_refl _⟩
          · intro k F53 ls H locs hi hl hI ih
            have hl : lv_has ls 9 [(0, .ref (B0 + 23)), (1, .int (nI i15)), (2, .int (pI (okT (nI i15)))), (3, .ref (B0 + 34 + 2 * 0)), (4, .int (nI x)), (5, .int (pI (okT (nI i15) ∧ nI (sn σ (ix (nI i15))) + nI x * (nI (pn σ 1) - nI (pn σ 0)) ≤ nI 60))), (6, .int (nI k))] := hl
            obtain ⟨ha0, hs0, hk, hzk⟩ := hi
            have hM2 := MS.setT hM3 hi16 hs0 ha0
            obtain ⟨m054, ⟨ma54, m154, me154⟩, ⟨mb54, m254, me254⟩, ⟨mc54, m354, me354⟩, ⟨n954, t954, m454⟩, mT54, mP54⟩ := id hM2
            have hsp2 := hsp.go (hs0 _ (by omega) (by omega)) (hs0 _ (by omega) (by omega))
            obtain ⟨xn_, xr_, f_, xw_, xf_⟩ := id ha0
            obtain ⟨xnsp, xrsp, fsp, xwsp, xfsp⟩ := id hsp2
            have hx55 : RA G 3 F53 (B0 + 34 + 2 * 0) (B0 + 35 + 2 * 0) 60 (pn σ 0) (pt σ 0) := mP54 0 (by decide)
            obtain ⟨xnhx55, xrhx55, fhx55, xwhx55, xfhx55⟩ := id hx55
            have hx56 : RA G 3 F53 (B0 + 34 + 2 * 1) (B0 + 35 + 2 * 1) 60 (pn σ 1) (pt σ 1) := mP54 1 (by decide)
            obtain ⟨xnhx56, xrhx56, fhx56, xwhx56, xfhx56⟩ := id hx56
            refine lv_iload hx hb dX4_replace_137 (lv_at hl 6 rfl) ?_
            refine lv_aload_n hx hb dX4_replace_139 rfl (lv_at hl 0 rfl) ?_
            refine z_get hx hb hts hown zlX4 rfl 3 (by decide) (hts _ q755) rfl hI m054 rfl dX4_replace_140 ?_
            refine z_getN hx hb hts hown zlX3 rfl 1 (by decide) (List.mem_of_getElem? (i := 2) rfl) rfl hI xrsp rfl dX4_replace_143 ?_
            refine z_icmp_ge (tgt := 253) (a := k) (b := sn σ i15) hx hb dX4_replace_146 (by decide) (by omega) (fun hq57 => ?_) (fun hq57 => ?_)
            · refine lv_iload hx hb dX4_replace_253 (lv_at hl 4 rfl) ?_
              refine z_ri hx hb hr hlocks hI ?_ (Nat.le_of_ble_eq_true rfl) (Nat.le_of_ble_eq_true rfl) dX4_replace_255
              have hkn : k = sn σ i15 := by omega
              rw [hkn] at ha0
              have hz9 := MS.setT hM3 hi16 hs0 ha0
              have hze : (rpl (hld (st σ i15) (sn σ i15) (pt σ 0) (pn σ 0)) (st σ i15) (pn σ 0) (pt σ 1) (pn σ 1) (sn σ i15)).1 = sn σ i15 + tms (st σ i15) (sn σ i15) (pt σ 0) (pn σ 0) * pn σ 1 - tms (st σ i15) (sn σ i15) (pt σ 0) (pn σ 0) * pn σ 0 := by omega
              rw [hze] at hz9
              refine ⟨_, rfl, th1, _, hz9, hz2, fun _ => ⟨(by simp only [oA_replace, oB_replace, oC_replace, rr_replace, ss_replace, hix17] <;> exact rfl), (by simp only [oA_replace, oB_replace, oC_replace, rr_replace, ss_replace, hix17] <;> (rw [hxt]))⟩, fun q => absurd ⟨hA, hB, hC0⟩ q, zMf.tr hmf3 (zMf.sm hs0 (by omega) (by omega))⟩
            · refine lv_aload_n hx hb dX4_replace_149 rfl (lv_at hl 0 rfl) ?_
              refine z_get hx hb hts hown zlX4 rfl 3 (by decide) (hts _ q755) rfl hI m054 rfl dX4_replace_150 ?_
              refine lv_aload_n hx hb dX4_replace_153 rfl (lv_at hl 3 rfl) ?_
              refine lv_iload hx hb dX4_replace_154 (lv_at hl 6 rfl) ?_
              refine z_calli hI (z_V (As := [.ref (B0 + 34 + 2 * 0), .int (nI k)]) (rest := []) ⟨hx, hb, hml, hown, hts⟩ hI xrsp rfl (c_X3_has l G B0 F53 (B0 + 38) (B0 + 39) 60 (sn σ i15) (st σ i15) (B0 + 34 + 2 * 0) (B0 + 35 + 2 * 0) 60 (pn σ 0) (pt σ 0) k ⟨xnsp, xrsp, fsp, xwsp, xfsp⟩ (by omega) ⟨xnhx55, xrhx55, fhx55, xwhx55, xfhx55⟩ (by omega) (by omega)) (z_cwV vX3_has hts q903 ⟨Nat.le_of_ble_eq_true rfl, Nat.le_of_ble_eq_true rfl⟩) rfl hl.1 rfl (lv_room (Nat.le_of_ble_eq_true rfl)) dX4_replace_156 ⟨Nat.le_of_ble_eq_true rfl, Nat.le_of_ble_eq_true rfl⟩) (fun r59 F58 H locs hp60 hI => ?_)
              obtain ⟨rfl, rfl⟩ := hp60
              by_cases hP : hld (st σ i15) (sn σ i15) (pt σ 0) (pn σ 0) k
              · refine z_topi (pI_t hP).symm ?_
                have hmo := rpl_mono (P := hld (st σ i15) (sn σ i15) (pt σ 0) (pn σ 0)) (t := st σ i15) (q' := pt σ 1) (m := pn σ 0) (m' := pn σ 1) (show k + 1 ≤ sn σ i15 by omega)
                rw [rpl_y (by omega) hP] at hmo
                dsimp only at hmo
                refine lv_istore (lv' := [(7, .int (nI 1)), (0, .ref (B0 + 23)), (1, .int (nI i15)), (2, .int (pI (okT (nI i15)))), (3, .ref (B0 + 34 + 2 * 0)), (4, .int (nI x)), (5, .int (pI (okT (nI i15) ∧ nI (sn σ (ix (nI i15))) + nI x * (nI (pn σ 1) - nI (pn σ 0)) ≤ nI 60))), (6, .int (nI k))]) hx hb dX4_replace_159 hl (by decide) rfl (fun ls hl => ?_)
                refine lv_iconst (v := nI 0) hx hb dX4_replace_161 (by decide) ?_
                refine lv_istore (lv' := [(8, .int (nI 0)), (7, .int (nI 1)), (0, .ref (B0 + 23)), (1, .int (nI i15)), (2, .int (pI (okT (nI i15)))), (3, .ref (B0 + 34 + 2 * 0)), (4, .int (nI x)), (5, .int (pI (okT (nI i15) ∧ nI (sn σ (ix (nI i15))) + nI x * (nI (pn σ 1) - nI (pn σ 0)) ≤ nI 60))), (6, .int (nI k))]) hx hb dX4_replace_162 hl (by decide) rfl (fun ls hl => ?_)
                refine z_loop (σ := Nat) (fun j5 : Nat => [(0, .ref (B0 + 23)), (1, .int (nI i15)), (2, .int (pI (okT (nI i15)))), (3, .ref (B0 + 34 + 2 * 0)), (4, .int (nI x)), (5, .int (pI (okT (nI i15) ∧ nI (sn σ (ix (nI i15))) + nI x * (nI (pn σ 1) - nI (pn σ 0)) ≤ nI 60))), (6, .int (nI k)), (7, .int (nI 1)), (8, .int (nI j5))]) (fun (j5 : Nat) (Fx : zM) => RA G 3 Fx (B0 + 25 + 2 * i15) (B0 + 26 + 2 * i15) 60 ((rpl (hld (st σ i15) (sn σ i15) (pt σ 0) (pn σ 0)) (st σ i15) (pn σ 0) (pt σ 1) (pn σ 1) k).1 + j5) (catt (rpl (hld (st σ i15) (sn σ i15) (pt σ 0) (pn σ 0)) (st σ i15) (pn σ 0) (pt σ 1) (pn σ 1) k).2 (rpl (hld (st σ i15) (sn σ i15) (pt σ 0) (pn σ 0)) (st σ i15) (pn σ 0) (pt σ 1) (pn σ 1) k).1 (pt σ 1)) ∧ zSm F21 Fx (B0 + 25 + 2 * i15) (B0 + 26 + 2 * i15) ∧ j5 ≤ pn σ 1) (fun j5 : Nat => pn σ 1 - j5) 0 (nL := 9) (st := []) ?_ (lv_sub hl [2, 3, 4, 5, 6, 7, 8, 1, 0] rfl) hI ?_
                · exact ⟨RA.cg ⟨xn_, xr_, f_, xw_, xf_⟩ (fun j hj => (catt_lo (by omega)).symm), hs0, Nat.zero_le _⟩
                · intro j5 F61 ls H locs hi hl hI ih164
                  have hl : lv_has ls 9 [(0, .ref (B0 + 23)), (1, .int (nI i15)), (2, .int (pI (okT (nI i15)))), (3, .ref (B0 + 34 + 2 * 0)), (4, .int (nI x)), (5, .int (pI (okT (nI i15) ∧ nI (sn σ (ix (nI i15))) + nI x * (nI (pn σ 1) - nI (pn σ 0)) ≤ nI 60))), (6, .int (nI k)), (7, .int (nI 1)), (8, .int (nI j5))] := hl
                  obtain ⟨ha5, hs5, hj5⟩ := hi
                  have ha0 := ha5
                  have hs0 := hs5
                  have hM2 := MS.setT hM3 hi16 hs0 ha0
                  obtain ⟨m062, ⟨ma62, m162, me162⟩, ⟨mb62, m262, me262⟩, ⟨mc62, m362, me362⟩, ⟨n962, t962, m462⟩, mT62, mP62⟩ := id hM2
                  have hsp2 := hsp.go (hs0 _ (by omega) (by omega)) (hs0 _ (by omega) (by omega))
                  obtain ⟨xn_, xr_, f_, xw_, xf_⟩ := id ha0
                  obtain ⟨xnsp, xrsp, fsp, xwsp, xfsp⟩ := id hsp2
                  have hx63 : RA G 3 F61 (B0 + 34 + 2 * 0) (B0 + 35 + 2 * 0) 60 (pn σ 0) (pt σ 0) := mP62 0 (by decide)
                  obtain ⟨xnhx63, xrhx63, fhx63, xwhx63, xfhx63⟩ := id hx63
                  have hx64 : RA G 3 F61 (B0 + 34 + 2 * 1) (B0 + 35 + 2 * 1) 60 (pn σ 1) (pt σ 1) := mP62 1 (by decide)
                  obtain ⟨xnhx64, xrhx64, fhx64, xwhx64, xfhx64⟩ := id hx64
                  refine lv_iload hx hb dX4_replace_164 (lv_at hl 7 rfl) ?_
                  refine z_if_eq (tgt := 209) (a := 1) hx hb dX4_replace_166 (by decide) (by omega) (fun hq65 => ?_) (fun hq65 => ?_)
                  · omega
                  · refine lv_iload hx hb dX4_replace_169 (lv_at hl 8 rfl) ?_
                    refine lv_aload_n hx hb dX4_replace_171 rfl (lv_at hl 0 rfl) ?_
                    refine z_get hx hb hts hown zlX4 rfl 2 (by decide) (hts _ q754) rfl hI m062 rfl dX4_replace_172 ?_
                    refine lv_iconst (v := nI 1) hx hb dX4_replace_175 (by decide) ?_
                    refine z_ald3 (k := 1) (v := B0 + 34 + 2 * 1) hx hb hI m262 (by omega) (by omega) (me262 1 (by omega)) dX4_replace_176 ?_
                    refine z_getN hx hb hts hown zlX3 rfl 1 (by decide) (List.mem_of_getElem? (i := 2) rfl) rfl hI xrhx64 rfl dX4_replace_177 ?_
                    refine z_icmp_ge (tgt := 209) (a := j5) (b := pn σ 1) hx hb dX4_replace_180 (by decide) (by omega) (fun hq66 => ?_) (fun hq66 => ?_)
                    · refine lv_iload hx hb dX4_replace_209 (lv_at hl 7 rfl) ?_
                      refine z_if_ne (tgt := 232) (a := 1) hx hb dX4_replace_211 (by decide) (by omega) (fun hq67 => ?_) (fun hq67 => ?_)
                      · refine lv_iload hx hb dX4_replace_232 (lv_at hl 6 rfl) ?_
                        refine lv_iload hx hb dX4_replace_234 (lv_at hl 7 rfl) ?_
                        refine z_if_eq (tgt := 246) (a := 1) hx hb dX4_replace_236 (by decide) (by omega) (fun hq68 => ?_) (fun hq68 => ?_)
                        · omega
                        · refine lv_aload_n hx hb dX4_replace_239 rfl (lv_at hl 3 rfl) ?_
                          refine z_getN hx hb hts hown zlX3 rfl 1 (by decide) (List.mem_of_getElem? (i := 2) rfl) rfl hI xrhx63 rfl dX4_replace_240 ?_
                          refine lv_goto (tgt := 247) hx hb dX4_replace_243 (by decide) ?_
                          refine lv_iadd hx hb dX4_replace_247 ?_
                          refine z_topi (nI_add k (pn σ 0)) ?_
                          refine lv_istore (lv' := [(6, .int (nI (k + (pn σ 0)))), (0, .ref (B0 + 23)), (1, .int (nI i15)), (2, .int (pI (okT (nI i15)))), (3, .ref (B0 + 34 + 2 * 0)), (4, .int (nI x)), (5, .int (pI (okT (nI i15) ∧ nI (sn σ (ix (nI i15))) + nI x * (nI (pn σ 1) - nI (pn σ 0)) ≤ nI 60))), (7, .int (nI 1)), (8, .int (nI j5))]) hx hb dX4_replace_248 hl (by decide) rfl (fun ls hl => ?_)
                          refine lv_goto (tgt := 137) hx hb dX4_replace_250 (by decide) ?_
                          refine ih (k + (pn σ 0)) _ ls H locs (by first | omega | (dsimp only; omega)) ?_ (lv_sub hl [1, 2, 3, 4, 5, 6, 0] rfl) hI
                          have hz1 : zap (hld (st σ i15) (sn σ i15) (pt σ 0) (pn σ 0)) (pn σ 0) (k + 1) = ((zap (hld (st σ i15) (sn σ i15) (pt σ 0) (pn σ 0)) (pn σ 0) k).1 + 1, k + pn σ 0) := zap_t ⟨hzk, hP⟩
                          obtain ⟨e1, e2⟩ := rpl_run (t := st σ i15) (q' := pt σ 1) (m' := pn σ 1) (d := pn σ 0) (by rw [hz1]) hm (Nat.le_refl _)
                          refine ⟨?_, hs5, by have := hP.1; omega, by rw [e2, hz1]; exact Nat.le_refl _⟩
                          rw [e1, rpl_y (by omega) hP]; rw [show j5 = pn σ 1 by omega] at ha5; exact ha5
                      · omega
                    · refine lv_aload_n hx hb dX4_replace_183 rfl (lv_at hl 0 rfl) ?_
                      refine z_get hx hb hts hown zlX4 rfl 1 (by decide) (hts _ q753) rfl hI m062 rfl dX4_replace_184 ?_
                      refine lv_iload_n hx hb dX4_replace_187 rfl (lv_at hl 1 rfl) ?_
                      refine z_ald3 (k := i15) (v := B0 + 25 + 2 * i15) hx hb hI m162 (by omega) (by omega) (me162 i15 (by omega)) dX4_replace_188 ?_
                      refine lv_aload_n hx hb dX4_replace_189 rfl (lv_at hl 0 rfl) ?_
                      refine z_get hx hb hts hown zlX4 rfl 2 (by decide) (hts _ q754) rfl hI m062 rfl dX4_replace_190 ?_
                      refine lv_iconst (v := nI 1) hx hb dX4_replace_193 (by decide) ?_
                      refine z_ald3 (k := 1) (v := B0 + 34 + 2 * 1) hx hb hI m262 (by omega) (by omega) (me262 1 (by omega)) dX4_replace_194 ?_
                      refine lv_iload hx hb dX4_replace_195 (lv_at hl 8 rfl) ?_
                      refine z_calli hI (z_V (As := [.int (nI j5)]) (rest := [.ref (B0 + 25 + 2 * i15)]) ⟨hx, hb, hml, hown, hts⟩ hI xrhx64 rfl (c_X3_at l G B0 F61 (B0 + 34 + 2 * 1) (B0 + 35 + 2 * 1) 60 (pn σ 1) (pt σ 1) j5 ⟨xnhx64, xrhx64, fhx64, xwhx64, xfhx64⟩ (by omega) (by omega)) (z_cwV vX3_at hts q829 ⟨Nat.le_of_ble_eq_true rfl, Nat.le_of_ble_eq_true rfl⟩) rfl hl.1 rfl (lv_room (Nat.le_of_ble_eq_true rfl)) dX4_replace_197 ⟨Nat.le_of_ble_eq_true rfl, Nat.le_of_ble_eq_true rfl⟩) (fun r70 F69 H locs hp71 hI => ?_)
                      obtain ⟨rfl, rfl⟩ := hp71
                      refine z_callv hI (z_V (As := [.int ((pt σ 1) j5)]) (rest := []) ⟨hx, hb, hml, hown, hts⟩ hI xr_ rfl (c_X3_add l G B0 F61 (B0 + 25 + 2 * i15) (B0 + 26 + 2 * i15) 60 ((rpl (hld (st σ i15) (sn σ i15) (pt σ 0) (pn σ 0)) (st σ i15) (pn σ 0) (pt σ 1) (pn σ 1) k).1 + j5) (catt (rpl (hld (st σ i15) (sn σ i15) (pt σ 0) (pn σ 0)) (st σ i15) (pn σ 0) (pt σ 1) (pn σ 1) k).2 (rpl (hld (st σ i15) (sn σ i15) (pt σ 0) (pn σ 0)) (st σ i15) (pn σ 0) (pt σ 1) (pn σ 1) k).1 (pt σ 1)) ((pt σ 1) j5) ⟨xn_, xr_, f_, xw_, xf_⟩ (by omega) (by omega)) (z_cwV vX3_add hts q792 ⟨Nat.le_of_ble_eq_true rfl, Nat.le_of_ble_eq_true rfl⟩) rfl hl.1 rfl (lv_room (Nat.le_of_ble_eq_true rfl)) dX4_replace_200 ⟨Nat.le_of_ble_eq_true rfl, Nat.le_of_ble_eq_true rfl⟩) (fun F72 H locs hp74 hI => ?_)
                      obtain ⟨ha75, hs75⟩ := hp74
                      have hc76 : F72 (B0 + 23) = some (zO 4 [.int th1, .ref (B0 + 24), .ref (B0 + 33), .ref (B0 + 38), .ref (B0 + 40)]) := (hs75 _ (zne m062 xr_ (fun q => by cases q)) (zne m062 xw_ (fun q => by cases q))).trans m062
                      have hc77 : F72 (B0 + 24) = some (zA3 G 4 ma62) := (hs75 _ (zne m162 xr_ (fun q => by cases q)) (by omega)).trans m162
                      have hc78 : F72 (B0 + 33) = some (zA3 G 2 mb62) := (hs75 _ (zne m262 xr_ (fun q => by cases q)) (by omega)).trans m262
                      have hc79 : F72 (B0 + 40) = some (zAI G 100 mc62) := (hs75 _ (zne m362 xr_ (fun q => by cases q)) (by omega)).trans m362
                      have hc80 : F72 (B0 + 38) = some (zO 3 [.ref (B0 + 39), .int (nI (sn σ i15))]) := (hs75 _ (by omega) (zne xrsp xw_ (fun q => by cases q))).trans xrsp
                      have hc81 : F72 (B0 + 39) = some (zAI G 60 fsp) := (hs75 _ (zne xwsp xr_ (fun q => by cases q)) (by omega)).trans xwsp
                      have hc82 : F72 (B0 + 34 + 2 * 0) = some (zO 3 [.ref (B0 + 35 + 2 * 0), .int (nI (pn σ 0))]) := (hs75 _ (by omega) (zne xrhx63 xw_ (fun q => by cases q))).trans xrhx63
                      have hc83 : F72 (B0 + 35 + 2 * 0) = some (zAI G 60 fhx63) := (hs75 _ (zne xwhx63 xr_ (fun q => by cases q)) (by omega)).trans xwhx63
                      have hc84 : F72 (B0 + 34 + 2 * 1) = some (zO 3 [.ref (B0 + 35 + 2 * 1), .int (nI (pn σ 1))]) := (hs75 _ (by omega) (zne xrhx64 xw_ (fun q => by cases q))).trans xrhx64
                      have hc85 : F72 (B0 + 35 + 2 * 1) = some (zAI G 60 fhx64) := (hs75 _ (zne xwhx64 xr_ (fun q => by cases q)) (by omega)).trans xwhx64
                      obtain ⟨xn_75, xr_75, f_75, xw_75, xf_75⟩ := id ha75
                      refine lv_iinc (k := 8) (v := nI (j5 + 1)) (lv' := [(8, .int (nI (j5 + 1))), (0, .ref (B0 + 23)), (1, .int (nI i15)), (2, .int (pI (okT (nI i15)))), (3, .ref (B0 + 34 + 2 * 0)), (4, .int (nI x)), (5, .int (pI (okT (nI i15) ∧ nI (sn σ (ix (nI i15))) + nI x * (nI (pn σ 1) - nI (pn σ 0)) ≤ nI 60))), (6, .int (nI k)), (7, .int (nI 1))]) hx hb dX4_replace_203 hl rfl (nI_add j5 1) (by decide) rfl (fun ls hl => ?_)
                      refine lv_goto (tgt := 164) hx hb dX4_replace_206 (by decide) ?_
                      refine ih164 (j5 + 1) _ ls H locs (by first | omega | (dsimp only; omega)) ?_ (lv_sub hl [1, 2, 3, 4, 5, 6, 7, 8, 0] rfl) hI
                      refine ⟨RA.cg ha75 (fun j hj => ?_), (zSm.tr hs0 hs75), by omega⟩
                      by_cases q : j = (rpl (hld (st σ i15) (sn σ i15) (pt σ 0) (pn σ 0)) (st σ i15) (pn σ 0) (pt σ 1) (pn σ 1) k).1 + j5
                      · subst q; rw [pk_us, catt_hi]
                      · rw [pk_un q]
              · refine z_topi (pI_f hP).symm ?_
                have hmo := rpl_mono (P := hld (st σ i15) (sn σ i15) (pt σ 0) (pn σ 0)) (t := st σ i15) (q' := pt σ 1) (m := pn σ 0) (m' := pn σ 1) (show k + 1 ≤ sn σ i15 by omega)
                rw [rpl_n (by omega) hP] at hmo
                dsimp only at hmo
                refine lv_istore (lv' := [(7, .int (nI 0)), (0, .ref (B0 + 23)), (1, .int (nI i15)), (2, .int (pI (okT (nI i15)))), (3, .ref (B0 + 34 + 2 * 0)), (4, .int (nI x)), (5, .int (pI (okT (nI i15) ∧ nI (sn σ (ix (nI i15))) + nI x * (nI (pn σ 1) - nI (pn σ 0)) ≤ nI 60))), (6, .int (nI k))]) hx hb dX4_replace_159 hl (by decide) rfl (fun ls hl => ?_)
                refine lv_iconst (v := nI 0) hx hb dX4_replace_161 (by decide) ?_
                refine lv_istore (lv' := [(8, .int (nI 0)), (7, .int (nI 0)), (0, .ref (B0 + 23)), (1, .int (nI i15)), (2, .int (pI (okT (nI i15)))), (3, .ref (B0 + 34 + 2 * 0)), (4, .int (nI x)), (5, .int (pI (okT (nI i15) ∧ nI (sn σ (ix (nI i15))) + nI x * (nI (pn σ 1) - nI (pn σ 0)) ≤ nI 60))), (6, .int (nI k))]) hx hb dX4_replace_162 hl (by decide) rfl (fun ls hl => ?_)
                refine lv_iload hx hb dX4_replace_164 (lv_at hl 1 rfl) ?_
                refine z_if_eq (tgt := 209) (a := 0) hx hb dX4_replace_166 (by decide) (by omega) (fun hq86 => ?_) (fun hq86 => ?_)
                · refine lv_iload hx hb dX4_replace_209 (lv_at hl 1 rfl) ?_
                  refine z_if_ne (tgt := 232) (a := 0) hx hb dX4_replace_211 (by decide) (by omega) (fun hq87 => ?_) (fun hq87 => ?_)
                  · omega
                  · refine lv_aload_n hx hb dX4_replace_214 rfl (lv_at hl 2 rfl) ?_
                    refine z_get hx hb hts hown zlX4 rfl 1 (by decide) (hts _ q753) rfl hI m054 rfl dX4_replace_215 ?_
                    refine lv_iload_n hx hb dX4_replace_218 rfl (lv_at hl 3 rfl) ?_
                    refine z_ald3 (k := i15) (v := B0 + 25 + 2 * i15) hx hb hI m154 (by omega) (by omega) (me154 i15 (by omega)) dX4_replace_219 ?_
                    refine lv_aload_n hx hb dX4_replace_220 rfl (lv_at hl 2 rfl) ?_
                    refine z_get hx hb hts hown zlX4 rfl 3 (by decide) (hts _ q755) rfl hI m054 rfl dX4_replace_221 ?_
                    refine lv_iload hx hb dX4_replace_224 (lv_at hl 8 rfl) ?_
                    refine z_calli hI (z_V (As := [.int (nI k)]) (rest := [.ref (B0 + 25 + 2 * i15)]) ⟨hx, hb, hml, hown, hts⟩ hI xrsp rfl (c_X3_at l G B0 F53 (B0 + 38) (B0 + 39) 60 (sn σ i15) (st σ i15) k ⟨xnsp, xrsp, fsp, xwsp, xfsp⟩ (by omega) (by omega)) (z_cwV vX3_at hts q829 ⟨Nat.le_of_ble_eq_true rfl, Nat.le_of_ble_eq_true rfl⟩) rfl hl.1 rfl (lv_room (Nat.le_of_ble_eq_true rfl)) dX4_replace_226 ⟨Nat.le_of_ble_eq_true rfl, Nat.le_of_ble_eq_true rfl⟩) (fun r89 F88 H locs hp90 hI => ?_)
                    obtain ⟨rfl, rfl⟩ := hp90
                    refine z_callv hI (z_V (As := [.int ((st σ i15) k)]) (rest := []) ⟨hx, hb, hml, hown, hts⟩ hI xr_ rfl (c_X3_add l G B0 F53 (B0 + 25 + 2 * i15) (B0 + 26 + 2 * i15) 60 ((rpl (hld (st σ i15) (sn σ i15) (pt σ 0) (pn σ 0)) (st σ i15) (pn σ 0) (pt σ 1) (pn σ 1) k).1) ((rpl (hld (st σ i15) (sn σ i15) (pt σ 0) (pn σ 0)) (st σ i15) (pn σ 0) (pt σ 1) (pn σ 1) k).2) ((st σ i15) k) ⟨xn_, xr_, f_, xw_, xf_⟩ (by omega) (by omega)) (z_cwV vX3_add hts q792 ⟨Nat.le_of_ble_eq_true rfl, Nat.le_of_ble_eq_true rfl⟩) rfl hl.1 rfl (lv_room (Nat.le_of_ble_eq_true rfl)) dX4_replace_229 ⟨Nat.le_of_ble_eq_true rfl, Nat.le_of_ble_eq_true rfl⟩) (fun F91 H locs hp93 hI => ?_)
                    obtain ⟨ha94, hs94⟩ := hp93
                    have hc95 : F91 (B0 + 23) = some (zO 4 [.int th1, .ref (B0 + 24), .ref (B0 + 33), .ref (B0 + 38), .ref (B0 + 40)]) := (hs94 _ (zne m054 xr_ (fun q => by cases q)) (zne m054 xw_ (fun q => by cases q))).trans m054
                    have hc96 : F91 (B0 + 24) = some (zA3 G 4 ma54) := (hs94 _ (zne m154 xr_ (fun q => by cases q)) (by omega)).trans m154
                    have hc97 : F91 (B0 + 33) = some (zA3 G 2 mb54) := (hs94 _ (zne m254 xr_ (fun q => by cases q)) (by omega)).trans m254
                    have hc98 : F91 (B0 + 40) = some (zAI G 100 mc54) := (hs94 _ (zne m354 xr_ (fun q => by cases q)) (by omega)).trans m354
                    have hc99 : F91 (B0 + 38) = some (zO 3 [.ref (B0 + 39), .int (nI (sn σ i15))]) := (hs94 _ (by omega) (zne xrsp xw_ (fun q => by cases q))).trans xrsp
                    have hc100 : F91 (B0 + 39) = some (zAI G 60 fsp) := (hs94 _ (zne xwsp xr_ (fun q => by cases q)) (by omega)).trans xwsp
                    have hc101 : F91 (B0 + 34 + 2 * 0) = some (zO 3 [.ref (B0 + 35 + 2 * 0), .int (nI (pn σ 0))]) := (hs94 _ (by omega) (zne xrhx55 xw_ (fun q => by cases q))).trans xrhx55
                    have hc102 : F91 (B0 + 35 + 2 * 0) = some (zAI G 60 fhx55) := (hs94 _ (zne xwhx55 xr_ (fun q => by cases q)) (by omega)).trans xwhx55
                    have hc103 : F91 (B0 + 34 + 2 * 1) = some (zO 3 [.ref (B0 + 35 + 2 * 1), .int (nI (pn σ 1))]) := (hs94 _ (by omega) (zne xrhx56 xw_ (fun q => by cases q))).trans xrhx56
                    have hc104 : F91 (B0 + 35 + 2 * 1) = some (zAI G 60 fhx56) := (hs94 _ (zne xwhx56 xr_ (fun q => by cases q)) (by omega)).trans xwhx56
                    obtain ⟨xn_94, xr_94, f_94, xw_94, xf_94⟩ := id ha94
                    refine lv_iload hx hb dX4_replace_232 (lv_at hl 8 rfl) ?_
                    refine lv_iload hx hb dX4_replace_234 (lv_at hl 1 rfl) ?_
                    refine z_if_eq (tgt := 246) (a := 0) hx hb dX4_replace_236 (by decide) (by omega) (fun hq105 => ?_) (fun hq105 => ?_)
                    · refine lv_iconst (v := nI 1) hx hb dX4_replace_246 (by decide) ?_
                      refine lv_iadd hx hb dX4_replace_247 ?_
                      refine z_topi (nI_add k 1) ?_
                      refine lv_istore (lv' := [(6, .int (nI (k + 1))), (8, .int (nI 0)), (7, .int (nI 0)), (0, .ref (B0 + 23)), (1, .int (nI i15)), (2, .int (pI (okT (nI i15)))), (3, .ref (B0 + 34 + 2 * 0)), (4, .int (nI x)), (5, .int (pI (okT (nI i15) ∧ nI (sn σ (ix (nI i15))) + nI x * (nI (pn σ 1) - nI (pn σ 0)) ≤ nI 60)))]) hx hb dX4_replace_248 hl (by decide) rfl (fun ls hl => ?_)
                      refine lv_goto (tgt := 137) hx hb dX4_replace_250 (by decide) ?_
                      refine ih (k + 1) _ ls H locs (by first | omega | (dsimp only; omega)) ?_ (lv_sub hl [3, 4, 5, 6, 7, 8, 0] rfl) hI
                      refine ⟨by rw [rpl_n (by omega) hP]; exact ha94, (zSm.tr hs0 hs94), by omega, by rw [zap_f (fun z => hP z.2)]; omega⟩
                    · omega
                · omega
        · refine lv_iconst (v := nI 0) hx hb dX4_replace_109 (by decide) ?_
          refine z_ri hx hb hr hlocks hI ?_ (Nat.le_of_ble_eq_true rfl) (Nat.le_of_ble_eq_true rfl) dX4_replace_110
          exact ⟨_, rfl, th1, σ, hM1, hz2, fun q => absurd q hq14, fun _ => rfl, hmf1⟩
      · refine lv_aload_n hx hb dX4_replace_85 rfl (lv_at hl 2 rfl) ?_
        refine z_getN hx hb hts hown zlX3 rfl 1 (by decide) (List.mem_of_getElem? (i := 2) rfl) rfl hI xrhx5 rfl dX4_replace_86 ?_
        refine z_if_le (tgt := 101) (a := pn σ 0) hx hb dX4_replace_89 (by decide) (by omega) (fun hq106 => ?_) (fun hq106 => ?_)
        · refine lv_iconst (v := nI 0) hx hb dX4_replace_101 (by decide) ?_
          refine jn102 (nI 0) _ ls H locs ?_ (lv_sub hl [0, 1, 2, 3, 4, 5] rfl) hI
          exact ⟨rfl, pI_f (fun z => by have z2 := z.1; first | exact hq106 z2 | (first | exact hq106 z2 | exact i_le_n.mp z2 hq106 | exact l_le_n.mp z2 (lg_gt.mp hq106) | exact l_le_n.mp z2 (lg_lt.mp hq106) | exact hq106 ((in_pl1 (by omega)).mpr z2) | omega))⟩
        · refine lv_iload hx hb dX4_replace_92 (lv_at hl 0 rfl) ?_
          refine z_ifp_eq (tgt := 101) hx hb dX4_replace_94 (by decide) (fun hq107 => ?_) (fun hq107 => ?_)
          · refine lv_iconst (v := nI 0) hx hb dX4_replace_101 (by decide) ?_
            refine jn102 (nI 0) _ ls H locs ?_ (lv_sub hl [0, 1, 2, 3, 4, 5] rfl) hI
            exact ⟨rfl, pI_f (fun z => by have z2 := z.2; first | exact hq107 z2 | (first | exact hq107 z2 | exact i_le_n.mp z2 hq107 | exact l_le_n.mp z2 (lg_gt.mp hq107) | exact l_le_n.mp z2 (lg_lt.mp hq107) | exact hq107 ((in_pl1 (by omega)).mpr z2) | omega))⟩
          · refine lv_iconst (v := nI 1) hx hb dX4_replace_97 (by decide) ?_
            refine lv_goto (tgt := 102) hx hb dX4_replace_98 (by decide) ?_
            refine jn102 (nI 1) _ ls H locs ?_ (lv_sub hl [0, 1, 2, 3, 4, 5] rfl) hI
            exact ⟨rfl, pI_t ⟨(by first | exact hq106 | exact i_le_n.mpr hq106 | exact l_le_n.mpr (fun q => hq106 (lg_gt.mpr q)) | exact l_le_n.mpr (fun q => hq106 (lg_lt.mpr q)) | exact (in_pl1 (by omega)).mp hq106 | omega), (by first | exact hq107 | exact i_le_n.mpr hq107 | exact l_le_n.mpr (fun q => hq107 (lg_gt.mpr q)) | exact l_le_n.mpr (fun q => hq107 (lg_lt.mpr q)) | exact (in_pl1 (by omega)).mp hq107 | omega)⟩⟩
    · refine lv_iload_n hx hb dX4_replace_40 rfl (lv_at hl 2 rfl) ?_
      refine z_ifp_eq (tgt := 80) hx hb dX4_replace_41 (by decide) (fun hq108 => ?_) (fun hq108 => ?_)
      · refine lv_iconst (v := nI 0) hx hb dX4_replace_80 (by decide) ?_
        refine jn81 (nI 0) _ ls H locs ?_ (lv_sub hl [0, 1, 2, 3, 4] rfl) hI
        exact ⟨rfl, pI_f (fun z => by have z2 := z.1; first | exact hq108 z2 | (first | exact hq108 z2 | exact i_le_n.mp z2 hq108 | exact l_le_n.mp z2 (lg_gt.mp hq108) | exact l_le_n.mp z2 (lg_lt.mp hq108) | exact hq108 ((in_pl1 (by omega)).mpr z2) | omega))⟩
      · obtain ⟨i109, hi110, rfl⟩ := id hq108
        have hix111 : ix (nI i109) = i109 := ix_nI (by omega)
        have hl : lv_has ls 9 [(4, .int (nI x)), (3, .ref (B0 + 34 + 2 * 0)), (2, .int (pI (okT (nI i109)))), (0, .ref (B0 + 23)), (1, .int (nI i109))] := hl
        have hx112 := mT1 i109 hi110
        obtain ⟨xnhx112, xrhx112, fhx112, xwhx112, xfhx112⟩ := id hx112
        refine lv_aload_n hx hb dX4_replace_44 rfl (lv_at hl 3 rfl) ?_
        refine z_get hx hb hts hown zlX4 rfl 1 (by decide) (hts _ q753) rfl hI m01 rfl dX4_replace_45 ?_
        refine lv_iload_n hx hb dX4_replace_48 rfl (lv_at hl 4 rfl) ?_
        refine z_ald3 (k := i109) (v := B0 + 25 + 2 * i109) hx hb hI m11 (by omega) (by omega) (me11 i109 (by omega)) dX4_replace_49 ?_
        refine z_getN hx hb hts hown zlX3 rfl 1 (by decide) (List.mem_of_getElem? (i := 2) rfl) rfl hI xrhx112 rfl dX4_replace_50 ?_
        refine lv_iload hx hb dX4_replace_53 (lv_at hl 0 rfl) ?_
        refine lv_aload_n hx hb dX4_replace_55 rfl (lv_at hl 3 rfl) ?_
        refine z_get hx hb hts hown zlX4 rfl 2 (by decide) (hts _ q754) rfl hI m01 rfl dX4_replace_56 ?_
        refine lv_iconst (v := nI 1) hx hb dX4_replace_59 (by decide) ?_
        refine z_ald3 (k := 1) (v := B0 + 34 + 2 * 1) hx hb hI m21 (by omega) (by omega) (me21 1 (by omega)) dX4_replace_60 ?_
        refine z_getN hx hb hts hown zlX3 rfl 1 (by decide) (List.mem_of_getElem? (i := 2) rfl) rfl hI xrhx6 rfl dX4_replace_61 ?_
        refine lv_aload_n hx hb dX4_replace_64 rfl (lv_at hl 1 rfl) ?_
        refine z_getN hx hb hts hown zlX3 rfl 1 (by decide) (List.mem_of_getElem? (i := 2) rfl) rfl hI xrhx5 rfl dX4_replace_65 ?_
        refine lv_isub hx hb dX4_replace_68 ?_
        refine lv_imul hx hb dX4_replace_69 ?_
        refine lv_iadd hx hb dX4_replace_70 ?_
        refine lv_bipush (v := nI 60) hx hb dX4_replace_71 (by decide) ?_
        refine lv_icmp_gt (tgt := 80) hx hb dX4_replace_73 (by decide) (fun hq113 => ?_) (fun hq113 => ?_)
        · refine lv_iconst (v := nI 0) hx hb dX4_replace_80 (by decide) ?_
          refine jn81 (nI 0) _ ls H locs ?_ (lv_sub hl [0, 1, 2, 3, 4] rfl) hI
          exact ⟨rfl, pI_f (fun z => by have z2 := z.2; first | exact hq113 z2 | ((try rw [hix111] at z2); (first | exact hq113 z2 | exact i_le_n.mp z2 hq113 | exact l_le_n.mp z2 (lg_gt.mp hq113) | exact l_le_n.mp z2 (lg_lt.mp hq113) | exact hq113 ((in_pl1 (by omega)).mpr z2) | omega)) | (first | exact hq113 z2 | exact i_le_n.mp z2 hq113 | exact l_le_n.mp z2 (lg_gt.mp hq113) | exact l_le_n.mp z2 (lg_lt.mp hq113) | exact hq113 ((in_pl1 (by omega)).mpr z2) | omega))⟩
        · refine lv_iconst (v := nI 1) hx hb dX4_replace_76 (by decide) ?_
          refine lv_goto (tgt := 81) hx hb dX4_replace_77 (by decide) ?_
          refine jn81 (nI 1) _ ls H locs ?_ (lv_sub hl [0, 1, 2, 3, 4] rfl) hI
          exact ⟨rfl, pI_t ⟨(by first | exact hq108 | (rw [hix111]; first | exact hq108 | exact i_le_n.mpr hq108 | exact l_le_n.mpr (fun q => hq108 (lg_gt.mpr q)) | exact l_le_n.mpr (fun q => hq108 (lg_lt.mpr q)) | exact (in_pl1 (by omega)).mp hq108 | omega) | (first | exact hq108 | exact i_le_n.mpr hq108 | exact l_le_n.mpr (fun q => hq108 (lg_gt.mpr q)) | exact l_le_n.mpr (fun q => hq108 (lg_lt.mpr q)) | exact (in_pl1 (by omega)).mp hq108 | omega)), (by first | exact hq113 | (rw [hix111]; first | exact hq113 | exact i_le_n.mpr hq113 | exact l_le_n.mpr (fun q => hq113 (lg_gt.mpr q)) | exact l_le_n.mpr (fun q => hq113 (lg_lt.mpr q)) | exact (in_pl1 (by omega)).mp hq113 | omega) | (first | exact hq113 | exact i_le_n.mpr hq113 | exact l_le_n.mpr (fun q => hq113 (lg_gt.mpr q)) | exact l_le_n.mpr (fun q => hq113 (lg_lt.mpr q)) | exact (in_pl1 (by omega)).mp hq113 | omega))⟩⟩
  · refine z_ifp_eq (tgt := 37) hx hb dX4_replace_13 (by decide) (fun hq114 => ?_) (fun hq114 => ?_)
    · refine lv_iconst (v := nI 0) hx hb dX4_replace_37 (by decide) ?_
      refine jn38 0 _ ls H locs ?_ (lv_sub hl [0, 1, 2, 3] rfl) hI
      exact ⟨rfl, by omega, fun z => absurd z (by first | exact fun z2 => hq114 z2.1 | omega)⟩
    · obtain ⟨i115, hi116, rfl⟩ := id hq114
      have hix117 : ix (nI i115) = i115 := ix_nI (by omega)
      have hl : lv_has ls 9 [(3, .ref (B0 + 34 + 2 * 0)), (2, .int (pI (okT (nI i115)))), (0, .ref (B0 + 23)), (1, .int (nI i115))] := hl
      have hx118 := mT1 i115 hi116
      obtain ⟨xnhx118, xrhx118, fhx118, xwhx118, xfhx118⟩ := id hx118
      refine lv_aload_n hx hb dX4_replace_16 rfl (lv_at hl 0 rfl) ?_
      refine z_getN hx hb hts hown zlX3 rfl 1 (by decide) (List.mem_of_getElem? (i := 2) rfl) rfl hI xrhx5 rfl dX4_replace_17 ?_
      refine z_if_le (tgt := 37) (a := pn σ 0) hx hb dX4_replace_20 (by decide) (by omega) (fun hq119 => ?_) (fun hq119 => ?_)
      · refine lv_iconst (v := nI 0) hx hb dX4_replace_37 (by decide) ?_
        refine jn38 0 _ ls H locs ?_ (lv_sub hl [0, 1, 2, 3] rfl) hI
        exact ⟨rfl, by omega, fun z => by have := z.2; omega⟩
      · refine lv_aload_n hx hb dX4_replace_23 rfl (lv_at hl 2 rfl) ?_
        refine z_get hx hb hts hown zlX4 rfl 1 (by decide) (hts _ q753) rfl hI m01 rfl dX4_replace_24 ?_
        refine lv_iload_n hx hb dX4_replace_27 rfl (lv_at hl 3 rfl) ?_
        refine z_ald3 (k := i115) (v := B0 + 25 + 2 * i115) hx hb hI m11 (by omega) (by omega) (me11 i115 (by omega)) dX4_replace_28 ?_
        refine lv_aload_n hx hb dX4_replace_29 rfl (lv_at hl 0 rfl) ?_
        refine lv_iconst (v := nI 1) hx hb dX4_replace_30 (by decide) ?_
        refine z_calli hI (z_V (As := [.ref (B0 + 34 + 2 * 0), .int (nI 1)]) (rest := []) ⟨hx, hb, hml, hown, hts⟩ hI xrhx118 rfl (c_X3_count l G B0 F (B0 + 25 + 2 * i115) (B0 + 26 + 2 * i115) 60 (sn σ i115) (st σ i115) (B0 + 34 + 2 * 0) (B0 + 35 + 2 * 0) 60 (pn σ 0) (pt σ 0) 1 ⟨xnhx118, xrhx118, fhx118, xwhx118, xfhx118⟩ (by omega) ⟨xnhx5, xrhx5, fhx5, xwhx5, xfhx5⟩ (by omega) (by omega)) (z_cwV vX3_count hts q912 ⟨Nat.le_of_ble_eq_true rfl, Nat.le_of_ble_eq_true rfl⟩) rfl hl.1 rfl (lv_room (Nat.le_of_ble_eq_true rfl)) dX4_replace_31 ⟨Nat.le_of_ble_eq_true rfl, Nat.le_of_ble_eq_true rfl⟩) (fun r121 F120 H locs hp122 hI => ?_)
        obtain ⟨rfl, hp122a, hp122b⟩ := hp122
        have hzl := (zap_le (hld (st σ i115) (sn σ i115) (pt σ 0) (pn σ 0)) (pn σ 0) (sn σ i115 + 1 - pn σ 0)).1
        refine z_topi (hp122b rfl) ?_
        refine lv_goto (tgt := 38) hx hb dX4_replace_34 (by decide) ?_
        refine jn38 (zap (hld (st σ i115) (sn σ i115) (pt σ 0) (pn σ 0)) (pn σ 0) (sn σ i115 + 1 - pn σ 0)).1 _ ls H locs ?_ (lv_sub hl [0, 1, 2, 3] rfl) hI
        exact ⟨rfl, by omega, fun z => by rw [hix117]; rfl⟩

