set_option maxHeartbeats 4000000 in
set_option maxRecDepth 100000 in
theorem c_X2_textAt (l : Launch) (hl0 : l.stackTraces = false) (G : zK) (B0 : Nat) (F : zM) (σ : Sg) (zp0 : Int32) (hC : CS G B0 F σ) : vx_Met l yX2_textAt (Cond.code yX2_textAt cX2_textAt 2 (some (FieldType.object "WordConcordance$Row")) :: zW) (zRm 6 90 1 6) (va_Pc [.ref B0, .int zp0] (zPre G B0 F)) (zQr G B0 (fun r' F' => F = F' ∧ ∃ i, i < 4 ∧ zp0 = nI i ∧ r' = B0 + 11 + 2 * i)) (zXC G B0 F (fun E => E = zEI ∧ ¬ okT zp0)) 1 6 (zA B0) := by
  refine z_ofx (own := RX2) (by decide) rfl (Nat.le_of_ble_eq_true rfl) ?_
  intro p e s m below meth c ls hx hb hr hml hown hlocks hout hts hl hI
  have hl : lv_has ls 2 [(0, .ref B0), (1, .int zp0)] := hl
  obtain ⟨y01, ⟨fa1, y11, e11⟩, ⟨fb1, y21, e21⟩, ⟨fc1, y31, e31⟩, ⟨n41, t41, y41⟩, ⟨n61, t61, y61⟩, ⟨n81, t81, y81⟩, ⟨fd1, y101⟩, yT1, yP1⟩ := id hC
  refine lv_iload_n hx hb dX2_textAt_0 rfl (lv_at hl 1 rfl) ?_
  refine lv_if_lt (tgt := 9) hx hb dX2_textAt_1 (by decide) (fun hq2 => ?_) (fun hq2 => ?_)
  · refine z_throw (cls := zEI) hx hb hl0 hown hlocks hout hts zaX2_250 zbX2_250 q75 q8 (List.mem_of_getElem? (i := 4) rfl) (by decide +kernel) (List.mem_of_getElem? (i := 0) rfl) hI (hl.1.trans hml.symm) dX2_textAt_9 dX2_textAt_12 dX2_textAt_13 dX2_textAt_15 dX2_textAt_18 ⟨Nat.le_of_ble_eq_true rfl, Nat.le_of_ble_eq_true rfl, Nat.le_of_ble_eq_true rfl, Nat.le_of_ble_eq_true rfl⟩ ?_ (Nat.le_of_ble_eq_true rfl) (Nat.le_of_ble_eq_true rfl)
    exact ⟨rfl, okL_nlt (n := 4) (by decide) (Or.inl hq2)⟩
  · refine lv_iload_n hx hb dX2_textAt_4 rfl (lv_at hl 1 rfl) ?_
    refine lv_iconst (v := nI 4) hx hb dX2_textAt_5 (by decide) ?_
    refine lv_icmp_lt (tgt := 19) hx hb dX2_textAt_6 (by decide) (fun hq3 => ?_) (fun hq3 => ?_)
    · obtain ⟨i, hi, rfl⟩ := okL_lt (n := 4) (by decide) hq2 hq3
      have hl : lv_has ls 2 [(0, .ref B0), (1, .int (nI i))] := hl
      refine lv_aload_n hx hb dX2_textAt_19 rfl (lv_at hl 0 rfl) ?_
      refine z_get hx hb hts hown zlX2 rfl 0 (by decide) (hts _ q40) rfl hI y01 rfl dX2_textAt_20 ?_
      refine lv_iload_n hx hb dX2_textAt_23 rfl (lv_at hl 1 rfl) ?_
      refine z_ald1 (k := i) (v := B0 + 11 + 2 * i) hx hb hI y11 (by omega) (by omega) (e11 i (by omega)) dX2_textAt_24 ?_
      refine vx_ret (z_rr (Or.inl ⟨_, rfl⟩) hx hb hr hlocks hI ?_ (Nat.le_of_ble_eq_true rfl) (Nat.le_of_ble_eq_true rfl) dX2_textAt_25)
      exact ⟨_, rfl, rfl, i, hi, rfl, rfl⟩
    · refine z_throw (cls := zEI) hx hb hl0 hown hlocks hout hts zaX2_250 zbX2_250 q75 q8 (List.mem_of_getElem? (i := 4) rfl) (by decide +kernel) (List.mem_of_getElem? (i := 0) rfl) hI (hl.1.trans hml.symm) dX2_textAt_9 dX2_textAt_12 dX2_textAt_13 dX2_textAt_15 dX2_textAt_18 ⟨Nat.le_of_ble_eq_true rfl, Nat.le_of_ble_eq_true rfl, Nat.le_of_ble_eq_true rfl, Nat.le_of_ble_eq_true rfl⟩ ?_ (Nat.le_of_ble_eq_true rfl) (Nat.le_of_ble_eq_true rfl)
      exact ⟨rfl, okL_nlt (n := 4) (by decide) (Or.inr hq3)⟩

set_option maxHeartbeats 4000000 in
set_option maxRecDepth 100000 in
theorem c_X2_phraseAt (l : Launch) (hl0 : l.stackTraces = false) (G : zK) (B0 : Nat) (F : zM) (σ : Sg) (zp0 : Int32) (hC : CS G B0 F σ) : vx_Met l yX2_phraseAt (Cond.code yX2_phraseAt cX2_phraseAt 2 (some (FieldType.object "WordConcordance$Row")) :: zW) (zRm 6 90 1 6) (va_Pc [.ref B0, .int zp0] (zPre G B0 F)) (zQr G B0 (fun r' F' => F = F' ∧ ∃ i, i < 2 ∧ zp0 = nI i ∧ r' = B0 + 19 + 2 * i)) (zXC G B0 F (fun E => E = zEI ∧ ¬ okB zp0)) 1 6 (zA B0) := by
  refine z_ofx (own := RX2) (by decide) rfl (Nat.le_of_ble_eq_true rfl) ?_
  intro p e s m below meth c ls hx hb hr hml hown hlocks hout hts hl hI
  have hl : lv_has ls 2 [(0, .ref B0), (1, .int zp0)] := hl
  obtain ⟨y01, ⟨fa1, y11, e11⟩, ⟨fb1, y21, e21⟩, ⟨fc1, y31, e31⟩, ⟨n41, t41, y41⟩, ⟨n61, t61, y61⟩, ⟨n81, t81, y81⟩, ⟨fd1, y101⟩, yT1, yP1⟩ := id hC
  refine lv_iload_n hx hb dX2_phraseAt_0 rfl (lv_at hl 1 rfl) ?_
  refine lv_if_eq (tgt := 19) hx hb dX2_phraseAt_1 (by decide) (fun hq2 => ?_) (fun hq2 => ?_)
  · obtain ⟨i, hi, rfl⟩ := okB_of (Or.inl hq2)
    have hl : lv_has ls 2 [(0, .ref B0), (1, .int (nI i))] := hl
    refine lv_aload_n hx hb dX2_phraseAt_19 rfl (lv_at hl 0 rfl) ?_
    refine z_get hx hb hts hown zlX2 rfl 1 (by decide) (hts _ q41) rfl hI y01 rfl dX2_phraseAt_20 ?_
    refine lv_iload_n hx hb dX2_phraseAt_23 rfl (lv_at hl 1 rfl) ?_
    refine z_ald1 (k := i) (v := B0 + 19 + 2 * i) hx hb hI y21 (by omega) (by omega) (e21 i (by omega)) dX2_phraseAt_24 ?_
    refine vx_ret (z_rr (Or.inl ⟨_, rfl⟩) hx hb hr hlocks hI ?_ (Nat.le_of_ble_eq_true rfl) (Nat.le_of_ble_eq_true rfl) dX2_phraseAt_25)
    exact ⟨_, rfl, rfl, i, hi, rfl, rfl⟩
  · refine lv_iload_n hx hb dX2_phraseAt_4 rfl (lv_at hl 1 rfl) ?_
    refine lv_iconst (v := nI 1) hx hb dX2_phraseAt_5 (by decide) ?_
    refine lv_icmp_eq (tgt := 19) hx hb dX2_phraseAt_6 (by decide) (fun hq3 => ?_) (fun hq3 => ?_)
    · obtain ⟨i, hi, rfl⟩ := okB_of (Or.inr hq3)
      have hl : lv_has ls 2 [(0, .ref B0), (1, .int (nI i))] := hl
      refine lv_aload_n hx hb dX2_phraseAt_19 rfl (lv_at hl 0 rfl) ?_
      refine z_get hx hb hts hown zlX2 rfl 1 (by decide) (hts _ q41) rfl hI y01 rfl dX2_phraseAt_20 ?_
      refine lv_iload_n hx hb dX2_phraseAt_23 rfl (lv_at hl 1 rfl) ?_
      refine z_ald1 (k := i) (v := B0 + 19 + 2 * i) hx hb hI y21 (by omega) (by omega) (e21 i (by omega)) dX2_phraseAt_24 ?_
      refine vx_ret (z_rr (Or.inl ⟨_, rfl⟩) hx hb hr hlocks hI ?_ (Nat.le_of_ble_eq_true rfl) (Nat.le_of_ble_eq_true rfl) dX2_phraseAt_25)
      exact ⟨_, rfl, rfl, i, hi, rfl, rfl⟩
    · refine z_throw (cls := zEI) hx hb hl0 hown hlocks hout hts zaX2_250 zbX2_250 q75 q8 (List.mem_of_getElem? (i := 5) rfl) (by decide +kernel) (List.mem_of_getElem? (i := 0) rfl) hI (hl.1.trans hml.symm) dX2_phraseAt_9 dX2_phraseAt_12 dX2_phraseAt_13 dX2_phraseAt_15 dX2_phraseAt_18 ⟨Nat.le_of_ble_eq_true rfl, Nat.le_of_ble_eq_true rfl, Nat.le_of_ble_eq_true rfl, Nat.le_of_ble_eq_true rfl⟩ ?_ (Nat.le_of_ble_eq_true rfl) (Nat.le_of_ble_eq_true rfl)
      exact ⟨rfl, okB_no hq2 hq3⟩

set_option maxHeartbeats 4000000 in
set_option maxRecDepth 100000 in
theorem c_X2_requireWord (l : Launch) (hl0 : l.stackTraces = false) (G : zK) (B0 : Nat) (F : zM) (zp0 : Int32) : vx_Met l yX2_requireWord (Cond.code yX2_requireWord cX2_requireWord 1 none :: zW) (zRm 6 90 1 6) (va_Pc [.int zp0] (zPre G B0 F)) (zQv G B0 (fun F' => F = F' ∧ okW zp0)) (zXC G B0 F (fun E => E = zEI ∧ ¬ okW zp0)) 1 6 (zA B0) := by
  refine z_ofx (own := RX2) (by decide) rfl (Nat.le_of_ble_eq_true rfl) ?_
  intro p e s m below meth c ls hx hb hr hml hown hlocks hout hts hl hI
  have hl : lv_has ls 1 [(0, .int zp0)] := hl
  refine lv_iload_n hx hb dX2_requireWord_0 rfl (lv_at hl 0 rfl) ?_
  refine lv_if_lt (tgt := 10) hx hb dX2_requireWord_1 (by decide) (fun hq1 => ?_) (fun hq1 => ?_)
  · refine z_throw (cls := zEI) hx hb hl0 hown hlocks hout hts zaX2_250 zbX2_250 q75 q8 (List.mem_of_getElem? (i := 6) rfl) (by decide +kernel) (List.mem_of_getElem? (i := 0) rfl) hI (hl.1.trans hml.symm) dX2_requireWord_10 dX2_requireWord_13 dX2_requireWord_14 dX2_requireWord_16 dX2_requireWord_19 ⟨Nat.le_of_ble_eq_true rfl, Nat.le_of_ble_eq_true rfl, Nat.le_of_ble_eq_true rfl, Nat.le_of_ble_eq_true rfl⟩ ?_ (Nat.le_of_ble_eq_true rfl) (Nat.le_of_ble_eq_true rfl)
    exact ⟨rfl, okL_nlt (n := 100) (by decide) (Or.inl hq1)⟩
  · refine lv_iload_n hx hb dX2_requireWord_4 rfl (lv_at hl 0 rfl) ?_
    refine lv_bipush (v := nI 100) hx hb dX2_requireWord_5 (by decide) ?_
    refine lv_icmp_lt (tgt := 20) hx hb dX2_requireWord_7 (by decide) (fun hq2 => ?_) (fun hq2 => ?_)
    · refine vx_ret (z_rv hx hb hr hlocks hI ?_ (Nat.le_of_ble_eq_true rfl) (Nat.le_of_ble_eq_true rfl) dX2_requireWord_20)
      exact ⟨rfl, rfl, okL_lt (n := 100) (by decide) hq1 hq2⟩
    · refine z_throw (cls := zEI) hx hb hl0 hown hlocks hout hts zaX2_250 zbX2_250 q75 q8 (List.mem_of_getElem? (i := 6) rfl) (by decide +kernel) (List.mem_of_getElem? (i := 0) rfl) hI (hl.1.trans hml.symm) dX2_requireWord_10 dX2_requireWord_13 dX2_requireWord_14 dX2_requireWord_16 dX2_requireWord_19 ⟨Nat.le_of_ble_eq_true rfl, Nat.le_of_ble_eq_true rfl, Nat.le_of_ble_eq_true rfl, Nat.le_of_ble_eq_true rfl⟩ ?_ (Nat.le_of_ble_eq_true rfl) (Nat.le_of_ble_eq_true rfl)
      exact ⟨rfl, okL_nlt (n := 100) (by decide) (Or.inr hq2)⟩

set_option maxHeartbeats 4000000 in
set_option maxRecDepth 100000 in
theorem c_X2_requirePlace (l : Launch) (hl0 : l.stackTraces = false) (G : zK) (B0 : Nat) (F : zM) (r w cap n : Nat) (t : Nat → Int32) (zp0 : Int32) (h : RA G 1 F r w cap n t) (hcap : cap ≤ 100) : vx_Met l yX2_requirePlace (Cond.code yX2_requirePlace cX2_requirePlace 2 none :: zW) (zRm 6 90 1 6) (va_Pc [.ref r, .int zp0] (zPre G B0 F)) (zQv G B0 (fun F' => F = F' ∧ okL n zp0)) (zXC G B0 F (fun E => E = zEI ∧ ¬ okL n zp0)) 1 6 (zA B0) := by
  refine z_ofx (own := RX2) (by decide) rfl (Nat.le_of_ble_eq_true rfl) ?_
  intro p e s m below meth c ls hx hb hr hml hown hlocks hout hts hl hI
  have hl : lv_has ls 2 [(0, .ref r), (1, .int zp0)] := hl
  obtain ⟨xn, xr, f, xw, xf⟩ := id h
  refine lv_iload_n hx hb dX2_requirePlace_0 rfl (lv_at hl 1 rfl) ?_
  refine lv_if_lt (tgt := 12) hx hb dX2_requirePlace_1 (by decide) (fun hq1 => ?_) (fun hq1 => ?_)
  · refine z_throw (cls := zEI) hx hb hl0 hown hlocks hout hts zaX2_250 zbX2_250 q75 q8 (List.mem_of_getElem? (i := 7) rfl) (by decide +kernel) (List.mem_of_getElem? (i := 0) rfl) hI (hl.1.trans hml.symm) dX2_requirePlace_12 dX2_requirePlace_15 dX2_requirePlace_16 dX2_requirePlace_18 dX2_requirePlace_21 ⟨Nat.le_of_ble_eq_true rfl, Nat.le_of_ble_eq_true rfl, Nat.le_of_ble_eq_true rfl, Nat.le_of_ble_eq_true rfl⟩ ?_ (Nat.le_of_ble_eq_true rfl) (Nat.le_of_ble_eq_true rfl)
    exact ⟨rfl, okL_nlt (by omega) (Or.inl hq1)⟩
  · refine lv_iload_n hx hb dX2_requirePlace_4 rfl (lv_at hl 1 rfl) ?_
    refine lv_aload_n hx hb dX2_requirePlace_5 rfl (lv_at hl 0 rfl) ?_
    refine z_getN hx hb hts hown zlX1 rfl 1 (by decide) (List.mem_of_getElem? (i := 0) rfl) rfl hI xr rfl dX2_requirePlace_6 ?_
    refine lv_icmp_lt (tgt := 22) hx hb dX2_requirePlace_9 (by decide) (fun hq2 => ?_) (fun hq2 => ?_)
    · refine vx_ret (z_rv hx hb hr hlocks hI ?_ (Nat.le_of_ble_eq_true rfl) (Nat.le_of_ble_eq_true rfl) dX2_requirePlace_22)
      exact ⟨rfl, rfl, okL_lt (by omega) hq1 hq2⟩
    · refine z_throw (cls := zEI) hx hb hl0 hown hlocks hout hts zaX2_250 zbX2_250 q75 q8 (List.mem_of_getElem? (i := 7) rfl) (by decide +kernel) (List.mem_of_getElem? (i := 0) rfl) hI (hl.1.trans hml.symm) dX2_requirePlace_12 dX2_requirePlace_15 dX2_requirePlace_16 dX2_requirePlace_18 dX2_requirePlace_21 ⟨Nat.le_of_ble_eq_true rfl, Nat.le_of_ble_eq_true rfl, Nat.le_of_ble_eq_true rfl, Nat.le_of_ble_eq_true rfl⟩ ?_ (Nat.le_of_ble_eq_true rfl) (Nat.le_of_ble_eq_true rfl)
      exact ⟨rfl, okL_nlt (by omega) (Or.inr hq2)⟩

set_option maxHeartbeats 4000000 in
set_option maxRecDepth 100000 in
theorem c_X2_requirePart (l : Launch) (hl0 : l.stackTraces = false) (G : zK) (B0 : Nat) (F : zM) (r w cap n : Nat) (t : Nat → Int32) (zp0 zp1 : Int32) (h : RA G 1 F r w cap n t) (hcap : cap ≤ 100) : vx_Met l yX2_requirePart (Cond.code yX2_requirePart cX2_requirePart 3 none :: zW) (zRm 6 90 1 6) (va_Pc [.ref r, .int zp0, .int zp1] (zPre G B0 F)) (zQv G B0 (fun F' => F = F' ∧ okR n zp0 zp1)) (zXC G B0 F (fun E => E = zEI ∧ ¬ okR n zp0 zp1)) 1 6 (zA B0) := by
  refine z_ofx (own := RX2) (by decide) rfl (Nat.le_of_ble_eq_true rfl) ?_
  intro p e s m below meth c ls hx hb hr hml hown hlocks hout hts hl hI
  have hl : lv_has ls 3 [(0, .ref r), (1, .int zp0), (2, .int zp1)] := hl
  obtain ⟨xn, xr, f, xw, xf⟩ := id h
  refine lv_iload_n hx hb dX2_requirePart_0 rfl (lv_at hl 1 rfl) ?_
  refine lv_if_lt (tgt := 17) hx hb dX2_requirePart_1 (by decide) (fun hq1 => ?_) (fun hq1 => ?_)
  · refine z_throwW (cls := zEI) hx hb hl0 hown hlocks hout hts zaX2_250 zbX2_250 q75 q8 (List.mem_of_getElem? (i := 8) rfl) (by decide +kernel) (List.mem_of_getElem? (i := 0) rfl) hI (hl.1.trans hml.symm) dX2_requirePart_17 dX2_requirePart_20 dX2_requirePart_21 dX2_requirePart_24 dX2_requirePart_27 ⟨Nat.le_of_ble_eq_true rfl, Nat.le_of_ble_eq_true rfl, Nat.le_of_ble_eq_true rfl, Nat.le_of_ble_eq_true rfl⟩ ?_ (Nat.le_of_ble_eq_true rfl) (Nat.le_of_ble_eq_true rfl)
    exact ⟨rfl, okR_no (by omega) (Or.inl hq1)⟩
  · refine lv_iload_n hx hb dX2_requirePart_4 rfl (lv_at hl 2 rfl) ?_
    refine lv_iload_n hx hb dX2_requirePart_5 rfl (lv_at hl 1 rfl) ?_
    refine lv_icmp_lt (tgt := 17) hx hb dX2_requirePart_6 (by decide) (fun hq2 => ?_) (fun hq2 => ?_)
    · refine z_throwW (cls := zEI) hx hb hl0 hown hlocks hout hts zaX2_250 zbX2_250 q75 q8 (List.mem_of_getElem? (i := 8) rfl) (by decide +kernel) (List.mem_of_getElem? (i := 0) rfl) hI (hl.1.trans hml.symm) dX2_requirePart_17 dX2_requirePart_20 dX2_requirePart_21 dX2_requirePart_24 dX2_requirePart_27 ⟨Nat.le_of_ble_eq_true rfl, Nat.le_of_ble_eq_true rfl, Nat.le_of_ble_eq_true rfl, Nat.le_of_ble_eq_true rfl⟩ ?_ (Nat.le_of_ble_eq_true rfl) (Nat.le_of_ble_eq_true rfl)
      exact ⟨rfl, okR_no (by omega) (Or.inr (Or.inl hq2))⟩
    · refine lv_iload_n hx hb dX2_requirePart_9 rfl (lv_at hl 2 rfl) ?_
      refine lv_aload_n hx hb dX2_requirePart_10 rfl (lv_at hl 0 rfl) ?_
      refine z_getN hx hb hts hown zlX1 rfl 1 (by decide) (List.mem_of_getElem? (i := 0) rfl) rfl hI xr rfl dX2_requirePart_11 ?_
      refine lv_icmp_le (tgt := 28) hx hb dX2_requirePart_14 (by decide) (fun hq3 => ?_) (fun hq3 => ?_)
      · refine vx_ret (z_rv hx hb hr hlocks hI ?_ (Nat.le_of_ble_eq_true rfl) (Nat.le_of_ble_eq_true rfl) dX2_requirePart_28)
        exact ⟨rfl, rfl, okR_of (by omega) hq1 hq2 hq3⟩
      · refine z_throwW (cls := zEI) hx hb hl0 hown hlocks hout hts zaX2_250 zbX2_250 q75 q8 (List.mem_of_getElem? (i := 8) rfl) (by decide +kernel) (List.mem_of_getElem? (i := 0) rfl) hI (hl.1.trans hml.symm) dX2_requirePart_17 dX2_requirePart_20 dX2_requirePart_21 dX2_requirePart_24 dX2_requirePart_27 ⟨Nat.le_of_ble_eq_true rfl, Nat.le_of_ble_eq_true rfl, Nat.le_of_ble_eq_true rfl, Nat.le_of_ble_eq_true rfl⟩ ?_ (Nat.le_of_ble_eq_true rfl) (Nat.le_of_ble_eq_true rfl)
        exact ⟨rfl, okR_no (by omega) (Or.inr (Or.inr hq3))⟩

set_option maxHeartbeats 4000000 in
set_option maxRecDepth 100000 in
theorem c_X2_requireWithin (l : Launch) (hl0 : l.stackTraces = false) (G : zK) (B0 : Nat) (F : zM) (zp0 zp1 zp2 : Int32) : vx_Met l yX2_requireWithin (Cond.code yX2_requireWithin cX2_requireWithin 3 none :: zW) (zRm 6 90 1 6) (va_Pc [.int zp0, .int zp1, .int zp2] (zPre G B0 F)) (zQv G B0 (fun F' => F = F' ∧ ¬ zp0 < zp1 ∧ zp0 ≤ zp2)) (zXC G B0 F (fun E => E = zEA ∧ ¬ (¬ zp0 < zp1 ∧ zp0 ≤ zp2))) 1 6 (zA B0) := by
  refine z_ofx (own := RX2) (by decide) rfl (Nat.le_of_ble_eq_true rfl) ?_
  intro p e s m below meth c ls hx hb hr hml hown hlocks hout hts hl hI
  have hl : lv_has ls 3 [(0, .int zp0), (1, .int zp1), (2, .int zp2)] := hl
  refine lv_iload_n hx hb dX2_requireWithin_0 rfl (lv_at hl 0 rfl) ?_
  refine lv_iload_n hx hb dX2_requireWithin_1 rfl (lv_at hl 1 rfl) ?_
  refine lv_icmp_lt (tgt := 10) hx hb dX2_requireWithin_2 (by decide) (fun hq1 => ?_) (fun hq1 => ?_)
  · refine z_throwW (cls := zEA) hx hb hl0 hown hlocks hout hts zaX2_261 zbX2_261 q183 q10 (List.mem_of_getElem? (i := 9) rfl) (by decide +kernel) (List.mem_of_getElem? (i := 2) rfl) hI (hl.1.trans hml.symm) dX2_requireWithin_10 dX2_requireWithin_13 dX2_requireWithin_14 dX2_requireWithin_17 dX2_requireWithin_20 ⟨Nat.le_of_ble_eq_true rfl, Nat.le_of_ble_eq_true rfl, Nat.le_of_ble_eq_true rfl, Nat.le_of_ble_eq_true rfl⟩ ?_ (Nat.le_of_ble_eq_true rfl) (Nat.le_of_ble_eq_true rfl)
    exact ⟨rfl, fun q => q.1 hq1⟩
  · refine lv_iload_n hx hb dX2_requireWithin_5 rfl (lv_at hl 0 rfl) ?_
    refine lv_iload_n hx hb dX2_requireWithin_6 rfl (lv_at hl 2 rfl) ?_
    refine lv_icmp_le (tgt := 21) hx hb dX2_requireWithin_7 (by decide) (fun hq2 => ?_) (fun hq2 => ?_)
    · refine vx_ret (z_rv hx hb hr hlocks hI ?_ (Nat.le_of_ble_eq_true rfl) (Nat.le_of_ble_eq_true rfl) dX2_requireWithin_21)
      exact ⟨rfl, rfl, hq1, hq2⟩
    · refine z_throwW (cls := zEA) hx hb hl0 hown hlocks hout hts zaX2_261 zbX2_261 q183 q10 (List.mem_of_getElem? (i := 9) rfl) (by decide +kernel) (List.mem_of_getElem? (i := 2) rfl) hI (hl.1.trans hml.symm) dX2_requireWithin_10 dX2_requireWithin_13 dX2_requireWithin_14 dX2_requireWithin_17 dX2_requireWithin_20 ⟨Nat.le_of_ble_eq_true rfl, Nat.le_of_ble_eq_true rfl, Nat.le_of_ble_eq_true rfl, Nat.le_of_ble_eq_true rfl⟩ ?_ (Nat.le_of_ble_eq_true rfl) (Nat.le_of_ble_eq_true rfl)
      exact ⟨rfl, fun q => hq2 q.2⟩

set_option maxHeartbeats 4000000 in
set_option maxRecDepth 100000 in
theorem c_X2_requireNotNegative (l : Launch) (hl0 : l.stackTraces = false) (G : zK) (B0 : Nat) (F : zM) (zp0 : Int32) : vx_Met l yX2_requireNotNegative (Cond.code yX2_requireNotNegative cX2_requireNotNegative 1 none :: zW) (zRm 6 90 1 6) (va_Pc [.int zp0] (zPre G B0 F)) (zQv G B0 (fun F' => F = F' ∧ 0 ≤ zp0)) (zXC G B0 F (fun E => E = zEA ∧ ¬ 0 ≤ zp0)) 1 6 (zA B0) := by
  refine z_ofx (own := RX2) (by decide) rfl (Nat.le_of_ble_eq_true rfl) ?_
  intro p e s m below meth c ls hx hb hr hml hown hlocks hout hts hl hI
  have hl : lv_has ls 1 [(0, .int zp0)] := hl
  refine lv_iload_n hx hb dX2_requireNotNegative_0 rfl (lv_at hl 0 rfl) ?_
  refine lv_if_ge (tgt := 15) hx hb dX2_requireNotNegative_1 (by decide) (fun hq1 => ?_) (fun hq1 => ?_)
  · refine vx_ret (z_rv hx hb hr hlocks hI ?_ (Nat.le_of_ble_eq_true rfl) (Nat.le_of_ble_eq_true rfl) dX2_requireNotNegative_15)
    exact ⟨rfl, rfl, hq1⟩
  · refine z_throwW (cls := zEA) hx hb hl0 hown hlocks hout hts zaX2_261 zbX2_261 q183 q10 (List.mem_of_getElem? (i := 10) rfl) (by decide +kernel) (List.mem_of_getElem? (i := 2) rfl) hI (hl.1.trans hml.symm) dX2_requireNotNegative_4 dX2_requireNotNegative_7 dX2_requireNotNegative_8 dX2_requireNotNegative_11 dX2_requireNotNegative_14 ⟨Nat.le_of_ble_eq_true rfl, Nat.le_of_ble_eq_true rfl, Nat.le_of_ble_eq_true rfl, Nat.le_of_ble_eq_true rfl⟩ ?_ (Nat.le_of_ble_eq_true rfl) (Nat.le_of_ble_eq_true rfl)
    exact ⟨rfl, hq1⟩

set_option maxHeartbeats 4000000 in
set_option maxRecDepth 100000 in
theorem c_X2_requireOrder (l : Launch) (hl0 : l.stackTraces = false) (G : zK) (B0 : Nat) (F : zM) (zp0 : Int32) : vx_Met l yX2_requireOrder (Cond.code yX2_requireOrder cX2_requireOrder 1 none :: zW) (zRm 6 90 1 6) (va_Pc [.int zp0] (zPre G B0 F)) (zQv G B0 (fun F' => F = F' ∧ okB zp0)) (zXC G B0 F (fun E => E = zEA ∧ ¬ okB zp0)) 1 6 (zA B0) := by
  refine z_ofx (own := RX2) (by decide) rfl (Nat.le_of_ble_eq_true rfl) ?_
  intro p e s m below meth c ls hx hb hr hml hown hlocks hout hts hl hI
  have hl : lv_has ls 1 [(0, .int zp0)] := hl
  refine lv_iload_n hx hb dX2_requireOrder_0 rfl (lv_at hl 0 rfl) ?_
  refine lv_if_eq (tgt := 20) hx hb dX2_requireOrder_1 (by decide) (fun hq1 => ?_) (fun hq1 => ?_)
  · refine vx_ret (z_rv hx hb hr hlocks hI ?_ (Nat.le_of_ble_eq_true rfl) (Nat.le_of_ble_eq_true rfl) dX2_requireOrder_20)
    exact ⟨rfl, rfl, okB_of (Or.inl hq1)⟩
  · refine lv_iload_n hx hb dX2_requireOrder_4 rfl (lv_at hl 0 rfl) ?_
    refine lv_iconst (v := nI 1) hx hb dX2_requireOrder_5 (by decide) ?_
    refine lv_icmp_eq (tgt := 20) hx hb dX2_requireOrder_6 (by decide) (fun hq2 => ?_) (fun hq2 => ?_)
    · refine vx_ret (z_rv hx hb hr hlocks hI ?_ (Nat.le_of_ble_eq_true rfl) (Nat.le_of_ble_eq_true rfl) dX2_requireOrder_20)
      exact ⟨rfl, rfl, okB_of (Or.inr hq2)⟩
    · refine z_throwW (cls := zEA) hx hb hl0 hown hlocks hout hts zaX2_261 zbX2_261 q183 q10 (List.mem_of_getElem? (i := 11) rfl) (by decide +kernel) (List.mem_of_getElem? (i := 2) rfl) hI (hl.1.trans hml.symm) dX2_requireOrder_9 dX2_requireOrder_12 dX2_requireOrder_13 dX2_requireOrder_16 dX2_requireOrder_19 ⟨Nat.le_of_ble_eq_true rfl, Nat.le_of_ble_eq_true rfl, Nat.le_of_ble_eq_true rfl, Nat.le_of_ble_eq_true rfl⟩ ?_ (Nat.le_of_ble_eq_true rfl) (Nat.le_of_ble_eq_true rfl)
      exact ⟨rfl, okB_no hq1 hq2⟩

set_option maxHeartbeats 4000000 in
set_option maxRecDepth 100000 in
theorem c_X2_requireRoom (l : Launch) (hl0 : l.stackTraces = false) (G : zK) (B0 : Nat) (F : zM) (r w cap n : Nat) (t : Nat → Int32) (zp0 : Int32) (h : RA G 1 F r w cap n t) (hcap : cap ≤ 100) : vx_Met l yX2_requireRoom (Cond.code yX2_requireRoom cX2_requireRoom 2 none :: zW) (zRm 6 90 1 6) (va_Pc [.ref r, .int zp0] (zPre G B0 F)) (zQv G B0 (fun F' => F = F' ∧ zp0 ≤ nI (cap - n))) (zXC G B0 F (fun E => E = zES ∧ ¬ zp0 ≤ nI (cap - n))) 1 6 (zA B0) := by
  refine z_ofx (own := RX2) (by decide) rfl (Nat.le_of_ble_eq_true rfl) ?_
  intro p e s m below meth c ls hx hb hr hml hown hlocks hout hts hl hI
  have hl : lv_has ls 2 [(0, .ref r), (1, .int zp0)] := hl
  obtain ⟨xn, xr, f, xw, xf⟩ := id h
  refine lv_iload_n hx hb dX2_requireRoom_0 rfl (lv_at hl 1 rfl) ?_
  refine lv_aload_n hx hb dX2_requireRoom_1 rfl (lv_at hl 0 rfl) ?_
  refine z_getN hx hb hts hown zlX1 rfl 0 (by decide) (List.mem_of_getElem? (i := 1) rfl) rfl hI xr rfl dX2_requireRoom_2 ?_
  refine z_alenI hx hb hI xw dX2_requireRoom_5 ?_
  refine lv_aload_n hx hb dX2_requireRoom_6 rfl (lv_at hl 0 rfl) ?_
  refine z_getN hx hb hts hown zlX1 rfl 1 (by decide) (List.mem_of_getElem? (i := 0) rfl) rfl hI xr rfl dX2_requireRoom_7 ?_
  refine lv_isub hx hb dX2_requireRoom_10 ?_
  refine z_topi (pk_sub (a := cap) (b := n) (by omega)) ?_
  refine lv_icmp_le (tgt := 25) hx hb dX2_requireRoom_11 (by decide) (fun hq1 => ?_) (fun hq1 => ?_)
  · refine vx_ret (z_rv hx hb hr hlocks hI ?_ (Nat.le_of_ble_eq_true rfl) (Nat.le_of_ble_eq_true rfl) dX2_requireRoom_25)
    exact ⟨rfl, rfl, hq1⟩
  · refine z_throwW (cls := zES) hx hb hl0 hown hlocks hout hts zaX2_96 zbX2_96 q152 q9 (List.mem_of_getElem? (i := 12) rfl) (by decide +kernel) (List.mem_of_getElem? (i := 1) rfl) hI (hl.1.trans hml.symm) dX2_requireRoom_14 dX2_requireRoom_17 dX2_requireRoom_18 dX2_requireRoom_21 dX2_requireRoom_24 ⟨Nat.le_of_ble_eq_true rfl, Nat.le_of_ble_eq_true rfl, Nat.le_of_ble_eq_true rfl, Nat.le_of_ble_eq_true rfl⟩ ?_ (Nat.le_of_ble_eq_true rfl) (Nat.le_of_ble_eq_true rfl)
    exact ⟨rfl, hq1⟩

