set_option maxHeartbeats 4000000 in
set_option maxRecDepth 100000 in
theorem c_X2_keyOf (l : Launch) (G : zK) (B0 : Nat) (F : zM) (o x : Int32) (ρ : Nat → Int32) (hK : KC G B0 F ρ) (hw : ∃ k, k < 100 ∧ x = nI k) : Met l yX2_keyOf (Cond.code yX2_keyOf cX2_keyOf 3 (some FieldType.int) :: zW) (zRm 0 0 0 0) (va_Pc [.ref B0, .int x, .int o] (zPre G B0 F)) (zQi G B0 (fun r F' => F = F' ∧ r = kv ρ o x)) 0 0 (zA B0) := by
  refine z_of (own := RX2) (by decide) rfl (Nat.le_of_ble_eq_true rfl) ?_
  intro p e s m below meth c ls hx hb hr hml hown hlocks hnm hts hl hI
  have hl : lv_has ls 3 [(0, .ref B0), (1, .int x), (2, .int o)] := hl
  obtain ⟨yk1, fk1, yr1, er1⟩ := id hK
  refine lv_iload_n hx hb dX2_keyOf_0 rfl (lv_at hl 2 rfl) ?_
  refine lv_iconst (v := nI 1) hx hb dX2_keyOf_1 (by decide) ?_
  refine lv_icmp_ne (tgt := 14) hx hb dX2_keyOf_2 (by decide) (fun hq2 => ?_) (fun hq2 => ?_)
  · refine lv_iload_n hx hb dX2_keyOf_14 rfl (lv_at hl 1 rfl) ?_
    refine z_ri hx hb hr hlocks hI ?_ (Nat.le_of_ble_eq_true rfl) (Nat.le_of_ble_eq_true rfl) dX2_keyOf_15
    exact ⟨_, rfl, rfl, (if_neg hq2).symm⟩
  · obtain ⟨kw, hkw, rfl⟩ := hw
    have hl : lv_has ls 3 [(0, .ref B0), (1, .int (nI kw)), (2, .int o)] := hl
    refine lv_aload_n hx hb dX2_keyOf_5 rfl (lv_at hl 0 rfl) ?_
    refine z_get hx hb hts hown zlX2 rfl 2 (by decide) (hts _ q42) rfl hI yk1 rfl dX2_keyOf_6 ?_
    refine lv_iload_n hx hb dX2_keyOf_9 rfl (lv_at hl 1 rfl) ?_
    refine z_ild (k := kw) (v := ρ kw) hx hb hI yr1 (by omega) (by omega) (er1 kw (by omega)) dX2_keyOf_10 ?_
    refine lv_goto (tgt := 15) hx hb dX2_keyOf_11 (by decide) ?_
    refine z_ri hx hb hr hlocks hI ?_ (Nat.le_of_ble_eq_true rfl) (Nat.le_of_ble_eq_true rfl) dX2_keyOf_15
    exact ⟨_, rfl, rfl, by unfold kv; rw [if_pos hq2, ix_nI (by omega)]⟩

theorem i_le_n {a b : Int32} : a ≤ b ↔ ¬ b < a := by
  rw [Int32.le_iff_toInt_le, Int32.lt_iff_toInt_lt]; omega
theorem i_n_le {a b : Int32} : ¬ a ≤ b ↔ b < a := by
  rw [Int32.le_iff_toInt_le, Int32.lt_iff_toInt_lt]; omega
set_option maxHeartbeats 4000000 in
set_option maxRecDepth 100000 in
theorem c_X2_isInOrder (l : Launch) (G : zK) (B0 : Nat) (F : zM) (r w cap n : Nat) (t : Nat → Int32) (o : Int32) (ρ : Nat → Int32) (hK : KC G B0 F ρ) (h : RA G 1 F r w cap n t) (hcap : cap ≤ 100) (hw : wok t n) : Met l yX2_isInOrder (Cond.code yX2_isInOrder cX2_isInOrder 4 (some FieldType.boolean) :: zW) (zRm 1 22 0 0) (va_Pc [.ref B0, .ref r, .int o] (zPre G B0 F)) (zQi G B0 (fun r F' => F = F' ∧ r = pI (isr ρ o t n))) 0 0 (zA B0) := by
  refine z_of (own := RX2) (by decide) rfl (Nat.le_of_ble_eq_true rfl) ?_
  intro p e s m below meth c ls hx hb hr hml hown hlocks hnm hts hl hI
  have hl : lv_has ls 4 [(0, .ref B0), (1, .ref r), (2, .int o)] := hl
  obtain ⟨yk1, fk1, yr1, er1⟩ := id hK
  obtain ⟨xn, xr, f, xw, xf⟩ := id h
  refine lv_iconst (v := nI 1) hx hb dX2_isInOrder_0 (by decide) ?_
  refine lv_istore_n (lv' := [(3, .int (nI 1)), (0, .ref B0), (1, .ref r), (2, .int o)]) hx hb dX2_isInOrder_1 rfl hl (by decide) rfl (fun ls hl => ?_)
  refine z_loop (σ := Nat) (fun k : Nat => [(0, .ref B0), (1, .ref r), (2, .int o), (3, .int (nI k))]) (fun (k : Nat) (Fx : zM) => F = Fx ∧ 1 ≤ k ∧ k ≤ n + 1 ∧ ∀ j, 1 ≤ j → j < k → ¬ kv ρ o (t j) < kv ρ o (t (j - 1))) (fun k : Nat => n - k) 1 (nL := 4) (st := []) ?_ (lv_sub hl [1, 2, 3, 0] rfl) hI ?_
  · exact ⟨rfl, Nat.le_refl _, by omega, fun j h1 h2 => absurd h1 (by omega)⟩
  · intro k F2 ls H locs hi hl hI ih
    have hl : lv_has ls 4 [(0, .ref B0), (1, .ref r), (2, .int o), (3, .int (nI k))] := hl
    obtain ⟨hF, hk1, hk2, hk3⟩ := hi
    subst hF
    refine lv_iload_n hx hb dX2_isInOrder_2 rfl (lv_at hl 3 rfl) ?_
    refine lv_aload_n hx hb dX2_isInOrder_3 rfl (lv_at hl 1 rfl) ?_
    refine z_getN hx hb hts hown zlX1 rfl 1 (by decide) (List.mem_of_getElem? (i := 0) rfl) rfl hI xr rfl dX2_isInOrder_4 ?_
    refine z_icmp_ge (tgt := 45) (a := k) (b := n) hx hb dX2_isInOrder_7 (by decide) (by omega) (fun hq3 => ?_) (fun hq3 => ?_)
    · refine lv_iconst (v := nI 1) hx hb dX2_isInOrder_45 (by decide) ?_
      refine z_rz hx hb hr hlocks (Or.inr rfl) hI ?_ (Nat.le_of_ble_eq_true rfl) (Nat.le_of_ble_eq_true rfl) dX2_isInOrder_46
      exact ⟨_, rfl, rfl, pI_t (fun j h1 h2 => hk3 j h1 (by omega))⟩
    · refine lv_aload_n hx hb dX2_isInOrder_10 rfl (lv_at hl 0 rfl) ?_
      refine lv_aload_n hx hb dX2_isInOrder_11 rfl (lv_at hl 1 rfl) ?_
      refine z_getN hx hb hts hown zlX1 rfl 0 (by decide) (List.mem_of_getElem? (i := 1) rfl) rfl hI xr rfl dX2_isInOrder_12 ?_
      refine lv_iload_n hx hb dX2_isInOrder_15 rfl (lv_at hl 3 rfl) ?_
      refine z_ild (k := k) (v := t k) hx hb hI xw (by omega) (by omega) (xf k (by omega)) dX2_isInOrder_16 ?_
      refine lv_iload_n hx hb dX2_isInOrder_17 rfl (lv_at hl 2 rfl) ?_
      refine z_calli hI (z_V (As := [.int (t k), .int o]) (rest := []) ⟨hx, hb, hml, hown, hts⟩ hI yk1 rfl (c_X2_keyOf l G B0 F o (t k) ρ hK (hw k (by omega))) (z_cwV vX2_keyOf hts q477 ⟨Nat.le_of_ble_eq_true rfl, Nat.le_of_ble_eq_true rfl⟩) rfl hl.1 rfl (lv_room (Nat.le_of_ble_eq_true rfl)) dX2_isInOrder_18 ⟨Nat.le_of_ble_eq_true rfl, Nat.le_of_ble_eq_true rfl⟩) (fun r5 F4 H locs hp6 hI => ?_)
      obtain ⟨rfl, rfl⟩ := hp6
      refine lv_aload_n hx hb dX2_isInOrder_21 rfl (lv_at hl 0 rfl) ?_
      refine lv_aload_n hx hb dX2_isInOrder_22 rfl (lv_at hl 1 rfl) ?_
      refine z_getN hx hb hts hown zlX1 rfl 0 (by decide) (List.mem_of_getElem? (i := 1) rfl) rfl hI xr rfl dX2_isInOrder_23 ?_
      refine lv_iload_n hx hb dX2_isInOrder_26 rfl (lv_at hl 3 rfl) ?_
      refine lv_iconst (v := nI 1) hx hb dX2_isInOrder_27 (by decide) ?_
      refine lv_isub hx hb dX2_isInOrder_28 ?_
      refine z_topi (pk_sub (a := k) (b := 1) (by omega)) ?_
      refine z_ild (k := k - 1) (v := t (k - 1)) hx hb hI xw (by omega) (by omega) (xf (k - 1) (by omega)) dX2_isInOrder_29 ?_
      refine lv_iload_n hx hb dX2_isInOrder_30 rfl (lv_at hl 2 rfl) ?_
      refine z_calli hI (z_V (As := [.int (t (k - 1)), .int o]) (rest := [.int (kv ρ o (t k))]) ⟨hx, hb, hml, hown, hts⟩ hI yk1 rfl (c_X2_keyOf l G B0 F o (t (k - 1)) ρ hK (hw (k - 1) (by omega))) (z_cwV vX2_keyOf hts q477 ⟨Nat.le_of_ble_eq_true rfl, Nat.le_of_ble_eq_true rfl⟩) rfl hl.1 rfl (lv_room (Nat.le_of_ble_eq_true rfl)) dX2_isInOrder_31 ⟨Nat.le_of_ble_eq_true rfl, Nat.le_of_ble_eq_true rfl⟩) (fun r8 F7 H locs hp9 hI => ?_)
      obtain ⟨rfl, rfl⟩ := hp9
      refine lv_icmp_ge (tgt := 39) hx hb dX2_isInOrder_34 (by decide) (fun hq10 => ?_) (fun hq10 => ?_)
      · refine lv_iinc (k := 3) (v := nI (k + 1)) (lv' := [(3, .int (nI (k + 1))), (0, .ref B0), (1, .ref r), (2, .int o)]) hx hb dX2_isInOrder_39 hl rfl (nI_add k 1) (by decide) rfl (fun ls hl => ?_)
        refine lv_goto (tgt := 2) hx hb dX2_isInOrder_42 (by decide) ?_
        refine ih (k + 1) _ ls H locs (by first | omega | (dsimp only; omega)) ?_ (lv_sub hl [1, 2, 3, 0] rfl) hI
        refine ⟨rfl, by omega, by omega, fun j h1 h2 => ?_⟩
        by_cases q : j = k
        · subst q; rw [← i_le_n]; exact hq10
        · exact hk3 j h1 (by omega)
      · refine lv_iconst (v := nI 0) hx hb dX2_isInOrder_37 (by decide) ?_
        refine z_rz hx hb hr hlocks (Or.inl rfl) hI ?_ (Nat.le_of_ble_eq_true rfl) (Nat.le_of_ble_eq_true rfl) dX2_isInOrder_38
        exact ⟨_, rfl, rfl, pI_f (fun z => z k (by omega) (by omega) (i_n_le.mp hq10))⟩

set_option maxHeartbeats 4000000 in
set_option maxRecDepth 100000 in
theorem c_X2_isSorted (l : Launch) (hl0 : l.stackTraces = false) (G : zK) (B0 : Nat) (F : zM) (σ : Sg) (zp0 zp1 : Int32) (hC : CS G B0 F σ) (hK : SgOk σ) : vx_Met l yX2_isSorted (Cond.code yX2_isSorted cX2_isSorted 4 (some FieldType.boolean) :: zW) (zRm 7 111 2 12) (va_Pc [.ref B0, .int zp0, .int zp1] (zPre G B0 F)) (zQi G B0 (fun r' F' => oA_isSorted σ zp0 zp1 ∧ oB_isSorted σ zp0 zp1 ∧ oC_isSorted σ zp0 zp1 ∧ r' = rr_isSorted σ zp0 zp1 ∧ CS G B0 F' (ss_isSorted σ zp0 zp1) ∧ zCf B0 F F')) (zXC G B0 F (fun E => zPX zEI zEA "" (oA_isSorted σ zp0 zp1) (oB_isSorted σ zp0 zp1) (oC_isSorted σ zp0 zp1) E)) 2 12 (zA B0) := by
  refine z_ofx (own := RX2) (by decide) rfl (Nat.le_of_ble_eq_true rfl) ?_
  intro p e s m below meth c ls hx hb hr hml hown hlocks hout hts hl hI
  have hl : lv_has ls 4 [(0, .ref B0), (1, .int zp0), (2, .int zp1)] := hl
  obtain ⟨y01, ⟨fa1, y11, e11⟩, ⟨fb1, y21, e21⟩, ⟨fc1, y31, e31⟩, ⟨n41, t41, y41⟩, ⟨n61, t61, y61⟩, ⟨n81, t81, y81⟩, ⟨fd1, y101⟩, yT1, yP1⟩ := id hC
  refine lv_aload_n hx hb dX2_isSorted_0 rfl (lv_at hl 0 rfl) ?_
  refine lv_iload_n hx hb dX2_isSorted_1 rfl (lv_at hl 1 rfl) ?_
  refine z_xcallr hI (z_xV (As := [.int zp0]) (rest := []) ⟨hx, hb, hml, hown, hts⟩ hI y01 rfl (c_X2_textAt l hl0 G B0 F σ zp0 hC) (z_cwV vX2_textAt hts q71 ⟨Nat.le_of_ble_eq_true rfl, Nat.le_of_ble_eq_true rfl⟩) rfl hl.1 rfl (lv_room (Nat.le_of_ble_eq_true rfl)) dX2_isSorted_2 ⟨Nat.le_of_ble_eq_true rfl, Nat.le_of_ble_eq_true rfl⟩) (z_out hout hlocks (fun E hE => Or.inl ⟨hE.1, fun q => hE.2 (by first | exact q | (simp only [oA_isSorted, oB_isSorted, oC_isSorted, rr_isSorted, ss_isSorted] at q; exact q))⟩) (Nat.le_of_ble_eq_true rfl) (Nat.le_of_ble_eq_true rfl)) (fun r3 F2 H locs hp4 hI => ?_)
  obtain ⟨rfl, i5, hi6, rfl, rfl⟩ := hp4
  have hix7 : ix (nI i5) = i5 := ix_nI (by omega)
  have hl : lv_has ls 4 [(0, .ref B0), (1, .int (nI i5)), (2, .int zp1)] := hl
  have hx8 := yT1 i5 hi6
  obtain ⟨xnhx8, xrhx8, fhx8, xwhx8, xfhx8⟩ := id hx8
  refine lv_astore_n (lv' := [(3, .ref (B0 + 11 + 2 * i5)), (0, .ref B0), (1, .int (nI i5)), (2, .int zp1)]) hx hb dX2_isSorted_5 rfl hl (by decide) rfl (fun ls hl => ?_)
  refine lv_iload_n hx hb dX2_isSorted_6 rfl (lv_at hl 3 rfl) ?_
  refine z_xcallv hI (z_xS (As := [.int zp1]) (rest := []) ⟨hx, hb, hml, hown, hts⟩ hI (c_X2_requireOrder l hl0 G B0 F zp1) (z_cwS vX2_requireOrder hts q473 ⟨Nat.le_of_ble_eq_true rfl, Nat.le_of_ble_eq_true rfl⟩) rfl hl.1 rfl (lv_room (Nat.le_of_ble_eq_true rfl)) dX2_isSorted_7 ⟨Nat.le_of_ble_eq_true rfl, Nat.le_of_ble_eq_true rfl⟩) (z_out hout hlocks (fun E hE => Or.inr (Or.inl ⟨hE.1, (by simp only [oA_isSorted, oB_isSorted, oC_isSorted, rr_isSorted, ss_isSorted, hix7] <;> exact ⟨i5, hi6, rfl⟩), fun q => hE.2 (by simp only [oA_isSorted, oB_isSorted, oC_isSorted, rr_isSorted, ss_isSorted, hix7] at q; exact q)⟩)) (Nat.le_of_ble_eq_true rfl) (Nat.le_of_ble_eq_true rfl)) (fun F9 H locs hp11 hI => ?_)
  obtain ⟨rfl, hp11⟩ := hp11
  refine lv_aload_n hx hb dX2_isSorted_10 rfl (lv_at hl 1 rfl) ?_
  refine lv_aload_n hx hb dX2_isSorted_11 rfl (lv_at hl 0 rfl) ?_
  refine lv_iload_n hx hb dX2_isSorted_12 rfl (lv_at hl 3 rfl) ?_
  refine z_calli hI (z_V (As := [.ref (B0 + 11 + 2 * i5), .int zp1]) (rest := []) ⟨hx, hb, hml, hown, hts⟩ hI y01 rfl (c_X2_isInOrder l G B0 F (B0 + 11 + 2 * i5) (B0 + 12 + 2 * i5) 60 (sn σ i5) (st σ i5) zp1 (rk σ) hC.K ⟨xnhx8, xrhx8, fhx8, xwhx8, xfhx8⟩ (by decide) (hK.w hi6)) (z_cwV vX2_isInOrder hts q520 ⟨Nat.le_of_ble_eq_true rfl, Nat.le_of_ble_eq_true rfl⟩) rfl hl.1 rfl (lv_room (Nat.le_of_ble_eq_true rfl)) dX2_isSorted_13 ⟨Nat.le_of_ble_eq_true rfl, Nat.le_of_ble_eq_true rfl⟩) (fun r13 F12 H locs hp14 hI => ?_)
  obtain ⟨rfl, rfl⟩ := hp14
  refine vx_ret (z_rz hx hb hr hlocks pI_or hI ?_ (Nat.le_of_ble_eq_true rfl) (Nat.le_of_ble_eq_true rfl) dX2_isSorted_16)
  refine ⟨_, rfl, (by simp only [oA_isSorted, oB_isSorted, oC_isSorted, rr_isSorted, ss_isSorted, hix7] <;> exact ⟨i5, hi6, rfl⟩), (by simp only [oA_isSorted, oB_isSorted, oC_isSorted, rr_isSorted, ss_isSorted, hix7] <;> exact hp11), (by simp only [oA_isSorted, oB_isSorted, oC_isSorted, rr_isSorted, ss_isSorted, hix7] <;> exact trivial), (by simp only [oA_isSorted, oB_isSorted, oC_isSorted, rr_isSorted, ss_isSorted, hix7] <;> exact rfl), (by simp only [oA_isSorted, oB_isSorted, oC_isSorted, rr_isSorted, ss_isSorted, hix7] <;> exact hC), zCf.rf⟩

set_option maxHeartbeats 4000000 in
set_option maxRecDepth 100000 in
theorem c_X2_requireNotEmpty (l : Launch) (hl0 : l.stackTraces = false) (G : zK) (B0 : Nat) (F : zM) (r w cap n : Nat) (t : Nat → Int32) (h : RA G 1 F r w cap n t) (hcap : cap ≤ 100) : vx_Met l yX2_requireNotEmpty (Cond.code yX2_requireNotEmpty cX2_requireNotEmpty 1 none :: zW) (zRm 6 90 1 6) (va_Pc [.ref r] (zPre G B0 F)) (zQv G B0 (fun F' => F = F' ∧ 0 < n)) (zXC G B0 F (fun E => E = zEN ∧ ¬ 0 < n)) 1 6 (zA B0) := by
  refine z_ofx (own := RX2) (by decide) rfl (Nat.le_of_ble_eq_true rfl) ?_
  intro p e s m below meth c ls hx hb hr hml hown hlocks hout hts hl hI
  have hl : lv_has ls 1 [(0, .ref r)] := hl
  obtain ⟨xn, xr, f, xw, xf⟩ := id h
  refine lv_aload_n hx hb dX2_requireNotEmpty_0 rfl (lv_at hl 0 rfl) ?_
  refine z_getN hx hb hts hown zlX1 rfl 1 (by decide) (List.mem_of_getElem? (i := 0) rfl) rfl hI xr rfl dX2_requireNotEmpty_1 ?_
  refine z_if_ne (tgt := 18) (a := n) hx hb dX2_requireNotEmpty_4 (by decide) (by omega) (fun hq1 => ?_) (fun hq1 => ?_)
  · refine vx_ret (z_rv hx hb hr hlocks hI ?_ (Nat.le_of_ble_eq_true rfl) (Nat.le_of_ble_eq_true rfl) dX2_requireNotEmpty_18)
    exact ⟨rfl, rfl, hq1⟩
  · refine z_throwNW (cls := zEN) hx hb hl0 hown hlocks hout hts q431 q12 (List.mem_of_getElem? (i := 13) rfl) (by decide +kernel) (List.mem_of_getElem? (i := 3) rfl) hI (hl.1.trans hml.symm) dX2_requireNotEmpty_7 dX2_requireNotEmpty_10 dX2_requireNotEmpty_11 dX2_requireNotEmpty_14 dX2_requireNotEmpty_17 ⟨Nat.le_of_ble_eq_true rfl, Nat.le_of_ble_eq_true rfl, Nat.le_of_ble_eq_true rfl, Nat.le_of_ble_eq_true rfl⟩ ?_ (Nat.le_of_ble_eq_true rfl) (Nat.le_of_ble_eq_true rfl)
    exact ⟨rfl, by omega⟩

set_option maxHeartbeats 4000000 in
set_option maxRecDepth 100000 in
theorem c_X2_greatest (l : Launch) (hl0 : l.stackTraces = false) (G : zK) (B0 : Nat) (F : zM) (σ : Sg) (zp0 zp1 : Int32) (hC : CS G B0 F σ) (hK : SgOk σ) : vx_Met l yX2_greatest (Cond.code yX2_greatest cX2_greatest 6 (some FieldType.int) :: zW) (zRm 7 111 3 18) (va_Pc [.ref B0, .int zp0, .int zp1] (zPre G B0 F)) (zQi G B0 (fun r' F' => oA_greatest σ zp0 zp1 ∧ oB_greatest σ zp0 zp1 ∧ oC_greatest σ zp0 zp1 ∧ r' = rr_greatest σ zp0 zp1 ∧ CS G B0 F' (ss_greatest σ zp0 zp1) ∧ zCf B0 F F')) (zXC G B0 F (fun E => zPX zEI zEA zEN (oA_greatest σ zp0 zp1) (oB_greatest σ zp0 zp1) (oC_greatest σ zp0 zp1) E)) 3 18 (zA B0) := by
  refine z_ofx (own := RX2) (by decide) rfl (Nat.le_of_ble_eq_true rfl) ?_
  intro p e s m below meth c ls hx hb hr hml hown hlocks hout hts hl hI
  have hl : lv_has ls 6 [(0, .ref B0), (1, .int zp0), (2, .int zp1)] := hl
  obtain ⟨y01, ⟨fa1, y11, e11⟩, ⟨fb1, y21, e21⟩, ⟨fc1, y31, e31⟩, ⟨n41, t41, y41⟩, ⟨n61, t61, y61⟩, ⟨n81, t81, y81⟩, ⟨fd1, y101⟩, yT1, yP1⟩ := id hC
  refine lv_aload_n hx hb dX2_greatest_0 rfl (lv_at hl 0 rfl) ?_
  refine lv_iload_n hx hb dX2_greatest_1 rfl (lv_at hl 1 rfl) ?_
  refine z_xcallr hI (z_xV (As := [.int zp0]) (rest := []) ⟨hx, hb, hml, hown, hts⟩ hI y01 rfl (c_X2_textAt l hl0 G B0 F σ zp0 hC) (z_cwV vX2_textAt hts q71 ⟨Nat.le_of_ble_eq_true rfl, Nat.le_of_ble_eq_true rfl⟩) rfl hl.1 rfl (lv_room (Nat.le_of_ble_eq_true rfl)) dX2_greatest_2 ⟨Nat.le_of_ble_eq_true rfl, Nat.le_of_ble_eq_true rfl⟩) (z_out hout hlocks (fun E hE => Or.inl ⟨hE.1, fun q => hE.2 (by first | exact q | (simp only [oA_greatest, oB_greatest, oC_greatest, rr_greatest, ss_greatest] at q; exact q))⟩) (Nat.le_of_ble_eq_true rfl) (Nat.le_of_ble_eq_true rfl)) (fun r3 F2 H locs hp4 hI => ?_)
  obtain ⟨rfl, i5, hi6, rfl, rfl⟩ := hp4
  have hix7 : ix (nI i5) = i5 := ix_nI (by omega)
  have hl : lv_has ls 6 [(0, .ref B0), (1, .int (nI i5)), (2, .int zp1)] := hl
  have hx8 := yT1 i5 hi6
  obtain ⟨xnhx8, xrhx8, fhx8, xwhx8, xfhx8⟩ := id hx8
  refine lv_astore_n (lv' := [(3, .ref (B0 + 11 + 2 * i5)), (0, .ref B0), (1, .int (nI i5)), (2, .int zp1)]) hx hb dX2_greatest_5 rfl hl (by decide) rfl (fun ls hl => ?_)
  refine lv_iload_n hx hb dX2_greatest_6 rfl (lv_at hl 3 rfl) ?_
  refine z_xcallv hI (z_xS (As := [.int zp1]) (rest := []) ⟨hx, hb, hml, hown, hts⟩ hI (c_X2_requireOrder l hl0 G B0 F zp1) (z_cwS vX2_requireOrder hts q473 ⟨Nat.le_of_ble_eq_true rfl, Nat.le_of_ble_eq_true rfl⟩) rfl hl.1 rfl (lv_room (Nat.le_of_ble_eq_true rfl)) dX2_greatest_7 ⟨Nat.le_of_ble_eq_true rfl, Nat.le_of_ble_eq_true rfl⟩) (z_out hout hlocks (fun E hE => Or.inr (Or.inl ⟨hE.1, (by simp only [oA_greatest, oB_greatest, oC_greatest, rr_greatest, ss_greatest, hix7] <;> exact ⟨i5, hi6, rfl⟩), fun q => hE.2 (by simp only [oA_greatest, oB_greatest, oC_greatest, rr_greatest, ss_greatest, hix7] at q; exact q)⟩)) (Nat.le_of_ble_eq_true rfl) (Nat.le_of_ble_eq_true rfl)) (fun F9 H locs hp11 hI => ?_)
  obtain ⟨rfl, hp11⟩ := hp11
  refine lv_aload_n hx hb dX2_greatest_10 rfl (lv_at hl 0 rfl) ?_
  refine z_xcallv hI (z_xS (As := [.ref (B0 + 11 + 2 * i5)]) (rest := []) ⟨hx, hb, hml, hown, hts⟩ hI (c_X2_requireNotEmpty l hl0 G B0 F (B0 + 11 + 2 * i5) (B0 + 12 + 2 * i5) 60 (sn σ i5) (st σ i5) ⟨xnhx8, xrhx8, fhx8, xwhx8, xfhx8⟩ (by decide)) (z_cwS vX2_requireNotEmpty hts q428 ⟨Nat.le_of_ble_eq_true rfl, Nat.le_of_ble_eq_true rfl⟩) rfl hl.1 rfl (lv_room (Nat.le_of_ble_eq_true rfl)) dX2_greatest_11 ⟨Nat.le_of_ble_eq_true rfl, Nat.le_of_ble_eq_true rfl⟩) (z_out hout hlocks (fun E hE => Or.inr (Or.inr ⟨hE.1, (by simp only [oA_greatest, oB_greatest, oC_greatest, rr_greatest, ss_greatest, hix7] <;> exact ⟨i5, hi6, rfl⟩), (by simp only [oA_greatest, oB_greatest, oC_greatest, rr_greatest, ss_greatest, hix7] <;> exact hp11), fun q => hE.2 (by simp only [oA_greatest, oB_greatest, oC_greatest, rr_greatest, ss_greatest, hix7] at q; exact q)⟩)) (Nat.le_of_ble_eq_true rfl) (Nat.le_of_ble_eq_true rfl)) (fun F12 H locs hp14 hI => ?_)
  obtain ⟨rfl, hp14⟩ := hp14
  refine lv_aload_n hx hb dX2_greatest_14 rfl (lv_at hl 1 rfl) ?_
  refine lv_aload_n hx hb dX2_greatest_15 rfl (lv_at hl 0 rfl) ?_
  refine z_getN hx hb hts hown zlX1 rfl 0 (by decide) (List.mem_of_getElem? (i := 1) rfl) rfl hI xrhx8 rfl dX2_greatest_16 ?_
  refine lv_iconst (v := nI 0) hx hb dX2_greatest_19 (by decide) ?_
  refine z_ild (k := 0) (v := st σ i5 0) hx hb hI xwhx8 (by omega) (by omega) (xfhx8 0 (by omega)) dX2_greatest_20 ?_
  refine lv_iload_n hx hb dX2_greatest_21 rfl (lv_at hl 3 rfl) ?_
  refine z_calli hI (z_V (As := [.int (st σ i5 0), .int zp1]) (rest := []) ⟨hx, hb, hml, hown, hts⟩ hI y01 rfl (c_X2_keyOf l G B0 F zp1 (st σ i5 0) (rk σ) hC.K ((hK.w hi6) 0 (by omega))) (z_cwV vX2_keyOf hts q477 ⟨Nat.le_of_ble_eq_true rfl, Nat.le_of_ble_eq_true rfl⟩) rfl hl.1 rfl (lv_room (Nat.le_of_ble_eq_true rfl)) dX2_greatest_22 ⟨Nat.le_of_ble_eq_true rfl, Nat.le_of_ble_eq_true rfl⟩) (fun r16 F15 H locs hp17 hI => ?_)
  obtain ⟨rfl, rfl⟩ := hp17
  refine lv_istore (lv' := [(4, .int (kv (rk σ) zp1 (st σ i5 0))), (3, .ref (B0 + 11 + 2 * i5)), (0, .ref B0), (1, .int (nI i5)), (2, .int zp1)]) hx hb dX2_greatest_25 hl (by decide) rfl (fun ls hl => ?_)
  refine lv_iconst (v := nI 1) hx hb dX2_greatest_27 (by decide) ?_
  refine lv_istore (lv' := [(5, .int (nI 1)), (4, .int (kv (rk σ) zp1 (st σ i5 0))), (3, .ref (B0 + 11 + 2 * i5)), (0, .ref B0), (1, .int (nI i5)), (2, .int zp1)]) hx hb dX2_greatest_28 hl (by decide) rfl (fun ls hl => ?_)
  refine z_loop (σ := Nat × Int32) (fun xx : Nat × Int32 => match xx with | (k, a) => [(0, .ref B0), (1, .int (nI i5)), (2, .int zp1), (3, .ref (B0 + 11 + 2 * i5)), (5, .int (nI k)), (4, .int a)]) (fun (xx : Nat × Int32) (Fx : zM) => match xx with | (k, a) => F = Fx ∧ 1 ≤ k ∧ k ≤ sn σ i5 ∧ a = fmx zmax (kv (rk σ) zp1) (st σ i5) (k - 1)) (fun xx : Nat × Int32 => match xx with | (k, a) => sn σ i5 - k) (1, kv (rk σ) zp1 (st σ i5 0)) (nL := 6) (st := []) ?_ (lv_sub hl [3, 4, 5, 2, 0, 1] rfl) hI ?_
  · exact ⟨rfl, Nat.le_refl _, by omega, rfl⟩
  · intro xx F18 ls H locs hi hl hI ih
    obtain ⟨k, a⟩ := xx
    have hl : lv_has ls 6 [(0, .ref B0), (1, .int (nI i5)), (2, .int zp1), (3, .ref (B0 + 11 + 2 * i5)), (5, .int (nI k)), (4, .int a)] := hl
    obtain ⟨hF, hk1, hk2, ha⟩ := hi
    subst hF
    refine lv_iload hx hb dX2_greatest_30 (lv_at hl 4 rfl) ?_
    refine lv_aload_n hx hb dX2_greatest_32 rfl (lv_at hl 3 rfl) ?_
    refine z_getN hx hb hts hown zlX1 rfl 1 (by decide) (List.mem_of_getElem? (i := 0) rfl) rfl hI xrhx8 rfl dX2_greatest_33 ?_
    refine z_icmp_ge (tgt := 64) (a := k) (b := sn σ i5) hx hb dX2_greatest_36 (by decide) (by omega) (fun hq19 => ?_) (fun hq19 => ?_)
    · refine lv_iload hx hb dX2_greatest_64 (lv_at hl 5 rfl) ?_
      refine vx_ret (z_ri hx hb hr hlocks hI ?_ (Nat.le_of_ble_eq_true rfl) (Nat.le_of_ble_eq_true rfl) dX2_greatest_66)
      have hkn : k = sn σ i5 := by omega
      refine ⟨_, rfl, (by simp only [oA_greatest, oB_greatest, oC_greatest, rr_greatest, ss_greatest, hix7] <;> exact ⟨i5, hi6, rfl⟩), (by simp only [oA_greatest, oB_greatest, oC_greatest, rr_greatest, ss_greatest, hix7] <;> exact hp11), (by simp only [oA_greatest, oB_greatest, oC_greatest, rr_greatest, ss_greatest, hix7] <;> exact hp14), (by simp only [oA_greatest, oB_greatest, oC_greatest, rr_greatest, ss_greatest, hix7] <;> (rw [ha, hkn])), (by simp only [oA_greatest, oB_greatest, oC_greatest, rr_greatest, ss_greatest, hix7] <;> exact hC), zCf.rf⟩
    · refine lv_iload hx hb dX2_greatest_39 (lv_at hl 5 rfl) ?_
      refine lv_aload_n hx hb dX2_greatest_41 rfl (lv_at hl 0 rfl) ?_
      refine lv_aload_n hx hb dX2_greatest_42 rfl (lv_at hl 3 rfl) ?_
      refine z_getN hx hb hts hown zlX1 rfl 0 (by decide) (List.mem_of_getElem? (i := 1) rfl) rfl hI xrhx8 rfl dX2_greatest_43 ?_
      refine lv_iload hx hb dX2_greatest_46 (lv_at hl 4 rfl) ?_
      refine z_ild (k := k) (v := st σ i5 k) hx hb hI xwhx8 (by omega) (by omega) (xfhx8 k (by omega)) dX2_greatest_48 ?_
      refine lv_iload_n hx hb dX2_greatest_49 rfl (lv_at hl 2 rfl) ?_
      refine z_calli hI (z_V (As := [.int (st σ i5 k), .int zp1]) (rest := [.int a]) ⟨hx, hb, hml, hown, hts⟩ hI y01 rfl (c_X2_keyOf l G B0 F zp1 (st σ i5 k) (rk σ) hC.K ((hK.w hi6) k (by omega))) (z_cwV vX2_keyOf hts q477 ⟨Nat.le_of_ble_eq_true rfl, Nat.le_of_ble_eq_true rfl⟩) rfl hl.1 rfl (lv_room (Nat.le_of_ble_eq_true rfl)) dX2_greatest_50 ⟨Nat.le_of_ble_eq_true rfl, Nat.le_of_ble_eq_true rfl⟩) (fun r21 F20 H locs hp22 hI => ?_)
      obtain ⟨rfl, rfl⟩ := hp22
      refine z_calli hI (z_S (As := [.int a, .int (kv (rk σ) zp1 (st σ i5 k))]) (rest := []) ⟨hx, hb, hml, hown, hts⟩ hI (c_J9_max_7cf53 l G B0 F a (kv (rk σ) zp1 (st σ i5 k))) (z_cwS vJ9_max_7cf53 hts q481 ⟨Nat.le_of_ble_eq_true rfl, Nat.le_of_ble_eq_true rfl⟩) rfl hl.1 rfl (lv_room (Nat.le_of_ble_eq_true rfl)) dX2_greatest_53 ⟨Nat.le_of_ble_eq_true rfl, Nat.le_of_ble_eq_true rfl⟩) (fun r24 F23 H locs hp25 hI => ?_)
      obtain ⟨rfl, rfl⟩ := hp25
      refine lv_istore (lv' := [(4, .int (zmax a (kv (rk σ) zp1 (st σ i5 k)))), (0, .ref B0), (1, .int (nI i5)), (2, .int zp1), (3, .ref (B0 + 11 + 2 * i5)), (5, .int (nI k))]) hx hb dX2_greatest_56 hl (by decide) rfl (fun ls hl => ?_)
      refine lv_iinc (k := 5) (v := nI (k + 1)) (lv' := [(5, .int (nI (k + 1))), (4, .int (zmax a (kv (rk σ) zp1 (st σ i5 k)))), (0, .ref B0), (1, .int (nI i5)), (2, .int zp1), (3, .ref (B0 + 11 + 2 * i5))]) hx hb dX2_greatest_58 hl rfl (nI_add k 1) (by decide) rfl (fun ls hl => ?_)
      refine lv_goto (tgt := 30) hx hb dX2_greatest_61 (by decide) ?_
      refine ih (k + 1, zmax a (kv (rk σ) zp1 (st σ i5 k))) _ ls H locs (by first | omega | (dsimp only; omega)) ?_ (lv_sub hl [2, 3, 4, 5, 0, 1] rfl) hI
      refine ⟨rfl, by omega, by omega, ?_⟩
      rw [ha]
      obtain ⟨k9, rfl⟩ : ∃ k9, k = k9 + 1 := ⟨k - 1, by omega⟩
      rfl

set_option maxHeartbeats 4000000 in
set_option maxRecDepth 100000 in
theorem c_X2_least (l : Launch) (hl0 : l.stackTraces = false) (G : zK) (B0 : Nat) (F : zM) (σ : Sg) (zp0 zp1 : Int32) (hC : CS G B0 F σ) (hK : SgOk σ) : vx_Met l yX2_least (Cond.code yX2_least cX2_least 6 (some FieldType.int) :: zW) (zRm 7 111 3 18) (va_Pc [.ref B0, .int zp0, .int zp1] (zPre G B0 F)) (zQi G B0 (fun r' F' => oA_least σ zp0 zp1 ∧ oB_least σ zp0 zp1 ∧ oC_least σ zp0 zp1 ∧ r' = rr_least σ zp0 zp1 ∧ CS G B0 F' (ss_least σ zp0 zp1) ∧ zCf B0 F F')) (zXC G B0 F (fun E => zPX zEI zEA zEN (oA_least σ zp0 zp1) (oB_least σ zp0 zp1) (oC_least σ zp0 zp1) E)) 3 18 (zA B0) := by
  refine z_ofx (own := RX2) (by decide) rfl (Nat.le_of_ble_eq_true rfl) ?_
  intro p e s m below meth c ls hx hb hr hml hown hlocks hout hts hl hI
  have hl : lv_has ls 6 [(0, .ref B0), (1, .int zp0), (2, .int zp1)] := hl
  obtain ⟨y01, ⟨fa1, y11, e11⟩, ⟨fb1, y21, e21⟩, ⟨fc1, y31, e31⟩, ⟨n41, t41, y41⟩, ⟨n61, t61, y61⟩, ⟨n81, t81, y81⟩, ⟨fd1, y101⟩, yT1, yP1⟩ := id hC
  refine lv_aload_n hx hb dX2_least_0 rfl (lv_at hl 0 rfl) ?_
  refine lv_iload_n hx hb dX2_least_1 rfl (lv_at hl 1 rfl) ?_
  refine z_xcallr hI (z_xV (As := [.int zp0]) (rest := []) ⟨hx, hb, hml, hown, hts⟩ hI y01 rfl (c_X2_textAt l hl0 G B0 F σ zp0 hC) (z_cwV vX2_textAt hts q71 ⟨Nat.le_of_ble_eq_true rfl, Nat.le_of_ble_eq_true rfl⟩) rfl hl.1 rfl (lv_room (Nat.le_of_ble_eq_true rfl)) dX2_least_2 ⟨Nat.le_of_ble_eq_true rfl, Nat.le_of_ble_eq_true rfl⟩) (z_out hout hlocks (fun E hE => Or.inl ⟨hE.1, fun q => hE.2 (by first | exact q | (simp only [oA_least, oB_least, oC_least, rr_least, ss_least] at q; exact q))⟩) (Nat.le_of_ble_eq_true rfl) (Nat.le_of_ble_eq_true rfl)) (fun r3 F2 H locs hp4 hI => ?_)
  obtain ⟨rfl, i5, hi6, rfl, rfl⟩ := hp4
  have hix7 : ix (nI i5) = i5 := ix_nI (by omega)
  have hl : lv_has ls 6 [(0, .ref B0), (1, .int (nI i5)), (2, .int zp1)] := hl
  have hx8 := yT1 i5 hi6
  obtain ⟨xnhx8, xrhx8, fhx8, xwhx8, xfhx8⟩ := id hx8
  refine lv_astore_n (lv' := [(3, .ref (B0 + 11 + 2 * i5)), (0, .ref B0), (1, .int (nI i5)), (2, .int zp1)]) hx hb dX2_least_5 rfl hl (by decide) rfl (fun ls hl => ?_)
  refine lv_iload_n hx hb dX2_least_6 rfl (lv_at hl 3 rfl) ?_
  refine z_xcallv hI (z_xS (As := [.int zp1]) (rest := []) ⟨hx, hb, hml, hown, hts⟩ hI (c_X2_requireOrder l hl0 G B0 F zp1) (z_cwS vX2_requireOrder hts q473 ⟨Nat.le_of_ble_eq_true rfl, Nat.le_of_ble_eq_true rfl⟩) rfl hl.1 rfl (lv_room (Nat.le_of_ble_eq_true rfl)) dX2_least_7 ⟨Nat.le_of_ble_eq_true rfl, Nat.le_of_ble_eq_true rfl⟩) (z_out hout hlocks (fun E hE => Or.inr (Or.inl ⟨hE.1, (by simp only [oA_least, oB_least, oC_least, rr_least, ss_least, hix7] <;> exact ⟨i5, hi6, rfl⟩), fun q => hE.2 (by simp only [oA_least, oB_least, oC_least, rr_least, ss_least, hix7] at q; exact q)⟩)) (Nat.le_of_ble_eq_true rfl) (Nat.le_of_ble_eq_true rfl)) (fun F9 H locs hp11 hI => ?_)
  obtain ⟨rfl, hp11⟩ := hp11
  refine lv_aload_n hx hb dX2_least_10 rfl (lv_at hl 0 rfl) ?_
  refine z_xcallv hI (z_xS (As := [.ref (B0 + 11 + 2 * i5)]) (rest := []) ⟨hx, hb, hml, hown, hts⟩ hI (c_X2_requireNotEmpty l hl0 G B0 F (B0 + 11 + 2 * i5) (B0 + 12 + 2 * i5) 60 (sn σ i5) (st σ i5) ⟨xnhx8, xrhx8, fhx8, xwhx8, xfhx8⟩ (by decide)) (z_cwS vX2_requireNotEmpty hts q428 ⟨Nat.le_of_ble_eq_true rfl, Nat.le_of_ble_eq_true rfl⟩) rfl hl.1 rfl (lv_room (Nat.le_of_ble_eq_true rfl)) dX2_least_11 ⟨Nat.le_of_ble_eq_true rfl, Nat.le_of_ble_eq_true rfl⟩) (z_out hout hlocks (fun E hE => Or.inr (Or.inr ⟨hE.1, (by simp only [oA_least, oB_least, oC_least, rr_least, ss_least, hix7] <;> exact ⟨i5, hi6, rfl⟩), (by simp only [oA_least, oB_least, oC_least, rr_least, ss_least, hix7] <;> exact hp11), fun q => hE.2 (by simp only [oA_least, oB_least, oC_least, rr_least, ss_least, hix7] at q; exact q)⟩)) (Nat.le_of_ble_eq_true rfl) (Nat.le_of_ble_eq_true rfl)) (fun F12 H locs hp14 hI => ?_)
  obtain ⟨rfl, hp14⟩ := hp14
  refine lv_aload_n hx hb dX2_least_14 rfl (lv_at hl 1 rfl) ?_
  refine lv_aload_n hx hb dX2_least_15 rfl (lv_at hl 0 rfl) ?_
  refine z_getN hx hb hts hown zlX1 rfl 0 (by decide) (List.mem_of_getElem? (i := 1) rfl) rfl hI xrhx8 rfl dX2_least_16 ?_
  refine lv_iconst (v := nI 0) hx hb dX2_least_19 (by decide) ?_
  refine z_ild (k := 0) (v := st σ i5 0) hx hb hI xwhx8 (by omega) (by omega) (xfhx8 0 (by omega)) dX2_least_20 ?_
  refine lv_iload_n hx hb dX2_least_21 rfl (lv_at hl 3 rfl) ?_
  refine z_calli hI (z_V (As := [.int (st σ i5 0), .int zp1]) (rest := []) ⟨hx, hb, hml, hown, hts⟩ hI y01 rfl (c_X2_keyOf l G B0 F zp1 (st σ i5 0) (rk σ) hC.K ((hK.w hi6) 0 (by omega))) (z_cwV vX2_keyOf hts q477 ⟨Nat.le_of_ble_eq_true rfl, Nat.le_of_ble_eq_true rfl⟩) rfl hl.1 rfl (lv_room (Nat.le_of_ble_eq_true rfl)) dX2_least_22 ⟨Nat.le_of_ble_eq_true rfl, Nat.le_of_ble_eq_true rfl⟩) (fun r16 F15 H locs hp17 hI => ?_)
  obtain ⟨rfl, rfl⟩ := hp17
  refine lv_istore (lv' := [(4, .int (kv (rk σ) zp1 (st σ i5 0))), (3, .ref (B0 + 11 + 2 * i5)), (0, .ref B0), (1, .int (nI i5)), (2, .int zp1)]) hx hb dX2_least_25 hl (by decide) rfl (fun ls hl => ?_)
  refine lv_iconst (v := nI 1) hx hb dX2_least_27 (by decide) ?_
  refine lv_istore (lv' := [(5, .int (nI 1)), (4, .int (kv (rk σ) zp1 (st σ i5 0))), (3, .ref (B0 + 11 + 2 * i5)), (0, .ref B0), (1, .int (nI i5)), (2, .int zp1)]) hx hb dX2_least_28 hl (by decide) rfl (fun ls hl => ?_)
  refine z_loop (σ := Nat × Int32) (fun xx : Nat × Int32 => match xx with | (k, a) => [(0, .ref B0), (1, .int (nI i5)), (2, .int zp1), (3, .ref (B0 + 11 + 2 * i5)), (5, .int (nI k)), (4, .int a)]) (fun (xx : Nat × Int32) (Fx : zM) => match xx with | (k, a) => F = Fx ∧ 1 ≤ k ∧ k ≤ sn σ i5 ∧ a = fmx zmin (kv (rk σ) zp1) (st σ i5) (k - 1)) (fun xx : Nat × Int32 => match xx with | (k, a) => sn σ i5 - k) (1, kv (rk σ) zp1 (st σ i5 0)) (nL := 6) (st := []) ?_ (lv_sub hl [3, 4, 5, 2, 0, 1] rfl) hI ?_
  · exact ⟨rfl, Nat.le_refl _, by omega, rfl⟩
  · intro xx F18 ls H locs hi hl hI ih
    obtain ⟨k, a⟩ := xx
    have hl : lv_has ls 6 [(0, .ref B0), (1, .int (nI i5)), (2, .int zp1), (3, .ref (B0 + 11 + 2 * i5)), (5, .int (nI k)), (4, .int a)] := hl
    obtain ⟨hF, hk1, hk2, ha⟩ := hi
    subst hF
    refine lv_iload hx hb dX2_least_30 (lv_at hl 4 rfl) ?_
    refine lv_aload_n hx hb dX2_least_32 rfl (lv_at hl 3 rfl) ?_
    refine z_getN hx hb hts hown zlX1 rfl 1 (by decide) (List.mem_of_getElem? (i := 0) rfl) rfl hI xrhx8 rfl dX2_least_33 ?_
    refine z_icmp_ge (tgt := 64) (a := k) (b := sn σ i5) hx hb dX2_least_36 (by decide) (by omega) (fun hq19 => ?_) (fun hq19 => ?_)
    · refine lv_iload hx hb dX2_least_64 (lv_at hl 5 rfl) ?_
      refine vx_ret (z_ri hx hb hr hlocks hI ?_ (Nat.le_of_ble_eq_true rfl) (Nat.le_of_ble_eq_true rfl) dX2_least_66)
      have hkn : k = sn σ i5 := by omega
      refine ⟨_, rfl, (by simp only [oA_least, oB_least, oC_least, rr_least, ss_least, hix7] <;> exact ⟨i5, hi6, rfl⟩), (by simp only [oA_least, oB_least, oC_least, rr_least, ss_least, hix7] <;> exact hp11), (by simp only [oA_least, oB_least, oC_least, rr_least, ss_least, hix7] <;> exact hp14), (by simp only [oA_least, oB_least, oC_least, rr_least, ss_least, hix7] <;> (rw [ha, hkn])), (by simp only [oA_least, oB_least, oC_least, rr_least, ss_least, hix7] <;> exact hC), zCf.rf⟩
    · refine lv_iload hx hb dX2_least_39 (lv_at hl 5 rfl) ?_
      refine lv_aload_n hx hb dX2_least_41 rfl (lv_at hl 0 rfl) ?_
      refine lv_aload_n hx hb dX2_least_42 rfl (lv_at hl 3 rfl) ?_
      refine z_getN hx hb hts hown zlX1 rfl 0 (by decide) (List.mem_of_getElem? (i := 1) rfl) rfl hI xrhx8 rfl dX2_least_43 ?_
      refine lv_iload hx hb dX2_least_46 (lv_at hl 4 rfl) ?_
      refine z_ild (k := k) (v := st σ i5 k) hx hb hI xwhx8 (by omega) (by omega) (xfhx8 k (by omega)) dX2_least_48 ?_
      refine lv_iload_n hx hb dX2_least_49 rfl (lv_at hl 2 rfl) ?_
      refine z_calli hI (z_V (As := [.int (st σ i5 k), .int zp1]) (rest := [.int a]) ⟨hx, hb, hml, hown, hts⟩ hI y01 rfl (c_X2_keyOf l G B0 F zp1 (st σ i5 k) (rk σ) hC.K ((hK.w hi6) k (by omega))) (z_cwV vX2_keyOf hts q477 ⟨Nat.le_of_ble_eq_true rfl, Nat.le_of_ble_eq_true rfl⟩) rfl hl.1 rfl (lv_room (Nat.le_of_ble_eq_true rfl)) dX2_least_50 ⟨Nat.le_of_ble_eq_true rfl, Nat.le_of_ble_eq_true rfl⟩) (fun r21 F20 H locs hp22 hI => ?_)
      obtain ⟨rfl, rfl⟩ := hp22
      refine z_calli hI (z_S (As := [.int a, .int (kv (rk σ) zp1 (st σ i5 k))]) (rest := []) ⟨hx, hb, hml, hown, hts⟩ hI (c_J9_min_7cf53 l G B0 F a (kv (rk σ) zp1 (st σ i5 k))) (z_cwS vJ9_min_7cf53 hts q491 ⟨Nat.le_of_ble_eq_true rfl, Nat.le_of_ble_eq_true rfl⟩) rfl hl.1 rfl (lv_room (Nat.le_of_ble_eq_true rfl)) dX2_least_53 ⟨Nat.le_of_ble_eq_true rfl, Nat.le_of_ble_eq_true rfl⟩) (fun r24 F23 H locs hp25 hI => ?_)
      obtain ⟨rfl, rfl⟩ := hp25
      refine lv_istore (lv' := [(4, .int (zmin a (kv (rk σ) zp1 (st σ i5 k)))), (0, .ref B0), (1, .int (nI i5)), (2, .int zp1), (3, .ref (B0 + 11 + 2 * i5)), (5, .int (nI k))]) hx hb dX2_least_56 hl (by decide) rfl (fun ls hl => ?_)
      refine lv_iinc (k := 5) (v := nI (k + 1)) (lv' := [(5, .int (nI (k + 1))), (4, .int (zmin a (kv (rk σ) zp1 (st σ i5 k)))), (0, .ref B0), (1, .int (nI i5)), (2, .int zp1), (3, .ref (B0 + 11 + 2 * i5))]) hx hb dX2_least_58 hl rfl (nI_add k 1) (by decide) rfl (fun ls hl => ?_)
      refine lv_goto (tgt := 30) hx hb dX2_least_61 (by decide) ?_
      refine ih (k + 1, zmin a (kv (rk σ) zp1 (st σ i5 k))) _ ls H locs (by first | omega | (dsimp only; omega)) ?_ (lv_sub hl [2, 3, 4, 5, 0, 1] rfl) hI
      refine ⟨rfl, by omega, by omega, ?_⟩
      rw [ha]
      obtain ⟨k9, rfl⟩ : ∃ k9, k = k9 + 1 := ⟨k - 1, by omega⟩
      rfl

