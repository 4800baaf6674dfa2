set_option maxHeartbeats 4000000 in
set_option maxRecDepth 100000 in
theorem c_X1_holds (l : Launch) (G : zK) (B0 : Nat) (F : zM) (r w cap n : Nat) (t : Nat → Int32) (r2 w2 cap2 n2 : Nat) (t2 : Nat → Int32) (pl : Nat) (h : RA G 1 F r w cap n t) (hcap : cap ≤ 100) (h2 : RA G 1 F r2 w2 cap2 n2 t2) (hcap2 : cap2 ≤ 100) (hpl : pl ≤ 300) : Met l yX1_holds (Cond.code yX1_holds cX1_holds 4 (some FieldType.boolean) :: zW) (zRm 0 0 0 0) (va_Pc [.ref r, .ref r2, .int (nI pl)] (zPre G B0 F)) (zQi G B0 (fun r F' => F = F' ∧ r = pI (hld t n t2 n2 pl))) 0 0 (zA B0) := by
  refine z_of (own := RX1) (by decide) rfl (Nat.le_of_ble_eq_true rfl) ?_
  intro p e s m below meth c ls hx hb hr hml hown hlocks hnm hts hl hI
  have hl : lv_has ls 4 [(0, .ref r), (1, .ref r2), (2, .int (nI pl))] := hl
  obtain ⟨xn, xr, f, xw, xf⟩ := id h
  obtain ⟨xn2, xr2, f2, xw2, xf2⟩ := id h2
  refine lv_iload_n hx hb dX1_holds_0 rfl (lv_at hl 2 rfl) ?_
  refine lv_aload_n hx hb dX1_holds_1 rfl (lv_at hl 0 rfl) ?_
  refine z_get hx hb hts hown zlX1 rfl 1 (by decide) (hts _ q32) rfl hI xr rfl dX1_holds_2 ?_
  refine lv_aload_n hx hb dX1_holds_5 rfl (lv_at hl 1 rfl) ?_
  refine z_get hx hb hts hown zlX1 rfl 1 (by decide) (hts _ q32) rfl hI xr2 rfl dX1_holds_6 ?_
  refine lv_isub hx hb dX1_holds_9 ?_
  refine lv_icmp_le (tgt := 15) hx hb dX1_holds_10 (by decide) (fun hq1 => ?_) (fun hq1 => ?_)
  · have hle := (z_le_sub (by omega) (by omega) (by omega)).mp hq1
    refine lv_iconst (v := nI 0) hx hb dX1_holds_15 (by decide) ?_
    refine lv_istore_n (lv' := [(3, .int (nI 0)), (0, .ref r), (1, .ref r2), (2, .int (nI pl))]) hx hb dX1_holds_16 rfl hl (by decide) rfl (fun ls hl => ?_)
    refine z_loop (σ := Nat) (fun k : Nat => [(0, .ref r), (1, .ref r2), (2, .int (nI pl)), (3, .int (nI k))]) (fun (k : Nat) (Fx : zM) => F = Fx ∧ k ≤ n2 ∧ ∀ i, i < k → t (pl + i) = t2 i) (fun k : Nat => n2 - k) 0 (nL := 4) (st := []) ?_ (lv_sub hl [1, 2, 3, 0] rfl) hI ?_
    · exact ⟨rfl, Nat.zero_le _, fun i hi => absurd hi (Nat.not_lt_zero _)⟩
    · intro k F2 ls H locs hi hl hI ih
      have hl : lv_has ls 4 [(0, .ref r), (1, .ref r2), (2, .int (nI pl)), (3, .int (nI k))] := hl
      obtain ⟨hF, hk, hall⟩ := hi
      subst hF
      refine lv_iload_n hx hb dX1_holds_17 rfl (lv_at hl 3 rfl) ?_
      refine lv_aload_n hx hb dX1_holds_18 rfl (lv_at hl 1 rfl) ?_
      refine z_get hx hb hts hown zlX1 rfl 1 (by decide) (hts _ q32) rfl hI xr2 rfl dX1_holds_19 ?_
      refine z_icmp_ge (tgt := 50) (a := k) (b := n2) hx hb dX1_holds_22 (by decide) (by omega) (fun hq3 => ?_) (fun hq3 => ?_)
      · refine lv_iconst (v := nI 1) hx hb dX1_holds_50 (by decide) ?_
        refine z_rz hx hb hr hlocks (Or.inr rfl) hI ?_ (Nat.le_of_ble_eq_true rfl) (Nat.le_of_ble_eq_true rfl) dX1_holds_51
        have hkn : k = n2 := by omega
        subst hkn
        exact ⟨_, rfl, rfl, pI_t ⟨hle, hall⟩⟩
      · refine lv_aload_n hx hb dX1_holds_25 rfl (lv_at hl 0 rfl) ?_
        refine z_get hx hb hts hown zlX1 rfl 0 (by decide) (hts _ q30) rfl hI xr rfl dX1_holds_26 ?_
        refine lv_iload_n hx hb dX1_holds_29 rfl (lv_at hl 2 rfl) ?_
        refine lv_iload_n hx hb dX1_holds_30 rfl (lv_at hl 3 rfl) ?_
        refine lv_iadd hx hb dX1_holds_31 ?_
        refine z_topi (nI_add pl k) ?_
        refine z_ild (k := pl + k) (v := t (pl + k)) hx hb hI xw (by omega) (by omega) (xf (pl + k) (by omega)) dX1_holds_32 ?_
        refine lv_aload_n hx hb dX1_holds_33 rfl (lv_at hl 1 rfl) ?_
        refine z_get hx hb hts hown zlX1 rfl 0 (by decide) (hts _ q30) rfl hI xr2 rfl dX1_holds_34 ?_
        refine lv_iload_n hx hb dX1_holds_37 rfl (lv_at hl 3 rfl) ?_
        refine z_ild (k := k) (v := t2 k) hx hb hI xw2 (by omega) (by omega) (xf2 k (by omega)) dX1_holds_38 ?_
        refine lv_icmp_eq (tgt := 44) hx hb dX1_holds_39 (by decide) (fun hq4 => ?_) (fun hq4 => ?_)
        · refine lv_iinc (k := 3) (v := nI (k + 1)) (lv' := [(3, .int (nI (k + 1))), (0, .ref r), (1, .ref r2), (2, .int (nI pl))]) hx hb dX1_holds_44 hl rfl (nI_add k 1) (by decide) rfl (fun ls hl => ?_)
          refine lv_goto (tgt := 17) hx hb dX1_holds_47 (by decide) ?_
          refine ih (k + 1) _ ls H locs (by first | omega | (dsimp only; omega)) ?_ (lv_sub hl [1, 2, 3, 0] rfl) hI
          refine ⟨rfl, by omega, fun i hi => ?_⟩
          by_cases q : i = k
          · subst q; exact hq4
          · exact hall i (by omega)
        · refine lv_iconst (v := nI 0) hx hb dX1_holds_42 (by decide) ?_
          refine z_rz hx hb hr hlocks (Or.inl rfl) hI ?_ (Nat.le_of_ble_eq_true rfl) (Nat.le_of_ble_eq_true rfl) dX1_holds_43
          exact ⟨_, rfl, rfl, pI_f (fun q => hq4 (q.2 k (by omega)))⟩
  · have hnl : ¬ pl + n2 ≤ n := fun q => hq1 ((z_le_sub (by omega) (by omega) (by omega)).mpr q)
    refine lv_iconst (v := nI 0) hx hb dX1_holds_13 (by decide) ?_
    refine z_rz hx hb hr hlocks (Or.inl rfl) hI ?_ (Nat.le_of_ble_eq_true rfl) (Nat.le_of_ble_eq_true rfl) dX1_holds_14
    exact ⟨_, rfl, rfl, pI_f (fun q => hnl q.1)⟩

set_option maxHeartbeats 4000000 in
set_option maxRecDepth 100000 in
theorem c_X1_firstPlaceOf (l : Launch) (G : zK) (B0 : Nat) (F : zM) (r w cap n : Nat) (t : Nat → Int32) (r2 w2 cap2 n2 : Nat) (t2 : Nat → Int32) (a b : Nat) (h : RA G 1 F r w cap n t) (hcap : cap ≤ 100) (h2 : RA G 1 F r2 w2 cap2 n2 t2) (hcap2 : cap2 ≤ 100) (hab : a ≤ 100) (hbn : b ≤ n) : Met l yX1_firstPlaceOf (Cond.code yX1_firstPlaceOf cX1_firstPlaceOf 5 (some FieldType.int) :: zW) (zRm 1 23 0 0) (va_Pc [.ref r, .ref r2, .int (nI a), .int (nI b)] (zPre G B0 F)) (zQi G B0 (fun r F' => F = F' ∧ r = rI (zfst (hld t n t2 n2) a (b + 1 - n2 - a)))) 0 0 (zA B0) := by
  refine z_of (own := RX1) (by decide) rfl (Nat.le_of_ble_eq_true rfl) ?_
  intro p e s m below meth c ls hx hb hr hml hown hlocks hnm hts hl hI
  have hl : lv_has ls 5 [(0, .ref r), (1, .ref r2), (2, .int (nI a)), (3, .int (nI b))] := hl
  obtain ⟨xn, xr, f, xw, xf⟩ := id h
  obtain ⟨xn2, xr2, f2, xw2, xf2⟩ := id h2
  refine lv_iload_n hx hb dX1_firstPlaceOf_0 rfl (lv_at hl 2 rfl) ?_
  refine lv_istore (lv' := [(4, .int (nI a)), (0, .ref r), (1, .ref r2), (2, .int (nI a)), (3, .int (nI b))]) hx hb dX1_firstPlaceOf_1 hl (by decide) rfl (fun ls hl => ?_)
  refine z_loop (σ := Nat) (fun k : Nat => [(0, .ref r), (1, .ref r2), (2, .int (nI a)), (3, .int (nI b)), (4, .int (nI k))]) (fun (k : Nat) (Fx : zM) => F = Fx ∧ k ≤ 200 ∧ zfst (hld t n t2 n2) a (b + 1 - n2 - a) = zfst (hld t n t2 n2) k (b + 1 - n2 - k)) (fun k : Nat => b + 1 - k) a (nL := 5) (st := []) ?_ (lv_sub hl [1, 2, 3, 4, 0] rfl) hI ?_
  · exact ⟨rfl, by omega, rfl⟩
  · intro k F1 ls H locs hi hl hI ih
    have hl : lv_has ls 5 [(0, .ref r), (1, .ref r2), (2, .int (nI a)), (3, .int (nI b)), (4, .int (nI k))] := hl
    obtain ⟨hF, hk, hz⟩ := hi
    subst hF
    refine lv_iload hx hb dX1_firstPlaceOf_3 (lv_at hl 4 rfl) ?_
    refine lv_iload_n hx hb dX1_firstPlaceOf_5 rfl (lv_at hl 3 rfl) ?_
    refine lv_aload_n hx hb dX1_firstPlaceOf_6 rfl (lv_at hl 1 rfl) ?_
    refine z_get hx hb hts hown zlX1 rfl 1 (by decide) (hts _ q32) rfl hI xr2 rfl dX1_firstPlaceOf_7 ?_
    refine lv_isub hx hb dX1_firstPlaceOf_10 ?_
    refine lv_icmp_gt (tgt := 33) hx hb dX1_firstPlaceOf_11 (by decide) (fun hq2 => ?_) (fun hq2 => ?_)
    · have hgt := (z_lt_sub (by omega) (by omega) (by omega)).mp hq2
      refine lv_iconst (v := -1) hx hb dX1_firstPlaceOf_33 (by decide) ?_
      refine z_ri hx hb hr hlocks hI ?_ (Nat.le_of_ble_eq_true rfl) (Nat.le_of_ble_eq_true rfl) dX1_firstPlaceOf_34
      rw [show b + 1 - n2 - k = 0 by omega] at hz
      exact ⟨_, rfl, rfl, by rw [hz]; rfl⟩
    · have hle : k + n2 ≤ b := Nat.le_of_not_lt fun q => hq2 ((z_lt_sub (by omega) (by omega) (by omega)).mpr q)
      obtain ⟨cc, hcc⟩ : ∃ cc, b + 1 - n2 - k = cc + 1 := ⟨b - n2 - k, by omega⟩
      refine lv_aload_n hx hb dX1_firstPlaceOf_14 rfl (lv_at hl 0 rfl) ?_
      refine lv_aload_n hx hb dX1_firstPlaceOf_15 rfl (lv_at hl 1 rfl) ?_
      refine lv_iload hx hb dX1_firstPlaceOf_16 (lv_at hl 4 rfl) ?_
      refine z_calli hI (z_V (As := [.ref r2, .int (nI k)]) (rest := []) ⟨hx, hb, hml, hown, hts⟩ hI xr rfl (c_X1_holds l G B0 F r w cap n t r2 w2 cap2 n2 t2 k ⟨xn, xr, f, xw, xf⟩ (by omega) ⟨xn2, xr2, f2, xw2, xf2⟩ (by omega) (by omega)) (z_cwV vX1_holds hts q331 ⟨Nat.le_of_ble_eq_true rfl, Nat.le_of_ble_eq_true rfl⟩) rfl hl.1 rfl (lv_room (Nat.le_of_ble_eq_true rfl)) dX1_firstPlaceOf_18 ⟨Nat.le_of_ble_eq_true rfl, Nat.le_of_ble_eq_true rfl⟩) (fun r4 F3 H locs hp5 hI => ?_)
      obtain ⟨rfl, rfl⟩ := hp5
      refine z_ifp_eq (tgt := 27) hx hb dX1_firstPlaceOf_21 (by decide) (fun hq6 => ?_) (fun hq6 => ?_)
      · refine lv_iinc (k := 4) (v := nI (k + 1)) (lv' := [(4, .int (nI (k + 1))), (0, .ref r), (1, .ref r2), (2, .int (nI a)), (3, .int (nI b))]) hx hb dX1_firstPlaceOf_27 hl rfl (nI_add k 1) (by decide) rfl (fun ls hl => ?_)
        refine lv_goto (tgt := 3) hx hb dX1_firstPlaceOf_30 (by decide) ?_
        refine ih (k + 1) _ ls H locs (by first | omega | (dsimp only; omega)) ?_ (lv_sub hl [1, 2, 3, 4, 0] rfl) hI
        refine ⟨rfl, by omega, ?_⟩
        rw [hz, hcc, zfst_f hq6]
        congr 1; omega
      · refine lv_iload hx hb dX1_firstPlaceOf_24 (lv_at hl 4 rfl) ?_
        refine z_ri hx hb hr hlocks hI ?_ (Nat.le_of_ble_eq_true rfl) (Nat.le_of_ble_eq_true rfl) dX1_firstPlaceOf_26
        exact ⟨_, rfl, rfl, by rw [hz, hcc, zfst_t hq6]; rfl⟩

set_option maxHeartbeats 4000000 in
set_option maxRecDepth 100000 in
theorem c_X1_timesAnywhere (l : Launch) (G : zK) (B0 : Nat) (F : zM) (r w cap n : Nat) (t : Nat → Int32) (r2 w2 cap2 n2 : Nat) (t2 : Nat → Int32) (h : RA G 1 F r w cap n t) (hcap : cap ≤ 100) (h2 : RA G 1 F r2 w2 cap2 n2 t2) (hcap2 : cap2 ≤ 100) : Met l yX1_timesAnywhere (Cond.code yX1_timesAnywhere cX1_timesAnywhere 4 (some FieldType.int) :: zW) (zRm 1 23 0 0) (va_Pc [.ref r, .ref r2] (zPre G B0 F)) (zQi G B0 (fun r F' => F = F' ∧ r = nI (zct (hld t n t2 n2) (n + 1 - n2)))) 0 0 (zA B0) := by
  refine z_of (own := RX1) (by decide) rfl (Nat.le_of_ble_eq_true rfl) ?_
  intro p e s m below meth c ls hx hb hr hml hown hlocks hnm hts hl hI
  have hl : lv_has ls 4 [(0, .ref r), (1, .ref r2)] := hl
  obtain ⟨xn, xr, f, xw, xf⟩ := id h
  obtain ⟨xn2, xr2, f2, xw2, xf2⟩ := id h2
  refine lv_iconst (v := nI 0) hx hb dX1_timesAnywhere_0 (by decide) ?_
  refine lv_istore_n (lv' := [(2, .int (nI 0)), (0, .ref r), (1, .ref r2)]) hx hb dX1_timesAnywhere_1 rfl hl (by decide) rfl (fun ls hl => ?_)
  refine lv_iconst (v := nI 0) hx hb dX1_timesAnywhere_2 (by decide) ?_
  refine lv_istore_n (lv' := [(3, .int (nI 0)), (2, .int (nI 0)), (0, .ref r), (1, .ref r2)]) hx hb dX1_timesAnywhere_3 rfl hl (by decide) rfl (fun ls hl => ?_)
  refine z_loop (σ := Nat × Nat) (fun xx : Nat × Nat => match xx with | (k, a) => [(0, .ref r), (1, .ref r2), (3, .int (nI k)), (2, .int (nI a))]) (fun (xx : Nat × Nat) (Fx : zM) => match xx with | (k, a) => F = Fx ∧ k ≤ n + 1 - n2 ∧ a = zct (hld t n t2 n2) k) (fun xx : Nat × Nat => match xx with | (k, a) => n + 1 - k) (0, 0) (nL := 4) (st := []) ?_ (lv_sub hl [2, 3, 0, 1] rfl) hI ?_
  · exact ⟨rfl, Nat.zero_le _, rfl⟩
  · intro xx F1 ls H locs hi hl hI ih
    obtain ⟨k, a⟩ := xx
    have hl : lv_has ls 4 [(0, .ref r), (1, .ref r2), (3, .int (nI k)), (2, .int (nI a))] := hl
    obtain ⟨hF, hk, ha⟩ := hi
    subst hF
    have hcn := zct_le (hld t n t2 n2) k
    refine lv_iload_n hx hb dX1_timesAnywhere_4 rfl (lv_at hl 2 rfl) ?_
    refine lv_aload_n hx hb dX1_timesAnywhere_5 rfl (lv_at hl 0 rfl) ?_
    refine z_get hx hb hts hown zlX1 rfl 1 (by decide) (hts _ q32) rfl hI xr rfl dX1_timesAnywhere_6 ?_
    refine lv_aload_n hx hb dX1_timesAnywhere_9 rfl (lv_at hl 1 rfl) ?_
    refine z_get hx hb hts hown zlX1 rfl 1 (by decide) (hts _ q32) rfl hI xr2 rfl dX1_timesAnywhere_10 ?_
    refine lv_isub hx hb dX1_timesAnywhere_13 ?_
    refine lv_icmp_gt (tgt := 35) hx hb dX1_timesAnywhere_14 (by decide) (fun hq2 => ?_) (fun hq2 => ?_)
    · have hgt := (z_lt_sub (by omega) (by omega) (by omega)).mp hq2
      refine lv_iload_n hx hb dX1_timesAnywhere_35 rfl (lv_at hl 3 rfl) ?_
      refine z_ri hx hb hr hlocks hI ?_ (Nat.le_of_ble_eq_true rfl) (Nat.le_of_ble_eq_true rfl) dX1_timesAnywhere_36
      have hkn : k = n + 1 - n2 := by omega
      subst hkn
      exact ⟨_, rfl, rfl, by rw [ha]⟩
    · have hle : k + n2 ≤ n := Nat.le_of_not_lt fun q => hq2 ((z_lt_sub (by omega) (by omega) (by omega)).mpr q)
      refine lv_aload_n hx hb dX1_timesAnywhere_17 rfl (lv_at hl 0 rfl) ?_
      refine lv_aload_n hx hb dX1_timesAnywhere_18 rfl (lv_at hl 1 rfl) ?_
      refine lv_iload_n hx hb dX1_timesAnywhere_19 rfl (lv_at hl 2 rfl) ?_
      refine z_calli hI (z_V (As := [.ref r2, .int (nI k)]) (rest := []) ⟨hx, hb, hml, hown, hts⟩ hI xr rfl (c_X1_holds l G B0 F r w cap n t r2 w2 cap2 n2 t2 k ⟨xn, xr, f, xw, xf⟩ (by omega) ⟨xn2, xr2, f2, xw2, xf2⟩ (by omega) (by omega)) (z_cwV vX1_holds hts q331 ⟨Nat.le_of_ble_eq_true rfl, Nat.le_of_ble_eq_true rfl⟩) rfl hl.1 rfl (lv_room (Nat.le_of_ble_eq_true rfl)) dX1_timesAnywhere_20 ⟨Nat.le_of_ble_eq_true rfl, Nat.le_of_ble_eq_true rfl⟩) (fun r4 F3 H locs hp5 hI => ?_)
      obtain ⟨rfl, rfl⟩ := hp5
      refine z_ifp_eq (tgt := 29) hx hb dX1_timesAnywhere_23 (by decide) (fun hq6 => ?_) (fun hq6 => ?_)
      · refine lv_iinc (k := 2) (v := nI (k + 1)) (lv' := [(3, .int (nI (k + 1))), (0, .ref r), (1, .ref r2), (2, .int (nI a))]) hx hb dX1_timesAnywhere_29 hl rfl (nI_add k 1) (by decide) rfl (fun ls hl => ?_)
        refine lv_goto (tgt := 4) hx hb dX1_timesAnywhere_32 (by decide) ?_
        refine ih (k + 1, a) _ ls H locs (by first | omega | (dsimp only; omega)) ?_ (lv_sub hl [1, 2, 0, 3] rfl) hI
        exact ⟨rfl, by omega, by first | (rw [zct_t hq6, ha]) | (rw [zct_f hq6, ha])⟩
      · refine lv_iinc (k := 3) (v := nI (a + 1)) (lv' := [(2, .int (nI (a + 1))), (0, .ref r), (1, .ref r2), (3, .int (nI k))]) hx hb dX1_timesAnywhere_26 hl rfl (nI_add a 1) (by decide) rfl (fun ls hl => ?_)
        refine lv_iinc (k := 3) (v := nI (k + 1)) (lv' := [(3, .int (nI (k + 1))), (2, .int (nI (a + 1))), (0, .ref r), (1, .ref r2)]) hx hb dX1_timesAnywhere_29 hl rfl (nI_add k 1) (by decide) rfl (fun ls hl => ?_)
        refine lv_goto (tgt := 4) hx hb dX1_timesAnywhere_32 (by decide) ?_
        refine ih (k + 1, a + 1) _ ls H locs (by first | omega | (dsimp only; omega)) ?_ (lv_sub hl [2, 3, 0, 1] rfl) hI
        exact ⟨rfl, by omega, by first | (rw [zct_t hq6, ha]) | (rw [zct_f hq6, ha])⟩

set_option maxHeartbeats 4000000 in
set_option maxRecDepth 100000 in
theorem c_X1_timesApart (l : Launch) (G : zK) (B0 : Nat) (F : zM) (r w cap n : Nat) (t : Nat → Int32) (r2 w2 cap2 n2 : Nat) (t2 : Nat → Int32) (h : RA G 1 F r w cap n t) (hcap : cap ≤ 100) (h2 : RA G 1 F r2 w2 cap2 n2 t2) (hcap2 : cap2 ≤ 100) : Met l yX1_timesApart (Cond.code yX1_timesApart cX1_timesApart 5 (some FieldType.int) :: zW) (zRm 1 23 0 0) (va_Pc [.ref r, .ref r2] (zPre G B0 F)) (zQi G B0 (fun r F' => F = F' ∧ r = nI (zap (hld t n t2 n2) n2 (n + 1 - n2)).1)) 0 0 (zA B0) := by
  refine z_of (own := RX1) (by decide) rfl (Nat.le_of_ble_eq_true rfl) ?_
  intro p e s m below meth c ls hx hb hr hml hown hlocks hnm hts hl hI
  have hl : lv_has ls 5 [(0, .ref r), (1, .ref r2)] := hl
  obtain ⟨xn, xr, f, xw, xf⟩ := id h
  obtain ⟨xn2, xr2, f2, xw2, xf2⟩ := id h2
  refine lv_iconst (v := nI 0) hx hb dX1_timesApart_0 (by decide) ?_
  refine lv_istore_n (lv' := [(2, .int (nI 0)), (0, .ref r), (1, .ref r2)]) hx hb dX1_timesApart_1 rfl hl (by decide) rfl (fun ls hl => ?_)
  refine lv_iconst (v := nI 0) hx hb dX1_timesApart_2 (by decide) ?_
  refine lv_istore_n (lv' := [(3, .int (nI 0)), (2, .int (nI 0)), (0, .ref r), (1, .ref r2)]) hx hb dX1_timesApart_3 rfl hl (by decide) rfl (fun ls hl => ?_)
  refine lv_iconst (v := nI 0) hx hb dX1_timesApart_4 (by decide) ?_
  refine lv_istore (lv' := [(4, .int (nI 0)), (3, .int (nI 0)), (2, .int (nI 0)), (0, .ref r), (1, .ref r2)]) hx hb dX1_timesApart_5 hl (by decide) rfl (fun ls hl => ?_)
  refine z_loop (σ := Nat × Nat × Nat) (fun xx : Nat × Nat × Nat => match xx with | (k, a, b) => [(0, .ref r), (1, .ref r2), (4, .int (nI k)), (2, .int (nI a)), (3, .int (nI b))]) (fun (xx : Nat × Nat × Nat) (Fx : zM) => match xx with | (k, a, b) => F = Fx ∧ k ≤ n + 1 - n2 ∧ a = (zap (hld t n t2 n2) n2 k).1 ∧ b = (zap (hld t n t2 n2) n2 k).2) (fun xx : Nat × Nat × Nat => match xx with | (k, a, b) => n + 1 - k) (0, 0, 0) (nL := 5) (st := []) ?_ (lv_sub hl [3, 4, 0, 2, 1] rfl) hI ?_
  · exact ⟨rfl, Nat.zero_le _, rfl, rfl⟩
  · intro xx F1 ls H locs hi hl hI ih
    obtain ⟨k, a, b⟩ := xx
    have hl : lv_has ls 5 [(0, .ref r), (1, .ref r2), (4, .int (nI k)), (2, .int (nI a)), (3, .int (nI b))] := hl
    obtain ⟨hF, hk, ha, hb2⟩ := hi
    subst hF
    have hcn := zap_le (hld t n t2 n2) n2 k
    refine lv_iload hx hb dX1_timesApart_7 (lv_at hl 2 rfl) ?_
    refine lv_aload_n hx hb dX1_timesApart_9 rfl (lv_at hl 0 rfl) ?_
    refine z_get hx hb hts hown zlX1 rfl 1 (by decide) (hts _ q32) rfl hI xr rfl dX1_timesApart_10 ?_
    refine lv_aload_n hx hb dX1_timesApart_13 rfl (lv_at hl 1 rfl) ?_
    refine z_get hx hb hts hown zlX1 rfl 1 (by decide) (hts _ q32) rfl hI xr2 rfl dX1_timesApart_14 ?_
    refine lv_isub hx hb dX1_timesApart_17 ?_
    refine lv_icmp_gt (tgt := 54) hx hb dX1_timesApart_18 (by decide) (fun hq2 => ?_) (fun hq2 => ?_)
    · have hgt := (z_lt_sub (by omega) (by omega) (by omega)).mp hq2
      refine lv_iload_n hx hb dX1_timesApart_54 rfl (lv_at hl 3 rfl) ?_
      refine z_ri hx hb hr hlocks hI ?_ (Nat.le_of_ble_eq_true rfl) (Nat.le_of_ble_eq_true rfl) dX1_timesApart_55
      have hkn : k = n + 1 - n2 := by omega
      subst hkn
      exact ⟨_, rfl, rfl, by rw [ha]⟩
    · have hle : k + n2 ≤ n := Nat.le_of_not_lt fun q => hq2 ((z_lt_sub (by omega) (by omega) (by omega)).mpr q)
      refine lv_iload hx hb dX1_timesApart_21 (lv_at hl 2 rfl) ?_
      refine lv_iload_n hx hb dX1_timesApart_23 rfl (lv_at hl 4 rfl) ?_
      refine z_icmp_lt (tgt := 48) (a := k) (b := b) hx hb dX1_timesApart_24 (by decide) (by omega) (fun hq3 => ?_) (fun hq3 => ?_)
      · refine lv_iinc (k := 2) (v := nI (k + 1)) (lv' := [(4, .int (nI (k + 1))), (0, .ref r), (1, .ref r2), (2, .int (nI a)), (3, .int (nI b))]) hx hb dX1_timesApart_48 hl rfl (nI_add k 1) (by decide) rfl (fun ls hl => ?_)
        refine lv_goto (tgt := 7) hx hb dX1_timesApart_51 (by decide) ?_
        refine ih (k + 1, a, b) _ ls H locs (by first | omega | (dsimp only; omega)) ?_ (lv_sub hl [1, 2, 0, 3, 4] rfl) hI
        refine ⟨rfl, by omega, ?_, ?_⟩
        · rw [zap_f (fun q => absurd q.1 (by omega))]; exact ha
        · rw [zap_f (fun q => absurd q.1 (by omega))]; exact hb2
      · refine lv_aload_n hx hb dX1_timesApart_27 rfl (lv_at hl 0 rfl) ?_
        refine lv_aload_n hx hb dX1_timesApart_28 rfl (lv_at hl 1 rfl) ?_
        refine lv_iload hx hb dX1_timesApart_29 (lv_at hl 2 rfl) ?_
        refine z_calli hI (z_V (As := [.ref r2, .int (nI k)]) (rest := []) ⟨hx, hb, hml, hown, hts⟩ hI xr rfl (c_X1_holds l G B0 F r w cap n t r2 w2 cap2 n2 t2 k ⟨xn, xr, f, xw, xf⟩ (by omega) ⟨xn2, xr2, f2, xw2, xf2⟩ (by omega) (by omega)) (z_cwV vX1_holds hts q331 ⟨Nat.le_of_ble_eq_true rfl, Nat.le_of_ble_eq_true rfl⟩) rfl hl.1 rfl (lv_room (Nat.le_of_ble_eq_true rfl)) dX1_timesApart_31 ⟨Nat.le_of_ble_eq_true rfl, Nat.le_of_ble_eq_true rfl⟩) (fun r5 F4 H locs hp6 hI => ?_)
        obtain ⟨rfl, rfl⟩ := hp6
        refine z_ifp_eq (tgt := 48) hx hb dX1_timesApart_34 (by decide) (fun hq7 => ?_) (fun hq7 => ?_)
        · refine lv_iinc (k := 2) (v := nI (k + 1)) (lv' := [(4, .int (nI (k + 1))), (0, .ref r), (1, .ref r2), (2, .int (nI a)), (3, .int (nI b))]) hx hb dX1_timesApart_48 hl rfl (nI_add k 1) (by decide) rfl (fun ls hl => ?_)
          refine lv_goto (tgt := 7) hx hb dX1_timesApart_51 (by decide) ?_
          refine ih (k + 1, a, b) _ ls H locs (by first | omega | (dsimp only; omega)) ?_ (lv_sub hl [1, 2, 0, 3, 4] rfl) hI
          refine ⟨rfl, by omega, ?_, ?_⟩
          · rw [zap_f (fun q => hq7 q.2)]; exact ha
          · rw [zap_f (fun q => hq7 q.2)]; exact hb2
        · refine lv_iinc (k := 3) (v := nI (a + 1)) (lv' := [(2, .int (nI (a + 1))), (0, .ref r), (1, .ref r2), (4, .int (nI k)), (3, .int (nI b))]) hx hb dX1_timesApart_37 hl rfl (nI_add a 1) (by decide) rfl (fun ls hl => ?_)
          refine lv_iload hx hb dX1_timesApart_40 (lv_at hl 3 rfl) ?_
          refine lv_aload_n hx hb dX1_timesApart_42 rfl (lv_at hl 2 rfl) ?_
          refine z_get hx hb hts hown zlX1 rfl 1 (by decide) (hts _ q32) rfl hI xr2 rfl dX1_timesApart_43 ?_
          refine lv_iadd hx hb dX1_timesApart_46 ?_
          refine z_topi (nI_add k n2) ?_
          refine lv_istore_n (lv' := [(3, .int (nI (k + n2))), (2, .int (nI (a + 1))), (0, .ref r), (1, .ref r2), (4, .int (nI k))]) hx hb dX1_timesApart_47 rfl hl (by decide) rfl (fun ls hl => ?_)
          refine lv_iinc (k := 4) (v := nI (k + 1)) (lv' := [(4, .int (nI (k + 1))), (3, .int (nI (k + n2))), (2, .int (nI (a + 1))), (0, .ref r), (1, .ref r2)]) hx hb dX1_timesApart_48 hl rfl (nI_add k 1) (by decide) rfl (fun ls hl => ?_)
          refine lv_goto (tgt := 7) hx hb dX1_timesApart_51 (by decide) ?_
          refine ih (k + 1, a + 1, k + n2) _ ls H locs (by first | omega | (dsimp only; omega)) ?_ (lv_sub hl [3, 4, 0, 2, 1] rfl) hI
          refine ⟨rfl, by omega, ?_, ?_⟩
          · rw [zap_t ⟨by omega, hq7⟩]; show a + 1 = _; rw [ha]
          · rw [zap_t ⟨by omega, hq7⟩]

set_option maxHeartbeats 4000000 in
set_option maxRecDepth 100000 in
theorem c_X3_at (l : Launch) (G : zK) (B0 : Nat) (F : zM) (r w cap n : Nat) (t : Nat → Int32) (pl : Nat) (h : RA G 3 F r w cap n t) (hcap : cap ≤ 100) (hpl : pl < n) : Met l yX3_at (Cond.code yX3_at cX3_at 2 (some FieldType.int) :: zW) (zRm 0 0 0 0) (va_Pc [.ref r, .int (nI pl)] (zPre G B0 F)) (zQi G B0 (fun r F' => F = F' ∧ r = t pl)) 0 0 (zA B0) := by
  refine z_of (own := RX3) (by decide) rfl (Nat.le_of_ble_eq_true rfl) ?_
  intro p e s m below meth c ls hx hb hr hml hown hlocks hnm hts hl hI
  have hl : lv_has ls 2 [(0, .ref r), (1, .int (nI pl))] := hl
  obtain ⟨xn, xr, f, xw, xf⟩ := id h
  refine lv_aload_n hx hb dX3_at_0 rfl (lv_at hl 0 rfl) ?_
  refine z_get hx hb hts hown zlX3 rfl 0 (by decide) (hts _ q743) rfl hI xr rfl dX3_at_1 ?_
  refine lv_iload_n hx hb dX3_at_4 rfl (lv_at hl 1 rfl) ?_
  refine z_ild (k := pl) (v := t pl) hx hb hI xw (by omega) (by omega) (xf pl (by omega)) dX3_at_5 ?_
  refine z_ri hx hb hr hlocks hI ?_ (Nat.le_of_ble_eq_true rfl) (Nat.le_of_ble_eq_true rfl) dX3_at_6
  exact ⟨_, rfl, rfl, rfl⟩

set_option maxHeartbeats 4000000 in
set_option maxRecDepth 100000 in
theorem c_X3_alike (l : Launch) (G : zK) (B0 : Nat) (F : zM) (r w cap n : Nat) (t : Nat → Int32) (r2 w2 cap2 n2 : Nat) (t2 : Nat → Int32) (pl fr : Nat) (h : RA G 3 F r w cap n t) (hcap : cap ≤ 100) (h2 : RA G 3 F r2 w2 cap2 n2 t2) (hcap2 : cap2 ≤ 100) (hpl : pl ≤ n) (hfr : fr ≤ n2) : Met l yX3_alike (Cond.code yX3_alike cX3_alike 5 (some FieldType.int) :: zW) (zRm 0 0 0 0) (va_Pc [.ref r, .int (nI pl), .ref r2, .int (nI fr)] (zPre G B0 F)) (zQi G B0 (fun r' F' => F = F' ∧ ∃ k, r' = nI k ∧ lcp t n pl t2 n2 fr k)) 0 0 (zA B0) := by
  refine z_of (own := RX3) (by decide) rfl (Nat.le_of_ble_eq_true rfl) ?_
  intro p e s m below meth c ls hx hb hr hml hown hlocks hnm hts hl hI
  have hl : lv_has ls 5 [(0, .ref r), (1, .int (nI pl)), (2, .ref r2), (3, .int (nI fr))] := hl
  obtain ⟨xn, xr, f, xw, xf⟩ := id h
  obtain ⟨xn2, xr2, f2, xw2, xf2⟩ := id h2
  refine lv_iconst (v := nI 0) hx hb dX3_alike_0 (by decide) ?_
  refine lv_istore (lv' := [(4, .int (nI 0)), (0, .ref r), (1, .int (nI pl)), (2, .ref r2), (3, .int (nI fr))]) hx hb dX3_alike_1 hl (by decide) rfl (fun ls hl => ?_)
  refine z_loop (σ := Nat) (fun k : Nat => [(0, .ref r), (1, .int (nI pl)), (2, .ref r2), (3, .int (nI fr)), (4, .int (nI k))]) (fun (k : Nat) (Fx : zM) => F = Fx ∧ pl + k ≤ n ∧ fr + k ≤ n2 ∧ ∀ j, j < k → t (pl + j) = t2 (fr + j)) (fun k : Nat => n - k) 0 (nL := 5) (st := []) ?_ (lv_sub hl [1, 2, 3, 4, 0] rfl) hI ?_
  · exact ⟨rfl, hpl, hfr, fun i hi => absurd hi (Nat.not_lt_zero _)⟩
  · intro k F1 ls H locs hi hl hI ih
    have hl : lv_has ls 5 [(0, .ref r), (1, .int (nI pl)), (2, .ref r2), (3, .int (nI fr)), (4, .int (nI k))] := hl
    obtain ⟨hF, hk, hk2, hall⟩ := hi
    subst hF
    refine lv_iload_n hx hb dX3_alike_3 rfl (lv_at hl 1 rfl) ?_
    refine lv_iload hx hb dX3_alike_4 (lv_at hl 4 rfl) ?_
    refine lv_iadd hx hb dX3_alike_6 ?_
    refine z_topi (nI_add pl k) ?_
    refine lv_aload_n hx hb dX3_alike_7 rfl (lv_at hl 0 rfl) ?_
    refine z_get hx hb hts hown zlX3 rfl 1 (by decide) (hts _ q745) rfl hI xr rfl dX3_alike_8 ?_
    refine z_icmp_ge (tgt := 52) (a := pl + k) (b := n) hx hb dX3_alike_11 (by decide) (by omega) (fun hq2 => ?_) (fun hq2 => ?_)
    · refine lv_iload hx hb dX3_alike_52 (lv_at hl 4 rfl) ?_
      refine z_ri hx hb hr hlocks hI ?_ (Nat.le_of_ble_eq_true rfl) (Nat.le_of_ble_eq_true rfl) dX3_alike_54
      refine ⟨_, rfl, rfl, k, rfl, by omega, by omega, hall, fun q => ?_⟩
      first | (exact absurd q.1 (by omega)) | (exact absurd q.2.1 (by omega)) | exact hk q.2.2
    · refine lv_iload_n hx hb dX3_alike_14 rfl (lv_at hl 3 rfl) ?_
      refine lv_iload hx hb dX3_alike_15 (lv_at hl 4 rfl) ?_
      refine lv_iadd hx hb dX3_alike_17 ?_
      refine z_topi (nI_add fr k) ?_
      refine lv_aload_n hx hb dX3_alike_18 rfl (lv_at hl 2 rfl) ?_
      refine z_get hx hb hts hown zlX3 rfl 1 (by decide) (hts _ q745) rfl hI xr2 rfl dX3_alike_19 ?_
      refine z_icmp_ge (tgt := 52) (a := fr + k) (b := n2) hx hb dX3_alike_22 (by decide) (by omega) (fun hq3 => ?_) (fun hq3 => ?_)
      · refine lv_iload hx hb dX3_alike_52 (lv_at hl 4 rfl) ?_
        refine z_ri hx hb hr hlocks hI ?_ (Nat.le_of_ble_eq_true rfl) (Nat.le_of_ble_eq_true rfl) dX3_alike_54
        refine ⟨_, rfl, rfl, k, rfl, by omega, by omega, hall, fun q => ?_⟩
        first | (exact absurd q.1 (by omega)) | (exact absurd q.2.1 (by omega)) | exact hk q.2.2
      · refine lv_aload_n hx hb dX3_alike_25 rfl (lv_at hl 0 rfl) ?_
        refine z_get hx hb hts hown zlX3 rfl 0 (by decide) (hts _ q743) rfl hI xr rfl dX3_alike_26 ?_
        refine lv_iload_n hx hb dX3_alike_29 rfl (lv_at hl 1 rfl) ?_
        refine lv_iload hx hb dX3_alike_30 (lv_at hl 4 rfl) ?_
        refine lv_iadd hx hb dX3_alike_32 ?_
        refine z_topi (nI_add pl k) ?_
        refine z_ild (k := pl + k) (v := t (pl + k)) hx hb hI xw (by omega) (by omega) (xf (pl + k) (by omega)) dX3_alike_33 ?_
        refine lv_aload_n hx hb dX3_alike_34 rfl (lv_at hl 2 rfl) ?_
        refine z_get hx hb hts hown zlX3 rfl 0 (by decide) (hts _ q743) rfl hI xr2 rfl dX3_alike_35 ?_
        refine lv_iload_n hx hb dX3_alike_38 rfl (lv_at hl 3 rfl) ?_
        refine lv_iload hx hb dX3_alike_39 (lv_at hl 4 rfl) ?_
        refine lv_iadd hx hb dX3_alike_41 ?_
        refine z_topi (nI_add fr k) ?_
        refine z_ild (k := fr + k) (v := t2 (fr + k)) hx hb hI xw2 (by omega) (by omega) (xf2 (fr + k) (by omega)) dX3_alike_42 ?_
        refine lv_icmp_ne (tgt := 52) hx hb dX3_alike_43 (by decide) (fun hq4 => ?_) (fun hq4 => ?_)
        · refine lv_iload hx hb dX3_alike_52 (lv_at hl 4 rfl) ?_
          refine z_ri hx hb hr hlocks hI ?_ (Nat.le_of_ble_eq_true rfl) (Nat.le_of_ble_eq_true rfl) dX3_alike_54
          refine ⟨_, rfl, rfl, k, rfl, by omega, by omega, hall, fun q => ?_⟩
          first | (exact absurd q.1 (by omega)) | (exact absurd q.2.1 (by omega)) | exact hq4 q.2.2
        · refine lv_iinc (k := 4) (v := nI (k + 1)) (lv' := [(4, .int (nI (k + 1))), (0, .ref r), (1, .int (nI pl)), (2, .ref r2), (3, .int (nI fr))]) hx hb dX3_alike_46 hl rfl (nI_add k 1) (by decide) rfl (fun ls hl => ?_)
          refine lv_goto (tgt := 3) hx hb dX3_alike_49 (by decide) ?_
          refine ih (k + 1) _ ls H locs (by first | omega | (dsimp only; omega)) ?_ (lv_sub hl [1, 2, 3, 4, 0] rfl) hI
          refine ⟨rfl, by omega, by omega, fun i hi => ?_⟩
          by_cases q : i = k
          · subst q; exact hq4
          · exact hall i (by omega)

set_option maxHeartbeats 4000000 in
set_option maxRecDepth 100000 in
theorem c_X3_has (l : Launch) (G : zK) (B0 : Nat) (F : zM) (r w cap n : Nat) (t : Nat → Int32) (r2 w2 cap2 n2 : Nat) (t2 : Nat → Int32) (pl : Nat) (h : RA G 3 F r w cap n t) (hcap : cap ≤ 100) (h2 : RA G 3 F r2 w2 cap2 n2 t2) (hcap2 : cap2 ≤ 100) (hpl : pl ≤ 300) : Met l yX3_has (Cond.code yX3_has cX3_has 3 (some FieldType.boolean) :: zW) (zRm 1 24 0 0) (va_Pc [.ref r, .ref r2, .int (nI pl)] (zPre G B0 F)) (zQi G B0 (fun r F' => F = F' ∧ r = pI (hld t n t2 n2 pl))) 0 0 (zA B0) := by
  refine z_of (own := RX3) (by decide) rfl (Nat.le_of_ble_eq_true rfl) ?_
  intro p e s m below meth c ls hx hb hr hml hown hlocks hnm hts hl hI
  have hl : lv_has ls 3 [(0, .ref r), (1, .ref r2), (2, .int (nI pl))] := hl
  obtain ⟨xn, xr, f, xw, xf⟩ := id h
  obtain ⟨xn2, xr2, f2, xw2, xf2⟩ := id h2
  refine lv_iload_n hx hb dX3_has_0 rfl (lv_at hl 2 rfl) ?_
  refine lv_aload_n hx hb dX3_has_1 rfl (lv_at hl 1 rfl) ?_
  refine z_get hx hb hts hown zlX3 rfl 1 (by decide) (hts _ q745) rfl hI xr2 rfl dX3_has_2 ?_
  refine lv_iadd hx hb dX3_has_5 ?_
  refine z_topi (nI_add pl n2) ?_
  refine lv_aload_n hx hb dX3_has_6 rfl (lv_at hl 0 rfl) ?_
  refine z_get hx hb hts hown zlX3 rfl 1 (by decide) (hts _ q745) rfl hI xr rfl dX3_has_7 ?_
  refine z_icmp_gt (tgt := 31) (a := pl + n2) (b := n) hx hb dX3_has_10 (by decide) (by omega) (fun hq1 => ?_) (fun hq1 => ?_)
  · refine lv_iconst (v := nI 0) hx hb dX3_has_31 (by decide) ?_
    refine z_rz hx hb hr hlocks (Or.inl rfl) hI ?_ (Nat.le_of_ble_eq_true rfl) (Nat.le_of_ble_eq_true rfl) dX3_has_32
    exact ⟨_, rfl, rfl, pI_f (fun q => absurd q.1 (by omega))⟩
  · refine lv_aload_n hx hb dX3_has_13 rfl (lv_at hl 0 rfl) ?_
    refine lv_iload_n hx hb dX3_has_14 rfl (lv_at hl 2 rfl) ?_
    refine lv_aload_n hx hb dX3_has_15 rfl (lv_at hl 1 rfl) ?_
    refine lv_iconst (v := nI 0) hx hb dX3_has_16 (by decide) ?_
    refine z_calli hI (z_V (As := [.int (nI pl), .ref r2, .int (nI 0)]) (rest := []) ⟨hx, hb, hml, hown, hts⟩ hI xr rfl (c_X3_alike l G B0 F r w cap n t r2 w2 cap2 n2 t2 pl 0 ⟨xn, xr, f, xw, xf⟩ (by omega) ⟨xn2, xr2, f2, xw2, xf2⟩ (by omega) (by omega) (by omega)) (z_cwV vX3_alike hts q895 ⟨Nat.le_of_ble_eq_true rfl, Nat.le_of_ble_eq_true rfl⟩) rfl hl.1 rfl (lv_room (Nat.le_of_ble_eq_true rfl)) dX3_has_17 ⟨Nat.le_of_ble_eq_true rfl, Nat.le_of_ble_eq_true rfl⟩) (fun r3 F2 H locs hp4 hI => ?_)
    obtain ⟨rfl, k5, rfl, hp4⟩ := hp4
    have hkb := hp4.1
    refine lv_aload_n hx hb dX3_has_20 rfl (lv_at hl 1 rfl) ?_
    refine z_get hx hb hts hown zlX3 rfl 1 (by decide) (hts _ q745) rfl hI xr2 rfl dX3_has_21 ?_
    refine z_icmp_ne (tgt := 31) (a := k5) (b := n2) hx hb dX3_has_24 (by decide) (by omega) (fun hq6 => ?_) (fun hq6 => ?_)
    · refine lv_iconst (v := nI 0) hx hb dX3_has_31 (by decide) ?_
      refine z_rz hx hb hr hlocks (Or.inl rfl) hI ?_ (Nat.le_of_ble_eq_true rfl) (Nat.le_of_ble_eq_true rfl) dX3_has_32
      refine ⟨_, rfl, rfl, pI_f (fun q => hp4.2.2.2 ⟨?_, ?_, ?_⟩)⟩
      · have := hp4.2.1; have := q.1; omega
      · have := hp4.2.1; omega
      · rw [Nat.zero_add]; exact q.2 _ (by have := hp4.2.1; omega)
    · refine lv_iconst (v := nI 1) hx hb dX3_has_27 (by decide) ?_
      refine lv_goto (tgt := 32) hx hb dX3_has_28 (by decide) ?_
      refine z_rz hx hb hr hlocks (Or.inr rfl) hI ?_ (Nat.le_of_ble_eq_true rfl) (Nat.le_of_ble_eq_true rfl) dX3_has_32
      refine ⟨_, rfl, rfl, pI_t ⟨by omega, fun i hi => ?_⟩⟩
      have h9 := hp4.2.2.1 i (by omega)
      rw [Nat.zero_add] at h9
      exact h9

set_option maxHeartbeats 4000000 in
set_option maxRecDepth 100000 in
theorem c_X3_find (l : Launch) (G : zK) (B0 : Nat) (F : zM) (r w cap n : Nat) (t : Nat → Int32) (r2 w2 cap2 n2 : Nat) (t2 : Nat → Int32) (a : Nat) (h : RA G 3 F r w cap n t) (hcap : cap ≤ 100) (h2 : RA G 3 F r2 w2 cap2 n2 t2) (hcap2 : cap2 ≤ 100) (hab : a ≤ 200) : Met l yX3_find (Cond.code yX3_find cX3_find 4 (some FieldType.int) :: zW) (zRm 2 46 0 0) (va_Pc [.ref r, .ref r2, .int (nI a)] (zPre G B0 F)) (zQi G B0 (fun r F' => F = F' ∧ r = rI (zfst (hld t n t2 n2) a (n + 1 - n2 - a)))) 0 0 (zA B0) := by
  refine z_of (own := RX3) (by decide) rfl (Nat.le_of_ble_eq_true rfl) ?_
  intro p e s m below meth c ls hx hb hr hml hown hlocks hnm hts hl hI
  have hl : lv_has ls 4 [(0, .ref r), (1, .ref r2), (2, .int (nI a))] := hl
  obtain ⟨xn, xr, f, xw, xf⟩ := id h
  obtain ⟨xn2, xr2, f2, xw2, xf2⟩ := id h2
  refine lv_iload_n hx hb dX3_find_0 rfl (lv_at hl 2 rfl) ?_
  refine lv_istore_n (lv' := [(3, .int (nI a)), (0, .ref r), (1, .ref r2), (2, .int (nI a))]) hx hb dX3_find_1 rfl hl (by decide) rfl (fun ls hl => ?_)
  refine z_loop (σ := Nat) (fun k : Nat => [(0, .ref r), (1, .ref r2), (2, .int (nI a)), (3, .int (nI k))]) (fun (k : Nat) (Fx : zM) => F = Fx ∧ k ≤ 200 ∧ zfst (hld t n t2 n2) a (n + 1 - n2 - a) = zfst (hld t n t2 n2) k (n + 1 - n2 - k)) (fun k : Nat => n + 1 - k) a (nL := 4) (st := []) ?_ (lv_sub hl [1, 2, 3, 0] rfl) hI ?_
  · exact ⟨rfl, by omega, rfl⟩
  · intro k F1 ls H locs hi hl hI ih
    have hl : lv_has ls 4 [(0, .ref r), (1, .ref r2), (2, .int (nI a)), (3, .int (nI k))] := hl
    obtain ⟨hF, hk, hz⟩ := hi
    subst hF
    refine lv_iload_n hx hb dX3_find_2 rfl (lv_at hl 3 rfl) ?_
    refine lv_aload_n hx hb dX3_find_3 rfl (lv_at hl 1 rfl) ?_
    refine z_get hx hb hts hown zlX3 rfl 1 (by decide) (hts _ q745) rfl hI xr2 rfl dX3_find_4 ?_
    refine lv_iadd hx hb dX3_find_7 ?_
    refine z_topi (nI_add k n2) ?_
    refine lv_aload_n hx hb dX3_find_8 rfl (lv_at hl 0 rfl) ?_
    refine z_get hx hb hts hown zlX3 rfl 1 (by decide) (hts _ q745) rfl hI xr rfl dX3_find_9 ?_
    refine z_icmp_gt (tgt := 32) (a := k + n2) (b := n) hx hb dX3_find_12 (by decide) (by omega) (fun hq2 => ?_) (fun hq2 => ?_)
    · refine lv_iconst (v := -1) hx hb dX3_find_32 (by decide) ?_
      refine z_ri hx hb hr hlocks hI ?_ (Nat.le_of_ble_eq_true rfl) (Nat.le_of_ble_eq_true rfl) dX3_find_33
      rw [show n + 1 - n2 - k = 0 by omega] at hz
      exact ⟨_, rfl, rfl, by rw [hz]; rfl⟩
    · obtain ⟨cc, hcc⟩ : ∃ cc, n + 1 - n2 - k = cc + 1 := ⟨n - n2 - k, by omega⟩
      refine lv_aload_n hx hb dX3_find_15 rfl (lv_at hl 0 rfl) ?_
      refine lv_aload_n hx hb dX3_find_16 rfl (lv_at hl 1 rfl) ?_
      refine lv_iload_n hx hb dX3_find_17 rfl (lv_at hl 3 rfl) ?_
      refine z_calli hI (z_V (As := [.ref r2, .int (nI k)]) (rest := []) ⟨hx, hb, hml, hown, hts⟩ hI xr rfl (c_X3_has l G B0 F r w cap n t r2 w2 cap2 n2 t2 k ⟨xn, xr, f, xw, xf⟩ (by omega) ⟨xn2, xr2, f2, xw2, xf2⟩ (by omega) (by omega)) (z_cwV vX3_has hts q891 ⟨Nat.le_of_ble_eq_true rfl, Nat.le_of_ble_eq_true rfl⟩) rfl hl.1 rfl (lv_room (Nat.le_of_ble_eq_true rfl)) dX3_find_18 ⟨Nat.le_of_ble_eq_true rfl, Nat.le_of_ble_eq_true rfl⟩) (fun r4 F3 H locs hp5 hI => ?_)
      obtain ⟨rfl, rfl⟩ := hp5
      refine z_ifp_eq (tgt := 26) hx hb dX3_find_21 (by decide) (fun hq6 => ?_) (fun hq6 => ?_)
      · refine lv_iinc (k := 3) (v := nI (k + 1)) (lv' := [(3, .int (nI (k + 1))), (0, .ref r), (1, .ref r2), (2, .int (nI a))]) hx hb dX3_find_26 hl rfl (nI_add k 1) (by decide) rfl (fun ls hl => ?_)
        refine lv_goto (tgt := 2) hx hb dX3_find_29 (by decide) ?_
        refine ih (k + 1) _ ls H locs (by first | omega | (dsimp only; omega)) ?_ (lv_sub hl [1, 2, 3, 0] rfl) hI
        refine ⟨rfl, by omega, ?_⟩
        rw [hz, hcc, zfst_f hq6]
        congr 1; omega
      · refine lv_iload_n hx hb dX3_find_24 rfl (lv_at hl 3 rfl) ?_
        refine z_ri hx hb hr hlocks hI ?_ (Nat.le_of_ble_eq_true rfl) (Nat.le_of_ble_eq_true rfl) dX3_find_25
        exact ⟨_, rfl, rfl, by rw [hz, hcc, zfst_t hq6]; rfl⟩

