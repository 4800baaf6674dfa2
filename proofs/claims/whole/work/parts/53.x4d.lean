theorem ct_sel {x a b : Int32} {ap : Nat} [Decidable (nI ap = 0)] (hap : ap ≤ 1) (h0 : ap = 0 → x = a) (h1 : ap = 1 → x = b) : x = if nI ap = 0 then a else b := by
  by_cases e : ap = 0
  · subst e; exact (h0 rfl).trans (if_pos nI_0).symm
  · obtain rfl : ap = 1 := by omega
    exact (h1 rfl).trans (if_neg (nI_ne0 (by decide) (by decide))).symm
theorem okR_L {n : Nat} {x : Int32} (hn : n < 2 ^ 20) : okR n x x ↔ okL (n + 1) x := by
  constructor
  · rintro ⟨i, j, h1, h2, rfl, h3⟩
    exact ⟨i, by omega, rfl⟩
  · rintro ⟨i, h1, rfl⟩
    exact ⟨i, i, Nat.le_refl _, by omega, rfl, rfl⟩
theorem sg_le {σ : Sg} (hK : SgOk σ) {x : Int32} (h : okT x) : sn σ (ix x) ≤ 60 := by
  obtain ⟨i, hi, rfl⟩ := h
  rw [ix_nI (by omega)]; exact (hK.1 i hi).1
theorem clot_0 {t : Nat → Int32} {a : Nat} (j : Nat) : t j = clot t a a j := by
  simp only [clot, Nat.sub_self, Nat.add_zero]
  split <;> rfl
theorem clot_s {t : Nat → Int32} {a k : Nat} (h : a ≤ k) (j : Nat) : clot (clot t a k) a (a + 1) j = clot t a (k + 1) j := by
  simp only [clot]
  by_cases e : j < a
  · rw [if_pos e, if_pos e, if_pos e]
  · rw [if_neg e, if_neg (by omega), if_neg e]
    congr 1; omega
theorem in_r {x : Int32} : (-9 ≤ x.toInt64 ∧ x.toInt64 ≤ 9) ↔ (¬ x < -9 ∧ x ≤ nI 9) := by
  rw [Int64.le_iff_toInt_le, Int64.le_iff_toInt_le, Int32.lt_iff_toInt_lt, Int32.le_iff_toInt_le, il_toInt]
  have h1 : (-9 : Int64).toInt = -9 := rfl
  have h2 : (9 : Int64).toInt = 9 := rfl
  have h3 : (-9 : Int32).toInt = -9 := rfl
  have h4 : (nI 9).toInt = 9 := rfl
  omega
theorem in_c {x : Int32} {a b : Nat} (ha : a < 2 ^ 20) (hb : b < 2 ^ 20) : (lN a ≤ x.toInt64 ∧ x.toInt64 ≤ lN b) ↔ (¬ x < nI a ∧ x ≤ nI b) := by
  rw [Int64.le_iff_toInt_le, Int64.le_iff_toInt_le, Int32.lt_iff_toInt_lt, Int32.le_iff_toInt_le, il_toInt, lN_I (by omega), lN_I (by omega), nI_toInt (by omega), nI_toInt (by omega)]
  omega
theorem qt_c {n : Nat} {x y : Int32} (hn : n ≤ 60) (h : okR n x y) : y.toInt64 - x.toInt64 ≤ 12 ↔ ix y - ix x ≤ 12 := by
  obtain ⟨i, j, h1, h2, rfl, rfl⟩ := h
  rw [nI_l (by omega), nI_l (by omega), lN_sub h1, ix_nI (by omega), ix_nI (by omega)]
  exact (pk_lLE (a := j - i) (b := 12) (by omega) (by decide))
theorem zlst_run {P : Nat → Prop} {i : Nat} : ∀ {k : Nat}, i ≤ k → (∀ j, i ≤ j → j < k → ¬ P j) → zlst P k = zlst P i
  | 0, h, _ => by rw [show i = 0 by omega]
  | k + 1, h, q => by
    by_cases e : i = k + 1
    · rw [e]
    · rw [zlst_f (q k (by omega) (by omega)), zlst_run (k := k) (by omega) (fun j a b => q j a (by omega))]
theorem fin_y {t q : Nat → Int32} {n m a b k : Nat} (h : zfst (hld t n q m) a (n + 1 - m - a) = some k) (hb : k + m ≤ b) (hbn : b ≤ n) : zfst (hld t n q m) a (b + 1 - m - a) = some k := by
  obtain ⟨h1, h2, h3, h4⟩ := zfst_some h
  exact zfst_eq h3 h1 (by omega) h4
theorem fin_n {t q : Nat → Int32} {n m a b k : Nat} (h : zfst (hld t n q m) a (n + 1 - m - a) = some k) (hb : ¬ k + m ≤ b) : zfst (hld t n q m) a (b + 1 - m - a) = none := by
  obtain ⟨h1, h2, h3, h4⟩ := zfst_some h
  exact zfst_no (fun j h5 h6 => h4 j h5 (by omega))
theorem fin_0 {t q : Nat → Int32} {n m a b : Nat} (h : zfst (hld t n q m) a (n + 1 - m - a) = none) (hbn : b ≤ n) : zfst (hld t n q m) a (b + 1 - m - a) = none :=
  zfst_no (fun j h5 h6 => zfst_none h j h5 (by omega))
theorem om_1 {f : Int32 → Int32} {t : Nat → Int32} {n : Nat} : fmx (fun x y => if nI 1 = 0 then zmin x y else zmax x y) f t n = fmx zmax f t n := by
  have : (fun x y : Int32 => if nI 1 = 0 then zmin x y else zmax x y) = zmax := by funext x y; exact if_neg (by decide)
  rw [this]
theorem om_0 {f : Int32 → Int32} {t : Nat → Int32} {n : Nat} : fmx (fun x y => if nI 0 = 0 then zmin x y else zmax x y) f t n = fmx zmin f t n := by
  have : (fun x y : Int32 => if nI 0 = 0 then zmin x y else zmax x y) = zmin := by funext x y; exact if_pos rfl
  rw [this]
set_option maxHeartbeats 4000000 in
set_option maxRecDepth 100000 in
theorem c_X4_insert (l : Launch) (G : zK) (B0 : Nat) (F : zM) (σ : Sg) (th zp0 zp1 zp2 : Int32) (hM : MS G B0 F σ th) (hK : SgOk σ) : Met l yX4_insert (Cond.code yX4_insert cX4_insert 4 (some FieldType.int) :: zW) (zRm 3 68 0 0) (va_Pc [.ref (B0 + 23), .int zp0, .int zp1, .int zp2] (zPre G B0 F)) (zQi G B0 (zRP G B0 F σ (oA_insert σ zp0 zp1 zp2) (oB_insert σ zp0 zp1 zp2) (oC_insert σ zp0 zp1 zp2) (ss_insert σ zp0 zp1 zp2) (rr_insert σ zp0 zp1 zp2))) 0 0 (zA B0) := by
  refine z_of (own := RX4) (by decide) rfl (Nat.le_of_ble_eq_true rfl) ?_
  intro p e s m below meth c ls hx hb hr hml hown hlocks hnm hts hl hI
  have hl : lv_has ls 4 [(0, .ref (B0 + 23)), (1, .int zp0), (2, .int zp1), (3, .int zp2)] := hl
  obtain ⟨m01, ⟨ma1, m11, me11⟩, ⟨mb1, m21, me21⟩, ⟨mc1, m31, me31⟩, ⟨n91, t91, m41⟩, mT1, mP1⟩ := id hM
  refine lv_aload_n hx hb dX4_insert_0 rfl (lv_at hl 0 rfl) ?_
  refine z_join (σ := Int32) (fun x : Int32 => [(0, .ref (B0 + 23)), (1, .int zp0), (2, .int zp1), (3, .int zp2)]) (fun x : Int32 => [.int x, .ref (B0 + 23)]) (fun (x : Int32) (Fx : zM) => F = Fx ∧ x = pI ((okT zp0 ∧ okR (sn σ (ix zp0)) zp1 zp1) ∧ okW zp2)) 23 4 G B0 ?_ (fun jn23 => ?_)
  · intro x F2 ls H locs hi hl hI
    have hl : lv_has ls 4 [(0, .ref (B0 + 23)), (1, .int zp0), (2, .int zp1), (3, .int zp2)] := hl
    obtain ⟨hF, hx9⟩ := hi
    subst hF
    subst hx9
    refine lv_aload_n hx hb dX4_insert_23 rfl (lv_at hl 0 rfl) ?_
    refine lv_iload_n hx hb dX4_insert_24 rfl (lv_at hl 1 rfl) ?_
    refine lv_lconst (v := 1) hx hb dX4_insert_25 (by decide) ?_
    refine z_calli hI (z_V (As := [.int zp0, .long 1]) (rest := [.int (pI ((okT zp0 ∧ okR (sn σ (ix zp0)) zp1 zp1) ∧ okW zp2)), .ref (B0 + 23)]) ⟨hx, hb, hml, hown, hts⟩ hI m01 rfl (c_X4_hasRoom l G B0 F σ th zp0 1 hM hK) (z_cwV vX4_hasRoom hts q783 ⟨Nat.le_of_ble_eq_true rfl, Nat.le_of_ble_eq_true rfl⟩) rfl hl.1 rfl (lv_room (Nat.le_of_ble_eq_true rfl)) dX4_insert_26 ⟨Nat.le_of_ble_eq_true rfl, Nat.le_of_ble_eq_true rfl⟩) (fun r4 F3 H locs hp5 hI => ?_)
    obtain ⟨rfl, rfl⟩ := hp5
    refine lv_iconst (v := nI 1) hx hb dX4_insert_29 (by decide) ?_
    refine z_topi (pI_1 (P := True) trivial) ?_
    refine z_calli hI (z_V (As := [.int (pI ((okT zp0 ∧ okR (sn σ (ix zp0)) zp1 zp1) ∧ okW zp2)), .int (pI (okT zp0 ∧ lN (sn σ (ix zp0)) + 1 ≤ 60)), .int (pI (True))]) (rest := []) ⟨hx, hb, hml, hown, hts⟩ hI m01 rfl (c_X4_passes l G B0 F σ th ((okT zp0 ∧ okR (sn σ (ix zp0)) zp1 zp1) ∧ okW zp2) (okT zp0 ∧ lN (sn σ (ix zp0)) + 1 ≤ 60) (True) hM) (z_cwV vX4_passes hts q788 ⟨Nat.le_of_ble_eq_true rfl, Nat.le_of_ble_eq_true rfl⟩) rfl hl.1 rfl (lv_room (Nat.le_of_ble_eq_true rfl)) dX4_insert_30 ⟨Nat.le_of_ble_eq_true rfl, Nat.le_of_ble_eq_true rfl⟩) (fun r7 F6 H locs hp8 hI => ?_)
    obtain ⟨⟨th1, hM1, hz1⟩, rfl, ho1⟩ := hp8
    have hp1 : ((okT zp0 ∧ okR (sn σ (ix zp0)) zp1 zp1) ∧ okW zp2) ↔ oA_insert σ zp0 zp1 zp2 := ⟨fun z => ⟨z.1.1, z.2, (okR_L (by have := sg_le hK z.1.1; omega)).mp z.1.2⟩, fun z => ⟨⟨z.1, (okR_L (by have := sg_le hK z.1; omega)).mpr z.2.2⟩, z.2.1⟩⟩
    have hp2 : oA_insert σ zp0 zp1 zp2 → ((okT zp0 ∧ lN (sn σ (ix zp0)) + 1 ≤ 60) ↔ oB_insert σ zp0 zp1 zp2) := fun h => ⟨fun z => (rm_1 (by obtain ⟨i9, hi9, rfl⟩ := h.1; have := (hK.1 i9 hi9).1; rw [ix_nI (by omega)]; omega)).mp z.2, fun z => ⟨h.1, (rm_1 (by obtain ⟨i9, hi9, rfl⟩ := h.1; have := (hK.1 i9 hi9).1; rw [ix_nI (by omega)]; omega)).mpr z⟩⟩
    have hp3 : oA_insert σ zp0 zp1 zp2 → oB_insert σ zp0 zp1 zp2 → ((True) ↔ oC_insert σ zp0 zp1 zp2) := fun _ _ => Iff.rfl
    have hz2 := zTh_cg hp1 hp2 hp3 hz1
    refine z_topi (pI_cg (zC_cg hp1 hp2 hp3)) ?_
    have hmf1 : zMf B0 F F6 := fun q hq => ho1 q (by omega)
    obtain ⟨m09, ⟨ma9, m19, me19⟩, ⟨mb9, m29, me29⟩, ⟨mc9, m39, me39⟩, ⟨n99, t99, m49⟩, mT9, mP9⟩ := id hM1
    refine z_ifp_ne (tgt := 38) hx hb dX4_insert_33 (by decide) (fun hq10 => ?_) (fun hq10 => ?_)
    · obtain ⟨hA, hB, hC0⟩ := id hq10
      obtain ⟨hc0, hc1, hc2⟩ := id hA
      obtain ⟨i11, hi12, rfl⟩ := id hc0
      have hix13 : ix (nI i11) = i11 := ix_nI (by omega)
      have hl : lv_has ls 4 [(0, .ref (B0 + 23)), (1, .int (nI i11)), (2, .int zp1), (3, .int zp2)] := hl
      have hsbi11 := (hK.1 i11 hi12).1
      obtain ⟨j14, hj15, rfl⟩ := id hc2
      simp only [hix13] at hj15
      have hix16 : ix (nI j14) = j14 := ix_nI (by omega)
      have hl : lv_has ls 4 [(0, .ref (B0 + 23)), (1, .int (nI i11)), (2, .int (nI j14)), (3, .int zp2)] := hl
      have hx17 := mT9 i11 hi12
      obtain ⟨xnhx17, xrhx17, fhx17, xwhx17, xfhx17⟩ := id hx17
      have hB2 := hB
      simp only [oB_insert, hix13, hix16] at hB2
      refine lv_aload_n hx hb dX4_insert_38 rfl (lv_at hl 0 rfl) ?_
      refine z_get hx hb hts hown zlX4 rfl 1 (by decide) (hts _ q753) rfl hI m09 rfl dX4_insert_39 ?_
      refine lv_iload_n hx hb dX4_insert_42 rfl (lv_at hl 1 rfl) ?_
      refine z_ald3 (k := i11) (v := B0 + 25 + 2 * i11) hx hb hI m19 (by omega) (by omega) (me19 i11 (by omega)) dX4_insert_43 ?_
      refine lv_iload_n hx hb dX4_insert_44 rfl (lv_at hl 2 rfl) ?_
      refine lv_iload_n hx hb dX4_insert_45 rfl (lv_at hl 3 rfl) ?_
      refine z_callv hI (z_V (As := [.int (nI j14), .int zp2]) (rest := []) ⟨hx, hb, hml, hown, hts⟩ hI xrhx17 rfl (c_X3_insert l G B0 F6 (B0 + 25 + 2 * i11) (B0 + 26 + 2 * i11) 60 (sn σ i11) (st σ i11) j14 zp2 ⟨xnhx17, xrhx17, fhx17, xwhx17, xfhx17⟩ (by omega) (by omega) (by omega)) (z_cwV vX3_insert hts q817 ⟨Nat.le_of_ble_eq_true rfl, Nat.le_of_ble_eq_true rfl⟩) rfl hl.1 rfl (lv_room (Nat.le_of_ble_eq_true rfl)) dX4_insert_46 ⟨Nat.le_of_ble_eq_true rfl, Nat.le_of_ble_eq_true rfl⟩) (fun F18 H locs hp20 hI => ?_)
      obtain ⟨ha21, hs21⟩ := hp20
      have hc22 : F18 (B0 + 23) = some (zO 4 [.int th1, .ref (B0 + 24), .ref (B0 + 33), .ref (B0 + 38), .ref (B0 + 40)]) := (hs21 _ (zne m09 xrhx17 (fun q => by cases q)) (zne m09 xwhx17 (fun q => by cases q))).trans m09
      have hc23 : F18 (B0 + 24) = some (zA3 G 4 ma9) := (hs21 _ (zne m19 xrhx17 (fun q => by cases q)) (by omega)).trans m19
      have hc24 : F18 (B0 + 33) = some (zA3 G 2 mb9) := (hs21 _ (zne m29 xrhx17 (fun q => by cases q)) (by omega)).trans m29
      have hc25 : F18 (B0 + 40) = some (zAI G 100 mc9) := (hs21 _ (zne m39 xrhx17 (fun q => by cases q)) (by omega)).trans m39
      obtain ⟨xn_21, xr_21, f_21, xw_21, xf_21⟩ := id ha21
      refine lv_aload_n hx hb dX4_insert_49 rfl (lv_at hl 0 rfl) ?_
      refine z_get hx hb hts hown zlX4 rfl 1 (by decide) (hts _ q753) rfl hI hc22 rfl dX4_insert_50 ?_
      refine lv_iload_n hx hb dX4_insert_53 rfl (lv_at hl 1 rfl) ?_
      refine z_ald3 (k := i11) (v := B0 + 25 + 2 * i11) hx hb hI hc23 (by omega) (by omega) (me19 i11 (by omega)) dX4_insert_54 ?_
      refine z_getN hx hb hts hown zlX3 rfl 1 (by decide) (List.mem_of_getElem? (i := 2) rfl) rfl hI xr_21 rfl dX4_insert_55 ?_
      refine z_ri hx hb hr hlocks hI ?_ (Nat.le_of_ble_eq_true rfl) (Nat.le_of_ble_eq_true rfl) dX4_insert_58
      refine ⟨_, rfl, th1, _, (MS.setT hM1 hi12 hs21 ⟨xn_21, xr_21, f_21, xw_21, xf_21⟩), hz2, fun _ => ⟨(by simp only [oA_insert, oB_insert, oC_insert, rr_insert, ss_insert, hix13, hix16] <;> exact rfl), (by simp only [oA_insert, oB_insert, oC_insert, rr_insert, ss_insert, hix13, hix16] <;> exact rfl)⟩, fun q => absurd ⟨hA, hB, hC0⟩ q, zMf.tr hmf1 (zMf.sm (a := B0 + 25 + 2 * i11) (b := B0 + 26 + 2 * i11) hs21 (by omega) (by omega))⟩
    · refine lv_iconst (v := nI 0) hx hb dX4_insert_36 (by decide) ?_
      refine z_ri hx hb hr hlocks hI ?_ (Nat.le_of_ble_eq_true rfl) (Nat.le_of_ble_eq_true rfl) dX4_insert_37
      exact ⟨_, rfl, th1, σ, hM1, hz2, fun q => absurd q hq10, fun _ => rfl, hmf1⟩
  · refine lv_aload_n hx hb dX4_insert_1 rfl (lv_at hl 0 rfl) ?_
    refine lv_iload_n hx hb dX4_insert_2 rfl (lv_at hl 1 rfl) ?_
    refine lv_iload_n hx hb dX4_insert_3 rfl (lv_at hl 2 rfl) ?_
    refine lv_iload_n hx hb dX4_insert_4 rfl (lv_at hl 2 rfl) ?_
    refine z_calli hI (z_V (As := [.int zp0, .int zp1, .int zp1]) (rest := [.ref (B0 + 23)]) ⟨hx, hb, hml, hown, hts⟩ hI m01 rfl (c_X4_isPart l G B0 F σ th zp0 zp1 zp1 hM hK) (z_cwV vX4_isPart hts q813 ⟨Nat.le_of_ble_eq_true rfl, Nat.le_of_ble_eq_true rfl⟩) rfl hl.1 rfl (lv_room (Nat.le_of_ble_eq_true rfl)) dX4_insert_5 ⟨Nat.le_of_ble_eq_true rfl, Nat.le_of_ble_eq_true rfl⟩) (fun r27 F26 H locs hp28 hI => ?_)
    obtain ⟨rfl, rfl⟩ := hp28
    refine z_ifp_eq (tgt := 22) hx hb dX4_insert_8 (by decide) (fun hq29 => ?_) (fun hq29 => ?_)
    · refine lv_iconst (v := nI 0) hx hb dX4_insert_22 (by decide) ?_
      refine jn23 (nI 0) _ ls H locs ?_ (lv_sub hl [0, 1, 2, 3] rfl) hI
      exact ⟨rfl, pI_f (fun z => by have z2 := z.1; first | exact hq29 z2 | (first | exact hq29 z2 | exact i_le_n.mp z2 hq29 | exact l_le_n.mp z2 (lg_gt.mp hq29) | exact l_le_n.mp z2 (lg_lt.mp hq29) | exact hq29 ((in_pl1 (by omega)).mpr z2) | omega))⟩
    · refine lv_iload_n hx hb dX4_insert_11 rfl (lv_at hl 3 rfl) ?_
      refine z_calli hI (z_S (As := [.int zp2]) (rest := [.ref (B0 + 23)]) ⟨hx, hb, hml, hown, hts⟩ hI (c_X4_isWord l G B0 F zp2) (z_cwS vX4_isWord hts q779 ⟨Nat.le_of_ble_eq_true rfl, Nat.le_of_ble_eq_true rfl⟩) rfl hl.1 rfl (lv_room (Nat.le_of_ble_eq_true rfl)) dX4_insert_12 ⟨Nat.le_of_ble_eq_true rfl, Nat.le_of_ble_eq_true rfl⟩) (fun r31 F30 H locs hp32 hI => ?_)
      obtain ⟨rfl, rfl⟩ := hp32
      refine z_ifp_eq (tgt := 22) hx hb dX4_insert_15 (by decide) (fun hq33 => ?_) (fun hq33 => ?_)
      · refine lv_iconst (v := nI 0) hx hb dX4_insert_22 (by decide) ?_
        refine jn23 (nI 0) _ ls H locs ?_ (lv_sub hl [0, 1, 2, 3] rfl) hI
        exact ⟨rfl, pI_f (fun z => by have z2 := z.2; first | exact hq33 z2 | (first | exact hq33 z2 | exact i_le_n.mp z2 hq33 | exact l_le_n.mp z2 (lg_gt.mp hq33) | exact l_le_n.mp z2 (lg_lt.mp hq33) | exact hq33 ((in_pl1 (by omega)).mpr z2) | omega))⟩
      · refine lv_iconst (v := nI 1) hx hb dX4_insert_18 (by decide) ?_
        refine lv_goto (tgt := 23) hx hb dX4_insert_19 (by decide) ?_
        refine jn23 (nI 1) _ ls H locs ?_ (lv_sub hl [0, 1, 2, 3] rfl) hI
        exact ⟨rfl, pI_t ⟨(by first | exact hq29 | exact i_le_n.mpr hq29 | exact l_le_n.mpr (fun q => hq29 (lg_gt.mpr q)) | exact l_le_n.mpr (fun q => hq29 (lg_lt.mpr q)) | exact (in_pl1 (by omega)).mp hq29 | omega), (by first | exact hq33 | exact i_le_n.mpr hq33 | exact l_le_n.mpr (fun q => hq33 (lg_gt.mpr q)) | exact l_le_n.mpr (fun q => hq33 (lg_lt.mpr q)) | exact (in_pl1 (by omega)).mp hq33 | omega)⟩⟩

set_option maxHeartbeats 4000000 in
set_option maxRecDepth 100000 in
theorem c_X4_cut (l : Launch) (G : zK) (B0 : Nat) (F : zM) (σ : Sg) (th zp0 zp1 zp2 : Int32) (hM : MS G B0 F σ th) (hK : SgOk σ) : Met l yX4_cut (Cond.code yX4_cut cX4_cut 6 (some FieldType.int) :: zW) (zRm 3 68 0 0) (va_Pc [.ref (B0 + 23), .int zp0, .int zp1, .int zp2] (zPre G B0 F)) (zQi G B0 (zRP G B0 F σ (oA_cut σ zp0 zp1 zp2) (oB_cut σ zp0 zp1 zp2) (oC_cut σ zp0 zp1 zp2) (ss_cut σ zp0 zp1 zp2) (rr_cut σ zp0 zp1 zp2))) 0 0 (zA B0) := by
  refine z_of (own := RX4) (by decide) rfl (Nat.le_of_ble_eq_true rfl) ?_
  intro p e s m below meth c ls hx hb hr hml hown hlocks hnm hts hl hI
  have hl : lv_has ls 6 [(0, .ref (B0 + 23)), (1, .int zp0), (2, .int zp1), (3, .int zp2)] := hl
  obtain ⟨m01, ⟨ma1, m11, me11⟩, ⟨mb1, m21, me21⟩, ⟨mc1, m31, me31⟩, ⟨n91, t91, m41⟩, mT1, mP1⟩ := id hM
  refine lv_aload_n hx hb dX4_cut_0 rfl (lv_at hl 0 rfl) ?_
  refine lv_aload_n hx hb dX4_cut_1 rfl (lv_at hl 0 rfl) ?_
  refine lv_iload_n hx hb dX4_cut_2 rfl (lv_at hl 1 rfl) ?_
  refine lv_iload_n hx hb dX4_cut_3 rfl (lv_at hl 2 rfl) ?_
  refine lv_iload_n hx hb dX4_cut_4 rfl (lv_at hl 3 rfl) ?_
  refine z_calli hI (z_V (As := [.int zp0, .int zp1, .int zp2]) (rest := [.ref (B0 + 23)]) ⟨hx, hb, hml, hown, hts⟩ hI m01 rfl (c_X4_isPart l G B0 F σ th zp0 zp1 zp2 hM hK) (z_cwV vX4_isPart hts q813 ⟨Nat.le_of_ble_eq_true rfl, Nat.le_of_ble_eq_true rfl⟩) rfl hl.1 rfl (lv_room (Nat.le_of_ble_eq_true rfl)) dX4_cut_5 ⟨Nat.le_of_ble_eq_true rfl, Nat.le_of_ble_eq_true rfl⟩) (fun r3 F2 H locs hp4 hI => ?_)
  obtain ⟨rfl, rfl⟩ := hp4
  refine lv_iconst (v := nI 1) hx hb dX4_cut_8 (by decide) ?_
  refine z_topi (pI_1 (P := True) trivial) ?_
  refine lv_iconst (v := nI 1) hx hb dX4_cut_9 (by decide) ?_
  refine z_topi (pI_1 (P := True) trivial) ?_
  refine z_calli hI (z_V (As := [.int (pI (okT zp0 ∧ okR (sn σ (ix zp0)) zp1 zp2)), .int (pI (True)), .int (pI (True))]) (rest := []) ⟨hx, hb, hml, hown, hts⟩ hI m01 rfl (c_X4_passes l G B0 F σ th (okT zp0 ∧ okR (sn σ (ix zp0)) zp1 zp2) (True) (True) hM) (z_cwV vX4_passes hts q788 ⟨Nat.le_of_ble_eq_true rfl, Nat.le_of_ble_eq_true rfl⟩) rfl hl.1 rfl (lv_room (Nat.le_of_ble_eq_true rfl)) dX4_cut_10 ⟨Nat.le_of_ble_eq_true rfl, Nat.le_of_ble_eq_true rfl⟩) (fun r6 F5 H locs hp7 hI => ?_)
  obtain ⟨⟨th1, hM1, hz1⟩, rfl, ho1⟩ := hp7
  have hp1 : (okT zp0 ∧ okR (sn σ (ix zp0)) zp1 zp2) ↔ oA_cut σ zp0 zp1 zp2 := Iff.rfl
  have hp2 : oA_cut σ zp0 zp1 zp2 → ((True) ↔ oB_cut σ zp0 zp1 zp2) := fun _ => Iff.rfl
  have hp3 : oA_cut σ zp0 zp1 zp2 → oB_cut σ zp0 zp1 zp2 → ((True) ↔ oC_cut σ zp0 zp1 zp2) := fun _ _ => Iff.rfl
  have hz2 := zTh_cg hp1 hp2 hp3 hz1
  refine z_topi (pI_cg (zC_cg hp1 hp2 hp3)) ?_
  have hmf1 : zMf B0 F F5 := fun q hq => ho1 q (by omega)
  obtain ⟨m08, ⟨ma8, m18, me18⟩, ⟨mb8, m28, me28⟩, ⟨mc8, m38, me38⟩, ⟨n98, t98, m48⟩, mT8, mP8⟩ := id hM1
  refine z_ifp_ne (tgt := 18) hx hb dX4_cut_13 (by decide) (fun hq9 => ?_) (fun hq9 => ?_)
  · obtain ⟨hA, hB, hC0⟩ := id hq9
    obtain ⟨hc0, hc1⟩ := id hA
    obtain ⟨i10, hi11, rfl⟩ := id hc0
    have hix12 : ix (nI i10) = i10 := ix_nI (by omega)
    have hl : lv_has ls 6 [(0, .ref (B0 + 23)), (1, .int (nI i10)), (2, .int zp1), (3, .int zp2)] := hl
    have hsbi10 := (hK.1 i10 hi11).1
    obtain ⟨a13, b14, hab15, hbn16, rfl, rfl⟩ := id hc1
    simp only [hix12] at hbn16
    have hl : lv_has ls 6 [(0, .ref (B0 + 23)), (1, .int (nI i10)), (2, .int (nI a13)), (3, .int (nI b14))] := hl
    have hx17 := mT8 i10 hi11
    obtain ⟨xnhx17, xrhx17, fhx17, xwhx17, xfhx17⟩ := id hx17
    have hix18 : ix (nI a13) = a13 := ix_nI (by omega)
    have hix19 : ix (nI b14) = b14 := ix_nI (by omega)
    refine lv_iload_n hx hb dX4_cut_18 rfl (lv_at hl 2 rfl) ?_
    refine lv_istore (lv' := [(4, .int (nI a13)), (0, .ref (B0 + 23)), (1, .int (nI i10)), (2, .int (nI a13)), (3, .int (nI b14))]) hx hb dX4_cut_19 hl (by decide) rfl (fun ls hl => ?_)
    refine z_loop (σ := Nat) (fun k : Nat => [(0, .ref (B0 + 23)), (1, .int (nI i10)), (2, .int (nI a13)), (3, .int (nI b14)), (4, .int (nI k))]) (fun (k : Nat) (Fx : zM) => RA G 3 Fx (B0 + 25 + 2 * i10) (B0 + 26 + 2 * i10) 60 (sn σ i10 - (k - a13)) (clot (st σ i10) a13 k) ∧ zSm F5 Fx (B0 + 25 + 2 * i10) (B0 + 26 + 2 * i10) ∧ a13 ≤ k ∧ k ≤ b14) (fun k : Nat => b14 - k) a13 (nL := 6) (st := []) ?_ (lv_sub hl [1, 2, 3, 4, 0] rfl) hI ?_
    · rw [Nat.sub_self, Nat.sub_zero]
      exact ⟨RA.cg ⟨xnhx17, xrhx17, fhx17, xwhx17, xfhx17⟩ (fun j hj => clot_0 j), zSm.rf, Nat.le_refl _, by omega⟩
    · intro k F20 ls H locs hi hl hI ih
      have hl : lv_has ls 6 [(0, .ref (B0 + 23)), (1, .int (nI i10)), (2, .int (nI a13)), (3, .int (nI b14)), (4, .int (nI k))] := hl
      obtain ⟨ha0, hs0, hk1, hk2⟩ := hi
      have hM2 := MS.setT hM1 hi11 hs0 ha0
      obtain ⟨m021, ⟨ma21, m121, me121⟩, ⟨mb21, m221, me221⟩, ⟨mc21, m321, me321⟩, ⟨n921, t921, m421⟩, mT21, mP21⟩ := id hM2
      obtain ⟨xn_, xr_, f_, xw_, xf_⟩ := id ha0
      refine lv_iload hx hb dX4_cut_21 (lv_at hl 4 rfl) ?_
      refine lv_iload_n hx hb dX4_cut_23 rfl (lv_at hl 3 rfl) ?_
      refine z_icmp_ge (tgt := 45) (a := k) (b := b14) hx hb dX4_cut_24 (by decide) (by omega) (fun hq22 => ?_) (fun hq22 => ?_)
      · refine lv_aload_n hx hb dX4_cut_45 rfl (lv_at hl 0 rfl) ?_
        refine z_get hx hb hts hown zlX4 rfl 1 (by decide) (hts _ q753) rfl hI m021 rfl dX4_cut_46 ?_
        refine lv_iload_n hx hb dX4_cut_49 rfl (lv_at hl 1 rfl) ?_
        refine z_ald3 (k := i10) (v := B0 + 25 + 2 * i10) hx hb hI m121 (by omega) (by omega) (me121 i10 (by omega)) dX4_cut_50 ?_
        refine z_getN hx hb hts hown zlX3 rfl 1 (by decide) (List.mem_of_getElem? (i := 2) rfl) rfl hI xr_ rfl dX4_cut_51 ?_
        refine z_ri hx hb hr hlocks hI ?_ (Nat.le_of_ble_eq_true rfl) (Nat.le_of_ble_eq_true rfl) dX4_cut_54
        have hkn : k = b14 := by omega
        refine ⟨_, rfl, th1, _, (MS.setT hM1 hi11 hs0 (hkn ▸ ha0)), hz2, fun _ => ⟨(by simp only [oA_cut, oB_cut, oC_cut, rr_cut, ss_cut, hix12, hix18, hix19] <;> exact rfl), (by simp only [oA_cut, oB_cut, oC_cut, rr_cut, ss_cut, hix12, hix18, hix19] <;> (rw [hkn]))⟩, fun q => absurd ⟨hA, hB, hC0⟩ q, zMf.tr hmf1 (zMf.sm hs0 (by omega) (by omega))⟩
      · refine lv_aload_n hx hb dX4_cut_27 rfl (lv_at hl 0 rfl) ?_
        refine z_get hx hb hts hown zlX4 rfl 1 (by decide) (hts _ q753) rfl hI m021 rfl dX4_cut_28 ?_
        refine lv_iload_n hx hb dX4_cut_31 rfl (lv_at hl 1 rfl) ?_
        refine z_ald3 (k := i10) (v := B0 + 25 + 2 * i10) hx hb hI m121 (by omega) (by omega) (me121 i10 (by omega)) dX4_cut_32 ?_
        refine lv_iload_n hx hb dX4_cut_33 rfl (lv_at hl 2 rfl) ?_
        refine z_calli hI (z_V (As := [.int (nI a13)]) (rest := []) ⟨hx, hb, hml, hown, hts⟩ hI xr_ rfl (c_X3_remove l G B0 F20 (B0 + 25 + 2 * i10) (B0 + 26 + 2 * i10) 60 (sn σ i10 - (k - a13)) (clot (st σ i10) a13 k) a13 ⟨xn_, xr_, f_, xw_, xf_⟩ (by omega) (by omega)) (z_cwV vX3_remove hts q837 ⟨Nat.le_of_ble_eq_true rfl, Nat.le_of_ble_eq_true rfl⟩) rfl hl.1 rfl (lv_room (Nat.le_of_ble_eq_true rfl)) dX4_cut_34 ⟨Nat.le_of_ble_eq_true rfl, Nat.le_of_ble_eq_true rfl⟩) (fun r24 F23 H locs hp25 hI => ?_)
        obtain ⟨rfl, hp25⟩ := hp25
        obtain ⟨ha26, hs26⟩ := hp25
        have hc27 : F23 (B0 + 23) = some (zO 4 [.int th1, .ref (B0 + 24), .ref (B0 + 33), .ref (B0 + 38), .ref (B0 + 40)]) := (hs26 _ (zne m021 xr_ (fun q => by cases q)) (zne m021 xw_ (fun q => by cases q))).trans m021
        have hc28 : F23 (B0 + 24) = some (zA3 G 4 ma21) := (hs26 _ (zne m121 xr_ (fun q => by cases q)) (by omega)).trans m121
        have hc29 : F23 (B0 + 33) = some (zA3 G 2 mb21) := (hs26 _ (zne m221 xr_ (fun q => by cases q)) (by omega)).trans m221
        have hc30 : F23 (B0 + 40) = some (zAI G 100 mc21) := (hs26 _ (zne m321 xr_ (fun q => by cases q)) (by omega)).trans m321
        obtain ⟨xn_26, xr_26, f_26, xw_26, xf_26⟩ := id ha26
        refine lv_istore (lv' := [(5, .int ((clot (st σ i10) a13 k) a13)), (0, .ref (B0 + 23)), (1, .int (nI i10)), (2, .int (nI a13)), (3, .int (nI b14)), (4, .int (nI k))]) hx hb dX4_cut_37 hl (by decide) rfl (fun ls hl => ?_)
        refine lv_iinc (k := 5) (v := nI (k + 1)) (lv' := [(4, .int (nI (k + 1))), (5, .int ((clot (st σ i10) a13 k) a13)), (0, .ref (B0 + 23)), (1, .int (nI i10)), (2, .int (nI a13)), (3, .int (nI b14))]) hx hb dX4_cut_39 hl rfl (nI_add k 1) (by decide) rfl (fun ls hl => ?_)
        refine lv_goto (tgt := 21) hx hb dX4_cut_42 (by decide) ?_
        refine ih (k + 1) _ ls H locs (by first | omega | (dsimp only; omega)) ?_ (lv_sub hl [2, 3, 4, 5, 0] rfl) hI
        rw [show sn σ i10 - (k - a13) - 1 = sn σ i10 - (k + 1 - a13) by omega] at ha26
        exact ⟨RA.cg ha26 (fun j hj => clot_s (by omega) j), (zSm.tr hs0 hs26), by omega, by omega⟩
  · refine lv_iconst (v := nI 0) hx hb dX4_cut_16 (by decide) ?_
    refine z_ri hx hb hr hlocks hI ?_ (Nat.le_of_ble_eq_true rfl) (Nat.le_of_ble_eq_true rfl) dX4_cut_17
    exact ⟨_, rfl, th1, σ, hM1, hz2, fun q => absurd q hq9, fun _ => rfl, hmf1⟩

set_option maxHeartbeats 4000000 in
set_option maxRecDepth 100000 in
theorem c_X4_digest (l : Launch) (G : zK) (B0 : Nat) (F : zM) (σ : Sg) (th zp0 : Int32) (hM : MS G B0 F σ th) (hK : SgOk σ) : Met l yX4_digest (Cond.code yX4_digest cX4_digest 4 (some FieldType.int) :: zW) (zRm 2 45 0 0) (va_Pc [.ref (B0 + 23), .int zp0] (zPre G B0 F)) (zQi G B0 (zRP G B0 F σ (oA_digest σ zp0) (oB_digest σ zp0) (oC_digest σ zp0) (ss_digest σ zp0) (rr_digest σ zp0))) 0 0 (zA B0) := by
  refine z_of (own := RX4) (by decide) rfl (Nat.le_of_ble_eq_true rfl) ?_
  intro p e s m below meth c ls hx hb hr hml hown hlocks hnm hts hl hI
  have hl : lv_has ls 4 [(0, .ref (B0 + 23)), (1, .int zp0)] := hl
  obtain ⟨m01, ⟨ma1, m11, me11⟩, ⟨mb1, m21, me21⟩, ⟨mc1, m31, me31⟩, ⟨n91, t91, m41⟩, mT1, mP1⟩ := id hM
  refine lv_aload_n hx hb dX4_digest_0 rfl (lv_at hl 0 rfl) ?_
  refine lv_iload_n hx hb dX4_digest_1 rfl (lv_at hl 1 rfl) ?_
  refine z_calli hI (z_S (As := [.int zp0]) (rest := [.ref (B0 + 23)]) ⟨hx, hb, hml, hown, hts⟩ hI (c_X4_isText l G B0 F zp0) (z_cwS vX4_isText hts q772 ⟨Nat.le_of_ble_eq_true rfl, Nat.le_of_ble_eq_true rfl⟩) rfl hl.1 rfl (lv_room (Nat.le_of_ble_eq_true rfl)) dX4_digest_2 ⟨Nat.le_of_ble_eq_true rfl, Nat.le_of_ble_eq_true rfl⟩) (fun r3 F2 H locs hp4 hI => ?_)
  obtain ⟨rfl, rfl⟩ := hp4
  refine lv_iconst (v := nI 1) hx hb dX4_digest_5 (by decide) ?_
  refine z_topi (pI_1 (P := True) trivial) ?_
  refine lv_iconst (v := nI 1) hx hb dX4_digest_6 (by decide) ?_
  refine z_topi (pI_1 (P := True) trivial) ?_
  refine z_calli hI (z_V (As := [.int (pI (okT zp0)), .int (pI (True)), .int (pI (True))]) (rest := []) ⟨hx, hb, hml, hown, hts⟩ hI m01 rfl (c_X4_passes l G B0 F σ th (okT zp0) (True) (True) hM) (z_cwV vX4_passes hts q788 ⟨Nat.le_of_ble_eq_true rfl, Nat.le_of_ble_eq_true rfl⟩) rfl hl.1 rfl (lv_room (Nat.le_of_ble_eq_true rfl)) dX4_digest_7 ⟨Nat.le_of_ble_eq_true rfl, Nat.le_of_ble_eq_true rfl⟩) (fun r6 F5 H locs hp7 hI => ?_)
  obtain ⟨⟨th1, hM1, hz1⟩, rfl, ho1⟩ := hp7
  have hp1 : (okT zp0) ↔ oA_digest σ zp0 := Iff.rfl
  have hp2 : oA_digest σ zp0 → ((True) ↔ oB_digest σ zp0) := fun _ => Iff.rfl
  have hp3 : oA_digest σ zp0 → oB_digest σ zp0 → ((True) ↔ oC_digest σ zp0) := fun _ _ => Iff.rfl
  have hz2 := zTh_cg hp1 hp2 hp3 hz1
  refine z_topi (pI_cg (zC_cg hp1 hp2 hp3)) ?_
  have hmf1 : zMf B0 F F5 := fun q hq => ho1 q (by omega)
  obtain ⟨m08, ⟨ma8, m18, me18⟩, ⟨mb8, m28, me28⟩, ⟨mc8, m38, me38⟩, ⟨n98, t98, m48⟩, mT8, mP8⟩ := id hM1
  refine z_ifp_ne (tgt := 15) hx hb dX4_digest_10 (by decide) (fun hq9 => ?_) (fun hq9 => ?_)
  · obtain ⟨hA, hB, hC0⟩ := id hq9
    have hc0 := hA
    obtain ⟨i10, hi11, rfl⟩ := id hc0
    have hix12 : ix (nI i10) = i10 := ix_nI (by omega)
    have hl : lv_has ls 4 [(0, .ref (B0 + 23)), (1, .int (nI i10))] := hl
    have hsbi10 := (hK.1 i10 hi11).1
    have hx13 := mT8 i10 hi11
    obtain ⟨xnhx13, xrhx13, fhx13, xwhx13, xfhx13⟩ := id hx13
    refine lv_bipush (v := nI 7) hx hb dX4_digest_15 (by decide) ?_
    refine lv_istore_n (lv' := [(2, .int (nI 7)), (0, .ref (B0 + 23)), (1, .int (nI i10))]) hx hb dX4_digest_17 rfl hl (by decide) rfl (fun ls hl => ?_)
    refine lv_iconst (v := nI 0) hx hb dX4_digest_18 (by decide) ?_
    refine lv_istore_n (lv' := [(3, .int (nI 0)), (2, .int (nI 7)), (0, .ref (B0 + 23)), (1, .int (nI i10))]) hx hb dX4_digest_19 rfl hl (by decide) rfl (fun ls hl => ?_)
    refine z_loop (σ := Nat × Int32) (fun xx : Nat × Int32 => match xx with | (k, a) => [(0, .ref (B0 + 23)), (1, .int (nI i10)), (3, .int (nI k)), (2, .int a)]) (fun (xx : Nat × Int32) (Fx : zM) => match xx with | (k, a) => F5 = Fx ∧ k ≤ sn σ i10 ∧ a = dgs (st σ i10) k) (fun xx : Nat × Int32 => match xx with | (k, a) => sn σ i10 - k) (0, nI 7) (nL := 4) (st := []) ?_ (lv_sub hl [2, 3, 0, 1] rfl) hI ?_
    · exact ⟨rfl, Nat.zero_le _, rfl⟩
    · intro xx F14 ls H locs hi hl hI ih
      obtain ⟨k, a⟩ := xx
      have hl : lv_has ls 4 [(0, .ref (B0 + 23)), (1, .int (nI i10)), (3, .int (nI k)), (2, .int a)] := hl
      obtain ⟨hF, hk, ha⟩ := hi
      subst hF
      refine lv_iload_n hx hb dX4_digest_20 rfl (lv_at hl 2 rfl) ?_
      refine lv_aload_n hx hb dX4_digest_21 rfl (lv_at hl 0 rfl) ?_
      refine z_get hx hb hts hown zlX4 rfl 1 (by decide) (hts _ q753) rfl hI m08 rfl dX4_digest_22 ?_
      refine lv_iload_n hx hb dX4_digest_25 rfl (lv_at hl 1 rfl) ?_
      refine z_ald3 (k := i10) (v := B0 + 25 + 2 * i10) hx hb hI m18 (by omega) (by omega) (me18 i10 (by omega)) dX4_digest_26 ?_
      refine z_getN hx hb hts hown zlX3 rfl 1 (by decide) (List.mem_of_getElem? (i := 2) rfl) rfl hI xrhx13 rfl dX4_digest_27 ?_
      refine z_icmp_ge (tgt := 55) (a := k) (b := sn σ i10) hx hb dX4_digest_30 (by decide) (by omega) (fun hq15 => ?_) (fun hq15 => ?_)
      · refine lv_iload_n hx hb dX4_digest_55 rfl (lv_at hl 3 rfl) ?_
        refine z_ri hx hb hr hlocks hI ?_ (Nat.le_of_ble_eq_true rfl) (Nat.le_of_ble_eq_true rfl) dX4_digest_56
        have hkn : k = sn σ i10 := by omega
        refine ⟨_, rfl, th1, _, hM1, hz2, fun _ => ⟨(by simp only [oA_digest, oB_digest, oC_digest, rr_digest, ss_digest, hix12] <;> exact rfl), (by simp only [oA_digest, oB_digest, oC_digest, rr_digest, ss_digest, hix12] <;> (rw [ha, hkn]))⟩, fun q => absurd ⟨hA, hB, hC0⟩ q, hmf1⟩
      · refine lv_bipush (v := nI 31) hx hb dX4_digest_33 (by decide) ?_
        refine lv_iload_n hx hb dX4_digest_35 rfl (lv_at hl 3 rfl) ?_
        refine lv_imul hx hb dX4_digest_36 ?_
        refine lv_aload_n hx hb dX4_digest_37 rfl (lv_at hl 0 rfl) ?_
        refine z_get hx hb hts hown zlX4 rfl 1 (by decide) (hts _ q753) rfl hI m08 rfl dX4_digest_38 ?_
        refine lv_iload_n hx hb dX4_digest_41 rfl (lv_at hl 1 rfl) ?_
        refine z_ald3 (k := i10) (v := B0 + 25 + 2 * i10) hx hb hI m18 (by omega) (by omega) (me18 i10 (by omega)) dX4_digest_42 ?_
        refine lv_iload_n hx hb dX4_digest_43 rfl (lv_at hl 2 rfl) ?_
        refine z_calli hI (z_V (As := [.int (nI k)]) (rest := [.int ((nI 31) * a)]) ⟨hx, hb, hml, hown, hts⟩ hI xrhx13 rfl (c_X3_at l G B0 F5 (B0 + 25 + 2 * i10) (B0 + 26 + 2 * i10) 60 (sn σ i10) (st σ i10) k ⟨xnhx13, xrhx13, fhx13, xwhx13, xfhx13⟩ (by omega) (by omega)) (z_cwV vX3_at hts q829 ⟨Nat.le_of_ble_eq_true rfl, Nat.le_of_ble_eq_true rfl⟩) rfl hl.1 rfl (lv_room (Nat.le_of_ble_eq_true rfl)) dX4_digest_44 ⟨Nat.le_of_ble_eq_true rfl, Nat.le_of_ble_eq_true rfl⟩) (fun r17 F16 H locs hp18 hI => ?_)
        obtain ⟨rfl, rfl⟩ := hp18
        refine lv_iadd hx hb dX4_digest_47 ?_
        refine lv_istore_n (lv' := [(2, .int (((nI 31) * a) + ((st σ i10) k))), (0, .ref (B0 + 23)), (1, .int (nI i10)), (3, .int (nI k))]) hx hb dX4_digest_48 rfl hl (by decide) rfl (fun ls hl => ?_)
        refine lv_iinc (k := 3) (v := nI (k + 1)) (lv' := [(3, .int (nI (k + 1))), (2, .int (((nI 31) * a) + ((st σ i10) k))), (0, .ref (B0 + 23)), (1, .int (nI i10))]) hx hb dX4_digest_49 hl rfl (nI_add k 1) (by decide) rfl (fun ls hl => ?_)
        refine lv_goto (tgt := 20) hx hb dX4_digest_52 (by decide) ?_
        refine ih (k + 1, ((nI 31) * a) + ((st σ i10) k)) _ ls H locs (by first | omega | (dsimp only; omega)) ?_ (lv_sub hl [2, 3, 0, 1] rfl) hI
        exact ⟨rfl, by omega, by rw [ha, Int32.mul_comm]; rfl⟩
  · refine lv_iconst (v := nI 0) hx hb dX4_digest_13 (by decide) ?_
    refine z_ri hx hb hr hlocks hI ?_ (Nat.le_of_ble_eq_true rfl) (Nat.le_of_ble_eq_true rfl) dX4_digest_14
    exact ⟨_, rfl, th1, σ, hM1, hz2, fun q => absurd q hq9, fun _ => rfl, hmf1⟩

set_option maxHeartbeats 4000000 in
set_option maxRecDepth 100000 in
theorem c_X4_addMany (l : Launch) (G : zK) (B0 : Nat) (F : zM) (σ : Sg) (th zp0 zp1 zp2 : Int32) (hM : MS G B0 F σ th) (hK : SgOk σ) : Met l yX4_addMany (Cond.code yX4_addMany cX4_addMany 5 (some FieldType.int) :: zW) (zRm 3 68 0 0) (va_Pc [.ref (B0 + 23), .int zp0, .int zp1, .int zp2] (zPre G B0 F)) (zQi G B0 (zRP G B0 F σ (oA_addMany σ zp0 zp1 zp2) (oB_addMany σ zp0 zp1 zp2) (oC_addMany σ zp0 zp1 zp2) (ss_addMany σ zp0 zp1 zp2) (rr_addMany σ zp0 zp1 zp2))) 0 0 (zA B0) := by
  refine z_of (own := RX4) (by decide) rfl (Nat.le_of_ble_eq_true rfl) ?_
  intro p e s m below meth c ls hx hb hr hml hown hlocks hnm hts hl hI
  have hl : lv_has ls 5 [(0, .ref (B0 + 23)), (1, .int zp0), (2, .int zp1), (3, .int zp2)] := hl
  obtain ⟨m01, ⟨ma1, m11, me11⟩, ⟨mb1, m21, me21⟩, ⟨mc1, m31, me31⟩, ⟨n91, t91, m41⟩, mT1, mP1⟩ := id hM
  refine lv_aload_n hx hb dX4_addMany_0 rfl (lv_at hl 0 rfl) ?_
  refine z_join (σ := Int32) (fun x : Int32 => [(0, .ref (B0 + 23)), (1, .int zp0), (2, .int zp1), (3, .int zp2)]) (fun x : Int32 => [.int x, .ref (B0 + 23)]) (fun (x : Int32) (Fx : zM) => F = Fx ∧ x = pI (okT zp0 ∧ okW zp1)) 20 5 G B0 ?_ (fun jn20 => ?_)
  · intro x F2 ls H locs hi hl hI
    have hl : lv_has ls 5 [(0, .ref (B0 + 23)), (1, .int zp0), (2, .int zp1), (3, .int zp2)] := hl
    obtain ⟨hF, hx9⟩ := hi
    subst hF
    subst hx9
    refine z_join (σ := Int32) (fun x : Int32 => [(0, .ref (B0 + 23)), (1, .int zp0), (2, .int zp1), (3, .int zp2)]) (fun x : Int32 => [.int x, .int (pI (okT zp0 ∧ okW zp1)), .ref (B0 + 23)]) (fun (x : Int32) (Fx : zM) => F = Fx ∧ x = pI (0 ≤ zp2)) 29 5 G B0 ?_ (fun jn29 => ?_)
    · intro x F3 ls H locs hi hl hI
      have hl : lv_has ls 5 [(0, .ref (B0 + 23)), (1, .int zp0), (2, .int zp1), (3, .int zp2)] := hl
      obtain ⟨hF, hx9⟩ := hi
      subst hF
      subst hx9
      refine lv_aload_n hx hb dX4_addMany_29 rfl (lv_at hl 0 rfl) ?_
      refine lv_iload_n hx hb dX4_addMany_30 rfl (lv_at hl 1 rfl) ?_
      refine lv_iload_n hx hb dX4_addMany_31 rfl (lv_at hl 3 rfl) ?_
      refine lv_i2l hx hb dX4_addMany_32 rfl ?_
      refine z_calli hI (z_V (As := [.int zp0, .long zp2.toInt64]) (rest := [.int (pI (0 ≤ zp2)), .int (pI (okT zp0 ∧ okW zp1)), .ref (B0 + 23)]) ⟨hx, hb, hml, hown, hts⟩ hI m01 rfl (c_X4_hasRoom l G B0 F σ th zp0 zp2.toInt64 hM hK) (z_cwV vX4_hasRoom hts q783 ⟨Nat.le_of_ble_eq_true rfl, Nat.le_of_ble_eq_true rfl⟩) rfl hl.1 rfl (lv_room (Nat.le_of_ble_eq_true rfl)) dX4_addMany_33 ⟨Nat.le_of_ble_eq_true rfl, Nat.le_of_ble_eq_true rfl⟩) (fun r5 F4 H locs hp6 hI => ?_)
      obtain ⟨rfl, rfl⟩ := hp6
      refine z_calli hI (z_V (As := [.int (pI (okT zp0 ∧ okW zp1)), .int (pI (0 ≤ zp2)), .int (pI (okT zp0 ∧ lN (sn σ (ix zp0)) + zp2.toInt64 ≤ 60))]) (rest := []) ⟨hx, hb, hml, hown, hts⟩ hI m01 rfl (c_X4_passes l G B0 F σ th (okT zp0 ∧ okW zp1) (0 ≤ zp2) (okT zp0 ∧ lN (sn σ (ix zp0)) + zp2.toInt64 ≤ 60) hM) (z_cwV vX4_passes hts q788 ⟨Nat.le_of_ble_eq_true rfl, Nat.le_of_ble_eq_true rfl⟩) rfl hl.1 rfl (lv_room (Nat.le_of_ble_eq_true rfl)) dX4_addMany_36 ⟨Nat.le_of_ble_eq_true rfl, Nat.le_of_ble_eq_true rfl⟩) (fun r8 F7 H locs hp9 hI => ?_)
      obtain ⟨⟨th1, hM1, hz1⟩, rfl, ho1⟩ := hp9
      have hp1 : (okT zp0 ∧ okW zp1) ↔ oA_addMany σ zp0 zp1 zp2 := Iff.rfl
      have hp2 : oA_addMany σ zp0 zp1 zp2 → ((0 ≤ zp2) ↔ oB_addMany σ zp0 zp1 zp2) := fun _ => Iff.rfl
      have hp3 : oA_addMany σ zp0 zp1 zp2 → oB_addMany σ zp0 zp1 zp2 → ((okT zp0 ∧ lN (sn σ (ix zp0)) + zp2.toInt64 ≤ 60) ↔ oC_addMany σ zp0 zp1 zp2) := fun hA9 hB9 => ⟨fun z => (rm_x (sg_le hK hA9.1) hB9).mp z.2, fun z => ⟨hA9.1, (rm_x (sg_le hK hA9.1) hB9).mpr z⟩⟩
      have hz2 := zTh_cg hp1 hp2 hp3 hz1
      refine z_topi (pI_cg (zC_cg hp1 hp2 hp3)) ?_
      have hmf1 : zMf B0 F F7 := fun q hq => ho1 q (by omega)
      obtain ⟨m010, ⟨ma10, m110, me110⟩, ⟨mb10, m210, me210⟩, ⟨mc10, m310, me310⟩, ⟨n910, t910, m410⟩, mT10, mP10⟩ := id hM1
      refine z_ifp_ne (tgt := 44) hx hb dX4_addMany_39 (by decide) (fun hq11 => ?_) (fun hq11 => ?_)
      · obtain ⟨hA, hB, hC0⟩ := id hq11
        obtain ⟨hc0, hc1⟩ := id hA
        obtain ⟨i12, hi13, rfl⟩ := id hc0
        have hix14 : ix (nI i12) = i12 := ix_nI (by omega)
        have hl : lv_has ls 5 [(0, .ref (B0 + 23)), (1, .int (nI i12)), (2, .int zp1), (3, .int zp2)] := hl
        have hsbi12 := (hK.1 i12 hi13).1
        have hx15 := mT10 i12 hi13
        obtain ⟨xnhx15, xrhx15, fhx15, xwhx15, xfhx15⟩ := id hx15
        have hB2 : 0 ≤ zp2 := hB
        have hC2 := hC0
        simp only [oC_addMany, hix14] at hC2
        obtain ⟨mm, hmm, rfl⟩ := nI_of (show ¬ zp2 < 0 from i_le_n.mp hB2)
        have hrn := (nI_leI (by omega) (by omega)).mp hC2
        have hix16 : ix (nI mm) = mm := ix_nI (by omega)
        have hl : lv_has ls 5 [(0, .ref (B0 + 23)), (1, .int (nI i12)), (2, .int zp1), (3, .int (nI mm))] := hl
        refine lv_iconst (v := nI 0) hx hb dX4_addMany_44 (by decide) ?_
        refine lv_istore (lv' := [(4, .int (nI 0)), (0, .ref (B0 + 23)), (1, .int (nI i12)), (2, .int zp1), (3, .int (nI mm))]) hx hb dX4_addMany_45 hl (by decide) rfl (fun ls hl => ?_)
        refine z_loop (σ := Nat) (fun k : Nat => [(0, .ref (B0 + 23)), (1, .int (nI i12)), (2, .int zp1), (3, .int (nI mm)), (4, .int (nI k))]) (fun (k : Nat) (Fx : zM) => RA G 3 Fx (B0 + 25 + 2 * i12) (B0 + 26 + 2 * i12) 60 (sn σ i12 + k) (catt (st σ i12) (sn σ i12) (fun _ => zp1)) ∧ zSm F7 Fx (B0 + 25 + 2 * i12) (B0 + 26 + 2 * i12) ∧ k ≤ mm) (fun k : Nat => mm - k) 0 (nL := 5) (st := []) ?_ (lv_sub hl [1, 2, 3, 4, 0] rfl) hI ?_
        · exact ⟨RA.cg ⟨xnhx15, xrhx15, fhx15, xwhx15, xfhx15⟩ (fun j hj => (catt_lo (by omega)).symm), zSm.rf, Nat.zero_le _⟩
        · intro k F17 ls H locs hi hl hI ih
          have hl : lv_has ls 5 [(0, .ref (B0 + 23)), (1, .int (nI i12)), (2, .int zp1), (3, .int (nI mm)), (4, .int (nI k))] := hl
          obtain ⟨ha0, hs0, hk⟩ := hi
          have hM2 := MS.setT hM1 hi13 hs0 ha0
          obtain ⟨m018, ⟨ma18, m118, me118⟩, ⟨mb18, m218, me218⟩, ⟨mc18, m318, me318⟩, ⟨n918, t918, m418⟩, mT18, mP18⟩ := id hM2
          obtain ⟨xn_, xr_, f_, xw_, xf_⟩ := id ha0
          refine lv_iload hx hb dX4_addMany_47 (lv_at hl 4 rfl) ?_
          refine lv_iload_n hx hb dX4_addMany_49 rfl (lv_at hl 3 rfl) ?_
          refine z_icmp_ge (tgt := 69) (a := k) (b := mm) hx hb dX4_addMany_50 (by decide) (by omega) (fun hq19 => ?_) (fun hq19 => ?_)
          · refine lv_aload_n hx hb dX4_addMany_69 rfl (lv_at hl 0 rfl) ?_
            refine z_get hx hb hts hown zlX4 rfl 1 (by decide) (hts _ q753) rfl hI m018 rfl dX4_addMany_70 ?_
            refine lv_iload_n hx hb dX4_addMany_73 rfl (lv_at hl 1 rfl) ?_
            refine z_ald3 (k := i12) (v := B0 + 25 + 2 * i12) hx hb hI m118 (by omega) (by omega) (me118 i12 (by omega)) dX4_addMany_74 ?_
            refine z_getN hx hb hts hown zlX3 rfl 1 (by decide) (List.mem_of_getElem? (i := 2) rfl) rfl hI xr_ rfl dX4_addMany_75 ?_
            refine z_ri hx hb hr hlocks hI ?_ (Nat.le_of_ble_eq_true rfl) (Nat.le_of_ble_eq_true rfl) dX4_addMany_78
            have hkn : k = mm := by omega
            refine ⟨_, rfl, th1, _, (MS.setT hM1 hi13 hs0 (hkn ▸ ha0)), hz2, fun _ => ⟨(by simp only [oA_addMany, oB_addMany, oC_addMany, rr_addMany, ss_addMany, hix14, hix16] <;> exact rfl), (by simp only [oA_addMany, oB_addMany, oC_addMany, rr_addMany, ss_addMany, hix14, hix16] <;> (rw [hkn]))⟩, fun q => absurd ⟨hA, hB, hC0⟩ q, zMf.tr hmf1 (zMf.sm hs0 (by omega) (by omega))⟩
          · refine lv_aload_n hx hb dX4_addMany_53 rfl (lv_at hl 0 rfl) ?_
            refine z_get hx hb hts hown zlX4 rfl 1 (by decide) (hts _ q753) rfl hI m018 rfl dX4_addMany_54 ?_
            refine lv_iload_n hx hb dX4_addMany_57 rfl (lv_at hl 1 rfl) ?_
            refine z_ald3 (k := i12) (v := B0 + 25 + 2 * i12) hx hb hI m118 (by omega) (by omega) (me118 i12 (by omega)) dX4_addMany_58 ?_
            refine lv_iload_n hx hb dX4_addMany_59 rfl (lv_at hl 2 rfl) ?_
            refine z_callv hI (z_V (As := [.int zp1]) (rest := []) ⟨hx, hb, hml, hown, hts⟩ hI xr_ rfl (c_X3_add l G B0 F17 (B0 + 25 + 2 * i12) (B0 + 26 + 2 * i12) 60 (sn σ i12 + k) (catt (st σ i12) (sn σ i12) (fun _ => zp1)) zp1 ⟨xn_, xr_, f_, xw_, xf_⟩ (by omega) (by omega)) (z_cwV vX3_add hts q792 ⟨Nat.le_of_ble_eq_true rfl, Nat.le_of_ble_eq_true rfl⟩) rfl hl.1 rfl (lv_room (Nat.le_of_ble_eq_true rfl)) dX4_addMany_60 ⟨Nat.le_of_ble_eq_true rfl, Nat.le_of_ble_eq_true rfl⟩) (fun F20 H locs hp22 hI => ?_)
            obtain ⟨ha23, hs23⟩ := hp22
            have hc24 : F20 (B0 + 23) = some (zO 4 [.int th1, .ref (B0 + 24), .ref (B0 + 33), .ref (B0 + 38), .ref (B0 + 40)]) := (hs23 _ (zne m018 xr_ (fun q => by cases q)) (zne m018 xw_ (fun q => by cases q))).trans m018
            have hc25 : F20 (B0 + 24) = some (zA3 G 4 ma18) := (hs23 _ (zne m118 xr_ (fun q => by cases q)) (by omega)).trans m118
            have hc26 : F20 (B0 + 33) = some (zA3 G 2 mb18) := (hs23 _ (zne m218 xr_ (fun q => by cases q)) (by omega)).trans m218
            have hc27 : F20 (B0 + 40) = some (zAI G 100 mc18) := (hs23 _ (zne m318 xr_ (fun q => by cases q)) (by omega)).trans m318
            obtain ⟨xn_23, xr_23, f_23, xw_23, xf_23⟩ := id ha23
            refine lv_iinc (k := 4) (v := nI (k + 1)) (lv' := [(4, .int (nI (k + 1))), (0, .ref (B0 + 23)), (1, .int (nI i12)), (2, .int zp1), (3, .int (nI mm))]) hx hb dX4_addMany_63 hl rfl (nI_add k 1) (by decide) rfl (fun ls hl => ?_)
            refine lv_goto (tgt := 47) hx hb dX4_addMany_66 (by decide) ?_
            refine ih (k + 1) _ ls H locs (by first | omega | (dsimp only; omega)) ?_ (lv_sub hl [1, 2, 3, 4, 0] rfl) hI
            refine ⟨RA.cg ha23 (fun j hj => ?_), (zSm.tr hs0 hs23), by omega⟩
            by_cases q : j = sn σ i12 + k
            · subst q; rw [pk_us, catt_hi]
            · rw [pk_un q]
      · refine lv_iconst (v := nI 0) hx hb dX4_addMany_42 (by decide) ?_
        refine z_ri hx hb hr hlocks hI ?_ (Nat.le_of_ble_eq_true rfl) (Nat.le_of_ble_eq_true rfl) dX4_addMany_43
        exact ⟨_, rfl, th1, σ, hM1, hz2, fun q => absurd q hq11, fun _ => rfl, hmf1⟩
    · refine lv_iload_n hx hb dX4_addMany_20 rfl (lv_at hl 3 rfl) ?_
      refine lv_if_lt (tgt := 28) hx hb dX4_addMany_21 (by decide) (fun hq28 => ?_) (fun hq28 => ?_)
      · refine lv_iconst (v := nI 0) hx hb dX4_addMany_28 (by decide) ?_
        refine jn29 (nI 0) _ ls H locs ?_ (lv_sub hl [0, 1, 2, 3] rfl) hI
        exact ⟨rfl, pI_f (fun z => by have z2 := z; first | exact hq28 z2 | (first | exact hq28 z2 | exact i_le_n.mp z2 hq28 | exact l_le_n.mp z2 (lg_gt.mp hq28) | exact l_le_n.mp z2 (lg_lt.mp hq28) | exact hq28 ((in_pl1 (by omega)).mpr z2) | omega))⟩
      · refine lv_iconst (v := nI 1) hx hb dX4_addMany_24 (by decide) ?_
        refine lv_goto (tgt := 29) hx hb dX4_addMany_25 (by decide) ?_
        refine jn29 (nI 1) _ ls H locs ?_ (lv_sub hl [0, 1, 2, 3] rfl) hI
        exact ⟨rfl, pI_t (by first | exact hq28 | exact i_le_n.mpr hq28 | exact l_le_n.mpr (fun q => hq28 (lg_gt.mpr q)) | exact l_le_n.mpr (fun q => hq28 (lg_lt.mpr q)) | exact (in_pl1 (by omega)).mp hq28 | omega)⟩
  · refine lv_iload_n hx hb dX4_addMany_1 rfl (lv_at hl 1 rfl) ?_
    refine z_calli hI (z_S (As := [.int zp0]) (rest := [.ref (B0 + 23)]) ⟨hx, hb, hml, hown, hts⟩ hI (c_X4_isText l G B0 F zp0) (z_cwS vX4_isText hts q772 ⟨Nat.le_of_ble_eq_true rfl, Nat.le_of_ble_eq_true rfl⟩) rfl hl.1 rfl (lv_room (Nat.le_of_ble_eq_true rfl)) dX4_addMany_2 ⟨Nat.le_of_ble_eq_true rfl, Nat.le_of_ble_eq_true rfl⟩) (fun r30 F29 H locs hp31 hI => ?_)
    obtain ⟨rfl, rfl⟩ := hp31
    refine z_ifp_eq (tgt := 19) hx hb dX4_addMany_5 (by decide) (fun hq32 => ?_) (fun hq32 => ?_)
    · refine lv_iconst (v := nI 0) hx hb dX4_addMany_19 (by decide) ?_
      refine jn20 (nI 0) _ ls H locs ?_ (lv_sub hl [0, 1, 2, 3] rfl) hI
      exact ⟨rfl, pI_f (fun z => by have z2 := z.1; first | exact hq32 z2 | (first | exact hq32 z2 | exact i_le_n.mp z2 hq32 | exact l_le_n.mp z2 (lg_gt.mp hq32) | exact l_le_n.mp z2 (lg_lt.mp hq32) | exact hq32 ((in_pl1 (by omega)).mpr z2) | omega))⟩
    · refine lv_iload_n hx hb dX4_addMany_8 rfl (lv_at hl 2 rfl) ?_
      refine z_calli hI (z_S (As := [.int zp1]) (rest := [.ref (B0 + 23)]) ⟨hx, hb, hml, hown, hts⟩ hI (c_X4_isWord l G B0 F zp1) (z_cwS vX4_isWord hts q779 ⟨Nat.le_of_ble_eq_true rfl, Nat.le_of_ble_eq_true rfl⟩) rfl hl.1 rfl (lv_room (Nat.le_of_ble_eq_true rfl)) dX4_addMany_9 ⟨Nat.le_of_ble_eq_true rfl, Nat.le_of_ble_eq_true rfl⟩) (fun r34 F33 H locs hp35 hI => ?_)
      obtain ⟨rfl, rfl⟩ := hp35
      refine z_ifp_eq (tgt := 19) hx hb dX4_addMany_12 (by decide) (fun hq36 => ?_) (fun hq36 => ?_)
      · refine lv_iconst (v := nI 0) hx hb dX4_addMany_19 (by decide) ?_
        refine jn20 (nI 0) _ ls H locs ?_ (lv_sub hl [0, 1, 2, 3] rfl) hI
        exact ⟨rfl, pI_f (fun z => by have z2 := z.2; first | exact hq36 z2 | (first | exact hq36 z2 | exact i_le_n.mp z2 hq36 | exact l_le_n.mp z2 (lg_gt.mp hq36) | exact l_le_n.mp z2 (lg_lt.mp hq36) | exact hq36 ((in_pl1 (by omega)).mpr z2) | omega))⟩
      · refine lv_iconst (v := nI 1) hx hb dX4_addMany_15 (by decide) ?_
        refine lv_goto (tgt := 20) hx hb dX4_addMany_16 (by decide) ?_
        refine jn20 (nI 1) _ ls H locs ?_ (lv_sub hl [0, 1, 2, 3] rfl) hI
        exact ⟨rfl, pI_t ⟨(by first | exact hq32 | exact i_le_n.mpr hq32 | exact l_le_n.mpr (fun q => hq32 (lg_gt.mpr q)) | exact l_le_n.mpr (fun q => hq32 (lg_lt.mpr q)) | exact (in_pl1 (by omega)).mp hq32 | omega), (by first | exact hq36 | exact i_le_n.mpr hq36 | exact l_le_n.mpr (fun q => hq36 (lg_gt.mpr q)) | exact l_le_n.mpr (fun q => hq36 (lg_lt.mpr q)) | exact (in_pl1 (by omega)).mp hq36 | omega)⟩⟩

set_option maxHeartbeats 4000000 in
set_option maxRecDepth 100000 in
theorem c_X4_setRank (l : Launch) (G : zK) (B0 : Nat) (F : zM) (σ : Sg) (th zp0 zp1 : Int32) (hM : MS G B0 F σ th) (hK : SgOk σ) : Met l yX4_setRank (Cond.code yX4_setRank cX4_setRank 4 (some FieldType.int) :: zW) (zRm 2 45 0 0) (va_Pc [.ref (B0 + 23), .int zp0, .int zp1] (zPre G B0 F)) (zQi G B0 (zRP G B0 F σ (oA_setRank σ zp0 zp1) (oB_setRank σ zp0 zp1) (oC_setRank σ zp0 zp1) (ss_setRank σ zp0 zp1) (rr_setRank σ zp0 zp1))) 0 0 (zA B0) := by
  refine z_of (own := RX4) (by decide) rfl (Nat.le_of_ble_eq_true rfl) ?_
  intro p e s m below meth c ls hx hb hr hml hown hlocks hnm hts hl hI
  have hl : lv_has ls 4 [(0, .ref (B0 + 23)), (1, .int zp0), (2, .int zp1)] := hl
  obtain ⟨m01, ⟨ma1, m11, me11⟩, ⟨mb1, m21, me21⟩, ⟨mc1, m31, me31⟩, ⟨n91, t91, m41⟩, mT1, mP1⟩ := id hM
  refine lv_aload_n hx hb dX4_setRank_0 rfl (lv_at hl 0 rfl) ?_
  refine lv_iload_n hx hb dX4_setRank_1 rfl (lv_at hl 1 rfl) ?_
  refine z_calli hI (z_S (As := [.int zp0]) (rest := [.ref (B0 + 23)]) ⟨hx, hb, hml, hown, hts⟩ hI (c_X4_isWord l G B0 F zp0) (z_cwS vX4_isWord hts q779 ⟨Nat.le_of_ble_eq_true rfl, Nat.le_of_ble_eq_true rfl⟩) rfl hl.1 rfl (lv_room (Nat.le_of_ble_eq_true rfl)) dX4_setRank_2 ⟨Nat.le_of_ble_eq_true rfl, Nat.le_of_ble_eq_true rfl⟩) (fun r3 F2 H locs hp4 hI => ?_)
  obtain ⟨rfl, rfl⟩ := hp4
  refine lv_iload_n hx hb dX4_setRank_5 rfl (lv_at hl 2 rfl) ?_
  refine lv_i2l hx hb dX4_setRank_6 rfl ?_
  refine lv_ldc2 (v := -9) hx hb hown (hts _ q861) dX4_setRank_7 ?_
  refine lv_ldc2 (v := 9) hx hb hown (hts _ q862) dX4_setRank_10 ?_
  refine z_calli hI (z_S (As := [.long zp1.toInt64, .long (-9), .long 9]) (rest := [.int (pI (okW zp0)), .ref (B0 + 23)]) ⟨hx, hb, hml, hown, hts⟩ hI (c_X4_in l G B0 F zp1.toInt64 (-9) 9) (z_cwS vX4_in hts q776 ⟨Nat.le_of_ble_eq_true rfl, Nat.le_of_ble_eq_true rfl⟩) rfl hl.1 rfl (lv_room (Nat.le_of_ble_eq_true rfl)) dX4_setRank_13 ⟨Nat.le_of_ble_eq_true rfl, Nat.le_of_ble_eq_true rfl⟩) (fun r6 F5 H locs hp7 hI => ?_)
  obtain ⟨rfl, rfl⟩ := hp7
  refine lv_iconst (v := nI 1) hx hb dX4_setRank_16 (by decide) ?_
  refine z_topi (pI_1 (P := True) trivial) ?_
  refine z_calli hI (z_V (As := [.int (pI (okW zp0)), .int (pI ((-9) ≤ zp1.toInt64 ∧ zp1.toInt64 ≤ 9)), .int (pI (True))]) (rest := []) ⟨hx, hb, hml, hown, hts⟩ hI m01 rfl (c_X4_passes l G B0 F σ th (okW zp0) ((-9) ≤ zp1.toInt64 ∧ zp1.toInt64 ≤ 9) (True) hM) (z_cwV vX4_passes hts q788 ⟨Nat.le_of_ble_eq_true rfl, Nat.le_of_ble_eq_true rfl⟩) rfl hl.1 rfl (lv_room (Nat.le_of_ble_eq_true rfl)) dX4_setRank_17 ⟨Nat.le_of_ble_eq_true rfl, Nat.le_of_ble_eq_true rfl⟩) (fun r9 F8 H locs hp10 hI => ?_)
  obtain ⟨⟨th1, hM1, hz1⟩, rfl, ho1⟩ := hp10
  have hp1 : (okW zp0) ↔ oA_setRank σ zp0 zp1 := Iff.rfl
  have hp2 : oA_setRank σ zp0 zp1 → (((-9) ≤ zp1.toInt64 ∧ zp1.toInt64 ≤ 9) ↔ oB_setRank σ zp0 zp1) := fun _ => in_r
  have hp3 : oA_setRank σ zp0 zp1 → oB_setRank σ zp0 zp1 → ((True) ↔ oC_setRank σ zp0 zp1) := fun _ _ => Iff.rfl
  have hz2 := zTh_cg hp1 hp2 hp3 hz1
  refine z_topi (pI_cg (zC_cg hp1 hp2 hp3)) ?_
  have hmf1 : zMf B0 F F8 := fun q hq => ho1 q (by omega)
  obtain ⟨m011, ⟨ma11, m111, me111⟩, ⟨mb11, m211, me211⟩, ⟨mc11, m311, me311⟩, ⟨n911, t911, m411⟩, mT11, mP11⟩ := id hM1
  refine z_ifp_ne (tgt := 25) hx hb dX4_setRank_20 (by decide) (fun hq12 => ?_) (fun hq12 => ?_)
  · obtain ⟨hA, hB, hC0⟩ := id hq12
    have hc0 := hA
    obtain ⟨kw, hkw, rfl⟩ := id hc0
    have hix13 : ix (nI kw) = kw := ix_nI (by omega)
    have hl : lv_has ls 4 [(0, .ref (B0 + 23)), (1, .int (nI kw)), (2, .int zp1)] := hl
    refine lv_aload_n hx hb dX4_setRank_25 rfl (lv_at hl 0 rfl) ?_
    refine z_get hx hb hts hown zlX4 rfl 4 (by decide) (hts _ q756) rfl hI m011 rfl dX4_setRank_26 ?_
    refine lv_iload_n hx hb dX4_setRank_29 rfl (lv_at hl 1 rfl) ?_
    refine z_ild (k := kw) (v := rk σ kw) hx hb hI m311 (by omega) (by omega) (me311 kw (by omega)) dX4_setRank_30 ?_
    refine lv_istore_n (lv' := [(3, .int (rk σ kw)), (0, .ref (B0 + 23)), (1, .int (nI kw)), (2, .int zp1)]) hx hb dX4_setRank_31 rfl hl (by decide) rfl (fun ls hl => ?_)
    refine lv_aload_n hx hb dX4_setRank_32 rfl (lv_at hl 1 rfl) ?_
    refine z_get hx hb hts hown zlX4 rfl 4 (by decide) (hts _ q756) rfl hI m011 rfl dX4_setRank_33 ?_
    refine lv_iload_n hx hb dX4_setRank_36 rfl (lv_at hl 2 rfl) ?_
    refine lv_iload_n hx hb dX4_setRank_37 rfl (lv_at hl 3 rfl) ?_
    refine z_ist (k := kw) hx hb hI m311 (by omega) (by omega) dX4_setRank_38 (fun H locs F14 hw15 ho16 hI => ?_)
    have hc17 : F14 (B0 + 23) = some (zO 4 [.int th1, .ref (B0 + 24), .ref (B0 + 33), .ref (B0 + 38), .ref (B0 + 40)]) := (ho16 _ (zne m011 m311 (fun q => by cases q))).trans m011
    have hc18 : F14 (B0 + 24) = some (zA3 G 4 ma11) := (ho16 _ (by omega)).trans m111
    have hc19 : F14 (B0 + 33) = some (zA3 G 2 mb11) := (ho16 _ (by omega)).trans m211
    refine lv_iload_n hx hb dX4_setRank_39 rfl (lv_at hl 0 rfl) ?_
    refine z_ri hx hb hr hlocks hI ?_ (Nat.le_of_ble_eq_true rfl) (Nat.le_of_ble_eq_true rfl) dX4_setRank_40
    refine ⟨_, rfl, th1, _, (MS.setR hM1 ho16 hw15 (upd_cg me311)), hz2, fun _ => ⟨(by simp only [oA_setRank, oB_setRank, oC_setRank, rr_setRank, ss_setRank, hix13] <;> exact rfl), (by simp only [oA_setRank, oB_setRank, oC_setRank, rr_setRank, ss_setRank, hix13] <;> exact rfl)⟩, fun q => absurd ⟨hA, hB, hC0⟩ q, zMf.tr hmf1 (fun q hq => ho16 q (by omega))⟩
  · refine lv_iconst (v := nI 0) hx hb dX4_setRank_23 (by decide) ?_
    refine z_ri hx hb hr hlocks hI ?_ (Nat.le_of_ble_eq_true rfl) (Nat.le_of_ble_eq_true rfl) dX4_setRank_24
    exact ⟨_, rfl, th1, σ, hM1, hz2, fun q => absurd q hq12, fun _ => rfl, hmf1⟩

set_option maxHeartbeats 4000000 in
set_option maxRecDepth 100000 in
theorem c_X4_say (l : Launch) (G : zK) (B0 : Nat) (F : zM) (σ : Sg) (th zp0 zp1 : Int32) (hM : MS G B0 F σ th) (hK : SgOk σ) : Met l yX4_say (Cond.code yX4_say cX4_say 4 (some FieldType.int) :: zW) (zRm 2 45 0 0) (va_Pc [.ref (B0 + 23), .int zp0, .int zp1] (zPre G B0 F)) (zQi G B0 (zRP G B0 F σ (oA_say σ zp0 zp1) (oB_say σ zp0 zp1) (oC_say σ zp0 zp1) (ss_say σ zp0 zp1) (rr_say σ zp0 zp1))) 0 0 (zA B0) := by
  refine z_of (own := RX4) (by decide) rfl (Nat.le_of_ble_eq_true rfl) ?_
  intro p e s m below meth c ls hx hb hr hml hown hlocks hnm hts hl hI
  have hl : lv_has ls 4 [(0, .ref (B0 + 23)), (1, .int zp0), (2, .int zp1)] := hl
  obtain ⟨m01, ⟨ma1, m11, me11⟩, ⟨mb1, m21, me21⟩, ⟨mc1, m31, me31⟩, ⟨n91, t91, m41⟩, mT1, mP1⟩ := id hM
  refine lv_iload_n hx hb dX4_say_0 rfl (lv_at hl 1 rfl) ?_
  refine z_calli hI (z_S (As := [.int zp0]) (rest := []) ⟨hx, hb, hml, hown, hts⟩ hI (c_X4_isPhrase l G B0 F zp0) (z_cwS vX4_isPhrase hts q867 ⟨Nat.le_of_ble_eq_true rfl, Nat.le_of_ble_eq_true rfl⟩) rfl hl.1 rfl (lv_room (Nat.le_of_ble_eq_true rfl)) dX4_say_1 ⟨Nat.le_of_ble_eq_true rfl, Nat.le_of_ble_eq_true rfl⟩) (fun r3 F2 H locs hp4 hI => ?_)
  obtain ⟨rfl, rfl⟩ := hp4
  refine lv_istore_n (lv' := [(3, .int (pI (okB zp0))), (0, .ref (B0 + 23)), (1, .int zp0), (2, .int zp1)]) hx hb dX4_say_4 rfl hl (by decide) rfl (fun ls hl => ?_)
  refine lv_aload_n hx hb dX4_say_5 rfl (lv_at hl 1 rfl) ?_
  refine z_join (σ := Int32) (fun x : Int32 => [(3, .int (pI (okB zp0))), (0, .ref (B0 + 23)), (1, .int zp0), (2, .int zp1)]) (fun x : Int32 => [.int x, .ref (B0 + 23)]) (fun (x : Int32) (Fx : zM) => F = Fx ∧ x = pI (okB zp0 ∧ okW zp1)) 22 4 G B0 ?_ (fun jn22 => ?_)
  · intro x F5 ls H locs hi hl hI
    have hl : lv_has ls 4 [(3, .int (pI (okB zp0))), (0, .ref (B0 + 23)), (1, .int zp0), (2, .int zp1)] := hl
    obtain ⟨hF, hx9⟩ := hi
    subst hF
    subst hx9
    refine z_join (σ := Int32) (fun x : Int32 => [(3, .int (pI (okB zp0))), (0, .ref (B0 + 23)), (1, .int zp0), (2, .int zp1)]) (fun x : Int32 => [.int x, .int (pI (okB zp0 ∧ okW zp1)), .ref (B0 + 23)]) (fun (x : Int32) (Fx : zM) => F = Fx ∧ x = pI (okB zp0 ∧ pn σ (ix zp0) < 12)) 45 4 G B0 ?_ (fun jn45 => ?_)
    · intro x F6 ls H locs hi hl hI
      have hl : lv_has ls 4 [(3, .int (pI (okB zp0))), (0, .ref (B0 + 23)), (1, .int zp0), (2, .int zp1)] := hl
      obtain ⟨hF, hx9⟩ := hi
      subst hF
      subst hx9
      refine lv_iconst (v := nI 1) hx hb dX4_say_45 (by decide) ?_
      refine z_topi (pI_1 (P := True) trivial) ?_
      refine z_calli hI (z_V (As := [.int (pI (okB zp0 ∧ okW zp1)), .int (pI (okB zp0 ∧ pn σ (ix zp0) < 12)), .int (pI (True))]) (rest := []) ⟨hx, hb, hml, hown, hts⟩ hI m01 rfl (c_X4_passes l G B0 F σ th (okB zp0 ∧ okW zp1) (okB zp0 ∧ pn σ (ix zp0) < 12) (True) hM) (z_cwV vX4_passes hts q788 ⟨Nat.le_of_ble_eq_true rfl, Nat.le_of_ble_eq_true rfl⟩) rfl hl.1 rfl (lv_room (Nat.le_of_ble_eq_true rfl)) dX4_say_46 ⟨Nat.le_of_ble_eq_true rfl, Nat.le_of_ble_eq_true rfl⟩) (fun r8 F7 H locs hp9 hI => ?_)
      obtain ⟨⟨th1, hM1, hz1⟩, rfl, ho1⟩ := hp9
      have hp1 : (okB zp0 ∧ okW zp1) ↔ oA_say σ zp0 zp1 := Iff.rfl
      have hp2 : oA_say σ zp0 zp1 → ((okB zp0 ∧ pn σ (ix zp0) < 12) ↔ oB_say σ zp0 zp1) := fun h => ⟨fun z => z.2, fun z => ⟨h.1, z⟩⟩
      have hp3 : oA_say σ zp0 zp1 → oB_say σ zp0 zp1 → ((True) ↔ oC_say σ zp0 zp1) := fun _ _ => Iff.rfl
      have hz2 := zTh_cg hp1 hp2 hp3 hz1
      refine z_topi (pI_cg (zC_cg hp1 hp2 hp3)) ?_
      have hmf1 : zMf B0 F F7 := fun q hq => ho1 q (by omega)
      obtain ⟨m010, ⟨ma10, m110, me110⟩, ⟨mb10, m210, me210⟩, ⟨mc10, m310, me310⟩, ⟨n910, t910, m410⟩, mT10, mP10⟩ := id hM1
      refine z_ifp_ne (tgt := 54) hx hb dX4_say_49 (by decide) (fun hq11 => ?_) (fun hq11 => ?_)
      · obtain ⟨hA, hB, hC0⟩ := id hq11
        obtain ⟨hc0, hc1⟩ := id hA
        obtain ⟨i12, hi13, rfl⟩ := id hc0
        have hix14 : ix (nI i12) = i12 := ix_nI (by omega)
        have hl : lv_has ls 4 [(3, .int (pI (okB (nI i12)))), (0, .ref (B0 + 23)), (1, .int (nI i12)), (2, .int zp1)] := hl
        have hsbi12 := hK.2 i12 hi13
        have hx15 := mP10 i12 hi13
        obtain ⟨xnhx15, xrhx15, fhx15, xwhx15, xfhx15⟩ := id hx15
        have hbhx15 := hK.2 i12 hi13
        have hB2 := hB
        simp only [oB_say, hix14] at hB2
        refine lv_aload_n hx hb dX4_say_54 rfl (lv_at hl 1 rfl) ?_
        refine z_get hx hb hts hown zlX4 rfl 2 (by decide) (hts _ q754) rfl hI m010 rfl dX4_say_55 ?_
        refine lv_iload_n hx hb dX4_say_58 rfl (lv_at hl 2 rfl) ?_
        refine z_ald3 (k := i12) (v := B0 + 34 + 2 * i12) hx hb hI m210 (by omega) (by omega) (me210 i12 (by omega)) dX4_say_59 ?_
        refine lv_iload_n hx hb dX4_say_60 rfl (lv_at hl 3 rfl) ?_
        refine z_callv hI (z_V (As := [.int zp1]) (rest := []) ⟨hx, hb, hml, hown, hts⟩ hI xrhx15 rfl (c_X3_add l G B0 F7 (B0 + 34 + 2 * i12) (B0 + 35 + 2 * i12) 60 (pn σ i12) (pt σ i12) zp1 ⟨xnhx15, xrhx15, fhx15, xwhx15, xfhx15⟩ (by omega) (by omega)) (z_cwV vX3_add hts q792 ⟨Nat.le_of_ble_eq_true rfl, Nat.le_of_ble_eq_true rfl⟩) rfl hl.1 rfl (lv_room (Nat.le_of_ble_eq_true rfl)) dX4_say_61 ⟨Nat.le_of_ble_eq_true rfl, Nat.le_of_ble_eq_true rfl⟩) (fun F16 H locs hp18 hI => ?_)
        obtain ⟨ha19, hs19⟩ := hp18
        have hc20 : F16 (B0 + 23) = some (zO 4 [.int th1, .ref (B0 + 24), .ref (B0 + 33), .ref (B0 + 38), .ref (B0 + 40)]) := (hs19 _ (zne m010 xrhx15 (fun q => by cases q)) (zne m010 xwhx15 (fun q => by cases q))).trans m010
        have hc21 : F16 (B0 + 24) = some (zA3 G 4 ma10) := (hs19 _ (zne m110 xrhx15 (fun q => by cases q)) (by omega)).trans m110
        have hc22 : F16 (B0 + 33) = some (zA3 G 2 mb10) := (hs19 _ (zne m210 xrhx15 (fun q => by cases q)) (by omega)).trans m210
        have hc23 : F16 (B0 + 40) = some (zAI G 100 mc10) := (hs19 _ (zne m310 xrhx15 (fun q => by cases q)) (by omega)).trans m310
        obtain ⟨xn_19, xr_19, f_19, xw_19, xf_19⟩ := id ha19
        refine lv_aload_n hx hb dX4_say_64 rfl (lv_at hl 1 rfl) ?_
        refine z_get hx hb hts hown zlX4 rfl 2 (by decide) (hts _ q754) rfl hI hc20 rfl dX4_say_65 ?_
        refine lv_iload_n hx hb dX4_say_68 rfl (lv_at hl 2 rfl) ?_
        refine z_ald3 (k := i12) (v := B0 + 34 + 2 * i12) hx hb hI hc22 (by omega) (by omega) (me210 i12 (by omega)) dX4_say_69 ?_
        refine z_getN hx hb hts hown zlX3 rfl 1 (by decide) (List.mem_of_getElem? (i := 2) rfl) rfl hI xr_19 rfl dX4_say_70 ?_
        refine z_ri hx hb hr hlocks hI ?_ (Nat.le_of_ble_eq_true rfl) (Nat.le_of_ble_eq_true rfl) dX4_say_73
        refine ⟨_, rfl, th1, _, (MS.setP hM1 hi13 hs19 ⟨xn_19, xr_19, f_19, xw_19, xf_19⟩), hz2, fun _ => ⟨(by simp only [oA_say, oB_say, oC_say, rr_say, ss_say, hix14] <;> exact rfl), (by simp only [oA_say, oB_say, oC_say, rr_say, ss_say, hix14] <;> exact rfl)⟩, fun q => absurd ⟨hA, hB, hC0⟩ q, zMf.tr hmf1 (zMf.sm (a := B0 + 34 + 2 * i12) (b := B0 + 35 + 2 * i12) hs19 (by omega) (by omega))⟩
      · refine lv_iconst (v := nI 0) hx hb dX4_say_52 (by decide) ?_
        refine z_ri hx hb hr hlocks hI ?_ (Nat.le_of_ble_eq_true rfl) (Nat.le_of_ble_eq_true rfl) dX4_say_53
        exact ⟨_, rfl, th1, σ, hM1, hz2, fun q => absurd q hq11, fun _ => rfl, hmf1⟩
    · refine lv_iload_n hx hb dX4_say_22 rfl (lv_at hl 0 rfl) ?_
      refine z_ifp_eq (tgt := 44) hx hb dX4_say_23 (by decide) (fun hq24 => ?_) (fun hq24 => ?_)
      · refine lv_iconst (v := nI 0) hx hb dX4_say_44 (by decide) ?_
        refine jn45 (nI 0) _ ls H locs ?_ (lv_sub hl [0, 1, 2, 3] rfl) hI
        exact ⟨rfl, pI_f (fun z => by have z2 := z.1; first | exact hq24 z2 | (first | exact hq24 z2 | exact i_le_n.mp z2 hq24 | exact l_le_n.mp z2 (lg_gt.mp hq24) | exact l_le_n.mp z2 (lg_lt.mp hq24) | exact hq24 ((in_pl1 (by omega)).mpr z2) | omega))⟩
      · obtain ⟨i25, hi26, rfl⟩ := id hq24
        have hix27 : ix (nI i25) = i25 := ix_nI (by omega)
        have hl : lv_has ls 4 [(3, .int (pI (okB (nI i25)))), (0, .ref (B0 + 23)), (1, .int (nI i25)), (2, .int zp1)] := hl
        obtain ⟨m028, ⟨ma28, m128, me128⟩, ⟨mb28, m228, me228⟩, ⟨mc28, m328, me328⟩, ⟨n928, t928, m428⟩, mT28, mP28⟩ := id hM
        have hx29 := mP28 i25 hi26
        obtain ⟨xnhx29, xrhx29, fhx29, xwhx29, xfhx29⟩ := id hx29
        have hbhx29 := hK.2 i25 hi26
        refine lv_aload_n hx hb dX4_say_26 rfl (lv_at hl 1 rfl) ?_
        refine z_get hx hb hts hown zlX4 rfl 2 (by decide) (hts _ q754) rfl hI m028 rfl dX4_say_27 ?_
        refine lv_iload_n hx hb dX4_say_30 rfl (lv_at hl 2 rfl) ?_
        refine z_ald3 (k := i25) (v := B0 + 34 + 2 * i25) hx hb hI m228 (by omega) (by omega) (me228 i25 (by omega)) dX4_say_31 ?_
        refine z_getN hx hb hts hown zlX3 rfl 1 (by decide) (List.mem_of_getElem? (i := 2) rfl) rfl hI xrhx29 rfl dX4_say_32 ?_
        refine lv_bipush (v := nI 12) hx hb dX4_say_35 (by decide) ?_
        refine z_icmp_ge (tgt := 44) (a := pn σ i25) (b := 12) hx hb dX4_say_37 (by decide) (by omega) (fun hq30 => ?_) (fun hq30 => ?_)
        · refine lv_iconst (v := nI 0) hx hb dX4_say_44 (by decide) ?_
          refine jn45 (nI 0) _ ls H locs ?_ (lv_sub hl [0, 1, 2, 3] rfl) hI
          exact ⟨rfl, pI_f (fun z => by have z2 := z.2; first | exact hq30 z2 | ((try rw [hix27] at z2); (first | exact hq30 z2 | exact i_le_n.mp z2 hq30 | exact l_le_n.mp z2 (lg_gt.mp hq30) | exact l_le_n.mp z2 (lg_lt.mp hq30) | exact hq30 ((in_pl1 (by omega)).mpr z2) | omega)) | (first | exact hq30 z2 | exact i_le_n.mp z2 hq30 | exact l_le_n.mp z2 (lg_gt.mp hq30) | exact l_le_n.mp z2 (lg_lt.mp hq30) | exact hq30 ((in_pl1 (by omega)).mpr z2) | omega))⟩
        · refine lv_iconst (v := nI 1) hx hb dX4_say_40 (by decide) ?_
          refine lv_goto (tgt := 45) hx hb dX4_say_41 (by decide) ?_
          refine jn45 (nI 1) _ ls H locs ?_ (lv_sub hl [0, 1, 2, 3] rfl) hI
          exact ⟨rfl, pI_t ⟨(by first | exact hq24 | (rw [hix27]; first | exact hq24 | exact i_le_n.mpr hq24 | exact l_le_n.mpr (fun q => hq24 (lg_gt.mpr q)) | exact l_le_n.mpr (fun q => hq24 (lg_lt.mpr q)) | exact (in_pl1 (by omega)).mp hq24 | omega) | (first | exact hq24 | exact i_le_n.mpr hq24 | exact l_le_n.mpr (fun q => hq24 (lg_gt.mpr q)) | exact l_le_n.mpr (fun q => hq24 (lg_lt.mpr q)) | exact (in_pl1 (by omega)).mp hq24 | omega)), (by first | exact hq30 | (rw [hix27]; first | exact hq30 | exact i_le_n.mpr hq30 | exact l_le_n.mpr (fun q => hq30 (lg_gt.mpr q)) | exact l_le_n.mpr (fun q => hq30 (lg_lt.mpr q)) | exact (in_pl1 (by omega)).mp hq30 | omega) | (first | exact hq30 | exact i_le_n.mpr hq30 | exact l_le_n.mpr (fun q => hq30 (lg_gt.mpr q)) | exact l_le_n.mpr (fun q => hq30 (lg_lt.mpr q)) | exact (in_pl1 (by omega)).mp hq30 | omega))⟩⟩
  · refine lv_iload_n hx hb dX4_say_6 rfl (lv_at hl 0 rfl) ?_
    refine z_ifp_eq (tgt := 21) hx hb dX4_say_7 (by decide) (fun hq31 => ?_) (fun hq31 => ?_)
    · refine lv_iconst (v := nI 0) hx hb dX4_say_21 (by decide) ?_
      refine jn22 (nI 0) _ ls H locs ?_ (lv_sub hl [0, 1, 2, 3] rfl) hI
      exact ⟨rfl, pI_f (fun z => by have z2 := z.1; first | exact hq31 z2 | (first | exact hq31 z2 | exact i_le_n.mp z2 hq31 | exact l_le_n.mp z2 (lg_gt.mp hq31) | exact l_le_n.mp z2 (lg_lt.mp hq31) | exact hq31 ((in_pl1 (by omega)).mpr z2) | omega))⟩
    · refine lv_iload_n hx hb dX4_say_10 rfl (lv_at hl 3 rfl) ?_
      refine z_calli hI (z_S (As := [.int zp1]) (rest := [.ref (B0 + 23)]) ⟨hx, hb, hml, hown, hts⟩ hI (c_X4_isWord l G B0 F zp1) (z_cwS vX4_isWord hts q779 ⟨Nat.le_of_ble_eq_true rfl, Nat.le_of_ble_eq_true rfl⟩) rfl hl.1 rfl (lv_room (Nat.le_of_ble_eq_true rfl)) dX4_say_11 ⟨Nat.le_of_ble_eq_true rfl, Nat.le_of_ble_eq_true rfl⟩) (fun r33 F32 H locs hp34 hI => ?_)
      obtain ⟨rfl, rfl⟩ := hp34
      refine z_ifp_eq (tgt := 21) hx hb dX4_say_14 (by decide) (fun hq35 => ?_) (fun hq35 => ?_)
      · refine lv_iconst (v := nI 0) hx hb dX4_say_21 (by decide) ?_
        refine jn22 (nI 0) _ ls H locs ?_ (lv_sub hl [0, 1, 2, 3] rfl) hI
        exact ⟨rfl, pI_f (fun z => by have z2 := z.2; first | exact hq35 z2 | (first | exact hq35 z2 | exact i_le_n.mp z2 hq35 | exact l_le_n.mp z2 (lg_gt.mp hq35) | exact l_le_n.mp z2 (lg_lt.mp hq35) | exact hq35 ((in_pl1 (by omega)).mpr z2) | omega))⟩
      · refine lv_iconst (v := nI 1) hx hb dX4_say_17 (by decide) ?_
        refine lv_goto (tgt := 22) hx hb dX4_say_18 (by decide) ?_
        refine jn22 (nI 1) _ ls H locs ?_ (lv_sub hl [0, 1, 2, 3] rfl) hI
        exact ⟨rfl, pI_t ⟨(by first | exact hq31 | exact i_le_n.mpr hq31 | exact l_le_n.mpr (fun q => hq31 (lg_gt.mpr q)) | exact l_le_n.mpr (fun q => hq31 (lg_lt.mpr q)) | exact (in_pl1 (by omega)).mp hq31 | omega), (by first | exact hq35 | exact i_le_n.mpr hq35 | exact l_le_n.mpr (fun q => hq35 (lg_gt.mpr q)) | exact l_le_n.mpr (fun q => hq35 (lg_lt.mpr q)) | exact (in_pl1 (by omega)).mp hq35 | omega)⟩⟩

set_option maxHeartbeats 4000000 in
set_option maxRecDepth 100000 in
theorem c_X4_hush (l : Launch) (G : zK) (B0 : Nat) (F : zM) (σ : Sg) (th zp0 : Int32) (hM : MS G B0 F σ th) (hK : SgOk σ) : Met l yX4_hush (Cond.code yX4_hush cX4_hush 3 (some FieldType.int) :: zW) (zRm 2 45 0 0) (va_Pc [.ref (B0 + 23), .int zp0] (zPre G B0 F)) (zQi G B0 (zRP G B0 F σ (oA_hush σ zp0) (oB_hush σ zp0) (oC_hush σ zp0) (ss_hush σ zp0) (rr_hush σ zp0))) 0 0 (zA B0) := by
  refine z_of (own := RX4) (by decide) rfl (Nat.le_of_ble_eq_true rfl) ?_
  intro p e s m below meth c ls hx hb hr hml hown hlocks hnm hts hl hI
  have hl : lv_has ls 3 [(0, .ref (B0 + 23)), (1, .int zp0)] := hl
  obtain ⟨m01, ⟨ma1, m11, me11⟩, ⟨mb1, m21, me21⟩, ⟨mc1, m31, me31⟩, ⟨n91, t91, m41⟩, mT1, mP1⟩ := id hM
  refine lv_aload_n hx hb dX4_hush_0 rfl (lv_at hl 0 rfl) ?_
  refine lv_iload_n hx hb dX4_hush_1 rfl (lv_at hl 1 rfl) ?_
  refine z_calli hI (z_S (As := [.int zp0]) (rest := [.ref (B0 + 23)]) ⟨hx, hb, hml, hown, hts⟩ hI (c_X4_isPhrase l G B0 F zp0) (z_cwS vX4_isPhrase hts q867 ⟨Nat.le_of_ble_eq_true rfl, Nat.le_of_ble_eq_true rfl⟩) rfl hl.1 rfl (lv_room (Nat.le_of_ble_eq_true rfl)) dX4_hush_2 ⟨Nat.le_of_ble_eq_true rfl, Nat.le_of_ble_eq_true rfl⟩) (fun r3 F2 H locs hp4 hI => ?_)
  obtain ⟨rfl, rfl⟩ := hp4
  refine lv_iconst (v := nI 1) hx hb dX4_hush_5 (by decide) ?_
  refine z_topi (pI_1 (P := True) trivial) ?_
  refine lv_iconst (v := nI 1) hx hb dX4_hush_6 (by decide) ?_
  refine z_topi (pI_1 (P := True) trivial) ?_
  refine z_calli hI (z_V (As := [.int (pI (okB zp0)), .int (pI (True)), .int (pI (True))]) (rest := []) ⟨hx, hb, hml, hown, hts⟩ hI m01 rfl (c_X4_passes l G B0 F σ th (okB zp0) (True) (True) hM) (z_cwV vX4_passes hts q788 ⟨Nat.le_of_ble_eq_true rfl, Nat.le_of_ble_eq_true rfl⟩) rfl hl.1 rfl (lv_room (Nat.le_of_ble_eq_true rfl)) dX4_hush_7 ⟨Nat.le_of_ble_eq_true rfl, Nat.le_of_ble_eq_true rfl⟩) (fun r6 F5 H locs hp7 hI => ?_)
  obtain ⟨⟨th1, hM1, hz1⟩, rfl, ho1⟩ := hp7
  have hp1 : (okB zp0) ↔ oA_hush σ zp0 := Iff.rfl
  have hp2 : oA_hush σ zp0 → ((True) ↔ oB_hush σ zp0) := fun _ => Iff.rfl
  have hp3 : oA_hush σ zp0 → oB_hush σ zp0 → ((True) ↔ oC_hush σ zp0) := fun _ _ => Iff.rfl
  have hz2 := zTh_cg hp1 hp2 hp3 hz1
  refine z_topi (pI_cg (zC_cg hp1 hp2 hp3)) ?_
  have hmf1 : zMf B0 F F5 := fun q hq => ho1 q (by omega)
  obtain ⟨m08, ⟨ma8, m18, me18⟩, ⟨mb8, m28, me28⟩, ⟨mc8, m38, me38⟩, ⟨n98, t98, m48⟩, mT8, mP8⟩ := id hM1
  refine z_ifp_ne (tgt := 15) hx hb dX4_hush_10 (by decide) (fun hq9 => ?_) (fun hq9 => ?_)
  · obtain ⟨hA, hB, hC0⟩ := id hq9
    have hc0 := hA
    obtain ⟨i10, hi11, rfl⟩ := id hc0
    have hix12 : ix (nI i10) = i10 := ix_nI (by omega)
    have hl : lv_has ls 3 [(0, .ref (B0 + 23)), (1, .int (nI i10))] := hl
    have hsbi10 := hK.2 i10 hi11
    have hx13 := mP8 i10 hi11
    obtain ⟨xnhx13, xrhx13, fhx13, xwhx13, xfhx13⟩ := id hx13
    have hbhx13 := hK.2 i10 hi11
    refine lv_aload_n hx hb dX4_hush_15 rfl (lv_at hl 0 rfl) ?_
    refine z_get hx hb hts hown zlX4 rfl 2 (by decide) (hts _ q754) rfl hI m08 rfl dX4_hush_16 ?_
    refine lv_iload_n hx hb dX4_hush_19 rfl (lv_at hl 1 rfl) ?_
    refine z_ald3 (k := i10) (v := B0 + 34 + 2 * i10) hx hb hI m28 (by omega) (by omega) (me28 i10 (by omega)) dX4_hush_20 ?_
    refine z_getN hx hb hts hown zlX3 rfl 1 (by decide) (List.mem_of_getElem? (i := 2) rfl) rfl hI xrhx13 rfl dX4_hush_21 ?_
    refine lv_istore_n (lv' := [(2, .int (nI (pn σ i10))), (0, .ref (B0 + 23)), (1, .int (nI i10))]) hx hb dX4_hush_24 rfl hl (by decide) rfl (fun ls hl => ?_)
    refine lv_aload_n hx hb dX4_hush_25 rfl (lv_at hl 1 rfl) ?_
    refine z_get hx hb hts hown zlX4 rfl 2 (by decide) (hts _ q754) rfl hI m08 rfl dX4_hush_26 ?_
    refine lv_iload_n hx hb dX4_hush_29 rfl (lv_at hl 2 rfl) ?_
    refine z_ald3 (k := i10) (v := B0 + 34 + 2 * i10) hx hb hI m28 (by omega) (by omega) (me28 i10 (by omega)) dX4_hush_30 ?_
    refine lv_iconst (v := nI 0) hx hb dX4_hush_31 (by decide) ?_
    refine z_putN hx hb hts hown zlX3 tyX3 tyX3_ok nmX3 rfl 1 (by decide) (List.mem_of_getElem? (i := 2) rfl) rfl hI xrhx13 rfl rfl rfl rfl (Nat.le_of_ble_eq_true rfl) dX4_hush_32 (fun H locs F14 hw15 ho16 hI => ?_)
    have hw15 : F14 (B0 + 34 + 2 * i10) = some (zO 3 [.ref (B0 + 35 + 2 * i10), .int (nI 0)]) := hw15
    have hc17 : F14 (B0 + 23) = some (zO 4 [.int th1, .ref (B0 + 24), .ref (B0 + 33), .ref (B0 + 38), .ref (B0 + 40)]) := (ho16 _ (zne m08 xrhx13 (fun q => by cases q))).trans m08
    have hc18 : F14 (B0 + 24) = some (zA3 G 4 ma8) := (ho16 _ (zne m18 xrhx13 (fun q => by cases q))).trans m18
    have hc19 : F14 (B0 + 33) = some (zA3 G 2 mb8) := (ho16 _ (zne m28 xrhx13 (fun q => by cases q))).trans m28
    have hc20 : F14 (B0 + 40) = some (zAI G 100 mc8) := (ho16 _ (zne m38 xrhx13 (fun q => by cases q))).trans m38
    have hc21 : F14 (B0 + 35 + 2 * i10) = some (zAI G 60 fhx13) := (ho16 _ (zne xwhx13 xrhx13 (fun q => by cases q))).trans xwhx13
    refine lv_iload_n hx hb dX4_hush_35 rfl (lv_at hl 0 rfl) ?_
    refine z_ri hx hb hr hlocks hI ?_ (Nat.le_of_ble_eq_true rfl) (Nat.le_of_ble_eq_true rfl) dX4_hush_36
    refine ⟨_, rfl, th1, _, (MS.setP hM1 hi11 (zSm.l ho16) ⟨Nat.zero_le _, hw15, _, hc21, fun j hj => absurd hj (Nat.not_lt_zero _)⟩), hz2, fun _ => ⟨(by simp only [oA_hush, oB_hush, oC_hush, rr_hush, ss_hush, hix12] <;> exact rfl), (by simp only [oA_hush, oB_hush, oC_hush, rr_hush, ss_hush, hix12] <;> exact rfl)⟩, fun q => absurd ⟨hA, hB, hC0⟩ q, zMf.tr hmf1 (zMf.sm (a := B0 + 34 + 2 * i10) (b := B0 + 35 + 2 * i10) (zSm.l ho16) (by omega) (by omega))⟩
  · refine lv_iconst (v := nI 0) hx hb dX4_hush_13 (by decide) ?_
    refine z_ri hx hb hr hlocks hI ?_ (Nat.le_of_ble_eq_true rfl) (Nat.le_of_ble_eq_true rfl) dX4_hush_14
    exact ⟨_, rfl, th1, σ, hM1, hz2, fun q => absurd q hq9, fun _ => rfl, hmf1⟩

set_option maxHeartbeats 4000000 in
set_option maxRecDepth 100000 in
theorem c_X4_wordOf (l : Launch) (G : zK) (B0 : Nat) (F : zM) (σ : Sg) (th zp0 zp1 : Int32) (hM : MS G B0 F σ th) (hK : SgOk σ) : Met l yX4_wordOf (Cond.code yX4_wordOf cX4_wordOf 4 (some FieldType.int) :: zW) (zRm 2 45 0 0) (va_Pc [.ref (B0 + 23), .int zp0, .int zp1] (zPre G B0 F)) (zQi G B0 (zRP G B0 F σ (oA_wordOf σ zp0 zp1) (oB_wordOf σ zp0 zp1) (oC_wordOf σ zp0 zp1) (ss_wordOf σ zp0 zp1) (rr_wordOf σ zp0 zp1))) 0 0 (zA B0) := by
  refine z_of (own := RX4) (by decide) rfl (Nat.le_of_ble_eq_true rfl) ?_
  intro p e s m below meth c ls hx hb hr hml hown hlocks hnm hts hl hI
  have hl : lv_has ls 4 [(0, .ref (B0 + 23)), (1, .int zp0), (2, .int zp1)] := hl
  obtain ⟨m01, ⟨ma1, m11, me11⟩, ⟨mb1, m21, me21⟩, ⟨mc1, m31, me31⟩, ⟨n91, t91, m41⟩, mT1, mP1⟩ := id hM
  refine z_join (σ := Int32) (fun x : Int32 => [(0, .ref (B0 + 23)), (1, .int zp0), (2, .int zp1)]) (fun x : Int32 => [.int x]) (fun (x : Int32) (Fx : zM) => F = Fx ∧ x = pI (okB zp0 ∧ okL (pn σ (ix zp0)) zp1)) 33 4 G B0 ?_ (fun jn33 => ?_)
  · intro x F2 ls H locs hi hl hI
    have hl : lv_has ls 4 [(0, .ref (B0 + 23)), (1, .int zp0), (2, .int zp1)] := hl
    obtain ⟨hF, hx9⟩ := hi
    subst hF
    subst hx9
    refine lv_istore_n (lv' := [(3, .int (pI (okB zp0 ∧ okL (pn σ (ix zp0)) zp1))), (0, .ref (B0 + 23)), (1, .int zp0), (2, .int zp1)]) hx hb dX4_wordOf_33 rfl hl (by decide) rfl (fun ls hl => ?_)
    refine lv_aload_n hx hb dX4_wordOf_34 rfl (lv_at hl 1 rfl) ?_
    refine lv_iload_n hx hb dX4_wordOf_35 rfl (lv_at hl 0 rfl) ?_
    refine lv_iconst (v := nI 1) hx hb dX4_wordOf_36 (by decide) ?_
    refine z_topi (pI_1 (P := True) trivial) ?_
    refine lv_iconst (v := nI 1) hx hb dX4_wordOf_37 (by decide) ?_
    refine z_topi (pI_1 (P := True) trivial) ?_
    refine z_calli hI (z_V (As := [.int (pI (okB zp0 ∧ okL (pn σ (ix zp0)) zp1)), .int (pI (True)), .int (pI (True))]) (rest := []) ⟨hx, hb, hml, hown, hts⟩ hI m01 rfl (c_X4_passes l G B0 F σ th (okB zp0 ∧ okL (pn σ (ix zp0)) zp1) (True) (True) hM) (z_cwV vX4_passes hts q788 ⟨Nat.le_of_ble_eq_true rfl, Nat.le_of_ble_eq_true rfl⟩) rfl hl.1 rfl (lv_room (Nat.le_of_ble_eq_true rfl)) dX4_wordOf_38 ⟨Nat.le_of_ble_eq_true rfl, Nat.le_of_ble_eq_true rfl⟩) (fun r4 F3 H locs hp5 hI => ?_)
    obtain ⟨⟨th1, hM1, hz1⟩, rfl, ho1⟩ := hp5
    have hp1 : (okB zp0 ∧ okL (pn σ (ix zp0)) zp1) ↔ oA_wordOf σ zp0 zp1 := Iff.rfl
    have hp2 : oA_wordOf σ zp0 zp1 → ((True) ↔ oB_wordOf σ zp0 zp1) := fun _ => Iff.rfl
    have hp3 : oA_wordOf σ zp0 zp1 → oB_wordOf σ zp0 zp1 → ((True) ↔ oC_wordOf σ zp0 zp1) := fun _ _ => Iff.rfl
    have hz2 := zTh_cg hp1 hp2 hp3 hz1
    refine z_topi (pI_cg (zC_cg hp1 hp2 hp3)) ?_
    have hmf1 : zMf B0 F F3 := fun q hq => ho1 q (by omega)
    obtain ⟨m06, ⟨ma6, m16, me16⟩, ⟨mb6, m26, me26⟩, ⟨mc6, m36, me36⟩, ⟨n96, t96, m46⟩, mT6, mP6⟩ := id hM1
    refine z_ifp_eq (tgt := 57) hx hb dX4_wordOf_41 (by decide) (fun hq7 => ?_) (fun hq7 => ?_)
    · refine lv_iconst (v := nI 0) hx hb dX4_wordOf_57 (by decide) ?_
      refine z_ri hx hb hr hlocks hI ?_ (Nat.le_of_ble_eq_true rfl) (Nat.le_of_ble_eq_true rfl) dX4_wordOf_58
      exact ⟨_, rfl, th1, σ, hM1, hz2, fun q => absurd q hq7, fun _ => rfl, hmf1⟩
    · obtain ⟨hA, hB, hC0⟩ := id hq7
      obtain ⟨hc0, hc1⟩ := id hA
      obtain ⟨i8, hi9, rfl⟩ := id hc0
      have hix10 : ix (nI i8) = i8 := ix_nI (by omega)
      have hl : lv_has ls 4 [(3, .int (pI (okB (nI i8) ∧ okL (pn σ (ix (nI i8))) zp1))), (0, .ref (B0 + 23)), (1, .int (nI i8)), (2, .int zp1)] := hl
      have hsbi8 := hK.2 i8 hi9
      obtain ⟨j11, hj12, rfl⟩ := id hc1
      simp only [hix10] at hj12
      have hix13 : ix (nI j11) = j11 := ix_nI (by omega)
      have hl : lv_has ls 4 [(3, .int (pI (okB (nI i8) ∧ okL (pn σ (ix (nI i8))) (nI j11)))), (0, .ref (B0 + 23)), (1, .int (nI i8)), (2, .int (nI j11))] := hl
      have hx14 := mP6 i8 hi9
      obtain ⟨xnhx14, xrhx14, fhx14, xwhx14, xfhx14⟩ := id hx14
      have hbhx14 := hK.2 i8 hi9
      refine lv_aload_n hx hb dX4_wordOf_44 rfl (lv_at hl 1 rfl) ?_
      refine z_get hx hb hts hown zlX4 rfl 2 (by decide) (hts _ q754) rfl hI m06 rfl dX4_wordOf_45 ?_
      refine lv_iload_n hx hb dX4_wordOf_48 rfl (lv_at hl 2 rfl) ?_
      refine z_ald3 (k := i8) (v := B0 + 34 + 2 * i8) hx hb hI m26 (by omega) (by omega) (me26 i8 (by omega)) dX4_wordOf_49 ?_
      refine lv_iload_n hx hb dX4_wordOf_50 rfl (lv_at hl 3 rfl) ?_
      refine z_calli hI (z_V (As := [.int (nI j11)]) (rest := []) ⟨hx, hb, hml, hown, hts⟩ hI xrhx14 rfl (c_X3_at l G B0 F3 (B0 + 34 + 2 * i8) (B0 + 35 + 2 * i8) 60 (pn σ i8) (pt σ i8) j11 ⟨xnhx14, xrhx14, fhx14, xwhx14, xfhx14⟩ (by omega) (by omega)) (z_cwV vX3_at hts q829 ⟨Nat.le_of_ble_eq_true rfl, Nat.le_of_ble_eq_true rfl⟩) rfl hl.1 rfl (lv_room (Nat.le_of_ble_eq_true rfl)) dX4_wordOf_51 ⟨Nat.le_of_ble_eq_true rfl, Nat.le_of_ble_eq_true rfl⟩) (fun r16 F15 H locs hp17 hI => ?_)
      obtain ⟨rfl, rfl⟩ := hp17
      refine lv_goto (tgt := 58) hx hb dX4_wordOf_54 (by decide) ?_
      refine z_ri hx hb hr hlocks hI ?_ (Nat.le_of_ble_eq_true rfl) (Nat.le_of_ble_eq_true rfl) dX4_wordOf_58
      refine ⟨_, rfl, th1, _, hM1, hz2, fun _ => ⟨(by simp only [oA_wordOf, oB_wordOf, oC_wordOf, rr_wordOf, ss_wordOf, hix10, hix13] <;> exact rfl), (by simp only [oA_wordOf, oB_wordOf, oC_wordOf, rr_wordOf, ss_wordOf, hix10, hix13] <;> exact rfl)⟩, fun q => absurd ⟨hA, hB, hC0⟩ q, hmf1⟩
  · refine lv_iload_n hx hb dX4_wordOf_0 rfl (lv_at hl 1 rfl) ?_
    refine z_calli hI (z_S (As := [.int zp0]) (rest := []) ⟨hx, hb, hml, hown, hts⟩ hI (c_X4_isPhrase l G B0 F zp0) (z_cwS vX4_isPhrase hts q867 ⟨Nat.le_of_ble_eq_true rfl, Nat.le_of_ble_eq_true rfl⟩) rfl hl.1 rfl (lv_room (Nat.le_of_ble_eq_true rfl)) dX4_wordOf_1 ⟨Nat.le_of_ble_eq_true rfl, Nat.le_of_ble_eq_true rfl⟩) (fun r19 F18 H locs hp20 hI => ?_)
    obtain ⟨rfl, rfl⟩ := hp20
    refine z_ifp_eq (tgt := 32) hx hb dX4_wordOf_4 (by decide) (fun hq21 => ?_) (fun hq21 => ?_)
    · refine lv_iconst (v := nI 0) hx hb dX4_wordOf_32 (by decide) ?_
      refine jn33 (nI 0) _ ls H locs ?_ (lv_sub hl [0, 1, 2] rfl) hI
      exact ⟨rfl, pI_f (fun z => by have z2 := z.1; first | exact hq21 z2 | (first | exact hq21 z2 | exact i_le_n.mp z2 hq21 | exact l_le_n.mp z2 (lg_gt.mp hq21) | exact l_le_n.mp z2 (lg_lt.mp hq21) | exact hq21 ((in_pl1 (by omega)).mpr z2) | omega))⟩
    · obtain ⟨i22, hi23, rfl⟩ := id hq21
      have hix24 : ix (nI i22) = i22 := ix_nI (by omega)
      have hl : lv_has ls 4 [(0, .ref (B0 + 23)), (1, .int (nI i22)), (2, .int zp1)] := hl
      obtain ⟨m025, ⟨ma25, m125, me125⟩, ⟨mb25, m225, me225⟩, ⟨mc25, m325, me325⟩, ⟨n925, t925, m425⟩, mT25, mP25⟩ := id hM
      have hx26 := mP25 i22 hi23
      obtain ⟨xnhx26, xrhx26, fhx26, xwhx26, xfhx26⟩ := id hx26
      have hbhx26 := hK.2 i22 hi23
      refine lv_iload_n hx hb dX4_wordOf_7 rfl (lv_at hl 2 rfl) ?_
      refine lv_i2l hx hb dX4_wordOf_8 rfl ?_
      refine lv_lconst (v := 0) hx hb dX4_wordOf_9 (by decide) ?_
      refine lv_aload_n hx hb dX4_wordOf_10 rfl (lv_at hl 0 rfl) ?_
      refine z_get hx hb hts hown zlX4 rfl 2 (by decide) (hts _ q754) rfl hI m025 rfl dX4_wordOf_11 ?_
      refine lv_iload_n hx hb dX4_wordOf_14 rfl (lv_at hl 1 rfl) ?_
      refine z_ald3 (k := i22) (v := B0 + 34 + 2 * i22) hx hb hI m225 (by omega) (by omega) (me225 i22 (by omega)) dX4_wordOf_15 ?_
      refine z_getN hx hb hts hown zlX3 rfl 1 (by decide) (List.mem_of_getElem? (i := 2) rfl) rfl hI xrhx26 rfl dX4_wordOf_16 ?_
      refine lv_iconst (v := nI 1) hx hb dX4_wordOf_19 (by decide) ?_
      refine lv_isub hx hb dX4_wordOf_20 ?_
      refine lv_i2l hx hb dX4_wordOf_21 rfl ?_
      refine z_calli hI (z_S (As := [.long zp1.toInt64, .long 0, .long (((nI (pn σ i22)) - (nI 1)).toInt64)]) (rest := []) ⟨hx, hb, hml, hown, hts⟩ hI (c_X4_in l G B0 F zp1.toInt64 0 (((nI (pn σ i22)) - (nI 1)).toInt64)) (z_cwS vX4_in hts q776 ⟨Nat.le_of_ble_eq_true rfl, Nat.le_of_ble_eq_true rfl⟩) rfl hl.1 rfl (lv_room (Nat.le_of_ble_eq_true rfl)) dX4_wordOf_22 ⟨Nat.le_of_ble_eq_true rfl, Nat.le_of_ble_eq_true rfl⟩) (fun r28 F27 H locs hp29 hI => ?_)
      obtain ⟨rfl, rfl⟩ := hp29
      refine z_ifp_eq (tgt := 32) hx hb dX4_wordOf_25 (by decide) (fun hq30 => ?_) (fun hq30 => ?_)
      · refine lv_iconst (v := nI 0) hx hb dX4_wordOf_32 (by decide) ?_
        refine jn33 (nI 0) _ ls H locs ?_ (lv_sub hl [0, 1, 2] rfl) hI
        exact ⟨rfl, pI_f (fun z => by have z2 := z.2; first | exact hq30 z2 | ((try rw [hix24] at z2); (first | exact hq30 z2 | exact i_le_n.mp z2 hq30 | exact l_le_n.mp z2 (lg_gt.mp hq30) | exact l_le_n.mp z2 (lg_lt.mp hq30) | exact hq30 ((in_pl1 (by omega)).mpr z2) | omega)) | (first | exact hq30 z2 | exact i_le_n.mp z2 hq30 | exact l_le_n.mp z2 (lg_gt.mp hq30) | exact l_le_n.mp z2 (lg_lt.mp hq30) | exact hq30 ((in_pl1 (by omega)).mpr z2) | omega))⟩
      · refine lv_iconst (v := nI 1) hx hb dX4_wordOf_28 (by decide) ?_
        refine lv_goto (tgt := 33) hx hb dX4_wordOf_29 (by decide) ?_
        refine jn33 (nI 1) _ ls H locs ?_ (lv_sub hl [0, 1, 2] rfl) hI
        exact ⟨rfl, pI_t ⟨(by first | exact hq21 | (rw [hix24]; first | exact hq21 | exact i_le_n.mpr hq21 | exact l_le_n.mpr (fun q => hq21 (lg_gt.mpr q)) | exact l_le_n.mpr (fun q => hq21 (lg_lt.mpr q)) | exact (in_pl1 (by omega)).mp hq21 | omega) | (first | exact hq21 | exact i_le_n.mpr hq21 | exact l_le_n.mpr (fun q => hq21 (lg_gt.mpr q)) | exact l_le_n.mpr (fun q => hq21 (lg_lt.mpr q)) | exact (in_pl1 (by omega)).mp hq21 | omega)), (by first | exact hq30 | (rw [hix24]; first | exact hq30 | exact i_le_n.mpr hq30 | exact l_le_n.mpr (fun q => hq30 (lg_gt.mpr q)) | exact l_le_n.mpr (fun q => hq30 (lg_lt.mpr q)) | exact (in_pl1 (by omega)).mp hq30 | omega) | (first | exact hq30 | exact i_le_n.mpr hq30 | exact l_le_n.mpr (fun q => hq30 (lg_gt.mpr q)) | exact l_le_n.mpr (fun q => hq30 (lg_lt.mpr q)) | exact (in_pl1 (by omega)).mp hq30 | omega))⟩⟩

set_option maxHeartbeats 4000000 in
set_option maxRecDepth 100000 in
theorem c_X4_find (l : Launch) (G : zK) (B0 : Nat) (F : zM) (σ : Sg) (th zp0 : Int32) (hM : MS G B0 F σ th) (hK : SgOk σ) : Met l yX4_find (Cond.code yX4_find cX4_find 2 (some FieldType.int) :: zW) (zRm 3 69 0 0) (va_Pc [.ref (B0 + 23), .int zp0] (zPre G B0 F)) (zQi G B0 (zRP G B0 F σ (oA_find σ zp0) (oB_find σ zp0) (oC_find σ zp0) (ss_find σ zp0) (rr_find σ zp0))) 0 0 (zA B0) := by
  refine z_of (own := RX4) (by decide) rfl (Nat.le_of_ble_eq_true rfl) ?_
  intro p e s m below meth c ls hx hb hr hml hown hlocks hnm hts hl hI
  have hl : lv_has ls 2 [(0, .ref (B0 + 23)), (1, .int zp0)] := hl
  obtain ⟨m01, ⟨ma1, m11, me11⟩, ⟨mb1, m21, me21⟩, ⟨mc1, m31, me31⟩, ⟨n91, t91, m41⟩, mT1, mP1⟩ := id hM
  refine lv_aload_n hx hb dX4_find_0 rfl (lv_at hl 0 rfl) ?_
  refine lv_iload_n hx hb dX4_find_1 rfl (lv_at hl 1 rfl) ?_
  refine z_calli hI (z_S (As := [.int zp0]) (rest := [.ref (B0 + 23)]) ⟨hx, hb, hml, hown, hts⟩ hI (c_X4_isText l G B0 F zp0) (z_cwS vX4_isText hts q772 ⟨Nat.le_of_ble_eq_true rfl, Nat.le_of_ble_eq_true rfl⟩) rfl hl.1 rfl (lv_room (Nat.le_of_ble_eq_true rfl)) dX4_find_2 ⟨Nat.le_of_ble_eq_true rfl, Nat.le_of_ble_eq_true rfl⟩) (fun r3 F2 H locs hp4 hI => ?_)
  obtain ⟨rfl, rfl⟩ := hp4
  refine lv_iconst (v := nI 1) hx hb dX4_find_5 (by decide) ?_
  refine z_topi (pI_1 (P := True) trivial) ?_
  refine lv_iconst (v := nI 1) hx hb dX4_find_6 (by decide) ?_
  refine z_topi (pI_1 (P := True) trivial) ?_
  refine z_calli hI (z_V (As := [.int (pI (okT zp0)), .int (pI (True)), .int (pI (True))]) (rest := []) ⟨hx, hb, hml, hown, hts⟩ hI m01 rfl (c_X4_passes l G B0 F σ th (okT zp0) (True) (True) hM) (z_cwV vX4_passes hts q788 ⟨Nat.le_of_ble_eq_true rfl, Nat.le_of_ble_eq_true rfl⟩) rfl hl.1 rfl (lv_room (Nat.le_of_ble_eq_true rfl)) dX4_find_7 ⟨Nat.le_of_ble_eq_true rfl, Nat.le_of_ble_eq_true rfl⟩) (fun r6 F5 H locs hp7 hI => ?_)
  obtain ⟨⟨th1, hM1, hz1⟩, rfl, ho1⟩ := hp7
  have hp1 : (okT zp0) ↔ oA_find σ zp0 := Iff.rfl
  have hp2 : oA_find σ zp0 → ((True) ↔ oB_find σ zp0) := fun _ => Iff.rfl
  have hp3 : oA_find σ zp0 → oB_find σ zp0 → ((True) ↔ oC_find σ zp0) := fun _ _ => Iff.rfl
  have hz2 := zTh_cg hp1 hp2 hp3 hz1
  refine z_topi (pI_cg (zC_cg hp1 hp2 hp3)) ?_
  have hmf1 : zMf B0 F F5 := fun q hq => ho1 q (by omega)
  obtain ⟨m08, ⟨ma8, m18, me18⟩, ⟨mb8, m28, me28⟩, ⟨mc8, m38, me38⟩, ⟨n98, t98, m48⟩, mT8, mP8⟩ := id hM1
  refine z_ifp_eq (tgt := 32) hx hb dX4_find_10 (by decide) (fun hq9 => ?_) (fun hq9 => ?_)
  · refine lv_iconst (v := nI 0) hx hb dX4_find_32 (by decide) ?_
    refine z_ri hx hb hr hlocks hI ?_ (Nat.le_of_ble_eq_true rfl) (Nat.le_of_ble_eq_true rfl) dX4_find_33
    exact ⟨_, rfl, th1, σ, hM1, hz2, fun q => absurd q hq9, fun _ => rfl, hmf1⟩
  · obtain ⟨hA, hB, hC0⟩ := id hq9
    have hc0 := hA
    obtain ⟨i10, hi11, rfl⟩ := id hc0
    have hix12 : ix (nI i10) = i10 := ix_nI (by omega)
    have hl : lv_has ls 2 [(0, .ref (B0 + 23)), (1, .int (nI i10))] := hl
    have hsbi10 := (hK.1 i10 hi11).1
    have hx13 := mT8 i10 hi11
    obtain ⟨xnhx13, xrhx13, fhx13, xwhx13, xfhx13⟩ := id hx13
    have hx14 := mP8 0 (by decide)
    obtain ⟨xnhx14, xrhx14, fhx14, xwhx14, xfhx14⟩ := id hx14
    have hbhx14 := hK.2 0 (by decide)
    refine lv_aload_n hx hb dX4_find_13 rfl (lv_at hl 0 rfl) ?_
    refine z_get hx hb hts hown zlX4 rfl 1 (by decide) (hts _ q753) rfl hI m08 rfl dX4_find_14 ?_
    refine lv_iload_n hx hb dX4_find_17 rfl (lv_at hl 1 rfl) ?_
    refine z_ald3 (k := i10) (v := B0 + 25 + 2 * i10) hx hb hI m18 (by omega) (by omega) (me18 i10 (by omega)) dX4_find_18 ?_
    refine lv_aload_n hx hb dX4_find_19 rfl (lv_at hl 0 rfl) ?_
    refine z_get hx hb hts hown zlX4 rfl 2 (by decide) (hts _ q754) rfl hI m08 rfl dX4_find_20 ?_
    refine lv_iconst (v := nI 0) hx hb dX4_find_23 (by decide) ?_
    refine z_ald3 (k := 0) (v := B0 + 34 + 2 * 0) hx hb hI m28 (by omega) (by omega) (me28 0 (by omega)) dX4_find_24 ?_
    refine lv_iconst (v := nI 0) hx hb dX4_find_25 (by decide) ?_
    refine z_calli hI (z_V (As := [.ref (B0 + 34 + 2 * 0), .int (nI 0)]) (rest := []) ⟨hx, hb, hml, hown, hts⟩ hI xrhx13 rfl (c_X3_find l G B0 F5 (B0 + 25 + 2 * i10) (B0 + 26 + 2 * i10) 60 (sn σ i10) (st σ i10) (B0 + 34 + 2 * 0) (B0 + 35 + 2 * 0) 60 (pn σ 0) (pt σ 0) 0 ⟨xnhx13, xrhx13, fhx13, xwhx13, xfhx13⟩ (by omega) ⟨xnhx14, xrhx14, fhx14, xwhx14, xfhx14⟩ (by omega) (by omega)) (z_cwV vX3_find hts q887 ⟨Nat.le_of_ble_eq_true rfl, Nat.le_of_ble_eq_true rfl⟩) rfl hl.1 rfl (lv_room (Nat.le_of_ble_eq_true rfl)) dX4_find_26 ⟨Nat.le_of_ble_eq_true rfl, Nat.le_of_ble_eq_true rfl⟩) (fun r16 F15 H locs hp17 hI => ?_)
    obtain ⟨rfl, rfl⟩ := hp17
    refine lv_goto (tgt := 33) hx hb dX4_find_29 (by decide) ?_
    refine z_ri hx hb hr hlocks hI ?_ (Nat.le_of_ble_eq_true rfl) (Nat.le_of_ble_eq_true rfl) dX4_find_33
    refine ⟨_, rfl, th1, _, hM1, hz2, fun _ => ⟨(by simp only [oA_find, oB_find, oC_find, rr_find, ss_find, hix12] <;> exact rfl), (by simp only [oA_find, oB_find, oC_find, rr_find, ss_find, hix12] <;> exact rfl)⟩, fun q => absurd ⟨hA, hB, hC0⟩ q, hmf1⟩

set_option maxHeartbeats 4000000 in
set_option maxRecDepth 100000 in
theorem c_X4_findLast (l : Launch) (G : zK) (B0 : Nat) (F : zM) (σ : Sg) (th zp0 : Int32) (hM : MS G B0 F σ th) (hK : SgOk σ) : Met l yX4_findLast (Cond.code yX4_findLast cX4_findLast 4 (some FieldType.int) :: zW) (zRm 2 46 0 0) (va_Pc [.ref (B0 + 23), .int zp0] (zPre G B0 F)) (zQi G B0 (zRP G B0 F σ (oA_findLast σ zp0) (oB_findLast σ zp0) (oC_findLast σ zp0) (ss_findLast σ zp0) (rr_findLast σ zp0))) 0 0 (zA B0) := by
  refine z_of (own := RX4) (by decide) rfl (Nat.le_of_ble_eq_true rfl) ?_
  intro p e s m below meth c ls hx hb hr hml hown hlocks hnm hts hl hI
  have hl : lv_has ls 4 [(0, .ref (B0 + 23)), (1, .int zp0)] := hl
  obtain ⟨m01, ⟨ma1, m11, me11⟩, ⟨mb1, m21, me21⟩, ⟨mc1, m31, me31⟩, ⟨n91, t91, m41⟩, mT1, mP1⟩ := id hM
  refine lv_aload_n hx hb dX4_findLast_0 rfl (lv_at hl 0 rfl) ?_
  refine lv_iload_n hx hb dX4_findLast_1 rfl (lv_at hl 1 rfl) ?_
  refine z_calli hI (z_S (As := [.int zp0]) (rest := [.ref (B0 + 23)]) ⟨hx, hb, hml, hown, hts⟩ hI (c_X4_isText l G B0 F zp0) (z_cwS vX4_isText hts q772 ⟨Nat.le_of_ble_eq_true rfl, Nat.le_of_ble_eq_true rfl⟩) rfl hl.1 rfl (lv_room (Nat.le_of_ble_eq_true rfl)) dX4_findLast_2 ⟨Nat.le_of_ble_eq_true rfl, Nat.le_of_ble_eq_true rfl⟩) (fun r3 F2 H locs hp4 hI => ?_)
  obtain ⟨rfl, rfl⟩ := hp4
  refine lv_iconst (v := nI 1) hx hb dX4_findLast_5 (by decide) ?_
  refine z_topi (pI_1 (P := True) trivial) ?_
  refine lv_iconst (v := nI 1) hx hb dX4_findLast_6 (by decide) ?_
  refine z_topi (pI_1 (P := True) trivial) ?_
  refine z_calli hI (z_V (As := [.int (pI (okT zp0)), .int (pI (True)), .int (pI (True))]) (rest := []) ⟨hx, hb, hml, hown, hts⟩ hI m01 rfl (c_X4_passes l G B0 F σ th (okT zp0) (True) (True) hM) (z_cwV vX4_passes hts q788 ⟨Nat.le_of_ble_eq_true rfl, Nat.le_of_ble_eq_true rfl⟩) rfl hl.1 rfl (lv_room (Nat.le_of_ble_eq_true rfl)) dX4_findLast_7 ⟨Nat.le_of_ble_eq_true rfl, Nat.le_of_ble_eq_true rfl⟩) (fun r6 F5 H locs hp7 hI => ?_)
  obtain ⟨⟨th1, hM1, hz1⟩, rfl, ho1⟩ := hp7
  have hp1 : (okT zp0) ↔ oA_findLast σ zp0 := Iff.rfl
  have hp2 : oA_findLast σ zp0 → ((True) ↔ oB_findLast σ zp0) := fun _ => Iff.rfl
  have hp3 : oA_findLast σ zp0 → oB_findLast σ zp0 → ((True) ↔ oC_findLast σ zp0) := fun _ _ => Iff.rfl
  have hz2 := zTh_cg hp1 hp2 hp3 hz1
  refine z_topi (pI_cg (zC_cg hp1 hp2 hp3)) ?_
  have hmf1 : zMf B0 F F5 := fun q hq => ho1 q (by omega)
  obtain ⟨m08, ⟨ma8, m18, me18⟩, ⟨mb8, m28, me28⟩, ⟨mc8, m38, me38⟩, ⟨n98, t98, m48⟩, mT8, mP8⟩ := id hM1
  refine z_ifp_ne (tgt := 15) hx hb dX4_findLast_10 (by decide) (fun hq9 => ?_) (fun hq9 => ?_)
  · obtain ⟨hA, hB, hC0⟩ := id hq9
    have hc0 := hA
    obtain ⟨i10, hi11, rfl⟩ := id hc0
    have hix12 : ix (nI i10) = i10 := ix_nI (by omega)
    have hl : lv_has ls 4 [(0, .ref (B0 + 23)), (1, .int (nI i10))] := hl
    have hsbi10 := (hK.1 i10 hi11).1
    have hx13 := mT8 i10 hi11
    obtain ⟨xnhx13, xrhx13, fhx13, xwhx13, xfhx13⟩ := id hx13
    have hx14 := mP8 0 (by decide)
    obtain ⟨xnhx14, xrhx14, fhx14, xwhx14, xfhx14⟩ := id hx14
    have hbhx14 := hK.2 0 (by decide)
    refine lv_iconst (v := -1) hx hb dX4_findLast_15 (by decide) ?_
    refine lv_istore_n (lv' := [(2, .int (-1)), (0, .ref (B0 + 23)), (1, .int (nI i10))]) hx hb dX4_findLast_16 rfl hl (by decide) rfl (fun ls hl => ?_)
    refine lv_iconst (v := nI 0) hx hb dX4_findLast_17 (by decide) ?_
    refine lv_istore_n (lv' := [(3, .int (nI 0)), (2, .int (-1)), (0, .ref (B0 + 23)), (1, .int (nI i10))]) hx hb dX4_findLast_18 rfl hl (by decide) rfl (fun ls hl => ?_)
    refine z_loop (σ := Nat × Int32) (fun xx : Nat × Int32 => match xx with | (k, a) => [(0, .ref (B0 + 23)), (1, .int (nI i10)), (3, .int (nI k)), (2, .int a)]) (fun (xx : Nat × Int32) (Fx : zM) => match xx with | (k, a) => F5 = Fx ∧ k ≤ sn σ i10 + 1 ∧ a = rI (zlst (hld (st σ i10) (sn σ i10) (pt σ 0) (pn σ 0)) k)) (fun xx : Nat × Int32 => match xx with | (k, a) => sn σ i10 + 1 - k) (0, -1) (nL := 4) (st := []) ?_ (lv_sub hl [2, 3, 0, 1] rfl) hI ?_
    · exact ⟨rfl, Nat.zero_le _, rfl⟩
    · intro xx F15 ls H locs hi hl hI ih
      obtain ⟨k, a⟩ := xx
      have hl : lv_has ls 4 [(0, .ref (B0 + 23)), (1, .int (nI i10)), (3, .int (nI k)), (2, .int a)] := hl
      obtain ⟨hF, hk, ha⟩ := hi
      subst hF
      refine lv_iload_n hx hb dX4_findLast_19 rfl (lv_at hl 2 rfl) ?_
      refine lv_aload_n hx hb dX4_findLast_20 rfl (lv_at hl 0 rfl) ?_
      refine z_get hx hb hts hown zlX4 rfl 1 (by decide) (hts _ q753) rfl hI m08 rfl dX4_findLast_21 ?_
      refine lv_iload_n hx hb dX4_findLast_24 rfl (lv_at hl 1 rfl) ?_
      refine z_ald3 (k := i10) (v := B0 + 25 + 2 * i10) hx hb hI m18 (by omega) (by omega) (me18 i10 (by omega)) dX4_findLast_25 ?_
      refine z_getN hx hb hts hown zlX3 rfl 1 (by decide) (List.mem_of_getElem? (i := 2) rfl) rfl hI xrhx13 rfl dX4_findLast_26 ?_
      refine z_icmp_gt (tgt := 63) (a := k) (b := sn σ i10) hx hb dX4_findLast_29 (by decide) (by omega) (fun hq16 => ?_) (fun hq16 => ?_)
      · refine lv_iload_n hx hb dX4_findLast_63 rfl (lv_at hl 3 rfl) ?_
        refine z_ri hx hb hr hlocks hI ?_ (Nat.le_of_ble_eq_true rfl) (Nat.le_of_ble_eq_true rfl) dX4_findLast_64
        refine ⟨_, rfl, th1, _, hM1, hz2, fun _ => ⟨(by simp only [oA_findLast, oB_findLast, oC_findLast, rr_findLast, ss_findLast, hix12] <;> exact rfl), (by simp only [oA_findLast, oB_findLast, oC_findLast, rr_findLast, ss_findLast, hix12] <;> (rw [ha, show k = sn σ i10 + 1 by omega, zlst_run (i := sn σ i10 + 1 - pn σ 0) (by omega) (fun j h1 h2 z => by have := z.1; omega)]))⟩, fun q => absurd ⟨hA, hB, hC0⟩ q, hmf1⟩
      · refine lv_aload_n hx hb dX4_findLast_32 rfl (lv_at hl 0 rfl) ?_
        refine z_get hx hb hts hown zlX4 rfl 1 (by decide) (hts _ q753) rfl hI m08 rfl dX4_findLast_33 ?_
        refine lv_iload_n hx hb dX4_findLast_36 rfl (lv_at hl 1 rfl) ?_
        refine z_ald3 (k := i10) (v := B0 + 25 + 2 * i10) hx hb hI m18 (by omega) (by omega) (me18 i10 (by omega)) dX4_findLast_37 ?_
        refine lv_aload_n hx hb dX4_findLast_38 rfl (lv_at hl 0 rfl) ?_
        refine z_get hx hb hts hown zlX4 rfl 2 (by decide) (hts _ q754) rfl hI m08 rfl dX4_findLast_39 ?_
        refine lv_iconst (v := nI 0) hx hb dX4_findLast_42 (by decide) ?_
        refine z_ald3 (k := 0) (v := B0 + 34 + 2 * 0) hx hb hI m28 (by omega) (by omega) (me28 0 (by omega)) dX4_findLast_43 ?_
        refine lv_iload_n hx hb dX4_findLast_44 rfl (lv_at hl 2 rfl) ?_
        refine z_calli hI (z_V (As := [.ref (B0 + 34 + 2 * 0), .int (nI k)]) (rest := []) ⟨hx, hb, hml, hown, hts⟩ hI xrhx13 rfl (c_X3_has l G B0 F5 (B0 + 25 + 2 * i10) (B0 + 26 + 2 * i10) 60 (sn σ i10) (st σ i10) (B0 + 34 + 2 * 0) (B0 + 35 + 2 * 0) 60 (pn σ 0) (pt σ 0) k ⟨xnhx13, xrhx13, fhx13, xwhx13, xfhx13⟩ (by omega) ⟨xnhx14, xrhx14, fhx14, xwhx14, xfhx14⟩ (by omega) (by omega)) (z_cwV vX3_has hts q903 ⟨Nat.le_of_ble_eq_true rfl, Nat.le_of_ble_eq_true rfl⟩) rfl hl.1 rfl (lv_room (Nat.le_of_ble_eq_true rfl)) dX4_findLast_45 ⟨Nat.le_of_ble_eq_true rfl, Nat.le_of_ble_eq_true rfl⟩) (fun r18 F17 H locs hp19 hI => ?_)
        obtain ⟨rfl, rfl⟩ := hp19
        refine z_ifp_eq (tgt := 55) hx hb dX4_findLast_48 (by decide) (fun hq20 => ?_) (fun hq20 => ?_)
        · refine lv_iload_n hx hb dX4_findLast_55 rfl (lv_at hl 3 rfl) ?_
          refine lv_istore_n (lv' := [(2, .int a), (0, .ref (B0 + 23)), (1, .int (nI i10)), (3, .int (nI k))]) hx hb dX4_findLast_56 rfl hl (by decide) rfl (fun ls hl => ?_)
          refine lv_iinc (k := 3) (v := nI (k + 1)) (lv' := [(3, .int (nI (k + 1))), (2, .int a), (0, .ref (B0 + 23)), (1, .int (nI i10))]) hx hb dX4_findLast_57 hl rfl (nI_add k 1) (by decide) rfl (fun ls hl => ?_)
          refine lv_goto (tgt := 19) hx hb dX4_findLast_60 (by decide) ?_
          refine ih (k + 1, a) _ ls H locs (by first | omega | (dsimp only; omega)) ?_ (lv_sub hl [2, 3, 0, 1] rfl) hI
          exact ⟨rfl, by omega, by rw [zlst_f hq20, ha]⟩
        · refine lv_iload_n hx hb dX4_findLast_51 rfl (lv_at hl 2 rfl) ?_
          refine lv_goto (tgt := 56) hx hb dX4_findLast_52 (by decide) ?_
          refine lv_istore_n (lv' := [(2, .int (nI k)), (0, .ref (B0 + 23)), (1, .int (nI i10)), (3, .int (nI k))]) hx hb dX4_findLast_56 rfl hl (by decide) rfl (fun ls hl => ?_)
          refine lv_iinc (k := 3) (v := nI (k + 1)) (lv' := [(3, .int (nI (k + 1))), (2, .int (nI k)), (0, .ref (B0 + 23)), (1, .int (nI i10))]) hx hb dX4_findLast_57 hl rfl (nI_add k 1) (by decide) rfl (fun ls hl => ?_)
          refine lv_goto (tgt := 19) hx hb dX4_findLast_60 (by decide) ?_
          refine ih (k + 1, nI k) _ ls H locs (by first | omega | (dsimp only; omega)) ?_ (lv_sub hl [2, 3, 0, 1] rfl) hI
          exact ⟨rfl, by omega, by rw [zlst_t hq20]; rfl⟩
  · refine lv_iconst (v := nI 0) hx hb dX4_findLast_13 (by decide) ?_
    refine z_ri hx hb hr hlocks hI ?_ (Nat.le_of_ble_eq_true rfl) (Nat.le_of_ble_eq_true rfl) dX4_findLast_14
    exact ⟨_, rfl, th1, σ, hM1, hz2, fun q => absurd q hq9, fun _ => rfl, hmf1⟩

set_option maxHeartbeats 4000000 in
set_option maxRecDepth 100000 in
theorem c_X4_findIn (l : Launch) (G : zK) (B0 : Nat) (F : zM) (σ : Sg) (th zp0 zp1 zp2 : Int32) (hM : MS G B0 F σ th) (hK : SgOk σ) : Met l yX4_findIn (Cond.code yX4_findIn cX4_findIn 5 (some FieldType.int) :: zW) (zRm 3 69 0 0) (va_Pc [.ref (B0 + 23), .int zp0, .int zp1, .int zp2] (zPre G B0 F)) (zQi G B0 (zRP G B0 F σ (oA_findIn σ zp0 zp1 zp2) (oB_findIn σ zp0 zp1 zp2) (oC_findIn σ zp0 zp1 zp2) (ss_findIn σ zp0 zp1 zp2) (rr_findIn σ zp0 zp1 zp2))) 0 0 (zA B0) := by
  refine z_of (own := RX4) (by decide) rfl (Nat.le_of_ble_eq_true rfl) ?_
  intro p e s m below meth c ls hx hb hr hml hown hlocks hnm hts hl hI
  have hl : lv_has ls 5 [(0, .ref (B0 + 23)), (1, .int zp0), (2, .int zp1), (3, .int zp2)] := hl
  obtain ⟨m01, ⟨ma1, m11, me11⟩, ⟨mb1, m21, me21⟩, ⟨mc1, m31, me31⟩, ⟨n91, t91, m41⟩, mT1, mP1⟩ := id hM
  refine lv_aload_n hx hb dX4_findIn_0 rfl (lv_at hl 0 rfl) ?_
  refine lv_aload_n hx hb dX4_findIn_1 rfl (lv_at hl 0 rfl) ?_
  refine lv_iload_n hx hb dX4_findIn_2 rfl (lv_at hl 1 rfl) ?_
  refine lv_iload_n hx hb dX4_findIn_3 rfl (lv_at hl 2 rfl) ?_
  refine lv_iload_n hx hb dX4_findIn_4 rfl (lv_at hl 3 rfl) ?_
  refine z_calli hI (z_V (As := [.int zp0, .int zp1, .int zp2]) (rest := [.ref (B0 + 23)]) ⟨hx, hb, hml, hown, hts⟩ hI m01 rfl (c_X4_isPart l G B0 F σ th zp0 zp1 zp2 hM hK) (z_cwV vX4_isPart hts q813 ⟨Nat.le_of_ble_eq_true rfl, Nat.le_of_ble_eq_true rfl⟩) rfl hl.1 rfl (lv_room (Nat.le_of_ble_eq_true rfl)) dX4_findIn_5 ⟨Nat.le_of_ble_eq_true rfl, Nat.le_of_ble_eq_true rfl⟩) (fun r3 F2 H locs hp4 hI => ?_)
  obtain ⟨rfl, rfl⟩ := hp4
  refine lv_iconst (v := nI 1) hx hb dX4_findIn_8 (by decide) ?_
  refine z_topi (pI_1 (P := True) trivial) ?_
  refine lv_iconst (v := nI 1) hx hb dX4_findIn_9 (by decide) ?_
  refine z_topi (pI_1 (P := True) trivial) ?_
  refine z_calli hI (z_V (As := [.int (pI (okT zp0 ∧ okR (sn σ (ix zp0)) zp1 zp2)), .int (pI (True)), .int (pI (True))]) (rest := []) ⟨hx, hb, hml, hown, hts⟩ hI m01 rfl (c_X4_passes l G B0 F σ th (okT zp0 ∧ okR (sn σ (ix zp0)) zp1 zp2) (True) (True) hM) (z_cwV vX4_passes hts q788 ⟨Nat.le_of_ble_eq_true rfl, Nat.le_of_ble_eq_true rfl⟩) rfl hl.1 rfl (lv_room (Nat.le_of_ble_eq_true rfl)) dX4_findIn_10 ⟨Nat.le_of_ble_eq_true rfl, Nat.le_of_ble_eq_true rfl⟩) (fun r6 F5 H locs hp7 hI => ?_)
  obtain ⟨⟨th1, hM1, hz1⟩, rfl, ho1⟩ := hp7
  have hp1 : (okT zp0 ∧ okR (sn σ (ix zp0)) zp1 zp2) ↔ oA_findIn σ zp0 zp1 zp2 := Iff.rfl
  have hp2 : oA_findIn σ zp0 zp1 zp2 → ((True) ↔ oB_findIn σ zp0 zp1 zp2) := fun _ => Iff.rfl
  have hp3 : oA_findIn σ zp0 zp1 zp2 → oB_findIn σ zp0 zp1 zp2 → ((True) ↔ oC_findIn σ zp0 zp1 zp2) := fun _ _ => Iff.rfl
  have hz2 := zTh_cg hp1 hp2 hp3 hz1
  refine z_topi (pI_cg (zC_cg hp1 hp2 hp3)) ?_
  have hmf1 : zMf B0 F F5 := fun q hq => ho1 q (by omega)
  obtain ⟨m08, ⟨ma8, m18, me18⟩, ⟨mb8, m28, me28⟩, ⟨mc8, m38, me38⟩, ⟨n98, t98, m48⟩, mT8, mP8⟩ := id hM1
  refine z_ifp_ne (tgt := 18) hx hb dX4_findIn_13 (by decide) (fun hq9 => ?_) (fun hq9 => ?_)
  · obtain ⟨hA, hB, hC0⟩ := id hq9
    obtain ⟨hc0, hc1⟩ := id hA
    obtain ⟨i10, hi11, rfl⟩ := id hc0
    have hix12 : ix (nI i10) = i10 := ix_nI (by omega)
    have hl : lv_has ls 5 [(0, .ref (B0 + 23)), (1, .int (nI i10)), (2, .int zp1), (3, .int zp2)] := hl
    have hsbi10 := (hK.1 i10 hi11).1
    obtain ⟨a13, b14, hab15, hbn16, rfl, rfl⟩ := id hc1
    simp only [hix12] at hbn16
    have hl : lv_has ls 5 [(0, .ref (B0 + 23)), (1, .int (nI i10)), (2, .int (nI a13)), (3, .int (nI b14))] := hl
    have hx17 := mT8 i10 hi11
    obtain ⟨xnhx17, xrhx17, fhx17, xwhx17, xfhx17⟩ := id hx17
    have hx18 := mP8 0 (by decide)
    obtain ⟨xnhx18, xrhx18, fhx18, xwhx18, xfhx18⟩ := id hx18
    have hbhx18 := hK.2 0 (by decide)
    have hix19 : ix (nI a13) = a13 := ix_nI (by omega)
    have hix20 : ix (nI b14) = b14 := ix_nI (by omega)
    refine lv_aload_n hx hb dX4_findIn_18 rfl (lv_at hl 0 rfl) ?_
    refine z_get hx hb hts hown zlX4 rfl 1 (by decide) (hts _ q753) rfl hI m08 rfl dX4_findIn_19 ?_
    refine lv_iload_n hx hb dX4_findIn_22 rfl (lv_at hl 1 rfl) ?_
    refine z_ald3 (k := i10) (v := B0 + 25 + 2 * i10) hx hb hI m18 (by omega) (by omega) (me18 i10 (by omega)) dX4_findIn_23 ?_
    refine lv_aload_n hx hb dX4_findIn_24 rfl (lv_at hl 0 rfl) ?_
    refine z_get hx hb hts hown zlX4 rfl 2 (by decide) (hts _ q754) rfl hI m08 rfl dX4_findIn_25 ?_
    refine lv_iconst (v := nI 0) hx hb dX4_findIn_28 (by decide) ?_
    refine z_ald3 (k := 0) (v := B0 + 34 + 2 * 0) hx hb hI m28 (by omega) (by omega) (me28 0 (by omega)) dX4_findIn_29 ?_
    refine lv_iload_n hx hb dX4_findIn_30 rfl (lv_at hl 2 rfl) ?_
    refine z_calli hI (z_V (As := [.ref (B0 + 34 + 2 * 0), .int (nI a13)]) (rest := []) ⟨hx, hb, hml, hown, hts⟩ hI xrhx17 rfl (c_X3_find l G B0 F5 (B0 + 25 + 2 * i10) (B0 + 26 + 2 * i10) 60 (sn σ i10) (st σ i10) (B0 + 34 + 2 * 0) (B0 + 35 + 2 * 0) 60 (pn σ 0) (pt σ 0) a13 ⟨xnhx17, xrhx17, fhx17, xwhx17, xfhx17⟩ (by omega) ⟨xnhx18, xrhx18, fhx18, xwhx18, xfhx18⟩ (by omega) (by omega)) (z_cwV vX3_find hts q887 ⟨Nat.le_of_ble_eq_true rfl, Nat.le_of_ble_eq_true rfl⟩) rfl hl.1 rfl (lv_room (Nat.le_of_ble_eq_true rfl)) dX4_findIn_31 ⟨Nat.le_of_ble_eq_true rfl, Nat.le_of_ble_eq_true rfl⟩) (fun r22 F21 H locs hp23 hI => ?_)
    obtain ⟨rfl, rfl⟩ := hp23
    rcases hz : zfst (hld (st σ i10) (sn σ i10) (pt σ 0) (pn σ 0)) a13 (sn σ i10 + 1 - pn σ 0 - a13) with _ | k5
    · refine lv_istore (lv' := [(4, .int (-1)), (0, .ref (B0 + 23)), (1, .int (nI i10)), (2, .int (nI a13)), (3, .int (nI b14))]) hx hb dX4_findIn_34 hl (by decide) rfl (fun ls hl => ?_)
      refine lv_iload hx hb dX4_findIn_36 (lv_at hl 0 rfl) ?_
      refine lv_iconst (v := -1) hx hb dX4_findIn_38 (by decide) ?_
      refine lv_icmp_eq (tgt := 58) hx hb dX4_findIn_39 (by decide) (fun hq24 => ?_) (fun hq24 => ?_)
      · refine lv_iconst (v := -1) hx hb dX4_findIn_58 (by decide) ?_
        refine lv_goto (tgt := 64) hx hb dX4_findIn_59 (by decide) ?_
        refine z_ri hx hb hr hlocks hI ?_ (Nat.le_of_ble_eq_true rfl) (Nat.le_of_ble_eq_true rfl) dX4_findIn_64
        refine ⟨_, rfl, th1, _, hM1, hz2, fun _ => ⟨(by simp only [oA_findIn, oB_findIn, oC_findIn, rr_findIn, ss_findIn, hix12, hix19, hix20] <;> exact rfl), (by simp only [oA_findIn, oB_findIn, oC_findIn, rr_findIn, ss_findIn, hix12, hix19, hix20] <;> (rw [fin_0 hz (by omega)]; rfl))⟩, fun q => absurd ⟨hA, hB, hC0⟩ q, hmf1⟩
      · exact absurd rfl hq24
    · have hk5 := (zfst_some hz).2.1
      refine lv_istore (lv' := [(4, .int (nI k5)), (0, .ref (B0 + 23)), (1, .int (nI i10)), (2, .int (nI a13)), (3, .int (nI b14))]) hx hb dX4_findIn_34 hl (by decide) rfl (fun ls hl => ?_)
      refine lv_iload hx hb dX4_findIn_36 (lv_at hl 0 rfl) ?_
      refine lv_iconst (v := -1) hx hb dX4_findIn_38 (by decide) ?_
      refine lv_icmp_eq (tgt := 58) hx hb dX4_findIn_39 (by decide) (fun hq25 => ?_) (fun hq25 => ?_)
      · exact absurd hq25 (nI_m1 (by omega))
      · refine lv_iload hx hb dX4_findIn_42 (lv_at hl 0 rfl) ?_
        refine lv_aload_n hx hb dX4_findIn_44 rfl (lv_at hl 1 rfl) ?_
        refine z_get hx hb hts hown zlX4 rfl 2 (by decide) (hts _ q754) rfl hI m08 rfl dX4_findIn_45 ?_
        refine lv_iconst (v := nI 0) hx hb dX4_findIn_48 (by decide) ?_
        refine z_ald3 (k := 0) (v := B0 + 34 + 2 * 0) hx hb hI m28 (by omega) (by omega) (me28 0 (by omega)) dX4_findIn_49 ?_
        refine z_getN hx hb hts hown zlX3 rfl 1 (by decide) (List.mem_of_getElem? (i := 2) rfl) rfl hI xrhx18 rfl dX4_findIn_50 ?_
        refine lv_iadd hx hb dX4_findIn_53 ?_
        refine z_topi (nI_add k5 (pn σ 0)) ?_
        refine lv_iload_n hx hb dX4_findIn_54 rfl (lv_at hl 4 rfl) ?_
        refine z_icmp_le (tgt := 62) (a := k5 + (pn σ 0)) (b := b14) hx hb dX4_findIn_55 (by decide) (by omega) (fun hq26 => ?_) (fun hq26 => ?_)
        · refine lv_iload hx hb dX4_findIn_62 (lv_at hl 0 rfl) ?_
          refine z_ri hx hb hr hlocks hI ?_ (Nat.le_of_ble_eq_true rfl) (Nat.le_of_ble_eq_true rfl) dX4_findIn_64
          refine ⟨_, rfl, th1, _, hM1, hz2, fun _ => ⟨(by simp only [oA_findIn, oB_findIn, oC_findIn, rr_findIn, ss_findIn, hix12, hix19, hix20] <;> exact rfl), (by simp only [oA_findIn, oB_findIn, oC_findIn, rr_findIn, ss_findIn, hix12, hix19, hix20] <;> (rw [fin_y hz (by omega) (by omega)]; rfl))⟩, fun q => absurd ⟨hA, hB, hC0⟩ q, hmf1⟩
        · refine lv_iconst (v := -1) hx hb dX4_findIn_58 (by decide) ?_
          refine lv_goto (tgt := 64) hx hb dX4_findIn_59 (by decide) ?_
          refine z_ri hx hb hr hlocks hI ?_ (Nat.le_of_ble_eq_true rfl) (Nat.le_of_ble_eq_true rfl) dX4_findIn_64
          refine ⟨_, rfl, th1, _, hM1, hz2, fun _ => ⟨(by simp only [oA_findIn, oB_findIn, oC_findIn, rr_findIn, ss_findIn, hix12, hix19, hix20] <;> exact rfl), (by simp only [oA_findIn, oB_findIn, oC_findIn, rr_findIn, ss_findIn, hix12, hix19, hix20] <;> (rw [fin_n hz (by omega)]; rfl))⟩, fun q => absurd ⟨hA, hB, hC0⟩ q, hmf1⟩
  · refine lv_iconst (v := nI 0) hx hb dX4_findIn_16 (by decide) ?_
    refine z_ri hx hb hr hlocks hI ?_ (Nat.le_of_ble_eq_true rfl) (Nat.le_of_ble_eq_true rfl) dX4_findIn_17
    exact ⟨_, rfl, th1, σ, hM1, hz2, fun q => absurd q hq9, fun _ => rfl, hmf1⟩

set_option maxHeartbeats 4000000 in
set_option maxRecDepth 100000 in
theorem c_X4_count (l : Launch) (G : zK) (B0 : Nat) (F : zM) (σ : Sg) (th zp0 zp1 : Int32) (hM : MS G B0 F σ th) (hK : SgOk σ) (hbz : zp1 = nI 0 ∨ zp1 = nI 1) : Met l yX4_count (Cond.code yX4_count cX4_count 3 (some FieldType.int) :: zW) (zRm 4 93 0 0) (va_Pc [.ref (B0 + 23), .int zp0, .int zp1] (zPre G B0 F)) (zQi G B0 (zRP G B0 F σ (oA_count σ zp0 zp1) (oB_count σ zp0 zp1) (oC_count σ zp0 zp1) (ss_count σ zp0 zp1) (rr_count σ zp0 zp1))) 0 0 (zA B0) := by
  refine z_of (own := RX4) (by decide) rfl (Nat.le_of_ble_eq_true rfl) ?_
  intro p e s m below meth c ls hx hb hr hml hown hlocks hnm hts hl hI
  have hl : lv_has ls 3 [(0, .ref (B0 + 23)), (1, .int zp0), (2, .int zp1)] := hl
  obtain ⟨m01, ⟨ma1, m11, me11⟩, ⟨mb1, m21, me21⟩, ⟨mc1, m31, me31⟩, ⟨n91, t91, m41⟩, mT1, mP1⟩ := id hM
  refine lv_aload_n hx hb dX4_count_0 rfl (lv_at hl 0 rfl) ?_
  refine lv_iload_n hx hb dX4_count_1 rfl (lv_at hl 1 rfl) ?_
  refine z_calli hI (z_S (As := [.int zp0]) (rest := [.ref (B0 + 23)]) ⟨hx, hb, hml, hown, hts⟩ hI (c_X4_isText l G B0 F zp0) (z_cwS vX4_isText hts q772 ⟨Nat.le_of_ble_eq_true rfl, Nat.le_of_ble_eq_true rfl⟩) rfl hl.1 rfl (lv_room (Nat.le_of_ble_eq_true rfl)) dX4_count_2 ⟨Nat.le_of_ble_eq_true rfl, Nat.le_of_ble_eq_true rfl⟩) (fun r3 F2 H locs hp4 hI => ?_)
  obtain ⟨rfl, rfl⟩ := hp4
  refine lv_iconst (v := nI 1) hx hb dX4_count_5 (by decide) ?_
  refine z_topi (pI_1 (P := True) trivial) ?_
  refine lv_iconst (v := nI 1) hx hb dX4_count_6 (by decide) ?_
  refine z_topi (pI_1 (P := True) trivial) ?_
  refine z_calli hI (z_V (As := [.int (pI (okT zp0)), .int (pI (True)), .int (pI (True))]) (rest := []) ⟨hx, hb, hml, hown, hts⟩ hI m01 rfl (c_X4_passes l G B0 F σ th (okT zp0) (True) (True) hM) (z_cwV vX4_passes hts q788 ⟨Nat.le_of_ble_eq_true rfl, Nat.le_of_ble_eq_true rfl⟩) rfl hl.1 rfl (lv_room (Nat.le_of_ble_eq_true rfl)) dX4_count_7 ⟨Nat.le_of_ble_eq_true rfl, Nat.le_of_ble_eq_true rfl⟩) (fun r6 F5 H locs hp7 hI => ?_)
  obtain ⟨⟨th1, hM1, hz1⟩, rfl, ho1⟩ := hp7
  have hp1 : (okT zp0) ↔ oA_count σ zp0 zp1 := Iff.rfl
  have hp2 : oA_count σ zp0 zp1 → ((True) ↔ oB_count σ zp0 zp1) := fun _ => Iff.rfl
  have hp3 : oA_count σ zp0 zp1 → oB_count σ zp0 zp1 → ((True) ↔ oC_count σ zp0 zp1) := fun _ _ => Iff.rfl
  have hz2 := zTh_cg hp1 hp2 hp3 hz1
  refine z_topi (pI_cg (zC_cg hp1 hp2 hp3)) ?_
  have hmf1 : zMf B0 F F5 := fun q hq => ho1 q (by omega)
  obtain ⟨m08, ⟨ma8, m18, me18⟩, ⟨mb8, m28, me28⟩, ⟨mc8, m38, me38⟩, ⟨n98, t98, m48⟩, mT8, mP8⟩ := id hM1
  refine z_ifp_eq (tgt := 32) hx hb dX4_count_10 (by decide) (fun hq9 => ?_) (fun hq9 => ?_)
  · refine lv_iconst (v := nI 0) hx hb dX4_count_32 (by decide) ?_
    refine z_ri hx hb hr hlocks hI ?_ (Nat.le_of_ble_eq_true rfl) (Nat.le_of_ble_eq_true rfl) dX4_count_33
    exact ⟨_, rfl, th1, σ, hM1, hz2, fun q => absurd q hq9, fun _ => rfl, hmf1⟩
  · obtain ⟨hA, hB, hC0⟩ := id hq9
    have hc0 := hA
    obtain ⟨i10, hi11, rfl⟩ := id hc0
    have hix12 : ix (nI i10) = i10 := ix_nI (by omega)
    have hl : lv_has ls 3 [(0, .ref (B0 + 23)), (1, .int (nI i10)), (2, .int zp1)] := hl
    have hsbi10 := (hK.1 i10 hi11).1
    have hx13 := mT8 i10 hi11
    obtain ⟨xnhx13, xrhx13, fhx13, xwhx13, xfhx13⟩ := id hx13
    have hx14 := mP8 0 (by decide)
    obtain ⟨xnhx14, xrhx14, fhx14, xwhx14, xfhx14⟩ := id hx14
    have hbhx14 := hK.2 0 (by decide)
    obtain ⟨ap, hap, rfl⟩ : ∃ ap, ap ≤ 1 ∧ zp1 = nI ap := hbz.elim (fun e => ⟨0, by decide, e⟩) (fun e => ⟨1, by decide, e⟩)
    have hl : lv_has ls 3 [(0, .ref (B0 + 23)), (1, .int (nI i10)), (2, .int (nI ap))] := hl
    refine lv_aload_n hx hb dX4_count_13 rfl (lv_at hl 0 rfl) ?_
    refine z_get hx hb hts hown zlX4 rfl 1 (by decide) (hts _ q753) rfl hI m08 rfl dX4_count_14 ?_
    refine lv_iload_n hx hb dX4_count_17 rfl (lv_at hl 1 rfl) ?_
    refine z_ald3 (k := i10) (v := B0 + 25 + 2 * i10) hx hb hI m18 (by omega) (by omega) (me18 i10 (by omega)) dX4_count_18 ?_
    refine lv_aload_n hx hb dX4_count_19 rfl (lv_at hl 0 rfl) ?_
    refine z_get hx hb hts hown zlX4 rfl 2 (by decide) (hts _ q754) rfl hI m08 rfl dX4_count_20 ?_
    refine lv_iconst (v := nI 0) hx hb dX4_count_23 (by decide) ?_
    refine z_ald3 (k := 0) (v := B0 + 34 + 2 * 0) hx hb hI m28 (by omega) (by omega) (me28 0 (by omega)) dX4_count_24 ?_
    refine lv_iload_n hx hb dX4_count_25 rfl (lv_at hl 2 rfl) ?_
    refine z_calli hI (z_V (As := [.ref (B0 + 34 + 2 * 0), .int (nI ap)]) (rest := []) ⟨hx, hb, hml, hown, hts⟩ hI xrhx13 rfl (c_X3_count l G B0 F5 (B0 + 25 + 2 * i10) (B0 + 26 + 2 * i10) 60 (sn σ i10) (st σ i10) (B0 + 34 + 2 * 0) (B0 + 35 + 2 * 0) 60 (pn σ 0) (pt σ 0) ap ⟨xnhx13, xrhx13, fhx13, xwhx13, xfhx13⟩ (by omega) ⟨xnhx14, xrhx14, fhx14, xwhx14, xfhx14⟩ (by omega) (by omega)) (z_cwV vX3_count hts q912 ⟨Nat.le_of_ble_eq_true rfl, Nat.le_of_ble_eq_true rfl⟩) rfl hl.1 rfl (lv_room (Nat.le_of_ble_eq_true rfl)) dX4_count_26 ⟨Nat.le_of_ble_eq_true rfl, Nat.le_of_ble_eq_true rfl⟩) (fun r16 F15 H locs hp17 hI => ?_)
    obtain ⟨rfl, hp17a, hp17b⟩ := hp17
    refine lv_goto (tgt := 33) hx hb dX4_count_29 (by decide) ?_
    refine z_ri hx hb hr hlocks hI ?_ (Nat.le_of_ble_eq_true rfl) (Nat.le_of_ble_eq_true rfl) dX4_count_33
    refine ⟨_, rfl, th1, _, hM1, hz2, fun _ => ⟨(by simp only [oA_count, oB_count, oC_count, rr_count, ss_count, hix12] <;> exact rfl), (by simp only [oA_count, oB_count, oC_count, rr_count, ss_count, hix12] <;> exact ct_sel hap hp17a hp17b)⟩, fun q => absurd ⟨hA, hB, hC0⟩ q, hmf1⟩

set_option maxHeartbeats 4000000 in
set_option maxRecDepth 100000 in
theorem c_X4_frequency (l : Launch) (G : zK) (B0 : Nat) (F : zM) (σ : Sg) (th zp0 zp1 : Int32) (hM : MS G B0 F σ th) (hK : SgOk σ) : Met l yX4_frequency (Cond.code yX4_frequency cX4_frequency 3 (some FieldType.int) :: zW) (zRm 2 45 0 0) (va_Pc [.ref (B0 + 23), .int zp0, .int zp1] (zPre G B0 F)) (zQi G B0 (zRP G B0 F σ (oA_frequency σ zp0 zp1) (oB_frequency σ zp0 zp1) (oC_frequency σ zp0 zp1) (ss_frequency σ zp0 zp1) (rr_frequency σ zp0 zp1))) 0 0 (zA B0) := by
  refine z_of (own := RX4) (by decide) rfl (Nat.le_of_ble_eq_true rfl) ?_
  intro p e s m below meth c ls hx hb hr hml hown hlocks hnm hts hl hI
  have hl : lv_has ls 3 [(0, .ref (B0 + 23)), (1, .int zp0), (2, .int zp1)] := hl
  obtain ⟨m01, ⟨ma1, m11, me11⟩, ⟨mb1, m21, me21⟩, ⟨mc1, m31, me31⟩, ⟨n91, t91, m41⟩, mT1, mP1⟩ := id hM
  refine lv_aload_n hx hb dX4_frequency_0 rfl (lv_at hl 0 rfl) ?_
  refine z_join (σ := Int32) (fun x : Int32 => [(0, .ref (B0 + 23)), (1, .int zp0), (2, .int zp1)]) (fun x : Int32 => [.int x, .ref (B0 + 23)]) (fun (x : Int32) (Fx : zM) => F = Fx ∧ x = pI (okT zp0 ∧ okW zp1)) 20 3 G B0 ?_ (fun jn20 => ?_)
  · intro x F2 ls H locs hi hl hI
    have hl : lv_has ls 3 [(0, .ref (B0 + 23)), (1, .int zp0), (2, .int zp1)] := hl
    obtain ⟨hF, hx9⟩ := hi
    subst hF
    subst hx9
    refine lv_iconst (v := nI 1) hx hb dX4_frequency_20 (by decide) ?_
    refine z_topi (pI_1 (P := True) trivial) ?_
    refine lv_iconst (v := nI 1) hx hb dX4_frequency_21 (by decide) ?_
    refine z_topi (pI_1 (P := True) trivial) ?_
    refine z_calli hI (z_V (As := [.int (pI (okT zp0 ∧ okW zp1)), .int (pI (True)), .int (pI (True))]) (rest := []) ⟨hx, hb, hml, hown, hts⟩ hI m01 rfl (c_X4_passes l G B0 F σ th (okT zp0 ∧ okW zp1) (True) (True) hM) (z_cwV vX4_passes hts q788 ⟨Nat.le_of_ble_eq_true rfl, Nat.le_of_ble_eq_true rfl⟩) rfl hl.1 rfl (lv_room (Nat.le_of_ble_eq_true rfl)) dX4_frequency_22 ⟨Nat.le_of_ble_eq_true rfl, Nat.le_of_ble_eq_true rfl⟩) (fun r4 F3 H locs hp5 hI => ?_)
    obtain ⟨⟨th1, hM1, hz1⟩, rfl, ho1⟩ := hp5
    have hp1 : (okT zp0 ∧ okW zp1) ↔ oA_frequency σ zp0 zp1 := Iff.rfl
    have hp2 : oA_frequency σ zp0 zp1 → ((True) ↔ oB_frequency σ zp0 zp1) := fun _ => Iff.rfl
    have hp3 : oA_frequency σ zp0 zp1 → oB_frequency σ zp0 zp1 → ((True) ↔ oC_frequency σ zp0 zp1) := fun _ _ => Iff.rfl
    have hz2 := zTh_cg hp1 hp2 hp3 hz1
    refine z_topi (pI_cg (zC_cg hp1 hp2 hp3)) ?_
    have hmf1 : zMf B0 F F3 := fun q hq => ho1 q (by omega)
    obtain ⟨m06, ⟨ma6, m16, me16⟩, ⟨mb6, m26, me26⟩, ⟨mc6, m36, me36⟩, ⟨n96, t96, m46⟩, mT6, mP6⟩ := id hM1
    refine z_ifp_eq (tgt := 41) hx hb dX4_frequency_25 (by decide) (fun hq7 => ?_) (fun hq7 => ?_)
    · refine lv_iconst (v := nI 0) hx hb dX4_frequency_41 (by decide) ?_
      refine z_ri hx hb hr hlocks hI ?_ (Nat.le_of_ble_eq_true rfl) (Nat.le_of_ble_eq_true rfl) dX4_frequency_42
      exact ⟨_, rfl, th1, σ, hM1, hz2, fun q => absurd q hq7, fun _ => rfl, hmf1⟩
    · obtain ⟨hA, hB, hC0⟩ := id hq7
      obtain ⟨hc0, hc1⟩ := id hA
      obtain ⟨i8, hi9, rfl⟩ := id hc0
      have hix10 : ix (nI i8) = i8 := ix_nI (by omega)
      have hl : lv_has ls 3 [(0, .ref (B0 + 23)), (1, .int (nI i8)), (2, .int zp1)] := hl
      have hsbi8 := (hK.1 i8 hi9).1
      have hx11 := mT6 i8 hi9
      obtain ⟨xnhx11, xrhx11, fhx11, xwhx11, xfhx11⟩ := id hx11
      refine lv_aload_n hx hb dX4_frequency_28 rfl (lv_at hl 0 rfl) ?_
      refine z_get hx hb hts hown zlX4 rfl 1 (by decide) (hts _ q753) rfl hI m06 rfl dX4_frequency_29 ?_
      refine lv_iload_n hx hb dX4_frequency_32 rfl (lv_at hl 1 rfl) ?_
      refine z_ald3 (k := i8) (v := B0 + 25 + 2 * i8) hx hb hI m16 (by omega) (by omega) (me16 i8 (by omega)) dX4_frequency_33 ?_
      refine lv_iload_n hx hb dX4_frequency_34 rfl (lv_at hl 2 rfl) ?_
      refine z_calli hI (z_V (As := [.int zp1]) (rest := []) ⟨hx, hb, hml, hown, hts⟩ hI xrhx11 rfl (c_X3_often l G B0 F3 (B0 + 25 + 2 * i8) (B0 + 26 + 2 * i8) 60 (sn σ i8) (st σ i8) zp1 ⟨xnhx11, xrhx11, fhx11, xwhx11, xfhx11⟩ (by omega)) (z_cwV vX3_often hts q931 ⟨Nat.le_of_ble_eq_true rfl, Nat.le_of_ble_eq_true rfl⟩) rfl hl.1 rfl (lv_room (Nat.le_of_ble_eq_true rfl)) dX4_frequency_35 ⟨Nat.le_of_ble_eq_true rfl, Nat.le_of_ble_eq_true rfl⟩) (fun r13 F12 H locs hp14 hI => ?_)
      obtain ⟨rfl, rfl⟩ := hp14
      refine lv_goto (tgt := 42) hx hb dX4_frequency_38 (by decide) ?_
      refine z_ri hx hb hr hlocks hI ?_ (Nat.le_of_ble_eq_true rfl) (Nat.le_of_ble_eq_true rfl) dX4_frequency_42
      refine ⟨_, rfl, th1, _, hM1, hz2, fun _ => ⟨(by simp only [oA_frequency, oB_frequency, oC_frequency, rr_frequency, ss_frequency, hix10] <;> exact rfl), (by simp only [oA_frequency, oB_frequency, oC_frequency, rr_frequency, ss_frequency, hix10] <;> exact rfl)⟩, fun q => absurd ⟨hA, hB, hC0⟩ q, hmf1⟩
  · refine lv_iload_n hx hb dX4_frequency_1 rfl (lv_at hl 1 rfl) ?_
    refine z_calli hI (z_S (As := [.int zp0]) (rest := [.ref (B0 + 23)]) ⟨hx, hb, hml, hown, hts⟩ hI (c_X4_isText l G B0 F zp0) (z_cwS vX4_isText hts q772 ⟨Nat.le_of_ble_eq_true rfl, Nat.le_of_ble_eq_true rfl⟩) rfl hl.1 rfl (lv_room (Nat.le_of_ble_eq_true rfl)) dX4_frequency_2 ⟨Nat.le_of_ble_eq_true rfl, Nat.le_of_ble_eq_true rfl⟩) (fun r16 F15 H locs hp17 hI => ?_)
    obtain ⟨rfl, rfl⟩ := hp17
    refine z_ifp_eq (tgt := 19) hx hb dX4_frequency_5 (by decide) (fun hq18 => ?_) (fun hq18 => ?_)
    · refine lv_iconst (v := nI 0) hx hb dX4_frequency_19 (by decide) ?_
      refine jn20 (nI 0) _ ls H locs ?_ (lv_sub hl [0, 1, 2] rfl) hI
      exact ⟨rfl, pI_f (fun z => by have z2 := z.1; first | exact hq18 z2 | (first | exact hq18 z2 | exact i_le_n.mp z2 hq18 | exact l_le_n.mp z2 (lg_gt.mp hq18) | exact l_le_n.mp z2 (lg_lt.mp hq18) | exact hq18 ((in_pl1 (by omega)).mpr z2) | omega))⟩
    · refine lv_iload_n hx hb dX4_frequency_8 rfl (lv_at hl 2 rfl) ?_
      refine z_calli hI (z_S (As := [.int zp1]) (rest := [.ref (B0 + 23)]) ⟨hx, hb, hml, hown, hts⟩ hI (c_X4_isWord l G B0 F zp1) (z_cwS vX4_isWord hts q779 ⟨Nat.le_of_ble_eq_true rfl, Nat.le_of_ble_eq_true rfl⟩) rfl hl.1 rfl (lv_room (Nat.le_of_ble_eq_true rfl)) dX4_frequency_9 ⟨Nat.le_of_ble_eq_true rfl, Nat.le_of_ble_eq_true rfl⟩) (fun r20 F19 H locs hp21 hI => ?_)
      obtain ⟨rfl, rfl⟩ := hp21
      refine z_ifp_eq (tgt := 19) hx hb dX4_frequency_12 (by decide) (fun hq22 => ?_) (fun hq22 => ?_)
      · refine lv_iconst (v := nI 0) hx hb dX4_frequency_19 (by decide) ?_
        refine jn20 (nI 0) _ ls H locs ?_ (lv_sub hl [0, 1, 2] rfl) hI
        exact ⟨rfl, pI_f (fun z => by have z2 := z.2; first | exact hq22 z2 | (first | exact hq22 z2 | exact i_le_n.mp z2 hq22 | exact l_le_n.mp z2 (lg_gt.mp hq22) | exact l_le_n.mp z2 (lg_lt.mp hq22) | exact hq22 ((in_pl1 (by omega)).mpr z2) | omega))⟩
      · refine lv_iconst (v := nI 1) hx hb dX4_frequency_15 (by decide) ?_
        refine lv_goto (tgt := 20) hx hb dX4_frequency_16 (by decide) ?_
        refine jn20 (nI 1) _ ls H locs ?_ (lv_sub hl [0, 1, 2] rfl) hI
        exact ⟨rfl, pI_t ⟨(by first | exact hq18 | exact i_le_n.mpr hq18 | exact l_le_n.mpr (fun q => hq18 (lg_gt.mpr q)) | exact l_le_n.mpr (fun q => hq18 (lg_lt.mpr q)) | exact (in_pl1 (by omega)).mp hq18 | omega), (by first | exact hq22 | exact i_le_n.mpr hq22 | exact l_le_n.mpr (fun q => hq22 (lg_gt.mpr q)) | exact l_le_n.mpr (fun q => hq22 (lg_lt.mpr q)) | exact (in_pl1 (by omega)).mp hq22 | omega)⟩⟩

