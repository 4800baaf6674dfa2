theorem i_lt_of {a b : Int32} (h : a ≠ b) (h2 : a ≤ b) : a < b := by
  rw [Int32.le_iff_toInt_le] at h2
  rw [Int32.lt_iff_toInt_lt]
  have h3 : ¬ a.toInt = b.toInt := fun e => h (Int32.toInt_inj.mp e)
  omega
theorem i_trans {a b c : Int32} (h : a < b) (h2 : ¬ c < b) : a < c := by
  rw [Int32.lt_iff_toInt_lt] at *
  omega
theorem i_irr {a b : Int32} (h : a < b) : a ≠ b := fun e => by
  rw [Int32.lt_iff_toInt_lt, e] at h
  omega
theorem i_asym {a b : Int32} (h : a < b) : ¬ b < a := by
  rw [Int32.lt_iff_toInt_lt] at *
  omega
/-- in order: all behind k are at least as great -/
theorem isr_up {ρ : Nat → Int32} {o : Int32} {t : Nat → Int32} {n k : Nat} (h : isr ρ o t n) {x : Int32} (hx : x < kv ρ o (t k)) : ∀ j, k ≤ j → j < n → x < kv ρ o (t j)
  | 0, h1, _ => by rw [show k = 0 by omega] at hx; exact hx
  | j + 1, h1, h2 => by
    by_cases q : k = j + 1
    · rw [← q]; exact hx
    · exact i_trans (isr_up h hx j (by omega) (by omega)) (h (j + 1) (by omega) h2)
theorem zct_all {P : Nat → Prop} : ∀ {k : Nat}, (∀ j, j < k → P j) → zct P k = k
  | 0, _ => rfl
  | k + 1, h => by rw [zct_t (h k (Nat.lt_succ_self _)), zct_all (fun j hj => h j (by omega))]
theorem srh_hi {ρ : Nat → Int32} {o w : Int32} {t : Nat → Int32} {n k : Nat} (hs : isr ρ o t n) (hk : k < n) (h1 : ∀ j, j < k → kv ρ o (t j) < kv ρ o w) (h2 : kv ρ o w < kv ρ o (t k)) : nI k = srr ρ o t n w := by
  have hu := isr_up hs h2
  unfold srr
  rw [if_neg, zct_run (i := k) (k := n) (by omega) (fun j a b => i_asym (hu j a b)), zct_all h1]
  rintro ⟨j, hj, e⟩
  by_cases q : j < k
  · exact i_irr (h1 j q) e
  · exact i_irr (hu j (by omega) hj) e.symm
theorem srh_end {ρ : Nat → Int32} {o w : Int32} {t : Nat → Int32} {n : Nat} (h1 : ∀ j, j < n → kv ρ o (t j) < kv ρ o w) : nI n = srr ρ o t n w := by
  unfold srr
  rw [if_neg, zct_all h1]
  rintro ⟨j, hj, e⟩
  exact i_irr (h1 j hj) e
theorem srh_y {ρ : Nat → Int32} {o w : Int32} {t : Nat → Int32} {n k : Nat} (hk : k < n) (e : kv ρ o (t k) = kv ρ o w) : (-2 : Int32) = srr ρ o t n w := (if_pos ⟨k, hk, e⟩).symm
set_option maxHeartbeats 4000000 in
set_option maxRecDepth 100000 in
theorem c_X2_search (l : Launch) (hl0 : l.stackTraces = false) (G : zK) (B0 : Nat) (F : zM) (σ : Sg) (zp0 zp1 zp2 : Int32) (hC : CS G B0 F σ) (hK : SgOk σ) : vx_Met l yX2_search (Cond.code yX2_search cX2_search 8 (some FieldType.int) :: zW) (zRm 7 111 4 24) (va_Pc [.ref B0, .int zp0, .int zp1, .int zp2] (zPre G B0 F)) (zQi G B0 (fun r' F' => oA_search σ zp0 zp1 zp2 ∧ oB_search σ zp0 zp1 zp2 ∧ oC_search σ zp0 zp1 zp2 ∧ r' = rr_search σ zp0 zp1 zp2 ∧ CS G B0 F' (ss_search σ zp0 zp1 zp2) ∧ zCf B0 F F')) (zXC G B0 F (fun E => zPX zEI zEA zES (oA_search σ zp0 zp1 zp2) (oB_search σ zp0 zp1 zp2) (oC_search σ zp0 zp1 zp2) E)) 4 24 (zA B0) := by
  refine z_ofx (own := RX2) (by decide) rfl (Nat.le_of_ble_eq_true rfl) ?_
  intro p e s m below meth c ls hx hb hr hml hown hlocks hout hts hl hI
  have hl : lv_has ls 8 [(0, .ref B0), (1, .int zp0), (2, .int zp1), (3, .int zp2)] := hl
  obtain ⟨y01, ⟨fa1, y11, e11⟩, ⟨fb1, y21, e21⟩, ⟨fc1, y31, e31⟩, ⟨n41, t41, y41⟩, ⟨n61, t61, y61⟩, ⟨n81, t81, y81⟩, ⟨fd1, y101⟩, yT1, yP1⟩ := id hC
  refine lv_aload_n hx hb dX2_search_0 rfl (lv_at hl 0 rfl) ?_
  refine lv_iload_n hx hb dX2_search_1 rfl (lv_at hl 1 rfl) ?_
  refine z_xcallr hI (z_xV (As := [.int zp0]) (rest := []) ⟨hx, hb, hml, hown, hts⟩ hI y01 rfl (c_X2_textAt l hl0 G B0 F σ zp0 hC) (z_cwV vX2_textAt hts q71 ⟨Nat.le_of_ble_eq_true rfl, Nat.le_of_ble_eq_true rfl⟩) rfl hl.1 rfl (lv_room (Nat.le_of_ble_eq_true rfl)) dX2_search_2 ⟨Nat.le_of_ble_eq_true rfl, Nat.le_of_ble_eq_true rfl⟩) (z_out hout hlocks (fun E hE => Or.inl ⟨hE.1, fun q => hE.2 (by first | exact q.1 | (simp only [oA_search, oB_search, oC_search, rr_search, ss_search] at q; exact q.1))⟩) (Nat.le_of_ble_eq_true rfl) (Nat.le_of_ble_eq_true rfl)) (fun r3 F2 H locs hp4 hI => ?_)
  obtain ⟨rfl, i5, hi6, rfl, rfl⟩ := hp4
  have hix7 : ix (nI i5) = i5 := ix_nI (by omega)
  have hl : lv_has ls 8 [(0, .ref B0), (1, .int (nI i5)), (2, .int zp1), (3, .int zp2)] := hl
  have hx8 := yT1 i5 hi6
  obtain ⟨xnhx8, xrhx8, fhx8, xwhx8, xfhx8⟩ := id hx8
  refine lv_astore (lv' := [(4, .ref (B0 + 11 + 2 * i5)), (0, .ref B0), (1, .int (nI i5)), (2, .int zp1), (3, .int zp2)]) hx hb dX2_search_5 hl (by decide) rfl (fun ls hl => ?_)
  refine lv_iload_n hx hb dX2_search_7 rfl (lv_at hl 4 rfl) ?_
  refine z_xcallv hI (z_xS (As := [.int zp2]) (rest := []) ⟨hx, hb, hml, hown, hts⟩ hI (c_X2_requireWord l hl0 G B0 F zp2) (z_cwS vX2_requireWord hts q145 ⟨Nat.le_of_ble_eq_true rfl, Nat.le_of_ble_eq_true rfl⟩) rfl hl.1 rfl (lv_room (Nat.le_of_ble_eq_true rfl)) dX2_search_8 ⟨Nat.le_of_ble_eq_true rfl, Nat.le_of_ble_eq_true rfl⟩) (z_out hout hlocks (fun E hE => Or.inl ⟨hE.1, fun q => hE.2 (by first | exact q.2 | (simp only [oA_search, oB_search, oC_search, rr_search, ss_search, hix7] at q; exact q.2))⟩) (Nat.le_of_ble_eq_true rfl) (Nat.le_of_ble_eq_true rfl)) (fun F9 H locs hp11 hI => ?_)
  obtain ⟨rfl, hp11⟩ := hp11
  refine lv_iload_n hx hb dX2_search_11 rfl (lv_at hl 3 rfl) ?_
  refine z_xcallv hI (z_xS (As := [.int zp1]) (rest := []) ⟨hx, hb, hml, hown, hts⟩ hI (c_X2_requireOrder l hl0 G B0 F zp1) (z_cwS vX2_requireOrder hts q473 ⟨Nat.le_of_ble_eq_true rfl, Nat.le_of_ble_eq_true rfl⟩) rfl hl.1 rfl (lv_room (Nat.le_of_ble_eq_true rfl)) dX2_search_12 ⟨Nat.le_of_ble_eq_true rfl, Nat.le_of_ble_eq_true rfl⟩) (z_out hout hlocks (fun E hE => Or.inr (Or.inl ⟨hE.1, (by simp only [oA_search, oB_search, oC_search, rr_search, ss_search, hix7] <;> exact ⟨⟨i5, hi6, rfl⟩, hp11⟩), fun q => hE.2 (by simp only [oA_search, oB_search, oC_search, rr_search, ss_search, hix7] at q; exact q)⟩)) (Nat.le_of_ble_eq_true rfl) (Nat.le_of_ble_eq_true rfl)) (fun F12 H locs hp14 hI => ?_)
  obtain ⟨rfl, hp14⟩ := hp14
  refine lv_aload_n hx hb dX2_search_15 rfl (lv_at hl 1 rfl) ?_
  refine lv_aload hx hb dX2_search_16 (lv_at hl 0 rfl) ?_
  refine lv_iload_n hx hb dX2_search_18 rfl (lv_at hl 3 rfl) ?_
  refine z_calli hI (z_V (As := [.ref (B0 + 11 + 2 * i5), .int zp1]) (rest := []) ⟨hx, hb, hml, hown, hts⟩ hI y01 rfl (c_X2_isInOrder l G B0 F (B0 + 11 + 2 * i5) (B0 + 12 + 2 * i5) 60 (sn σ i5) (st σ i5) zp1 (rk σ) hC.K ⟨xnhx8, xrhx8, fhx8, xwhx8, xfhx8⟩ (by decide) (hK.w hi6)) (z_cwV vX2_isInOrder hts q520 ⟨Nat.le_of_ble_eq_true rfl, Nat.le_of_ble_eq_true rfl⟩) rfl hl.1 rfl (lv_room (Nat.le_of_ble_eq_true rfl)) dX2_search_19 ⟨Nat.le_of_ble_eq_true rfl, Nat.le_of_ble_eq_true rfl⟩) (fun r16 F15 H locs hp17 hI => ?_)
  obtain ⟨rfl, rfl⟩ := hp17
  refine z_ifp_ne (tgt := 35) hx hb dX2_search_22 (by decide) (fun hq18 => ?_) (fun hq18 => ?_)
  · refine lv_aload_n hx hb dX2_search_35 rfl (lv_at hl 1 rfl) ?_
    refine lv_iload_n hx hb dX2_search_36 rfl (lv_at hl 4 rfl) ?_
    refine lv_iload_n hx hb dX2_search_37 rfl (lv_at hl 3 rfl) ?_
    refine z_calli hI (z_V (As := [.int zp2, .int zp1]) (rest := []) ⟨hx, hb, hml, hown, hts⟩ hI y01 rfl (c_X2_keyOf l G B0 F zp1 zp2 (rk σ) hC.K hp11) (z_cwV vX2_keyOf hts q477 ⟨Nat.le_of_ble_eq_true rfl, Nat.le_of_ble_eq_true rfl⟩) rfl hl.1 rfl (lv_room (Nat.le_of_ble_eq_true rfl)) dX2_search_38 ⟨Nat.le_of_ble_eq_true rfl, Nat.le_of_ble_eq_true rfl⟩) (fun r20 F19 H locs hp21 hI => ?_)
    obtain ⟨rfl, rfl⟩ := hp21
    refine lv_istore (lv' := [(5, .int (kv (rk σ) zp1 zp2)), (4, .ref (B0 + 11 + 2 * i5)), (0, .ref B0), (1, .int (nI i5)), (2, .int zp1), (3, .int zp2)]) hx hb dX2_search_41 hl (by decide) rfl (fun ls hl => ?_)
    refine lv_iconst (v := nI 0) hx hb dX2_search_43 (by decide) ?_
    refine lv_istore (lv' := [(6, .int (nI 0)), (5, .int (kv (rk σ) zp1 zp2)), (4, .ref (B0 + 11 + 2 * i5)), (0, .ref B0), (1, .int (nI i5)), (2, .int zp1), (3, .int zp2)]) hx hb dX2_search_44 hl (by decide) rfl (fun ls hl => ?_)
    refine z_loop (σ := Nat) (fun k : Nat => [(0, .ref B0), (1, .int (nI i5)), (2, .int zp1), (3, .int zp2), (4, .ref (B0 + 11 + 2 * i5)), (5, .int (kv (rk σ) zp1 zp2)), (6, .int (nI k))]) (fun (k : Nat) (Fx : zM) => F = Fx ∧ k ≤ sn σ i5 ∧ ∀ j, j < k → kv (rk σ) zp1 (st σ i5 j) < kv (rk σ) zp1 zp2) (fun k : Nat => sn σ i5 - k) 0 (nL := 8) (st := []) ?_ (lv_sub hl [3, 4, 5, 6, 2, 1, 0] rfl) hI ?_
    · exact ⟨rfl, Nat.zero_le _, fun j hj => absurd hj (Nat.not_lt_zero _)⟩
    · intro k F22 ls H locs hi hl hI ih
      have hl : lv_has ls 8 [(0, .ref B0), (1, .int (nI i5)), (2, .int zp1), (3, .int zp2), (4, .ref (B0 + 11 + 2 * i5)), (5, .int (kv (rk σ) zp1 zp2)), (6, .int (nI k))] := hl
      obtain ⟨hF, hk1, hk2⟩ := hi
      subst hF
      refine lv_iload hx hb dX2_search_46 (lv_at hl 6 rfl) ?_
      refine lv_aload hx hb dX2_search_48 (lv_at hl 4 rfl) ?_
      refine z_getN hx hb hts hown zlX1 rfl 1 (by decide) (List.mem_of_getElem? (i := 0) rfl) rfl hI xrhx8 rfl dX2_search_50 ?_
      refine z_icmp_ge (tgt := 97) (a := k) (b := sn σ i5) hx hb dX2_search_53 (by decide) (by omega) (fun hq23 => ?_) (fun hq23 => ?_)
      · refine lv_aload hx hb dX2_search_97 (lv_at hl 4 rfl) ?_
        refine z_getN hx hb hts hown zlX1 rfl 1 (by decide) (List.mem_of_getElem? (i := 0) rfl) rfl hI xrhx8 rfl dX2_search_99 ?_
        refine vx_ret (z_ri hx hb hr hlocks hI ?_ (Nat.le_of_ble_eq_true rfl) (Nat.le_of_ble_eq_true rfl) dX2_search_102)
        refine ⟨_, rfl, (by simp only [oA_search, oB_search, oC_search, rr_search, ss_search, hix7] <;> exact ⟨⟨i5, hi6, rfl⟩, hp11⟩), (by simp only [oA_search, oB_search, oC_search, rr_search, ss_search, hix7] <;> exact hp14), (by simp only [oA_search, oB_search, oC_search, rr_search, ss_search, hix7] <;> exact hq18), (by simp only [oA_search, oB_search, oC_search, rr_search, ss_search, hix7] <;> exact srh_end (n := sn σ i5) (fun j hj => hk2 j (by omega))), (by simp only [oA_search, oB_search, oC_search, rr_search, ss_search, hix7] <;> exact hC), zCf.rf⟩
      · refine lv_aload_n hx hb dX2_search_56 rfl (lv_at hl 0 rfl) ?_
        refine lv_aload hx hb dX2_search_57 (lv_at hl 4 rfl) ?_
        refine z_getN hx hb hts hown zlX1 rfl 0 (by decide) (List.mem_of_getElem? (i := 1) rfl) rfl hI xrhx8 rfl dX2_search_59 ?_
        refine lv_iload hx hb dX2_search_62 (lv_at hl 6 rfl) ?_
        refine z_ild (k := k) (v := st σ i5 k) hx hb hI xwhx8 (by omega) (by omega) (xfhx8 k (by omega)) dX2_search_64 ?_
        refine lv_iload_n hx hb dX2_search_65 rfl (lv_at hl 2 rfl) ?_
        refine z_calli hI (z_V (As := [.int (st σ i5 k), .int zp1]) (rest := []) ⟨hx, hb, hml, hown, hts⟩ hI y01 rfl (c_X2_keyOf l G B0 F zp1 (st σ i5 k) (rk σ) hC.K ((hK.w hi6) k (by omega))) (z_cwV vX2_keyOf hts q477 ⟨Nat.le_of_ble_eq_true rfl, Nat.le_of_ble_eq_true rfl⟩) rfl hl.1 rfl (lv_room (Nat.le_of_ble_eq_true rfl)) dX2_search_66 ⟨Nat.le_of_ble_eq_true rfl, Nat.le_of_ble_eq_true rfl⟩) (fun r25 F24 H locs hp26 hI => ?_)
        obtain ⟨rfl, rfl⟩ := hp26
        refine lv_istore (lv' := [(7, .int (kv (rk σ) zp1 (st σ i5 k))), (0, .ref B0), (1, .int (nI i5)), (2, .int zp1), (3, .int zp2), (4, .ref (B0 + 11 + 2 * i5)), (5, .int (kv (rk σ) zp1 zp2)), (6, .int (nI k))]) hx hb dX2_search_69 hl (by decide) rfl (fun ls hl => ?_)
        refine lv_iload hx hb dX2_search_71 (lv_at hl 0 rfl) ?_
        refine lv_iload hx hb dX2_search_73 (lv_at hl 6 rfl) ?_
        refine lv_icmp_ne (tgt := 81) hx hb dX2_search_75 (by decide) (fun hq27 => ?_) (fun hq27 => ?_)
        · refine lv_iload hx hb dX2_search_81 (lv_at hl 0 rfl) ?_
          refine lv_iload hx hb dX2_search_83 (lv_at hl 6 rfl) ?_
          refine lv_icmp_le (tgt := 91) hx hb dX2_search_85 (by decide) (fun hq28 => ?_) (fun hq28 => ?_)
          · refine lv_iinc (k := 7) (v := nI (k + 1)) (lv' := [(6, .int (nI (k + 1))), (7, .int (kv (rk σ) zp1 (st σ i5 k))), (0, .ref B0), (1, .int (nI i5)), (2, .int zp1), (3, .int zp2), (4, .ref (B0 + 11 + 2 * i5)), (5, .int (kv (rk σ) zp1 zp2))]) hx hb dX2_search_91 hl rfl (nI_add k 1) (by decide) rfl (fun ls hl => ?_)
            refine lv_goto (tgt := 46) hx hb dX2_search_94 (by decide) ?_
            refine ih (k + 1) _ ls H locs (by first | omega | (dsimp only; omega)) ?_ (lv_sub hl [2, 3, 4, 5, 6, 7, 0] rfl) hI
            refine ⟨rfl, by omega, fun j hj => ?_⟩
            by_cases q : j = k
            · subst q; exact i_lt_of hq27 hq28
            · exact hk2 j (by omega)
          · refine lv_iload hx hb dX2_search_88 (lv_at hl 7 rfl) ?_
            refine vx_ret (z_ri hx hb hr hlocks hI ?_ (Nat.le_of_ble_eq_true rfl) (Nat.le_of_ble_eq_true rfl) dX2_search_90)
            refine ⟨_, rfl, (by simp only [oA_search, oB_search, oC_search, rr_search, ss_search, hix7] <;> exact ⟨⟨i5, hi6, rfl⟩, hp11⟩), (by simp only [oA_search, oB_search, oC_search, rr_search, ss_search, hix7] <;> exact hp14), (by simp only [oA_search, oB_search, oC_search, rr_search, ss_search, hix7] <;> exact hq18), (by simp only [oA_search, oB_search, oC_search, rr_search, ss_search, hix7] <;> exact srh_hi hq18 (by omega) hk2 (i_n_le.mp hq28)), (by simp only [oA_search, oB_search, oC_search, rr_search, ss_search, hix7] <;> exact hC), zCf.rf⟩
        · refine lv_bipush (v := -2) hx hb dX2_search_78 (by decide) ?_
          refine vx_ret (z_ri hx hb hr hlocks hI ?_ (Nat.le_of_ble_eq_true rfl) (Nat.le_of_ble_eq_true rfl) dX2_search_80)
          refine ⟨_, rfl, (by simp only [oA_search, oB_search, oC_search, rr_search, ss_search, hix7] <;> exact ⟨⟨i5, hi6, rfl⟩, hp11⟩), (by simp only [oA_search, oB_search, oC_search, rr_search, ss_search, hix7] <;> exact hp14), (by simp only [oA_search, oB_search, oC_search, rr_search, ss_search, hix7] <;> exact hq18), (by simp only [oA_search, oB_search, oC_search, rr_search, ss_search, hix7] <;> exact srh_y (by omega) hq27), (by simp only [oA_search, oB_search, oC_search, rr_search, ss_search, hix7] <;> exact hC), zCf.rf⟩
  · refine z_throw (cls := zES) hx hb hl0 hown hlocks hout hts zaX2_96 zbX2_96 q152 q9 (List.mem_of_getElem? (i := 1) rfl) (by decide +kernel) (List.mem_of_getElem? (i := 1) rfl) hI (hl.1.trans hml.symm) dX2_search_25 dX2_search_28 dX2_search_29 dX2_search_31 dX2_search_34 ⟨Nat.le_of_ble_eq_true rfl, Nat.le_of_ble_eq_true rfl, Nat.le_of_ble_eq_true rfl, Nat.le_of_ble_eq_true rfl⟩ ?_ (Nat.le_of_ble_eq_true rfl) (Nat.le_of_ble_eq_true rfl)
    exact Or.inr (Or.inr ⟨rfl, (by simp only [oA_search, oB_search, oC_search, rr_search, ss_search, hix7] <;> exact ⟨⟨i5, hi6, rfl⟩, hp11⟩), (by simp only [oA_search, oB_search, oC_search, rr_search, ss_search, hix7] <;> exact hp14), fun q => hq18 (by simp only [oA_search, oB_search, oC_search, rr_search, ss_search, hix7] at q; exact q)⟩)

set_option maxHeartbeats 4000000 in
set_option maxRecDepth 100000 in
theorem c_X2_most (l : Launch) (hl0 : l.stackTraces = false) (G : zK) (B0 : Nat) (F : zM) (σ : Sg) (zp0 : Int32) (hC : CS G B0 F σ) (hK : SgOk σ) : vx_Met l yX2_most (Cond.code yX2_most cX2_most 8 (some FieldType.int) :: zW) (zRm 7 111 2 12) (va_Pc [.ref B0, .int zp0] (zPre G B0 F)) (zQi G B0 (fun r' F' => oA_most σ zp0 ∧ oB_most σ zp0 ∧ oC_most σ zp0 ∧ r' = rr_most σ zp0 ∧ CS G B0 F' (ss_most σ zp0) ∧ zCf B0 F F')) (zXC G B0 F (fun E => zPX zEI zEN "" (oA_most σ zp0) (oB_most σ zp0) (oC_most σ zp0) E)) 2 12 (zA B0) := by
  refine z_ofx (own := RX2) (by decide) rfl (Nat.le_of_ble_eq_true rfl) ?_
  intro p e s m below meth c ls hx hb hr hml hown hlocks hout hts hl hI
  have hl : lv_has ls 8 [(0, .ref B0), (1, .int zp0)] := hl
  obtain ⟨y01, ⟨fa1, y11, e11⟩, ⟨fb1, y21, e21⟩, ⟨fc1, y31, e31⟩, ⟨n41, t41, y41⟩, ⟨n61, t61, y61⟩, ⟨n81, t81, y81⟩, ⟨fd1, y101⟩, yT1, yP1⟩ := id hC
  refine lv_aload_n hx hb dX2_most_0 rfl (lv_at hl 0 rfl) ?_
  refine lv_iload_n hx hb dX2_most_1 rfl (lv_at hl 1 rfl) ?_
  refine z_xcallr hI (z_xV (As := [.int zp0]) (rest := []) ⟨hx, hb, hml, hown, hts⟩ hI y01 rfl (c_X2_textAt l hl0 G B0 F σ zp0 hC) (z_cwV vX2_textAt hts q71 ⟨Nat.le_of_ble_eq_true rfl, Nat.le_of_ble_eq_true rfl⟩) rfl hl.1 rfl (lv_room (Nat.le_of_ble_eq_true rfl)) dX2_most_2 ⟨Nat.le_of_ble_eq_true rfl, Nat.le_of_ble_eq_true rfl⟩) (z_out hout hlocks (fun E hE => Or.inl ⟨hE.1, fun q => hE.2 (by first | exact q | (simp only [oA_most, oB_most, oC_most, rr_most, ss_most] at q; exact q))⟩) (Nat.le_of_ble_eq_true rfl) (Nat.le_of_ble_eq_true rfl)) (fun r3 F2 H locs hp4 hI => ?_)
  obtain ⟨rfl, i5, hi6, rfl, rfl⟩ := hp4
  have hix7 : ix (nI i5) = i5 := ix_nI (by omega)
  have hl : lv_has ls 8 [(0, .ref B0), (1, .int (nI i5))] := hl
  have hx8 := yT1 i5 hi6
  obtain ⟨xnhx8, xrhx8, fhx8, xwhx8, xfhx8⟩ := id hx8
  refine lv_astore_n (lv' := [(2, .ref (B0 + 11 + 2 * i5)), (0, .ref B0), (1, .int (nI i5))]) hx hb dX2_most_5 rfl hl (by decide) rfl (fun ls hl => ?_)
  refine lv_aload_n hx hb dX2_most_6 rfl (lv_at hl 0 rfl) ?_
  refine z_xcallv hI (z_xS (As := [.ref (B0 + 11 + 2 * i5)]) (rest := []) ⟨hx, hb, hml, hown, hts⟩ hI (c_X2_requireNotEmpty l hl0 G B0 F (B0 + 11 + 2 * i5) (B0 + 12 + 2 * i5) 60 (sn σ i5) (st σ i5) ⟨xnhx8, xrhx8, fhx8, xwhx8, xfhx8⟩ (by decide)) (z_cwS vX2_requireNotEmpty hts q428 ⟨Nat.le_of_ble_eq_true rfl, Nat.le_of_ble_eq_true rfl⟩) rfl hl.1 rfl (lv_room (Nat.le_of_ble_eq_true rfl)) dX2_most_7 ⟨Nat.le_of_ble_eq_true rfl, Nat.le_of_ble_eq_true rfl⟩) (z_out hout hlocks (fun E hE => Or.inr (Or.inl ⟨hE.1, (by simp only [oA_most, oB_most, oC_most, rr_most, ss_most, hix7] <;> exact ⟨i5, hi6, rfl⟩), fun q => hE.2 (by simp only [oA_most, oB_most, oC_most, rr_most, ss_most, hix7] at q; exact q)⟩)) (Nat.le_of_ble_eq_true rfl) (Nat.le_of_ble_eq_true rfl)) (fun F9 H locs hp11 hI => ?_)
  obtain ⟨rfl, hp11⟩ := hp11
  refine lv_iconst (v := -1) hx hb dX2_most_10 (by decide) ?_
  refine lv_istore_n (lv' := [(3, .int (-1)), (2, .ref (B0 + 11 + 2 * i5)), (0, .ref B0), (1, .int (nI i5))]) hx hb dX2_most_11 rfl hl (by decide) rfl (fun ls hl => ?_)
  refine lv_iconst (v := nI 0) hx hb dX2_most_12 (by decide) ?_
  refine lv_istore (lv' := [(4, .int (nI 0)), (3, .int (-1)), (2, .ref (B0 + 11 + 2 * i5)), (0, .ref B0), (1, .int (nI i5))]) hx hb dX2_most_13 hl (by decide) rfl (fun ls hl => ?_)
  refine lv_iconst (v := nI 0) hx hb dX2_most_15 (by decide) ?_
  refine lv_istore (lv' := [(5, .int (nI 0)), (4, .int (nI 0)), (3, .int (-1)), (2, .ref (B0 + 11 + 2 * i5)), (0, .ref B0), (1, .int (nI i5))]) hx hb dX2_most_16 hl (by decide) rfl (fun ls hl => ?_)
  refine z_loop (σ := Nat × Int32 × Nat) (fun xx : Nat × Int32 × Nat => match xx with | (k, c, a) => [(0, .ref B0), (1, .int (nI i5)), (2, .ref (B0 + 11 + 2 * i5)), (5, .int (nI k)), (3, .int c), (4, .int (nI a))]) (fun (xx : Nat × Int32 × Nat) (Fx : zM) => match xx with | (k, c, a) => F = Fx ∧ k ≤ sn σ i5 ∧ a ≤ 60 ∧ mstI (st σ i5) (sn σ i5) k c a) (fun xx : Nat × Int32 × Nat => match xx with | (k, c, a) => sn σ i5 - k) (0, -1, 0) (nL := 8) (st := []) ?_ (lv_sub hl [4, 5, 3, 0, 2, 1] rfl) hI ?_
  · exact ⟨rfl, Nat.zero_le _, by omega, Or.inl ⟨rfl, rfl⟩⟩
  · intro xx F12 ls H locs hi hl hI ih
    obtain ⟨k, c, a⟩ := xx
    have hl : lv_has ls 8 [(0, .ref B0), (1, .int (nI i5)), (2, .ref (B0 + 11 + 2 * i5)), (5, .int (nI k)), (3, .int c), (4, .int (nI a))] := hl
    obtain ⟨hF, hk, ha, ham⟩ := hi
    subst hF
    refine lv_iload hx hb dX2_most_18 (lv_at hl 3 rfl) ?_
    refine lv_aload_n hx hb dX2_most_20 rfl (lv_at hl 2 rfl) ?_
    refine z_getN hx hb hts hown zlX1 rfl 1 (by decide) (List.mem_of_getElem? (i := 0) rfl) rfl hI xrhx8 rfl dX2_most_21 ?_
    refine z_icmp_ge (tgt := 77) (a := k) (b := sn σ i5) hx hb dX2_most_24 (by decide) (by omega) (fun hq13 => ?_) (fun hq13 => ?_)
    · refine lv_iload_n hx hb dX2_most_77 rfl (lv_at hl 4 rfl) ?_
      refine vx_ret (z_ri hx hb hr hlocks hI ?_ (Nat.le_of_ble_eq_true rfl) (Nat.le_of_ble_eq_true rfl) dX2_most_78)
      have hkn : k = sn σ i5 := by omega
      rw [hkn] at ham
      refine ⟨_, rfl, (by simp only [oA_most, oB_most, oC_most, rr_most, ss_most, hix7] <;> exact ⟨i5, hi6, rfl⟩), (by simp only [oA_most, oB_most, oC_most, rr_most, ss_most, hix7] <;> exact hp11), (by simp only [oA_most, oB_most, oC_most, rr_most, ss_most, hix7] <;> exact trivial), (by simp only [oA_most, oB_most, oC_most, rr_most, ss_most, hix7] <;> exact mst_end ham (by omega) (hK.w hi6)), (by simp only [oA_most, oB_most, oC_most, rr_most, ss_most, hix7] <;> exact hC), zCf.rf⟩
    · refine lv_aload_n hx hb dX2_most_27 rfl (lv_at hl 2 rfl) ?_
      refine z_getN hx hb hts hown zlX1 rfl 0 (by decide) (List.mem_of_getElem? (i := 1) rfl) rfl hI xrhx8 rfl dX2_most_28 ?_
      refine lv_iload hx hb dX2_most_31 (lv_at hl 3 rfl) ?_
      refine z_ild (k := k) (v := st σ i5 k) hx hb hI xwhx8 (by omega) (by omega) (xfhx8 k (by omega)) dX2_most_33 ?_
      obtain ⟨kv9, hkv9, hkv8⟩ := hK.w hi6 k (by omega)
      refine z_topi hkv8 ?_
      refine lv_istore (lv' := [(6, .int (nI kv9)), (0, .ref B0), (1, .int (nI i5)), (2, .ref (B0 + 11 + 2 * i5)), (5, .int (nI k)), (3, .int c), (4, .int (nI a))]) hx hb dX2_most_34 hl (by decide) rfl (fun ls hl => ?_)
      refine lv_aload_n hx hb dX2_most_36 rfl (lv_at hl 3 rfl) ?_
      refine lv_iload hx hb dX2_most_37 (lv_at hl 0 rfl) ?_
      refine z_calli hI (z_V (As := [.int (nI kv9)]) (rest := []) ⟨hx, hb, hml, hown, hts⟩ hI xrhx8 rfl (c_X1_timesOf l G B0 F (B0 + 11 + 2 * i5) (B0 + 12 + 2 * i5) 60 (sn σ i5) (st σ i5) (nI kv9) ⟨xnhx8, xrhx8, fhx8, xwhx8, xfhx8⟩ (by omega)) (z_cwV vX1_timesOf hts q405 ⟨Nat.le_of_ble_eq_true rfl, Nat.le_of_ble_eq_true rfl⟩) rfl hl.1 rfl (lv_room (Nat.le_of_ble_eq_true rfl)) dX2_most_39 ⟨Nat.le_of_ble_eq_true rfl, Nat.le_of_ble_eq_true rfl⟩) (fun r15 F14 H locs hp16 hI => ?_)
      obtain ⟨rfl, rfl⟩ := hp16
      have hcn1 := cnt_le (st σ i5) (nI kv9) (sn σ i5)
      refine lv_istore (lv' := [(7, .int (nI (cnt (st σ i5) (nI kv9) (sn σ i5)))), (6, .int (nI kv9)), (0, .ref B0), (1, .int (nI i5)), (2, .ref (B0 + 11 + 2 * i5)), (5, .int (nI k)), (3, .int c), (4, .int (nI a))]) hx hb dX2_most_42 hl (by decide) rfl (fun ls hl => ?_)
      refine lv_iload hx hb dX2_most_44 (lv_at hl 0 rfl) ?_
      refine lv_iload hx hb dX2_most_46 (lv_at hl 7 rfl) ?_
      refine z_icmp_gt (tgt := 64) (a := cnt (st σ i5) (nI kv9) (sn σ i5)) (b := a) hx hb dX2_most_48 (by decide) (by omega) (fun hq17 => ?_) (fun hq17 => ?_)
      · refine lv_iload hx hb dX2_most_64 (lv_at hl 1 rfl) ?_
        refine lv_istore_n (lv' := [(3, .int (nI kv9)), (7, .int (nI (cnt (st σ i5) (nI kv9) (sn σ i5)))), (6, .int (nI kv9)), (0, .ref B0), (1, .int (nI i5)), (2, .ref (B0 + 11 + 2 * i5)), (5, .int (nI k)), (4, .int (nI a))]) hx hb dX2_most_66 rfl hl (by decide) rfl (fun ls hl => ?_)
        refine lv_iload hx hb dX2_most_67 (lv_at hl 1 rfl) ?_
        refine lv_istore (lv' := [(4, .int (nI (cnt (st σ i5) (nI kv9) (sn σ i5)))), (3, .int (nI kv9)), (7, .int (nI (cnt (st σ i5) (nI kv9) (sn σ i5)))), (6, .int (nI kv9)), (0, .ref B0), (1, .int (nI i5)), (2, .ref (B0 + 11 + 2 * i5)), (5, .int (nI k))]) hx hb dX2_most_69 hl (by decide) rfl (fun ls hl => ?_)
        refine lv_iinc (k := 7) (v := nI (k + 1)) (lv' := [(5, .int (nI (k + 1))), (4, .int (nI (cnt (st σ i5) (nI kv9) (sn σ i5)))), (3, .int (nI kv9)), (7, .int (nI (cnt (st σ i5) (nI kv9) (sn σ i5)))), (6, .int (nI kv9)), (0, .ref B0), (1, .int (nI i5)), (2, .ref (B0 + 11 + 2 * i5))]) hx hb dX2_most_71 hl rfl (nI_add k 1) (by decide) rfl (fun ls hl => ?_)
        refine lv_goto (tgt := 18) hx hb dX2_most_74 (by decide) ?_
        refine ih (k + 1, nI kv9, cnt (st σ i5) (nI kv9) (sn σ i5)) _ ls H locs (by first | omega | (dsimp only; omega)) ?_ (lv_sub hl [5, 6, 7, 0, 2, 1] rfl) hI
        have hcn2 := cnt_le (st σ i5) (nI kv9) (sn σ i5)
        exact ⟨rfl, by omega, by omega, mst_up ham (by omega) hkv9 hkv8 (Or.inl hq17)⟩
      · refine lv_iload hx hb dX2_most_51 (lv_at hl 0 rfl) ?_
        refine lv_iload hx hb dX2_most_53 (lv_at hl 7 rfl) ?_
        refine z_icmp_ne (tgt := 71) (a := cnt (st σ i5) (nI kv9) (sn σ i5)) (b := a) hx hb dX2_most_55 (by decide) (by omega) (fun hq18 => ?_) (fun hq18 => ?_)
        · refine lv_iinc (k := 5) (v := nI (k + 1)) (lv' := [(5, .int (nI (k + 1))), (7, .int (nI (cnt (st σ i5) (nI kv9) (sn σ i5)))), (6, .int (nI kv9)), (0, .ref B0), (1, .int (nI i5)), (2, .ref (B0 + 11 + 2 * i5)), (3, .int c), (4, .int (nI a))]) hx hb dX2_most_71 hl rfl (nI_add k 1) (by decide) rfl (fun ls hl => ?_)
          refine lv_goto (tgt := 18) hx hb dX2_most_74 (by decide) ?_
          refine ih (k + 1, c, a) _ ls H locs (by first | omega | (dsimp only; omega)) ?_ (lv_sub hl [3, 4, 5, 0, 6, 7] rfl) hI
          have hcn2 := cnt_le (st σ i5) (nI kv9) (sn σ i5)
          exact ⟨rfl, by omega, by omega, mst_no ham (by omega) hkv9 hkv8 (by omega) (fun e => absurd e hq18)⟩
        · refine lv_iload hx hb dX2_most_58 (lv_at hl 1 rfl) ?_
          refine lv_iload_n hx hb dX2_most_60 rfl (lv_at hl 6 rfl) ?_
          refine lv_icmp_ge (tgt := 71) hx hb dX2_most_61 (by decide) (fun hq19 => ?_) (fun hq19 => ?_)
          · refine lv_iinc (k := 5) (v := nI (k + 1)) (lv' := [(5, .int (nI (k + 1))), (7, .int (nI (cnt (st σ i5) (nI kv9) (sn σ i5)))), (6, .int (nI kv9)), (0, .ref B0), (1, .int (nI i5)), (2, .ref (B0 + 11 + 2 * i5)), (3, .int c), (4, .int (nI a))]) hx hb dX2_most_71 hl rfl (nI_add k 1) (by decide) rfl (fun ls hl => ?_)
            refine lv_goto (tgt := 18) hx hb dX2_most_74 (by decide) ?_
            refine ih (k + 1, c, a) _ ls H locs (by first | omega | (dsimp only; omega)) ?_ (lv_sub hl [3, 4, 5, 0, 6, 7] rfl) hI
            have hcn2 := cnt_le (st σ i5) (nI kv9) (sn σ i5)
            exact ⟨rfl, by omega, by omega, mst_no ham (by omega) hkv9 hkv8 (by omega) (fun _ => i_le_n.mp hq19)⟩
          · refine lv_iload hx hb dX2_most_64 (lv_at hl 1 rfl) ?_
            refine lv_istore_n (lv' := [(3, .int (nI kv9)), (7, .int (nI (cnt (st σ i5) (nI kv9) (sn σ i5)))), (6, .int (nI kv9)), (0, .ref B0), (1, .int (nI i5)), (2, .ref (B0 + 11 + 2 * i5)), (5, .int (nI k)), (4, .int (nI a))]) hx hb dX2_most_66 rfl hl (by decide) rfl (fun ls hl => ?_)
            refine lv_iload hx hb dX2_most_67 (lv_at hl 1 rfl) ?_
            refine lv_istore (lv' := [(4, .int (nI (cnt (st σ i5) (nI kv9) (sn σ i5)))), (3, .int (nI kv9)), (7, .int (nI (cnt (st σ i5) (nI kv9) (sn σ i5)))), (6, .int (nI kv9)), (0, .ref B0), (1, .int (nI i5)), (2, .ref (B0 + 11 + 2 * i5)), (5, .int (nI k))]) hx hb dX2_most_69 hl (by decide) rfl (fun ls hl => ?_)
            refine lv_iinc (k := 7) (v := nI (k + 1)) (lv' := [(5, .int (nI (k + 1))), (4, .int (nI (cnt (st σ i5) (nI kv9) (sn σ i5)))), (3, .int (nI kv9)), (7, .int (nI (cnt (st σ i5) (nI kv9) (sn σ i5)))), (6, .int (nI kv9)), (0, .ref B0), (1, .int (nI i5)), (2, .ref (B0 + 11 + 2 * i5))]) hx hb dX2_most_71 hl rfl (nI_add k 1) (by decide) rfl (fun ls hl => ?_)
            refine lv_goto (tgt := 18) hx hb dX2_most_74 (by decide) ?_
            refine ih (k + 1, nI kv9, cnt (st σ i5) (nI kv9) (sn σ i5)) _ ls H locs (by first | omega | (dsimp only; omega)) ?_ (lv_sub hl [5, 6, 7, 0, 2, 1] rfl) hI
            have hcn2 := cnt_le (st σ i5) (nI kv9) (sn σ i5)
            exact ⟨rfl, by omega, by omega, mst_up ham (by omega) hkv9 hkv8 (Or.inr ⟨hq18, i_n_le.mp hq19⟩)⟩

set_option maxHeartbeats 4000000 in
set_option maxRecDepth 100000 in
theorem c_X2_near (l : Launch) (hl0 : l.stackTraces = false) (G : zK) (B0 : Nat) (F : zM) (σ : Sg) (zp0 zp1 zp2 : Int32) (hC : CS G B0 F σ) : vx_Met l yX2_near (Cond.code yX2_near cX2_near 7 (some FieldType.int) :: zW) (zRm 7 111 3 18) (va_Pc [.ref B0, .int zp0, .int zp1, .int zp2] (zPre G B0 F)) (zQi G B0 (fun r' F' => oA_near σ zp0 zp1 zp2 ∧ oB_near σ zp0 zp1 zp2 ∧ oC_near σ zp0 zp1 zp2 ∧ r' = rr_near σ zp0 zp1 zp2 ∧ CS G B0 F' (ss_near σ zp0 zp1 zp2) ∧ zCf B0 F F')) (zXC G B0 F (fun E => zPX zEI "" "" (oA_near σ zp0 zp1 zp2) (oB_near σ zp0 zp1 zp2) (oC_near σ zp0 zp1 zp2) E)) 3 18 (zA B0) := by
  refine z_ofx (own := RX2) (by decide) rfl (Nat.le_of_ble_eq_true rfl) ?_
  intro p e s m below meth c ls hx hb hr hml hown hlocks hout hts hl hI
  have hl : lv_has ls 7 [(0, .ref B0), (1, .int zp0), (2, .int zp1), (3, .int zp2)] := hl
  obtain ⟨y01, ⟨fa1, y11, e11⟩, ⟨fb1, y21, e21⟩, ⟨fc1, y31, e31⟩, ⟨n41, t41, y41⟩, ⟨n61, t61, y61⟩, ⟨n81, t81, y81⟩, ⟨fd1, y101⟩, yT1, yP1⟩ := id hC
  refine lv_aload_n hx hb dX2_near_0 rfl (lv_at hl 0 rfl) ?_
  refine lv_iload_n hx hb dX2_near_1 rfl (lv_at hl 1 rfl) ?_
  refine z_xcallr hI (z_xV (As := [.int zp0]) (rest := []) ⟨hx, hb, hml, hown, hts⟩ hI y01 rfl (c_X2_textAt l hl0 G B0 F σ zp0 hC) (z_cwV vX2_textAt hts q71 ⟨Nat.le_of_ble_eq_true rfl, Nat.le_of_ble_eq_true rfl⟩) rfl hl.1 rfl (lv_room (Nat.le_of_ble_eq_true rfl)) dX2_near_2 ⟨Nat.le_of_ble_eq_true rfl, Nat.le_of_ble_eq_true rfl⟩) (z_out hout hlocks (fun E hE => Or.inl ⟨hE.1, fun q => hE.2 (by first | exact q.1 | (simp only [oA_near, oB_near, oC_near, rr_near, ss_near] at q; exact q.1))⟩) (Nat.le_of_ble_eq_true rfl) (Nat.le_of_ble_eq_true rfl)) (fun r3 F2 H locs hp4 hI => ?_)
  obtain ⟨rfl, i5, hi6, rfl, rfl⟩ := hp4
  have hix7 : ix (nI i5) = i5 := ix_nI (by omega)
  have hl : lv_has ls 7 [(0, .ref B0), (1, .int (nI i5)), (2, .int zp1), (3, .int zp2)] := hl
  have hx8 := yT1 i5 hi6
  obtain ⟨xnhx8, xrhx8, fhx8, xwhx8, xfhx8⟩ := id hx8
  refine lv_astore (lv' := [(4, .ref (B0 + 11 + 2 * i5)), (0, .ref B0), (1, .int (nI i5)), (2, .int zp1), (3, .int zp2)]) hx hb dX2_near_5 hl (by decide) rfl (fun ls hl => ?_)
  refine lv_aload hx hb dX2_near_7 (lv_at hl 0 rfl) ?_
  refine lv_iload_n hx hb dX2_near_9 rfl (lv_at hl 3 rfl) ?_
  refine z_xcallv hI (z_xS (As := [.ref (B0 + 11 + 2 * i5), .int zp1]) (rest := []) ⟨hx, hb, hml, hown, hts⟩ hI (c_X2_requirePlace l hl0 G B0 F (B0 + 11 + 2 * i5) (B0 + 12 + 2 * i5) 60 (sn σ i5) (st σ i5) zp1 ⟨xnhx8, xrhx8, fhx8, xwhx8, xfhx8⟩ (by decide)) (z_cwS vX2_requirePlace hts q236 ⟨Nat.le_of_ble_eq_true rfl, Nat.le_of_ble_eq_true rfl⟩) rfl hl.1 rfl (lv_room (Nat.le_of_ble_eq_true rfl)) dX2_near_10 ⟨Nat.le_of_ble_eq_true rfl, Nat.le_of_ble_eq_true rfl⟩) (z_out hout hlocks (fun E hE => Or.inl ⟨hE.1, fun q => hE.2 (by first | exact q.2.1 | (simp only [oA_near, oB_near, oC_near, rr_near, ss_near, hix7] at q; exact q.2.1))⟩) (Nat.le_of_ble_eq_true rfl) (Nat.le_of_ble_eq_true rfl)) (fun F9 H locs hp11 hI => ?_)
  obtain ⟨rfl, j12, hj13, rfl⟩ := hp11
  have hix14 : ix (nI j12) = j12 := ix_nI (by omega)
  have hl : lv_has ls 7 [(4, .ref (B0 + 11 + 2 * i5)), (0, .ref B0), (1, .int (nI i5)), (2, .int (nI j12)), (3, .int zp2)] := hl
  refine lv_iload_n hx hb dX2_near_13 rfl (lv_at hl 4 rfl) ?_
  refine z_xcallv hI (z_xS (As := [.int zp2]) (rest := []) ⟨hx, hb, hml, hown, hts⟩ hI (c_X2_requireWord l hl0 G B0 F zp2) (z_cwS vX2_requireWord hts q145 ⟨Nat.le_of_ble_eq_true rfl, Nat.le_of_ble_eq_true rfl⟩) rfl hl.1 rfl (lv_room (Nat.le_of_ble_eq_true rfl)) dX2_near_14 ⟨Nat.le_of_ble_eq_true rfl, Nat.le_of_ble_eq_true rfl⟩) (z_out hout hlocks (fun E hE => Or.inl ⟨hE.1, fun q => hE.2 (by first | exact q.2.2 | (simp only [oA_near, oB_near, oC_near, rr_near, ss_near, hix7, hix14] at q; exact q.2.2))⟩) (Nat.le_of_ble_eq_true rfl) (Nat.le_of_ble_eq_true rfl)) (fun F15 H locs hp17 hI => ?_)
  obtain ⟨rfl, hp17⟩ := hp17
  refine lv_iconst (v := -1) hx hb dX2_near_17 (by decide) ?_
  refine lv_istore (lv' := [(5, .int (-1)), (4, .ref (B0 + 11 + 2 * i5)), (0, .ref B0), (1, .int (nI i5)), (2, .int (nI j12)), (3, .int zp2)]) hx hb dX2_near_18 hl (by decide) rfl (fun ls hl => ?_)
  refine lv_iconst (v := nI 0) hx hb dX2_near_20 (by decide) ?_
  refine lv_istore (lv' := [(6, .int (nI 0)), (5, .int (-1)), (4, .ref (B0 + 11 + 2 * i5)), (0, .ref B0), (1, .int (nI i5)), (2, .int (nI j12)), (3, .int zp2)]) hx hb dX2_near_21 hl (by decide) rfl (fun ls hl => ?_)
  refine z_loop (σ := Nat × Int32) (fun xx : Nat × Int32 => match xx with | (k, a) => [(0, .ref B0), (1, .int (nI i5)), (2, .int (nI j12)), (3, .int zp2), (4, .ref (B0 + 11 + 2 * i5)), (6, .int (nI k)), (5, .int a)]) (fun (xx : Nat × Int32) (Fx : zM) => match xx with | (k, a) => F = Fx ∧ k ≤ sn σ i5 ∧ a = rI (nrt (st σ i5) zp2 j12 k)) (fun xx : Nat × Int32 => match xx with | (k, a) => sn σ i5 - k) (0, -1) (nL := 7) (st := []) ?_ (lv_sub hl [3, 4, 5, 6, 2, 0, 1] rfl) hI ?_
  · exact ⟨rfl, Nat.zero_le _, rfl⟩
  · intro xx F18 ls H locs hi hl hI ih
    obtain ⟨k, a⟩ := xx
    have hl : lv_has ls 7 [(0, .ref B0), (1, .int (nI i5)), (2, .int (nI j12)), (3, .int zp2), (4, .ref (B0 + 11 + 2 * i5)), (6, .int (nI k)), (5, .int a)] := hl
    obtain ⟨hF, hk, ha⟩ := hi
    subst hF
    refine lv_iload hx hb dX2_near_23 (lv_at hl 5 rfl) ?_
    refine lv_aload hx hb dX2_near_25 (lv_at hl 4 rfl) ?_
    refine z_getN hx hb hts hown zlX1 rfl 1 (by decide) (List.mem_of_getElem? (i := 0) rfl) rfl hI xrhx8 rfl dX2_near_27 ?_
    refine z_icmp_ge (tgt := 78) (a := k) (b := sn σ i5) hx hb dX2_near_30 (by decide) (by omega) (fun hq19 => ?_) (fun hq19 => ?_)
    · refine lv_iload hx hb dX2_near_78 (lv_at hl 6 rfl) ?_
      refine vx_ret (z_ri hx hb hr hlocks hI ?_ (Nat.le_of_ble_eq_true rfl) (Nat.le_of_ble_eq_true rfl) dX2_near_80)
      have hkn : k = sn σ i5 := by omega
      refine ⟨_, rfl, (by simp only [oA_near, oB_near, oC_near, rr_near, ss_near, hix7, hix14] <;> exact ⟨⟨i5, hi6, rfl⟩, ⟨j12, hj13, rfl⟩, hp17⟩), (by simp only [oA_near, oB_near, oC_near, rr_near, ss_near, hix7, hix14] <;> exact trivial), (by simp only [oA_near, oB_near, oC_near, rr_near, ss_near, hix7, hix14] <;> exact trivial), (by simp only [oA_near, oB_near, oC_near, rr_near, ss_near, hix7, hix14] <;> (rw [ha, hkn])), (by simp only [oA_near, oB_near, oC_near, rr_near, ss_near, hix7, hix14] <;> exact hC), zCf.rf⟩
    · refine lv_aload hx hb dX2_near_33 (lv_at hl 4 rfl) ?_
      refine z_getN hx hb hts hown zlX1 rfl 0 (by decide) (List.mem_of_getElem? (i := 1) rfl) rfl hI xrhx8 rfl dX2_near_35 ?_
      refine lv_iload hx hb dX2_near_38 (lv_at hl 5 rfl) ?_
      refine z_ild (k := k) (v := st σ i5 k) hx hb hI xwhx8 (by omega) (by omega) (xfhx8 k (by omega)) dX2_near_40 ?_
      refine lv_iload_n hx hb dX2_near_41 rfl (lv_at hl 3 rfl) ?_
      refine lv_icmp_ne (tgt := 72) hx hb dX2_near_42 (by decide) (fun hq20 => ?_) (fun hq20 => ?_)
      · refine lv_iinc (k := 5) (v := nI (k + 1)) (lv' := [(6, .int (nI (k + 1))), (0, .ref B0), (1, .int (nI i5)), (2, .int (nI j12)), (3, .int zp2), (4, .ref (B0 + 11 + 2 * i5)), (5, .int a)]) hx hb dX2_near_72 hl rfl (nI_add k 1) (by decide) rfl (fun ls hl => ?_)
        refine lv_goto (tgt := 23) hx hb dX2_near_75 (by decide) ?_
        refine ih (k + 1, a) _ ls H locs (by first | omega | (dsimp only; omega)) ?_ (lv_sub hl [1, 2, 3, 4, 5, 0, 6] rfl) hI
        exact ⟨rfl, by omega, by rw [nrt_no hq20]; exact ha⟩
      · refine lv_iload hx hb dX2_near_45 (lv_at hl 6 rfl) ?_
        refine lv_iconst (v := -1) hx hb dX2_near_47 (by decide) ?_
        refine lv_icmp_eq (tgt := 68) hx hb dX2_near_48 (by decide) (fun hq21 => ?_) (fun hq21 => ?_)
        · have hno : nrt (st σ i5) zp2 j12 k = none := (rI_m1 (b := 61) (fun j hj => by have := nrt_lt hj; omega) (by decide)).mp (ha ▸ hq21)
          refine lv_iload hx hb dX2_near_68 (lv_at hl 5 rfl) ?_
          refine lv_istore (lv' := [(5, .int (nI k)), (0, .ref B0), (1, .int (nI i5)), (2, .int (nI j12)), (3, .int zp2), (4, .ref (B0 + 11 + 2 * i5)), (6, .int (nI k))]) hx hb dX2_near_70 hl (by decide) rfl (fun ls hl => ?_)
          refine lv_iinc (k := 6) (v := nI (k + 1)) (lv' := [(6, .int (nI (k + 1))), (5, .int (nI k)), (0, .ref B0), (1, .int (nI i5)), (2, .int (nI j12)), (3, .int zp2), (4, .ref (B0 + 11 + 2 * i5))]) hx hb dX2_near_72 hl rfl (nI_add k 1) (by decide) rfl (fun ls hl => ?_)
          refine lv_goto (tgt := 23) hx hb dX2_near_75 (by decide) ?_
          refine ih (k + 1, nI k) _ ls H locs (by first | omega | (dsimp only; omega)) ?_ (lv_sub hl [2, 3, 4, 5, 6, 0, 1] rfl) hI
          exact ⟨rfl, by omega, by rw [nrt_n hq20 hno]; rfl⟩
        · obtain ⟨bb, hno⟩ : ∃ bb, nrt (st σ i5) zp2 j12 k = some bb := by
            cases hz : nrt (st σ i5) zp2 j12 k with
            | none => exact absurd (ha.trans (by rw [hz]; rfl)) hq21
            | some z => exact ⟨z, rfl⟩
          have hbb := nrt_lt hno
          rw [hno] at ha
          subst ha
          have hd1 : dst k j12 ≤ 60 := by unfold dst; omega
          have hd2 : dst bb j12 ≤ 60 := by unfold dst; omega
          have hl : lv_has ls 7 [(0, .ref B0), (1, .int (nI i5)), (2, .int (nI j12)), (3, .int zp2), (4, .ref (B0 + 11 + 2 * i5)), (6, .int (nI k)), (5, .int (nI bb))] := hl
          refine lv_iload hx hb dX2_near_51 (lv_at hl 5 rfl) ?_
          refine lv_iload_n hx hb dX2_near_53 rfl (lv_at hl 2 rfl) ?_
          refine lv_isub hx hb dX2_near_54 ?_
          refine z_calli hI (z_S (As := [.int ((nI k) - (nI j12))]) (rest := []) ⟨hx, hb, hml, hown, hts⟩ hI (c_J9_abs_0f7a4 l G B0 F ((nI k) - (nI j12))) (z_cwS vJ9_abs_0f7a4 hts q599 ⟨Nat.le_of_ble_eq_true rfl, Nat.le_of_ble_eq_true rfl⟩) rfl hl.1 rfl (lv_room (Nat.le_of_ble_eq_true rfl)) dX2_near_55 ⟨Nat.le_of_ble_eq_true rfl, Nat.le_of_ble_eq_true rfl⟩) (fun r23 F22 H locs hp24 hI => ?_)
          obtain ⟨rfl, rfl⟩ := hp24
          refine z_topi (zabs_dst (a := k) (b := j12) (by omega) (by omega)) ?_
          refine lv_iload hx hb dX2_near_58 (lv_at hl 6 rfl) ?_
          refine lv_iload_n hx hb dX2_near_60 rfl (lv_at hl 2 rfl) ?_
          refine lv_isub hx hb dX2_near_61 ?_
          refine z_calli hI (z_S (As := [.int ((nI bb) - (nI j12))]) (rest := [.int (nI (dst k j12))]) ⟨hx, hb, hml, hown, hts⟩ hI (c_J9_abs_0f7a4 l G B0 F ((nI bb) - (nI j12))) (z_cwS vJ9_abs_0f7a4 hts q599 ⟨Nat.le_of_ble_eq_true rfl, Nat.le_of_ble_eq_true rfl⟩) rfl hl.1 rfl (lv_room (Nat.le_of_ble_eq_true rfl)) dX2_near_62 ⟨Nat.le_of_ble_eq_true rfl, Nat.le_of_ble_eq_true rfl⟩) (fun r26 F25 H locs hp27 hI => ?_)
          obtain ⟨rfl, rfl⟩ := hp27
          refine z_topi (zabs_dst (a := bb) (b := j12) (by omega) (by omega)) ?_
          refine z_icmp_ge (tgt := 72) (a := dst k j12) (b := dst bb j12) hx hb dX2_near_65 (by decide) (by omega) (fun hq28 => ?_) (fun hq28 => ?_)
          · refine lv_iinc (k := 5) (v := nI (k + 1)) (lv' := [(6, .int (nI (k + 1))), (0, .ref B0), (1, .int (nI i5)), (2, .int (nI j12)), (3, .int zp2), (4, .ref (B0 + 11 + 2 * i5)), (5, .int (nI bb))]) hx hb dX2_near_72 hl rfl (nI_add k 1) (by decide) rfl (fun ls hl => ?_)
            refine lv_goto (tgt := 23) hx hb dX2_near_75 (by decide) ?_
            refine ih (k + 1, nI bb) _ ls H locs (by first | omega | (dsimp only; omega)) ?_ (lv_sub hl [1, 2, 3, 4, 5, 0, 6] rfl) hI
            exact ⟨rfl, by omega, by rw [nrt_f hno hq28]; rfl⟩
          · refine lv_iload hx hb dX2_near_68 (lv_at hl 5 rfl) ?_
            refine lv_istore (lv' := [(5, .int (nI k)), (0, .ref B0), (1, .int (nI i5)), (2, .int (nI j12)), (3, .int zp2), (4, .ref (B0 + 11 + 2 * i5)), (6, .int (nI k))]) hx hb dX2_near_70 hl (by decide) rfl (fun ls hl => ?_)
            refine lv_iinc (k := 6) (v := nI (k + 1)) (lv' := [(6, .int (nI (k + 1))), (5, .int (nI k)), (0, .ref B0), (1, .int (nI i5)), (2, .int (nI j12)), (3, .int zp2), (4, .ref (B0 + 11 + 2 * i5))]) hx hb dX2_near_72 hl rfl (nI_add k 1) (by decide) rfl (fun ls hl => ?_)
            refine lv_goto (tgt := 23) hx hb dX2_near_75 (by decide) ?_
            refine ih (k + 1, nI k) _ ls H locs (by first | omega | (dsimp only; omega)) ?_ (lv_sub hl [2, 3, 4, 5, 6, 0, 1] rfl) hI
            exact ⟨rfl, by omega, by rw [nrt_s hq20 hno hq28]; rfl⟩

