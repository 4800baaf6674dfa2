set_option maxHeartbeats 4000000 in
set_option maxRecDepth 100000 in
theorem c_X2_mustPass (l : Launch) (G : zK) (B0 : Nat) (F : zM) (o d x y : Int32) (ρ : Nat → Int32) (hK : KC G B0 F ρ) (hx9 : ∃ k, k < 100 ∧ x = nI k) (hy9 : ∃ k, k < 100 ∧ y = nI k) : Met l yX2_mustPass (Cond.code yX2_mustPass cX2_mustPass 7 (some FieldType.boolean) :: zW) (zRm 1 22 0 0) (va_Pc [.ref B0, .int x, .int y, .int o, .int d] (zPre G B0 F)) (zQi G B0 (fun r F' => F = F' ∧ r = pI (psd ρ o d x y))) 0 0 (zA B0) := by
  refine z_of (own := RX2) (by decide) rfl (Nat.le_of_ble_eq_true rfl) ?_
  intro p e s m below meth c ls hx hb hr hml hown hlocks hnm hts hl hI
  have hl : lv_has ls 7 [(0, .ref B0), (1, .int x), (2, .int y), (3, .int o), (4, .int d)] := hl
  obtain ⟨yk1, fk1, yr1, er1⟩ := id hK
  refine lv_aload_n hx hb dX2_mustPass_0 rfl (lv_at hl 0 rfl) ?_
  refine lv_iload_n hx hb dX2_mustPass_1 rfl (lv_at hl 1 rfl) ?_
  refine lv_iload_n hx hb dX2_mustPass_2 rfl (lv_at hl 3 rfl) ?_
  refine z_calli hI (z_V (As := [.int x, .int o]) (rest := []) ⟨hx, hb, hml, hown, hts⟩ hI yk1 rfl (c_X2_keyOf l G B0 F o x ρ hK hx9) (z_cwV vX2_keyOf hts q477 ⟨Nat.le_of_ble_eq_true rfl, Nat.le_of_ble_eq_true rfl⟩) rfl hl.1 rfl (lv_room (Nat.le_of_ble_eq_true rfl)) dX2_mustPass_3 ⟨Nat.le_of_ble_eq_true rfl, Nat.le_of_ble_eq_true rfl⟩) (fun r3 F2 H locs hp4 hI => ?_)
  obtain ⟨rfl, rfl⟩ := hp4
  refine lv_istore (lv' := [(5, .int (kv ρ o x)), (0, .ref B0), (1, .int x), (2, .int y), (3, .int o), (4, .int d)]) hx hb dX2_mustPass_6 hl (by decide) rfl (fun ls hl => ?_)
  refine lv_aload_n hx hb dX2_mustPass_8 rfl (lv_at hl 1 rfl) ?_
  refine lv_iload_n hx hb dX2_mustPass_9 rfl (lv_at hl 3 rfl) ?_
  refine lv_iload_n hx hb dX2_mustPass_10 rfl (lv_at hl 4 rfl) ?_
  refine z_calli hI (z_V (As := [.int y, .int o]) (rest := []) ⟨hx, hb, hml, hown, hts⟩ hI yk1 rfl (c_X2_keyOf l G B0 F o y ρ hK hy9) (z_cwV vX2_keyOf hts q477 ⟨Nat.le_of_ble_eq_true rfl, Nat.le_of_ble_eq_true rfl⟩) rfl hl.1 rfl (lv_room (Nat.le_of_ble_eq_true rfl)) dX2_mustPass_11 ⟨Nat.le_of_ble_eq_true rfl, Nat.le_of_ble_eq_true rfl⟩) (fun r6 F5 H locs hp7 hI => ?_)
  obtain ⟨rfl, rfl⟩ := hp7
  refine lv_istore (lv' := [(6, .int (kv ρ o y)), (5, .int (kv ρ o x)), (0, .ref B0), (1, .int x), (2, .int y), (3, .int o), (4, .int d)]) hx hb dX2_mustPass_14 hl (by decide) rfl (fun ls hl => ?_)
  refine lv_iload hx hb dX2_mustPass_16 (lv_at hl 6 rfl) ?_
  refine lv_if_eq (tgt := 36) hx hb dX2_mustPass_18 (by decide) (fun hq8 => ?_) (fun hq8 => ?_)
  · refine lv_iload hx hb dX2_mustPass_36 (lv_at hl 1 rfl) ?_
    refine lv_iload hx hb dX2_mustPass_38 (lv_at hl 0 rfl) ?_
    refine lv_icmp_ge (tgt := 47) hx hb dX2_mustPass_40 (by decide) (fun hq9 => ?_) (fun hq9 => ?_)
    · refine lv_iconst (v := nI 0) hx hb dX2_mustPass_47 (by decide) ?_
      refine z_rz hx hb hr hlocks (Or.inl rfl) hI ?_ (Nat.le_of_ble_eq_true rfl) (Nat.le_of_ble_eq_true rfl) dX2_mustPass_48
      exact ⟨_, rfl, rfl, pI_f (fun z => i_le_n.mp hq9 (z.1 hq8))⟩
    · refine lv_iconst (v := nI 1) hx hb dX2_mustPass_43 (by decide) ?_
      refine lv_goto (tgt := 48) hx hb dX2_mustPass_44 (by decide) ?_
      refine z_rz hx hb hr hlocks (Or.inr rfl) hI ?_ (Nat.le_of_ble_eq_true rfl) (Nat.le_of_ble_eq_true rfl) dX2_mustPass_48
      exact ⟨_, rfl, rfl, pI_t ⟨fun _ => i_n_le.mp hq9, fun e => absurd hq8 e⟩⟩
  · refine lv_iload hx hb dX2_mustPass_21 (lv_at hl 1 rfl) ?_
    refine lv_iload hx hb dX2_mustPass_23 (lv_at hl 0 rfl) ?_
    refine lv_icmp_le (tgt := 32) hx hb dX2_mustPass_25 (by decide) (fun hq10 => ?_) (fun hq10 => ?_)
    · refine lv_iconst (v := nI 0) hx hb dX2_mustPass_32 (by decide) ?_
      refine lv_goto (tgt := 48) hx hb dX2_mustPass_33 (by decide) ?_
      refine z_rz hx hb hr hlocks (Or.inl rfl) hI ?_ (Nat.le_of_ble_eq_true rfl) (Nat.le_of_ble_eq_true rfl) dX2_mustPass_48
      exact ⟨_, rfl, rfl, pI_f (fun z => i_le_n.mp hq10 (z.2 hq8))⟩
    · refine lv_iconst (v := nI 1) hx hb dX2_mustPass_28 (by decide) ?_
      refine lv_goto (tgt := 48) hx hb dX2_mustPass_29 (by decide) ?_
      refine z_rz hx hb hr hlocks (Or.inr rfl) hI ?_ (Nat.le_of_ble_eq_true rfl) (Nat.le_of_ble_eq_true rfl) dX2_mustPass_48
      exact ⟨_, rfl, rfl, pI_t ⟨fun e => absurd e hq8, fun _ => i_n_le.mp hq10⟩⟩

def hol (t : Nat → Int32) (q k : Nat) : Nat → Int32 := fun j => if q < j ∧ j ≤ k then t (j - 1) else t j
theorem hol_0 {t : Nat → Int32} {k : Nat} (j : Nat) : t j = hol t k k j := by
  simp only [hol]
  rw [if_neg (by omega)]
theorem hol_d {t : Nat → Int32} {q k : Nat} (h : 0 < q) : hol t q k (q - 1) = t (q - 1) := by
  simp only [hol]
  rw [if_neg (by omega)]
theorem hol_s {t : Nat → Int32} {q k : Nat} (h : 0 < q) (hq : q ≤ k) (j : Nat) : upd (hol t q k) q (t (q - 1)) j = hol t (q - 1) k j := by
  by_cases e : j = q
  · subst e; rw [pk_us]; simp only [hol]; rw [if_pos (by omega)]
  · rw [pk_un e]
    simp only [hol]
    by_cases e2 : q < j ∧ j ≤ k
    · rw [if_pos e2, if_pos (by omega)]
    · rw [if_neg e2, if_neg (by omega)]
theorem hol_e {t : Nat → Int32} {q k : Nat} (hq : q ≤ k) (j : Nat) : upd (hol t q k) q (t k) j = insk t q k j := by
  simp only [insk]
  by_cases e : j = q
  · subst e; rw [pk_us, if_pos rfl]
  · rw [pk_un e, if_neg e]; rfl
theorem lnd_tq {P : Int32 → Int32 → Prop} {t : Nat → Int32} {w : Int32} {q : Nat} (h0 : 0 < q) (h : P w (t (q - 1))) : lnd P t w q = lnd P t w (q - 1) := by
  obtain ⟨q9, rfl⟩ : ∃ q9, q = q9 + 1 := ⟨q - 1, by omega⟩
  exact lnd_t h
theorem lnd_fq {P : Int32 → Int32 → Prop} {t : Nat → Int32} {w : Int32} {q : Nat} (h0 : 0 < q) (h : ¬ P w (t (q - 1))) : lnd P t w q = q := by
  obtain ⟨q9, rfl⟩ : ∃ q9, q = q9 + 1 := ⟨q - 1, by omega⟩
  exact lnd_f h
theorem srt_at {P : Int32 → Int32 → Prop} {t : Nat → Int32} {k q : Nat} (h1 : 1 ≤ k) (h : lnd P (srt P t (k - 1)) (srt P t (k - 1) k) k = q) : srt P t k = insk (srt P t (k - 1)) q k := by
  obtain ⟨k9, rfl⟩ : ∃ k9, k = k9 + 1 := ⟨k - 1, by omega⟩
  rw [← h]; rfl
theorem srt_wok {P : Int32 → Int32 → Prop} {t : Nat → Int32} {n k : Nat} (hw : wok t n) (hk : k < n) : wok (srt P t k) n := fun j hj => by
  obtain ⟨i, hi, e⟩ := srt_mem (P := P) (t := t) hk j hj
  rw [e]; exact hw i hi
set_option maxHeartbeats 4000000 in
set_option maxRecDepth 100000 in
theorem c_X2_putInOrder (l : Launch) (G : zK) (B0 : Nat) (F : zM) (r w cap n : Nat) (t : Nat → Int32) (o d : Int32) (ρ : Nat → Int32) (hK : KC G B0 F ρ) (h : RA G 1 F r w cap n t) (hcap : cap ≤ 100) (hw : wok t n) (hrB : r ≠ B0) (hwB : w ≠ B0 + 3) : Met l yX2_putInOrder (Cond.code yX2_putInOrder cX2_putInOrder 7 none :: zW) (zRm 2 48 0 0) (va_Pc [.ref B0, .ref r, .int o, .int d] (zPre G B0 F)) (zQv G B0 (fun F' => RA G 1 F' r w cap n (srt (psd ρ o d) t (n - 1)) ∧ zSm F F' r w)) 0 0 (zA B0) := by
  refine z_of (own := RX2) (by decide) rfl (Nat.le_of_ble_eq_true rfl) ?_
  intro p e s m below meth c ls hx hb hr hml hown hlocks hnm hts hl hI
  have hl : lv_has ls 7 [(0, .ref B0), (1, .ref r), (2, .int o), (3, .int d)] := hl
  obtain ⟨yk1, fk1, yr1, er1⟩ := id hK
  obtain ⟨xn, xr, f, xw, xf⟩ := id h
  refine lv_iconst (v := nI 1) hx hb dX2_putInOrder_0 (by decide) ?_
  refine lv_istore (lv' := [(4, .int (nI 1)), (0, .ref B0), (1, .ref r), (2, .int o), (3, .int d)]) hx hb dX2_putInOrder_1 hl (by decide) rfl (fun ls hl => ?_)
  refine z_loop (σ := Nat) (fun k : Nat => [(0, .ref B0), (1, .ref r), (2, .int o), (3, .int d), (4, .int (nI k))]) (fun (k : Nat) (Fx : zM) => RA G 1 Fx r w cap n (srt (psd ρ o d) t (k - 1)) ∧ zSm F Fx r w ∧ 1 ≤ k ∧ (k ≤ n ∨ k = 1)) (fun k : Nat => n - k) 1 (nL := 7) (st := []) ?_ (lv_sub hl [1, 2, 3, 4, 0] rfl) hI ?_
  · exact ⟨RA.cg h (fun j hj => rfl), zSm.rf, Nat.le_refl _, Or.inr rfl⟩
  · intro k F2 ls H locs hi hl hI ih
    have hl : lv_has ls 7 [(0, .ref B0), (1, .ref r), (2, .int o), (3, .int d), (4, .int (nI k))] := hl
    obtain ⟨ha0, hs0, hk1, hk2⟩ := hi
    have hK1 := hK.go (hs0 _ (Ne.symm hrB) (fun e => absurd (e ▸ hK.1) (by rw [h.2.2.choose_spec.1]; exact fun z => by cases Option.some.inj z))) (hs0 _ (fun e => by obtain ⟨f9, z9, -⟩ := hK.2; rw [e, h.2.1] at z9; cases Option.some.inj z9) (Ne.symm hwB))
    obtain ⟨yk3, fk3, yr3, er3⟩ := id hK1
    obtain ⟨xn_, xr_, f_, xw_, xf_⟩ := id ha0
    refine lv_iload hx hb dX2_putInOrder_3 (lv_at hl 4 rfl) ?_
    refine lv_aload_n hx hb dX2_putInOrder_5 rfl (lv_at hl 1 rfl) ?_
    refine z_getN hx hb hts hown zlX1 rfl 1 (by decide) (List.mem_of_getElem? (i := 0) rfl) rfl hI xr_ rfl dX2_putInOrder_6 ?_
    refine z_icmp_ge (tgt := 87) (a := k) (b := n) hx hb dX2_putInOrder_9 (by decide) (by omega) (fun hq4 => ?_) (fun hq4 => ?_)
    · refine z_rv hx hb hr hlocks hI ?_ (Nat.le_of_ble_eq_true rfl) (Nat.le_of_ble_eq_true rfl) dX2_putInOrder_87
      refine ⟨rfl, RA.cg ha0 (fun j hj => ?_), hs0⟩
      rw [show k - 1 = n - 1 by omega]
    · refine lv_aload_n hx hb dX2_putInOrder_12 rfl (lv_at hl 1 rfl) ?_
      refine z_getN hx hb hts hown zlX1 rfl 0 (by decide) (List.mem_of_getElem? (i := 1) rfl) rfl hI xr_ rfl dX2_putInOrder_13 ?_
      refine lv_iload hx hb dX2_putInOrder_16 (lv_at hl 4 rfl) ?_
      refine z_ild (k := k) (v := srt (psd ρ o d) t (k - 1) k) hx hb hI xw_ (by omega) (by omega) (xf_ k (by omega)) dX2_putInOrder_18 ?_
      refine lv_istore (lv' := [(5, .int (srt (psd ρ o d) t (k - 1) k)), (0, .ref B0), (1, .ref r), (2, .int o), (3, .int d), (4, .int (nI k))]) hx hb dX2_putInOrder_19 hl (by decide) rfl (fun ls hl => ?_)
      refine lv_iload hx hb dX2_putInOrder_21 (lv_at hl 5 rfl) ?_
      refine lv_istore (lv' := [(6, .int (nI k)), (5, .int (srt (psd ρ o d) t (k - 1) k)), (0, .ref B0), (1, .ref r), (2, .int o), (3, .int d), (4, .int (nI k))]) hx hb dX2_putInOrder_23 hl (by decide) rfl (fun ls hl => ?_)
      refine z_loop (σ := Nat) (fun q : Nat => [(0, .ref B0), (1, .ref r), (2, .int o), (3, .int d), (4, .int (nI k)), (5, .int (srt (psd ρ o d) t (k - 1) k)), (6, .int (nI q))]) (fun (q : Nat) (Fx : zM) => RA G 1 Fx r w cap n (hol (srt (psd ρ o d) t (k - 1)) q k) ∧ zSm F Fx r w ∧ q ≤ k ∧ lnd (psd ρ o d) (srt (psd ρ o d) t (k - 1)) (srt (psd ρ o d) t (k - 1) k) k = lnd (psd ρ o d) (srt (psd ρ o d) t (k - 1)) (srt (psd ρ o d) t (k - 1) k) q) (fun q : Nat => q) k (nL := 7) (st := []) ?_ (lv_sub hl [2, 3, 4, 5, 6, 1, 0] rfl) hI ?_
      · exact ⟨RA.cg ⟨xn_, xr_, f_, xw_, xf_⟩ (fun j hj => hol_0 j), hs0, Nat.le_refl _, rfl⟩
      · intro q F5 ls H locs hi hl hI ih25
        have hl : lv_has ls 7 [(0, .ref B0), (1, .ref r), (2, .int o), (3, .int d), (4, .int (nI k)), (5, .int (srt (psd ρ o d) t (k - 1) k)), (6, .int (nI q))] := hl
        obtain ⟨ha1, hs1, hq1, hq2⟩ := hi
        have hK1 := hK.go (hs1 _ (Ne.symm hrB) (fun e => absurd (e ▸ hK.1) (by rw [h.2.2.choose_spec.1]; exact fun z => by cases Option.some.inj z))) (hs1 _ (fun e => by obtain ⟨f9, z9, -⟩ := hK.2; rw [e, h.2.1] at z9; cases Option.some.inj z9) (Ne.symm hwB))
        obtain ⟨yk6, fk6, yr6, er6⟩ := id hK1
        obtain ⟨xn_, xr_, f_, xw_, xf_⟩ := id ha1
        have hsw := srt_wok (P := (psd ρ o d)) (k := k - 1) hw (by omega)
        refine lv_iload hx hb dX2_putInOrder_25 (lv_at hl 6 rfl) ?_
        refine z_if_le (tgt := 72) (a := q) hx hb dX2_putInOrder_27 (by decide) (by omega) (fun hq7 => ?_) (fun hq7 => ?_)
        · have hlq : lnd (psd ρ o d) (srt (psd ρ o d) t (k - 1)) (srt (psd ρ o d) t (k - 1) k) k = q := by rw [hq2, hq7]; rfl
          refine lv_aload_n hx hb dX2_putInOrder_72 rfl (lv_at hl 1 rfl) ?_
          refine z_getN hx hb hts hown zlX1 rfl 0 (by decide) (List.mem_of_getElem? (i := 1) rfl) rfl hI xr_ rfl dX2_putInOrder_73 ?_
          refine lv_iload hx hb dX2_putInOrder_76 (lv_at hl 6 rfl) ?_
          refine lv_iload hx hb dX2_putInOrder_78 (lv_at hl 5 rfl) ?_
          refine z_ist (k := q) hx hb hI xw_ (by omega) (by omega) dX2_putInOrder_80 (fun H locs F8 hw9 ho10 hI => ?_)
          have hc11 : F8 B0 = some (zO 2 [.ref (B0 + 1), .ref (B0 + 2), .ref (B0 + 3), .ref (B0 + 4), .ref (B0 + 6), .ref (B0 + 8), .ref (B0 + 10)]) := (ho10 _ (zne yk6 xw_ (fun q => by cases q))).trans yk6
          have hc12 : F8 (B0 + 3) = some (zAI G 100 fk6) := (ho10 _ (Ne.symm hwB)).trans yr6
          have hc13 : F8 r = some (zO 1 [.ref w, .int (nI n)]) := (ho10 _ (zne xr_ xw_ (fun q => by cases q))).trans xr_
          refine lv_iinc (k := 4) (v := nI (k + 1)) (lv' := [(4, .int (nI (k + 1))), (0, .ref B0), (1, .ref r), (2, .int o), (3, .int d), (5, .int (srt (psd ρ o d) t (k - 1) k)), (6, .int (nI q))]) hx hb dX2_putInOrder_81 hl rfl (nI_add k 1) (by decide) rfl (fun ls hl => ?_)
          refine lv_goto (tgt := 3) hx hb dX2_putInOrder_84 (by decide) ?_
          refine ih (k + 1) _ ls H locs (by first | omega | (dsimp only; omega)) ?_ (lv_sub hl [1, 2, 3, 4, 0] rfl) hI
          have hs9 := srt_at (P := (psd ρ o d)) (t := t) hk1 hlq
          refine ⟨⟨xn_, hc13, _, hw9, fun j hj => ?_⟩, (zSm.tr hs1 (zSm.r ho10)), by omega, by omega⟩
          rw [show k + 1 - 1 = k by omega, hs9, ← hol_e (by omega)]
          exact upd_cg xf_ j hj
        · have hd9 := hol_d (t := (srt (psd ρ o d) t (k - 1))) (q := q) (k := k) hq7
          refine lv_aload_n hx hb dX2_putInOrder_30 rfl (lv_at hl 0 rfl) ?_
          refine lv_iload hx hb dX2_putInOrder_31 (lv_at hl 5 rfl) ?_
          refine lv_aload_n hx hb dX2_putInOrder_33 rfl (lv_at hl 1 rfl) ?_
          refine z_getN hx hb hts hown zlX1 rfl 0 (by decide) (List.mem_of_getElem? (i := 1) rfl) rfl hI xr_ rfl dX2_putInOrder_34 ?_
          refine lv_iload hx hb dX2_putInOrder_37 (lv_at hl 6 rfl) ?_
          refine lv_iconst (v := nI 1) hx hb dX2_putInOrder_39 (by decide) ?_
          refine lv_isub hx hb dX2_putInOrder_40 ?_
          refine z_topi (pk_sub (a := q) (b := 1) (by omega)) ?_
          refine z_ild (k := q - 1) (v := hol (srt (psd ρ o d) t (k - 1)) q k (q - 1)) hx hb hI xw_ (by omega) (by omega) (xf_ (q - 1) (by omega)) dX2_putInOrder_41 ?_
          refine lv_iload_n hx hb dX2_putInOrder_42 rfl (lv_at hl 2 rfl) ?_
          refine lv_iload_n hx hb dX2_putInOrder_43 rfl (lv_at hl 3 rfl) ?_
          refine z_calli hI (z_V (As := [.int (srt (psd ρ o d) t (k - 1) k), .int (hol (srt (psd ρ o d) t (k - 1)) q k (q - 1)), .int o, .int d]) (rest := []) ⟨hx, hb, hml, hown, hts⟩ hI yk6 rfl (c_X2_mustPass l G B0 F5 o d (srt (psd ρ o d) t (k - 1) k) (hol (srt (psd ρ o d) t (k - 1)) q k (q - 1)) ρ hK1 (hsw k (by omega)) ((hol_d (t := (srt (psd ρ o d) t (k - 1))) (q := q) (k := k) (by omega)) ▸ hsw (q - 1) (by omega))) (z_cwV vX2_mustPass hts q505 ⟨Nat.le_of_ble_eq_true rfl, Nat.le_of_ble_eq_true rfl⟩) rfl hl.1 rfl (lv_room (Nat.le_of_ble_eq_true rfl)) dX2_putInOrder_44 ⟨Nat.le_of_ble_eq_true rfl, Nat.le_of_ble_eq_true rfl⟩) (fun r15 F14 H locs hp16 hI => ?_)
          obtain ⟨rfl, rfl⟩ := hp16
          refine z_ifp_eq (tgt := 72) hx hb dX2_putInOrder_47 (by decide) (fun hq17 => ?_) (fun hq17 => ?_)
          · rw [hd9] at hq17
            have hlq : lnd (psd ρ o d) (srt (psd ρ o d) t (k - 1)) (srt (psd ρ o d) t (k - 1) k) k = q := by rw [hq2, lnd_fq hq7 hq17]
            refine lv_aload_n hx hb dX2_putInOrder_72 rfl (lv_at hl 1 rfl) ?_
            refine z_getN hx hb hts hown zlX1 rfl 0 (by decide) (List.mem_of_getElem? (i := 1) rfl) rfl hI xr_ rfl dX2_putInOrder_73 ?_
            refine lv_iload hx hb dX2_putInOrder_76 (lv_at hl 6 rfl) ?_
            refine lv_iload hx hb dX2_putInOrder_78 (lv_at hl 5 rfl) ?_
            refine z_ist (k := q) hx hb hI xw_ (by omega) (by omega) dX2_putInOrder_80 (fun H locs F18 hw19 ho20 hI => ?_)
            have hc21 : F18 B0 = some (zO 2 [.ref (B0 + 1), .ref (B0 + 2), .ref (B0 + 3), .ref (B0 + 4), .ref (B0 + 6), .ref (B0 + 8), .ref (B0 + 10)]) := (ho20 _ (zne yk6 xw_ (fun q => by cases q))).trans yk6
            have hc22 : F18 (B0 + 3) = some (zAI G 100 fk6) := (ho20 _ (Ne.symm hwB)).trans yr6
            have hc23 : F18 r = some (zO 1 [.ref w, .int (nI n)]) := (ho20 _ (zne xr_ xw_ (fun q => by cases q))).trans xr_
            refine lv_iinc (k := 4) (v := nI (k + 1)) (lv' := [(4, .int (nI (k + 1))), (0, .ref B0), (1, .ref r), (2, .int o), (3, .int d), (5, .int (srt (psd ρ o d) t (k - 1) k)), (6, .int (nI q))]) hx hb dX2_putInOrder_81 hl rfl (nI_add k 1) (by decide) rfl (fun ls hl => ?_)
            refine lv_goto (tgt := 3) hx hb dX2_putInOrder_84 (by decide) ?_
            refine ih (k + 1) _ ls H locs (by first | omega | (dsimp only; omega)) ?_ (lv_sub hl [1, 2, 3, 4, 0] rfl) hI
            have hs9 := srt_at (P := (psd ρ o d)) (t := t) hk1 hlq
            refine ⟨⟨xn_, hc23, _, hw19, fun j hj => ?_⟩, (zSm.tr hs1 (zSm.r ho20)), by omega, by omega⟩
            rw [show k + 1 - 1 = k by omega, hs9, ← hol_e (by omega)]
            exact upd_cg xf_ j hj
          · rw [hd9] at hq17
            refine lv_aload_n hx hb dX2_putInOrder_50 rfl (lv_at hl 1 rfl) ?_
            refine z_getN hx hb hts hown zlX1 rfl 0 (by decide) (List.mem_of_getElem? (i := 1) rfl) rfl hI xr_ rfl dX2_putInOrder_51 ?_
            refine lv_iload hx hb dX2_putInOrder_54 (lv_at hl 6 rfl) ?_
            refine lv_aload_n hx hb dX2_putInOrder_56 rfl (lv_at hl 1 rfl) ?_
            refine z_getN hx hb hts hown zlX1 rfl 0 (by decide) (List.mem_of_getElem? (i := 1) rfl) rfl hI xr_ rfl dX2_putInOrder_57 ?_
            refine lv_iload hx hb dX2_putInOrder_60 (lv_at hl 6 rfl) ?_
            refine lv_iconst (v := nI 1) hx hb dX2_putInOrder_62 (by decide) ?_
            refine lv_isub hx hb dX2_putInOrder_63 ?_
            refine z_topi (pk_sub (a := q) (b := 1) (by omega)) ?_
            refine z_ild (k := q - 1) (v := hol (srt (psd ρ o d) t (k - 1)) q k (q - 1)) hx hb hI xw_ (by omega) (by omega) (xf_ (q - 1) (by omega)) dX2_putInOrder_64 ?_
            refine z_ist (k := q) hx hb hI xw_ (by omega) (by omega) dX2_putInOrder_65 (fun H locs F24 hw25 ho26 hI => ?_)
            have hc27 : F24 B0 = some (zO 2 [.ref (B0 + 1), .ref (B0 + 2), .ref (B0 + 3), .ref (B0 + 4), .ref (B0 + 6), .ref (B0 + 8), .ref (B0 + 10)]) := (ho26 _ (zne yk6 xw_ (fun q => by cases q))).trans yk6
            have hc28 : F24 (B0 + 3) = some (zAI G 100 fk6) := (ho26 _ (Ne.symm hwB)).trans yr6
            have hc29 : F24 r = some (zO 1 [.ref w, .int (nI n)]) := (ho26 _ (zne xr_ xw_ (fun q => by cases q))).trans xr_
            refine lv_iinc (k := 6) (v := nI (q - 1)) (lv' := [(6, .int (nI (q - 1))), (0, .ref B0), (1, .ref r), (2, .int o), (3, .int d), (4, .int (nI k)), (5, .int (srt (psd ρ o d) t (k - 1) k))]) hx hb dX2_putInOrder_66 hl rfl (sb_m1 (p := q) (by omega)) (by decide) rfl (fun ls hl => ?_)
            refine lv_goto (tgt := 25) hx hb dX2_putInOrder_69 (by decide) ?_
            refine ih25 (q - 1) _ ls H locs (by first | omega | (dsimp only; omega)) ?_ (lv_sub hl [1, 2, 3, 4, 5, 6, 0] rfl) hI
            refine ⟨⟨xn_, hc29, _, hw25, fun j hj => ?_⟩, (zSm.tr hs1 (zSm.r ho26)), by omega, ?_⟩
            · rw [← hol_s hq7 (by omega), ← hd9]
              exact upd_cg xf_ j hj
            · rw [hq2, lnd_tq hq7 hq17]

