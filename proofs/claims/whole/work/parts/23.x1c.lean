set_option maxHeartbeats 4000000 in
set_option maxRecDepth 100000 in
theorem c_X1_lastPlaceOf (l : Launch) (G : zK) (B0 : Nat) (F : zM) (r w cap n : Nat) (t : Nat → Int32) (r2 w2 cap2 n2 : Nat) (t2 : Nat → Int32) (h : RA G 1 F r w cap n t) (hcap : cap ≤ 100) (h2 : RA G 1 F r2 w2 cap2 n2 t2) (hcap2 : cap2 ≤ 100) : Met l yX1_lastPlaceOf (Cond.code yX1_lastPlaceOf cX1_lastPlaceOf 3 (some FieldType.int) :: zW) (zRm 1 23 0 0) (va_Pc [.ref r, .ref r2] (zPre G B0 F)) (zQi G B0 (fun r F' => F = F' ∧ r = rI (zlst (hld t n t2 n2) (n + 1 - n2)))) 0 0 (zA B0) := by
  refine z_of (own := RX1) (by decide) rfl (Nat.le_of_ble_eq_true rfl) ?_
  intro p e s m below meth c ls hx hb hr hml hown hlocks hnm hts hl hI
  have hl : lv_has ls 3 [(0, .ref r), (1, .ref r2)] := hl
  obtain ⟨xn, xr, f, xw, xf⟩ := id h
  obtain ⟨xn2, xr2, f2, xw2, xf2⟩ := id h2
  refine lv_aload_n hx hb dX1_lastPlaceOf_0 rfl (lv_at hl 0 rfl) ?_
  refine z_get hx hb hts hown zlX1 rfl 1 (by decide) (hts _ q32) rfl hI xr rfl dX1_lastPlaceOf_1 ?_
  refine lv_aload_n hx hb dX1_lastPlaceOf_4 rfl (lv_at hl 1 rfl) ?_
  refine z_get hx hb hts hown zlX1 rfl 1 (by decide) (hts _ q32) rfl hI xr2 rfl dX1_lastPlaceOf_5 ?_
  refine lv_isub hx hb dX1_lastPlaceOf_8 ?_
  refine lv_istore_n (lv' := [(2, .int ((nI n) - (nI n2))), (0, .ref r), (1, .ref r2)]) hx hb dX1_lastPlaceOf_9 rfl hl (by decide) rfl (fun ls hl => ?_)
  refine z_loop (σ := Nat × Int32) (fun xx : Nat × Int32 => match xx with | (cq, z) => [(0, .ref r), (1, .ref r2), (2, .int z)]) (fun (xx : Nat × Int32) (Fx : zM) => match xx with | (cq, z) => F = Fx ∧ cq ≤ n + 1 - n2 ∧ zlst (hld t n t2 n2) (n + 1 - n2) = zlst (hld t n t2 n2) cq ∧ ((cq = 0 ∧ z < 0) ∨ ∃ c1, cq = c1 + 1 ∧ z = nI c1)) (fun xx : Nat × Int32 => match xx with | (cq, z) => cq) (n + 1 - n2, (nI n) - (nI n2)) (nL := 3) (st := []) ?_ (lv_sub hl [1, 2, 0] rfl) hI ?_
  · refine ⟨rfl, Nat.le_refl _, rfl, ?_⟩
    by_cases hmn : n2 ≤ n
    · exact Or.inr ⟨n - n2, by omega, pk_sub hmn⟩
    · exact Or.inl ⟨by omega, pk_sneg (by omega) (by omega)⟩
  · intro xx F1 ls H locs hi hl hI ih
    obtain ⟨cq, z⟩ := xx
    have hl : lv_has ls 3 [(0, .ref r), (1, .ref r2), (2, .int z)] := hl
    obtain ⟨hF, hc, hz, hd⟩ := hi
    subst hF
    rcases hd with ⟨hc0, hz0⟩ | ⟨c1, hc1, hz1⟩
    · refine lv_iload_n hx hb dX1_lastPlaceOf_10 rfl (lv_at hl 2 rfl) ?_
      refine lv_if_lt (tgt := 31) hx hb dX1_lastPlaceOf_11 (by decide) (fun hq2 => ?_) (fun hq2 => ?_)
      · refine lv_iconst (v := -1) hx hb dX1_lastPlaceOf_31 (by decide) ?_
        refine z_ri hx hb hr hlocks hI ?_ (Nat.le_of_ble_eq_true rfl) (Nat.le_of_ble_eq_true rfl) dX1_lastPlaceOf_32
        subst hc0
        exact ⟨_, rfl, rfl, by rw [hz]; rfl⟩
      · exact absurd hz0 hq2
    · subst hc1
      subst hz1
      have hl : lv_has ls 3 [(0, .ref r), (1, .ref r2), (2, .int (nI c1))] := hl
      refine lv_iload_n hx hb dX1_lastPlaceOf_10 rfl (lv_at hl 2 rfl) ?_
      refine z_if_lt (tgt := 31) (a := c1) hx hb dX1_lastPlaceOf_11 (by decide) (by omega) ?_
      refine lv_aload_n hx hb dX1_lastPlaceOf_14 rfl (lv_at hl 0 rfl) ?_
      refine lv_aload_n hx hb dX1_lastPlaceOf_15 rfl (lv_at hl 1 rfl) ?_
      refine lv_iload_n hx hb dX1_lastPlaceOf_16 rfl (lv_at hl 2 rfl) ?_
      refine z_calli hI (z_V (As := [.ref r2, .int (nI c1)]) (rest := []) ⟨hx, hb, hml, hown, hts⟩ hI xr rfl (c_X1_holds l G B0 F r w cap n t r2 w2 cap2 n2 t2 c1 ⟨xn, xr, f, xw, xf⟩ (by omega) ⟨xn2, xr2, f2, xw2, xf2⟩ (by omega) (by omega)) (z_cwV vX1_holds hts q331 ⟨Nat.le_of_ble_eq_true rfl, Nat.le_of_ble_eq_true rfl⟩) rfl hl.1 rfl (lv_room (Nat.le_of_ble_eq_true rfl)) dX1_lastPlaceOf_17 ⟨Nat.le_of_ble_eq_true rfl, Nat.le_of_ble_eq_true rfl⟩) (fun r5 F4 H locs hp6 hI => ?_)
      obtain ⟨rfl, rfl⟩ := hp6
      refine z_ifp_eq (tgt := 25) hx hb dX1_lastPlaceOf_20 (by decide) (fun hq7 => ?_) (fun hq7 => ?_)
      · refine lv_iinc (k := 2) (v := nI c1 + (-1)) (lv' := [(2, .int (nI c1 + (-1))), (0, .ref r), (1, .ref r2)]) hx hb dX1_lastPlaceOf_25 hl rfl rfl (by decide) rfl (fun ls hl => ?_)
        refine lv_goto (tgt := 10) hx hb dX1_lastPlaceOf_28 (by decide) ?_
        refine ih (c1, nI c1 + (-1)) _ ls H locs (by first | omega | (dsimp only; omega)) ?_ (lv_sub hl [1, 2, 0] rfl) hI
        refine ⟨rfl, by omega, ?_, ?_⟩
        · rw [hz, zlst_f hq7]
        · cases c1 with
          | zero => exact Or.inl ⟨rfl, by decide⟩
          | succ c2 => exact Or.inr ⟨c2, rfl, pk_m1 c2⟩
      · refine lv_iload_n hx hb dX1_lastPlaceOf_23 rfl (lv_at hl 2 rfl) ?_
        refine z_ri hx hb hr hlocks hI ?_ (Nat.le_of_ble_eq_true rfl) (Nat.le_of_ble_eq_true rfl) dX1_lastPlaceOf_24
        exact ⟨_, rfl, rfl, by rw [hz, zlst_t hq7]; rfl⟩

set_option maxHeartbeats 4000000 in
set_option maxRecDepth 100000 in
theorem c_X3_count (l : Launch) (G : zK) (B0 : Nat) (F : zM) (r w cap n : Nat) (t : Nat → Int32) (r2 w2 cap2 n2 : Nat) (t2 : Nat → Int32) (ap : Nat) (h : RA G 3 F r w cap n t) (hcap : cap ≤ 100) (h2 : RA G 3 F r2 w2 cap2 n2 t2) (hcap2 : cap2 ≤ 100) (hap : ap ≤ 1) : Met l yX3_count (Cond.code yX3_count cX3_count 5 (some FieldType.int) :: zW) (zRm 3 69 0 0) (va_Pc [.ref r, .ref r2, .int (nI ap)] (zPre G B0 F)) (zQi G B0 (fun r' F' => F = F' ∧ (ap = 0 → r' = nI (zct (hld t n t2 n2) (n + 1 - n2))) ∧ (ap = 1 → r' = nI (zap (hld t n t2 n2) n2 (n + 1 - n2)).1))) 0 0 (zA B0) := by
  refine z_of (own := RX3) (by decide) rfl (Nat.le_of_ble_eq_true rfl) ?_
  intro p e s m below meth c ls hx hb hr hml hown hlocks hnm hts hl hI
  have hl : lv_has ls 5 [(0, .ref r), (1, .ref r2), (2, .int (nI ap))] := hl
  obtain ⟨xn, xr, f, xw, xf⟩ := id h
  obtain ⟨xn2, xr2, f2, xw2, xf2⟩ := id h2
  refine lv_iconst (v := nI 0) hx hb dX3_count_0 (by decide) ?_
  refine lv_istore_n (lv' := [(3, .int (nI 0)), (0, .ref r), (1, .ref r2), (2, .int (nI ap))]) hx hb dX3_count_1 rfl hl (by decide) rfl (fun ls hl => ?_)
  refine lv_aload_n hx hb dX3_count_2 rfl (lv_at hl 1 rfl) ?_
  refine lv_aload_n hx hb dX3_count_3 rfl (lv_at hl 2 rfl) ?_
  refine lv_iconst (v := nI 0) hx hb dX3_count_4 (by decide) ?_
  refine z_calli hI (z_V (As := [.ref r2, .int (nI 0)]) (rest := []) ⟨hx, hb, hml, hown, hts⟩ hI xr rfl (c_X3_find l G B0 F r w cap n t r2 w2 cap2 n2 t2 0 ⟨xn, xr, f, xw, xf⟩ (by omega) ⟨xn2, xr2, f2, xw2, xf2⟩ (by omega) (by omega)) (z_cwV vX3_find hts q916 ⟨Nat.le_of_ble_eq_true rfl, Nat.le_of_ble_eq_true rfl⟩) rfl hl.1 rfl (lv_room (Nat.le_of_ble_eq_true rfl)) dX3_count_5 ⟨Nat.le_of_ble_eq_true rfl, Nat.le_of_ble_eq_true rfl⟩) (fun r2 F1 H locs hp3 hI => ?_)
  obtain ⟨rfl, rfl⟩ := hp3
  refine lv_istore (lv' := [(4, .int (rI (zfst (hld t n t2 n2) 0 (n + 1 - n2 - 0)))), (3, .int (nI 0)), (0, .ref r), (1, .ref r2), (2, .int (nI ap))]) hx hb dX3_count_8 hl (by decide) rfl (fun ls hl => ?_)
  refine z_loop (σ := Nat × Int32 × Nat) (fun xx : Nat × Int32 × Nat => match xx with | (a, z, st) => [(0, .ref r), (1, .ref r2), (2, .int (nI ap)), (3, .int (nI a)), (4, .int z)]) (fun (xx : Nat × Int32 × Nat) (Fx : zM) => match xx with | (a, z, st) => F = Fx ∧ st ≤ 101 ∧ a ≤ st ∧ z = rI (zfst (hld t n t2 n2) st (n + 1 - n2 - st)) ∧ (ap = 0 → a = zct (hld t n t2 n2) st) ∧ (ap = 1 → a = (zap (hld t n t2 n2) n2 st).1 ∧ (zap (hld t n t2 n2) n2 st).2 ≤ st)) (fun xx : Nat × Int32 × Nat => match xx with | (a, z, st) => 102 - st) (0, rI (zfst (hld t n t2 n2) 0 (n + 1 - n2 - 0)), 0) (nL := 5) (st := []) ?_ (lv_sub hl [2, 3, 4, 1, 0] rfl) hI ?_
  · exact ⟨rfl, by omega, Nat.le_refl _, rfl, fun _ => rfl, fun _ => ⟨rfl, Nat.le_refl _⟩⟩
  · intro xx F4 ls H locs hi hl hI ih
    obtain ⟨a, z, st⟩ := xx
    have hl : lv_has ls 5 [(0, .ref r), (1, .ref r2), (2, .int (nI ap)), (3, .int (nI a)), (4, .int z)] := hl
    obtain ⟨hF, hst, ha, hz, hc0, hc1⟩ := hi
    subst hF
    rcases ho : zfst (hld t n t2 n2) st (n + 1 - n2 - st) with _ | k
    · rw [ho] at hz
      have hz : z = -1 := hz
      subst hz
      have hl : lv_has ls 5 [(0, .ref r), (1, .ref r2), (2, .int (nI ap)), (3, .int (nI a)), (4, .int (-1))] := hl
      refine lv_iload hx hb dX3_count_10 (lv_at hl 4 rfl) ?_
      refine lv_iconst (v := -1) hx hb dX3_count_12 (by decide) ?_
      refine lv_icmp_eq (tgt := 48) hx hb dX3_count_13 (by decide) (fun hq5 => ?_) (fun hq5 => ?_)
      · refine lv_iload_n hx hb dX3_count_48 rfl (lv_at hl 3 rfl) ?_
        refine z_ri hx hb hr hlocks hI ?_ (Nat.le_of_ble_eq_true rfl) (Nat.le_of_ble_eq_true rfl) dX3_count_49
        refine ⟨_, rfl, rfl, fun q => ?_, fun q => ?_⟩
        · rw [hc0 q]
          by_cases hcs : st ≤ n + 1 - n2
          · rw [zct_run hcs (fun j h1 h2 => zfst_none ho j h1 (by omega))]
          · rw [zct_run (i := n + 1 - n2) (k := st) (by omega) (fun j h1 h2 h3 => by have := h3.1; omega)]
        · obtain ⟨e1, e2⟩ := hc1 q
          rw [e1]
          by_cases hcs : st ≤ n + 1 - n2
          · rw [zap_run (i := st) (k := n + 1 - n2) hcs (fun j h1 h2 h3 => zfst_none ho j h1 (by omega) h3.2)]
          · rw [zap_run (i := n + 1 - n2) (k := st) (by omega) (fun j h1 h2 h3 => by have := h3.2.1; omega)]
      · exact absurd rfl hq5
    · rw [ho] at hz
      have hz : z = nI k := hz
      subst hz
      obtain ⟨hk1, hk2, hk3, hk4⟩ := zfst_some ho
      have hk5 := hk3.1
      have hl : lv_has ls 5 [(0, .ref r), (1, .ref r2), (2, .int (nI ap)), (3, .int (nI a)), (4, .int (nI k))] := hl
      refine lv_iload hx hb dX3_count_10 (lv_at hl 4 rfl) ?_
      refine lv_iconst (v := -1) hx hb dX3_count_12 (by decide) ?_
      refine lv_icmp_eq (tgt := 48) hx hb dX3_count_13 (by decide) (fun hq6 => ?_) (fun hq6 => ?_)
      · exact absurd hq6 (nI_m1 (by omega))
      · refine lv_iinc (k := 3) (v := nI (a + 1)) (lv' := [(3, .int (nI (a + 1))), (0, .ref r), (1, .ref r2), (2, .int (nI ap)), (4, .int (nI k))]) hx hb dX3_count_16 hl rfl (nI_add a 1) (by decide) rfl (fun ls hl => ?_)
        refine lv_aload_n hx hb dX3_count_19 rfl (lv_at hl 1 rfl) ?_
        refine lv_aload_n hx hb dX3_count_20 rfl (lv_at hl 2 rfl) ?_
        refine lv_iload hx hb dX3_count_21 (lv_at hl 4 rfl) ?_
        refine lv_iload_n hx hb dX3_count_23 rfl (lv_at hl 3 rfl) ?_
        refine z_if_eq (tgt := 38) (a := ap) hx hb dX3_count_24 (by decide) (by omega) (fun hq7 => ?_) (fun hq7 => ?_)
        · refine lv_iconst (v := nI 1) hx hb dX3_count_38 (by decide) ?_
          refine lv_iadd hx hb dX3_count_39 ?_
          refine z_topi (nI_add k 1) ?_
          refine z_calli hI (z_V (As := [.ref r2, .int (nI (k + 1))]) (rest := []) ⟨hx, hb, hml, hown, hts⟩ hI xr rfl (c_X3_find l G B0 F r w cap n t r2 w2 cap2 n2 t2 (k + 1) ⟨xn, xr, f, xw, xf⟩ (by omega) ⟨xn2, xr2, f2, xw2, xf2⟩ (by omega) (by omega)) (z_cwV vX3_find hts q916 ⟨Nat.le_of_ble_eq_true rfl, Nat.le_of_ble_eq_true rfl⟩) rfl hl.1 rfl (lv_room (Nat.le_of_ble_eq_true rfl)) dX3_count_40 ⟨Nat.le_of_ble_eq_true rfl, Nat.le_of_ble_eq_true rfl⟩) (fun r9 F8 H locs hp10 hI => ?_)
          obtain ⟨rfl, rfl⟩ := hp10
          refine lv_istore (lv' := [(4, .int (rI (zfst (hld t n t2 n2) (k + 1) (n + 1 - n2 - (k + 1))))), (3, .int (nI (a + 1))), (0, .ref r), (1, .ref r2), (2, .int (nI ap))]) hx hb dX3_count_43 hl (by decide) rfl (fun ls hl => ?_)
          refine lv_goto (tgt := 10) hx hb dX3_count_45 (by decide) ?_
          refine ih (a + 1, rI (zfst (hld t n t2 n2) (k + 1) (n + 1 - n2 - (k + 1))), k + 1) _ ls H locs (by first | omega | (dsimp only; omega)) ?_ (lv_sub hl [2, 3, 4, 1, 0] rfl) hI
          refine ⟨rfl, by omega, by omega, rfl, fun _ => ?_, fun q => absurd q (by omega)⟩
          rw [zct_t hk3, zct_run hk1 hk4, hc0 hq7]
        · refine lv_iconst (v := nI 1) hx hb dX3_count_27 (by decide) ?_
          refine lv_aload_n hx hb dX3_count_28 rfl (lv_at hl 2 rfl) ?_
          refine z_get hx hb hts hown zlX3 rfl 1 (by decide) (hts _ q745) rfl hI xr2 rfl dX3_count_29 ?_
          refine z_calli hI (z_S (As := [.int (nI 1), .int (nI n2)]) (rest := [.int (nI k), .ref r2, .ref r]) ⟨hx, hb, hml, hown, hts⟩ hI (c_J9_max_7cf53 l G B0 F (nI 1) (nI n2)) (z_cwS vJ9_max_7cf53 hts q917 ⟨Nat.le_of_ble_eq_true rfl, Nat.le_of_ble_eq_true rfl⟩) rfl hl.1 rfl (lv_room (Nat.le_of_ble_eq_true rfl)) dX3_count_32 ⟨Nat.le_of_ble_eq_true rfl, Nat.le_of_ble_eq_true rfl⟩) (fun r12 F11 H locs hp13 hI => ?_)
          obtain ⟨rfl, rfl⟩ := hp13
          refine z_topi (zmax_N (a := 1) (b := n2) (by omega) (by omega)) ?_
          refine lv_goto (tgt := 39) hx hb dX3_count_35 (by decide) ?_
          refine lv_iadd hx hb dX3_count_39 ?_
          refine z_topi (nI_add k (max 1 n2)) ?_
          refine z_calli hI (z_V (As := [.ref r2, .int (nI (k + (max 1 n2)))]) (rest := []) ⟨hx, hb, hml, hown, hts⟩ hI xr rfl (c_X3_find l G B0 F r w cap n t r2 w2 cap2 n2 t2 (k + (max 1 n2)) ⟨xn, xr, f, xw, xf⟩ (by omega) ⟨xn2, xr2, f2, xw2, xf2⟩ (by omega) (by omega)) (z_cwV vX3_find hts q916 ⟨Nat.le_of_ble_eq_true rfl, Nat.le_of_ble_eq_true rfl⟩) rfl hl.1 rfl (lv_room (Nat.le_of_ble_eq_true rfl)) dX3_count_40 ⟨Nat.le_of_ble_eq_true rfl, Nat.le_of_ble_eq_true rfl⟩) (fun r15 F14 H locs hp16 hI => ?_)
          obtain ⟨rfl, rfl⟩ := hp16
          refine lv_istore (lv' := [(4, .int (rI (zfst (hld t n t2 n2) (k + (max 1 n2)) (n + 1 - n2 - (k + (max 1 n2)))))), (3, .int (nI (a + 1))), (0, .ref r), (1, .ref r2), (2, .int (nI ap))]) hx hb dX3_count_43 hl (by decide) rfl (fun ls hl => ?_)
          refine lv_goto (tgt := 10) hx hb dX3_count_45 (by decide) ?_
          refine ih (a + 1, rI (zfst (hld t n t2 n2) (k + (max 1 n2)) (n + 1 - n2 - (k + (max 1 n2)))), k + max 1 n2) _ ls H locs (by first | omega | (dsimp only; omega)) ?_ (lv_sub hl [2, 3, 4, 1, 0] rfl) hI
          obtain ⟨e1, e2⟩ := hc1 (by omega)
          have e3 : zap (hld t n t2 n2) n2 k = zap (hld t n t2 n2) n2 st := zap_run hk1 (fun j h1 h2 q => hk4 j h1 h2 q.2)
          have e4 : zap (hld t n t2 n2) n2 (k + 1) = ((zap (hld t n t2 n2) n2 k).1 + 1, k + n2) := zap_t ⟨by rw [e3]; omega, hk3⟩
          have e5 : zap (hld t n t2 n2) n2 (k + max 1 n2) = zap (hld t n t2 n2) n2 (k + 1) := zap_run (by omega) (fun j h1 h2 q => by have h3 := q.1; rw [e4] at h3; have h3 : k + n2 ≤ j := h3; omega)
          refine ⟨rfl, by omega, by omega, rfl, fun q => absurd q (by omega), fun _ => ?_⟩
          rw [e5, e4, e3, ← e1]
          exact ⟨rfl, by show k + n2 ≤ k + max 1 n2; omega⟩

