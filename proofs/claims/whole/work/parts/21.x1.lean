set_option maxHeartbeats 4000000 in
set_option maxRecDepth 100000 in
theorem c_X1_append (l : Launch) (G : zK) (B0 : Nat) (F : zM) (r w cap n : Nat) (t : Nat → Int32) (x : Int32) (h : RA G 1 F r w cap n t) (hlt : n < cap) (hcap : cap ≤ 100) : Met l yX1_append (Cond.code yX1_append cX1_append 2 none :: zW) (zRm 0 0 0 0) (va_Pc [.ref r, .int x] (zPre G B0 F)) (zQv G B0 (fun F' => RA G 1 F' r w cap (n + 1) (upd t n x) ∧ zSm F F' r w)) 0 0 (zA B0) := by
  refine z_of (own := RX1) (by decide) rfl (Nat.le_of_ble_eq_true rfl) ?_
  intro p e s m below meth c ls hx hb hr hml hown hlocks hnm hts hl hI
  have hl : lv_has ls 2 [(0, .ref r), (1, .int x)] := hl
  obtain ⟨xn, xr, f, xw, xf⟩ := id h
  refine lv_aload_n hx hb dX1_append_0 rfl (lv_at hl 0 rfl) ?_
  refine z_get hx hb hts hown zlX1 rfl 0 (by decide) (hts _ q30) rfl hI xr rfl dX1_append_1 ?_
  refine lv_aload_n hx hb dX1_append_4 rfl (lv_at hl 0 rfl) ?_
  refine z_get hx hb hts hown zlX1 rfl 1 (by decide) (hts _ q32) rfl hI xr rfl dX1_append_5 ?_
  refine lv_iload_n hx hb dX1_append_8 rfl (lv_at hl 1 rfl) ?_
  refine z_ist (k := n) hx hb hI xw (by omega) (by omega) dX1_append_9 (fun H locs F1 hw2 ho3 hI => ?_)
  have hc4 : F1 r = some (zO 1 [.ref w, .int (nI n)]) := (ho3 _ (zne xr xw (fun q => by cases q))).trans xr
  refine lv_aload_n hx hb dX1_append_10 rfl (lv_at hl 0 rfl) ?_
  refine lv_dup hx hb dX1_append_11 rfl ?_
  refine z_get hx hb hts hown zlX1 rfl 1 (by decide) (hts _ q32) rfl hI hc4 rfl dX1_append_12 ?_
  refine lv_iconst (v := nI 1) hx hb dX1_append_15 (by decide) ?_
  refine lv_iadd hx hb dX1_append_16 ?_
  refine z_topi (nI_add n 1) ?_
  refine z_put hx hb hts hown zlX1 tyX1 tyX1_ok nmX1 rfl 1 (by decide) (hts _ q32) rfl hI hc4 rfl rfl rfl rfl (Nat.le_of_ble_eq_true rfl) dX1_append_17 (fun H locs F5 hw6 ho7 hI => ?_)
  have hw6 : F5 r = some (zO 1 [.ref w, .int (nI (n + 1))]) := hw6
  have hc8 : F5 w = some (zAI G cap (upd f n x)) := (ho7 _ (zne hw2 hc4 (fun q => by cases q))).trans hw2
  refine z_rv hx hb hr hlocks hI ?_ (Nat.le_of_ble_eq_true rfl) (Nat.le_of_ble_eq_true rfl) dX1_append_20
  refine ⟨rfl, ⟨by omega, hw6, _, hc8, fun j hj => ?_⟩, (zSm.tr (zSm.r ho3) (zSm.l ho7))⟩
  by_cases q : j = n
  · subst q; rw [pk_us, pk_us]
  · rw [pk_un q, pk_un q]; exact xf j (by omega)

set_option maxHeartbeats 4000000 in
set_option maxRecDepth 100000 in
theorem c_X3_add (l : Launch) (G : zK) (B0 : Nat) (F : zM) (r w cap n : Nat) (t : Nat → Int32) (x : Int32) (h : RA G 3 F r w cap n t) (hlt : n < cap) (hcap : cap ≤ 100) : Met l yX3_add (Cond.code yX3_add cX3_add 2 none :: zW) (zRm 0 0 0 0) (va_Pc [.ref r, .int x] (zPre G B0 F)) (zQv G B0 (fun F' => RA G 3 F' r w cap (n + 1) (upd t n x) ∧ zSm F F' r w)) 0 0 (zA B0) := by
  refine z_of (own := RX3) (by decide) rfl (Nat.le_of_ble_eq_true rfl) ?_
  intro p e s m below meth c ls hx hb hr hml hown hlocks hnm hts hl hI
  have hl : lv_has ls 2 [(0, .ref r), (1, .int x)] := hl
  obtain ⟨xn, xr, f, xw, xf⟩ := id h
  refine lv_aload_n hx hb dX3_add_0 rfl (lv_at hl 0 rfl) ?_
  refine z_get hx hb hts hown zlX3 rfl 0 (by decide) (hts _ q743) rfl hI xr rfl dX3_add_1 ?_
  refine lv_aload_n hx hb dX3_add_4 rfl (lv_at hl 0 rfl) ?_
  refine z_get hx hb hts hown zlX3 rfl 1 (by decide) (hts _ q745) rfl hI xr rfl dX3_add_5 ?_
  refine lv_iload_n hx hb dX3_add_8 rfl (lv_at hl 1 rfl) ?_
  refine z_ist (k := n) hx hb hI xw (by omega) (by omega) dX3_add_9 (fun H locs F1 hw2 ho3 hI => ?_)
  have hc4 : F1 r = some (zO 3 [.ref w, .int (nI n)]) := (ho3 _ (zne xr xw (fun q => by cases q))).trans xr
  refine lv_aload_n hx hb dX3_add_10 rfl (lv_at hl 0 rfl) ?_
  refine lv_dup hx hb dX3_add_11 rfl ?_
  refine z_get hx hb hts hown zlX3 rfl 1 (by decide) (hts _ q745) rfl hI hc4 rfl dX3_add_12 ?_
  refine lv_iconst (v := nI 1) hx hb dX3_add_15 (by decide) ?_
  refine lv_iadd hx hb dX3_add_16 ?_
  refine z_topi (nI_add n 1) ?_
  refine z_put hx hb hts hown zlX3 tyX3 tyX3_ok nmX3 rfl 1 (by decide) (hts _ q745) rfl hI hc4 rfl rfl rfl rfl (Nat.le_of_ble_eq_true rfl) dX3_add_17 (fun H locs F5 hw6 ho7 hI => ?_)
  have hw6 : F5 r = some (zO 3 [.ref w, .int (nI (n + 1))]) := hw6
  have hc8 : F5 w = some (zAI G cap (upd f n x)) := (ho7 _ (zne hw2 hc4 (fun q => by cases q))).trans hw2
  refine z_rv hx hb hr hlocks hI ?_ (Nat.le_of_ble_eq_true rfl) (Nat.le_of_ble_eq_true rfl) dX3_add_20
  refine ⟨rfl, ⟨by omega, hw6, _, hc8, fun j hj => ?_⟩, (zSm.tr (zSm.r ho3) (zSm.l ho7))⟩
  by_cases q : j = n
  · subst q; rw [pk_us, pk_us]
  · rw [pk_un q, pk_un q]; exact xf j (by omega)

set_option maxHeartbeats 4000000 in
set_option maxRecDepth 100000 in
theorem c_X1_timesOf (l : Launch) (G : zK) (B0 : Nat) (F : zM) (r w cap n : Nat) (t : Nat → Int32) (x : Int32) (h : RA G 1 F r w cap n t) (hcap : cap ≤ 100) : Met l yX1_timesOf (Cond.code yX1_timesOf cX1_timesOf 4 (some FieldType.int) :: zW) (zRm 0 0 0 0) (va_Pc [.ref r, .int x] (zPre G B0 F)) (zQi G B0 (fun r F' => F = F' ∧ r = nI (cnt t x n))) 0 0 (zA B0) := by
  refine z_of (own := RX1) (by decide) rfl (Nat.le_of_ble_eq_true rfl) ?_
  intro p e s m below meth c ls hx hb hr hml hown hlocks hnm hts hl hI
  have hl : lv_has ls 4 [(0, .ref r), (1, .int x)] := hl
  obtain ⟨xn, xr, f, xw, xf⟩ := id h
  refine lv_iconst (v := nI 0) hx hb dX1_timesOf_0 (by decide) ?_
  refine lv_istore_n (lv' := [(2, .int (nI 0)), (0, .ref r), (1, .int x)]) hx hb dX1_timesOf_1 rfl hl (by decide) rfl (fun ls hl => ?_)
  refine lv_iconst (v := nI 0) hx hb dX1_timesOf_2 (by decide) ?_
  refine lv_istore_n (lv' := [(3, .int (nI 0)), (2, .int (nI 0)), (0, .ref r), (1, .int x)]) hx hb dX1_timesOf_3 rfl hl (by decide) rfl (fun ls hl => ?_)
  refine z_loop (σ := Nat × Nat) (fun xx : Nat × Nat => match xx with | (k, a) => [(0, .ref r), (1, .int x), (3, .int (nI k)), (2, .int (nI a))]) (fun (xx : Nat × Nat) (Fx : zM) => match xx with | (k, a) => F = Fx ∧ k ≤ n ∧ a = cnt t x k) (fun xx : Nat × Nat => match xx with | (k, a) => n - k) (0, 0) (nL := 4) (st := []) ?_ (lv_sub hl [2, 3, 0, 1] rfl) hI ?_
  · exact ⟨rfl, Nat.zero_le _, rfl⟩
  · intro xx F1 ls H locs hi hl hI ih
    obtain ⟨k, a⟩ := xx
    have hl : lv_has ls 4 [(0, .ref r), (1, .int x), (3, .int (nI k)), (2, .int (nI a))] := hl
    obtain ⟨hF, hk, ha⟩ := hi
    subst hF
    have hcn := cnt_le t x k
    refine lv_iload_n hx hb dX1_timesOf_4 rfl (lv_at hl 2 rfl) ?_
    refine lv_aload_n hx hb dX1_timesOf_5 rfl (lv_at hl 0 rfl) ?_
    refine z_get hx hb hts hown zlX1 rfl 1 (by decide) (hts _ q32) rfl hI xr rfl dX1_timesOf_6 ?_
    refine z_icmp_ge (tgt := 31) (a := k) (b := n) hx hb dX1_timesOf_9 (by decide) (by omega) (fun hq2 => ?_) (fun hq2 => ?_)
    · refine lv_iload_n hx hb dX1_timesOf_31 rfl (lv_at hl 3 rfl) ?_
      refine z_ri hx hb hr hlocks hI ?_ (Nat.le_of_ble_eq_true rfl) (Nat.le_of_ble_eq_true rfl) dX1_timesOf_32
      have hkn : k = n := by omega
      subst hkn
      exact ⟨_, rfl, rfl, by rw [ha]⟩
    · refine lv_aload_n hx hb dX1_timesOf_12 rfl (lv_at hl 0 rfl) ?_
      refine z_get hx hb hts hown zlX1 rfl 0 (by decide) (hts _ q30) rfl hI xr rfl dX1_timesOf_13 ?_
      refine lv_iload_n hx hb dX1_timesOf_16 rfl (lv_at hl 2 rfl) ?_
      refine z_ild (k := k) (v := t k) hx hb hI xw (by omega) (by omega) (xf k (by omega)) dX1_timesOf_17 ?_
      refine lv_iload_n hx hb dX1_timesOf_18 rfl (lv_at hl 1 rfl) ?_
      refine lv_icmp_ne (tgt := 25) hx hb dX1_timesOf_19 (by decide) (fun hq3 => ?_) (fun hq3 => ?_)
      · refine lv_iinc (k := 2) (v := nI (k + 1)) (lv' := [(3, .int (nI (k + 1))), (0, .ref r), (1, .int x), (2, .int (nI a))]) hx hb dX1_timesOf_25 hl rfl (nI_add k 1) (by decide) rfl (fun ls hl => ?_)
        refine lv_goto (tgt := 4) hx hb dX1_timesOf_28 (by decide) ?_
        refine ih (k + 1, a) _ ls H locs (by first | omega | (dsimp only; omega)) ?_ (lv_sub hl [1, 2, 0, 3] rfl) hI
        exact ⟨rfl, by omega, by simp [cnt, ha, hq3]⟩
      · refine lv_iinc (k := 3) (v := nI (a + 1)) (lv' := [(2, .int (nI (a + 1))), (0, .ref r), (1, .int x), (3, .int (nI k))]) hx hb dX1_timesOf_22 hl rfl (nI_add a 1) (by decide) rfl (fun ls hl => ?_)
        refine lv_iinc (k := 3) (v := nI (k + 1)) (lv' := [(3, .int (nI (k + 1))), (2, .int (nI (a + 1))), (0, .ref r), (1, .int x)]) hx hb dX1_timesOf_25 hl rfl (nI_add k 1) (by decide) rfl (fun ls hl => ?_)
        refine lv_goto (tgt := 4) hx hb dX1_timesOf_28 (by decide) ?_
        refine ih (k + 1, a + 1) _ ls H locs (by first | omega | (dsimp only; omega)) ?_ (lv_sub hl [2, 3, 0, 1] rfl) hI
        exact ⟨rfl, by omega, by simp [cnt, ha, hq3]⟩

set_option maxHeartbeats 4000000 in
set_option maxRecDepth 100000 in
theorem c_X3_often (l : Launch) (G : zK) (B0 : Nat) (F : zM) (r w cap n : Nat) (t : Nat → Int32) (x : Int32) (h : RA G 3 F r w cap n t) (hcap : cap ≤ 100) : Met l yX3_often (Cond.code yX3_often cX3_often 4 (some FieldType.int) :: zW) (zRm 0 0 0 0) (va_Pc [.ref r, .int x] (zPre G B0 F)) (zQi G B0 (fun r F' => F = F' ∧ r = nI (cnt t x n))) 0 0 (zA B0) := by
  refine z_of (own := RX3) (by decide) rfl (Nat.le_of_ble_eq_true rfl) ?_
  intro p e s m below meth c ls hx hb hr hml hown hlocks hnm hts hl hI
  have hl : lv_has ls 4 [(0, .ref r), (1, .int x)] := hl
  obtain ⟨xn, xr, f, xw, xf⟩ := id h
  refine lv_iconst (v := nI 0) hx hb dX3_often_0 (by decide) ?_
  refine lv_istore_n (lv' := [(2, .int (nI 0)), (0, .ref r), (1, .int x)]) hx hb dX3_often_1 rfl hl (by decide) rfl (fun ls hl => ?_)
  refine lv_iconst (v := nI 0) hx hb dX3_often_2 (by decide) ?_
  refine lv_istore_n (lv' := [(3, .int (nI 0)), (2, .int (nI 0)), (0, .ref r), (1, .int x)]) hx hb dX3_often_3 rfl hl (by decide) rfl (fun ls hl => ?_)
  refine z_loop (σ := Nat × Nat) (fun xx : Nat × Nat => match xx with | (k, a) => [(0, .ref r), (1, .int x), (3, .int (nI k)), (2, .int (nI a))]) (fun (xx : Nat × Nat) (Fx : zM) => match xx with | (k, a) => F = Fx ∧ k ≤ n ∧ a = cnt t x k) (fun xx : Nat × Nat => match xx with | (k, a) => n - k) (0, 0) (nL := 4) (st := []) ?_ (lv_sub hl [2, 3, 0, 1] rfl) hI ?_
  · exact ⟨rfl, Nat.zero_le _, rfl⟩
  · intro xx F1 ls H locs hi hl hI ih
    obtain ⟨k, a⟩ := xx
    have hl : lv_has ls 4 [(0, .ref r), (1, .int x), (3, .int (nI k)), (2, .int (nI a))] := hl
    obtain ⟨hF, hk, ha⟩ := hi
    subst hF
    have hcn := cnt_le t x k
    refine lv_iload_n hx hb dX3_often_4 rfl (lv_at hl 2 rfl) ?_
    refine lv_aload_n hx hb dX3_often_5 rfl (lv_at hl 0 rfl) ?_
    refine z_get hx hb hts hown zlX3 rfl 1 (by decide) (hts _ q745) rfl hI xr rfl dX3_often_6 ?_
    refine z_icmp_ge (tgt := 36) (a := k) (b := n) hx hb dX3_often_9 (by decide) (by omega) (fun hq2 => ?_) (fun hq2 => ?_)
    · refine lv_iload_n hx hb dX3_often_36 rfl (lv_at hl 3 rfl) ?_
      refine z_ri hx hb hr hlocks hI ?_ (Nat.le_of_ble_eq_true rfl) (Nat.le_of_ble_eq_true rfl) dX3_often_37
      have hkn : k = n := by omega
      subst hkn
      exact ⟨_, rfl, rfl, by rw [ha]⟩
    · refine lv_iload_n hx hb dX3_often_12 rfl (lv_at hl 3 rfl) ?_
      refine lv_aload_n hx hb dX3_often_13 rfl (lv_at hl 0 rfl) ?_
      refine z_get hx hb hts hown zlX3 rfl 0 (by decide) (hts _ q743) rfl hI xr rfl dX3_often_14 ?_
      refine lv_iload_n hx hb dX3_often_17 rfl (lv_at hl 2 rfl) ?_
      refine z_ild (k := k) (v := t k) hx hb hI xw (by omega) (by omega) (xf k (by omega)) dX3_often_18 ?_
      refine lv_iload_n hx hb dX3_often_19 rfl (lv_at hl 1 rfl) ?_
      refine lv_icmp_ne (tgt := 27) hx hb dX3_often_20 (by decide) (fun hq3 => ?_) (fun hq3 => ?_)
      · refine lv_iconst (v := nI 0) hx hb dX3_often_27 (by decide) ?_
        refine lv_iadd hx hb dX3_often_28 ?_
        refine z_topi (nI_add a 0) ?_
        refine lv_istore_n (lv' := [(2, .int (nI (a + 0))), (0, .ref r), (1, .int x), (3, .int (nI k))]) hx hb dX3_often_29 rfl hl (by decide) rfl (fun ls hl => ?_)
        refine lv_iinc (k := 3) (v := nI (k + 1)) (lv' := [(3, .int (nI (k + 1))), (2, .int (nI (a + 0))), (0, .ref r), (1, .int x)]) hx hb dX3_often_30 hl rfl (nI_add k 1) (by decide) rfl (fun ls hl => ?_)
        refine lv_goto (tgt := 4) hx hb dX3_often_33 (by decide) ?_
        refine ih (k + 1, a + 0) _ ls H locs (by first | omega | (dsimp only; omega)) ?_ (lv_sub hl [2, 3, 0, 1] rfl) hI
        exact ⟨rfl, by omega, by simp [cnt, ha, hq3]⟩
      · refine lv_iconst (v := nI 1) hx hb dX3_often_23 (by decide) ?_
        refine lv_goto (tgt := 28) hx hb dX3_often_24 (by decide) ?_
        refine lv_iadd hx hb dX3_often_28 ?_
        refine z_topi (nI_add a 1) ?_
        refine lv_istore_n (lv' := [(2, .int (nI (a + 1))), (0, .ref r), (1, .int x), (3, .int (nI k))]) hx hb dX3_often_29 rfl hl (by decide) rfl (fun ls hl => ?_)
        refine lv_iinc (k := 3) (v := nI (k + 1)) (lv' := [(3, .int (nI (k + 1))), (2, .int (nI (a + 1))), (0, .ref r), (1, .int x)]) hx hb dX3_often_30 hl rfl (nI_add k 1) (by decide) rfl (fun ls hl => ?_)
        refine lv_goto (tgt := 4) hx hb dX3_often_33 (by decide) ?_
        refine ih (k + 1, a + 1) _ ls H locs (by first | omega | (dsimp only; omega)) ?_ (lv_sub hl [2, 3, 0, 1] rfl) hI
        exact ⟨rfl, by omega, by simp [cnt, ha, hq3]⟩

