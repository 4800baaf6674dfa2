set_option maxHeartbeats 4000000 in
set_option maxRecDepth 100000 in
theorem c_X1_append (l : Launch) (G : zK) (B0 : Nat) (F : zM) (r w cap n : Nat) (t : Nat → Int32) (x : Int32) (h : RA G 1 F r w cap n t) (hlt : n < cap) (hcap : cap ≤ 100) : Met l yX1_append (Cond.code yX1_append cX1_append 2 none :: zW) (zRm 0 0 0 0) (va_Pc [.ref r, .int x] (zPre G B0 F)) (zQv G B0 (fun F' => RA G 1 F' r w cap (n + 1) (upd t n x) ∧ zSm F F' r w)) 0 0 (zA B0) := by
  refine z_of (own := RX1) (by decide) rfl (Nat.le_of_ble_eq_true rfl) ?_
  intro p e s m below meth c ls hx hb hr hml hown hlocks hnm hts hl hI
  have hl : lv_has ls 2 [(0, .ref r), (1, .int x)] := hl
  obtain ⟨xn, xr, f, xw, xf⟩ := id h
  refine lv_aload_n hx hb dX1_append_0 rfl (lv_at hl 0 rfl) ?_
  refine z_get hx hb hts hown zlX1 rfl 0 (by decide) (hts _ q30) rfl hI xr rfl dX1_append_1 ?_
  refine lv_aload_n hx hb dX1_append_4 rfl (lv_at hl 0 rfl) ?_
  refine z_get hx hb hts hown zlX1 rfl 1 (by decide) (hts _ q32) rfl hI xr rfl dX1_append_5 ?_
  refine lv_iload_n hx hb dX1_append_8 rfl (lv_at hl 1 rfl) ?_
  refine z_ist (k := n) hx hb hI xw (by omega) (by omega) dX1_append_9 (fun H locs F1 hw2 ho3 hI => ?_)
  have hc4 : F1 r = some (zO 1 [.ref w, .int (nI n)]) := (ho3 _ (zne xr xw (fun q => by cases q))).trans xr
  refine lv_aload_n hx hb dX1_append_10 rfl (lv_at hl 0 rfl) ?_
  refine lv_dup hx hb dX1_append_11 rfl ?_
  refine z_get hx hb hts hown zlX1 rfl 1 (by decide) (hts _ q32) rfl hI hc4 rfl dX1_append_12 ?_
  refine lv_iconst (v := nI 1) hx hb dX1_append_15 (by decide) ?_
  refine lv_iadd hx hb dX1_append_16 ?_
  refine z_topi (nI_add n 1) ?_
  refine z_put hx hb hts hown zlX1 tyX1 tyX1_ok nmX1 rfl 1 (by decide) (hts _ q32) rfl hI hc4 rfl rfl rfl rfl (Nat.le_of_ble_eq_true rfl) dX1_append_17 (fun H locs F5 hw6 ho7 hI => ?_)
  have hw6 : F5 r = some (zO 1 [.ref w, .int (nI (n + 1))]) := hw6
  have hc8 : F5 w = some (zAI G cap (upd f n x)) := (ho7 _ (zne hw2 hc4 (fun q => by cases q))).trans hw2
  refine z_rv hx hb hr hlocks hI ?_ (Nat.le_of_ble_eq_true rfl) (Nat.le_of_ble_eq_true rfl) dX1_append_20
  refine ⟨rfl, ⟨by omega, hw6, _, hc8, fun j hj => ?_⟩, (zSm.tr (zSm.r ho3) (zSm.l ho7))⟩
  by_cases q : j = n
  · subst q; rw [pk_us, pk_us]
  · rw [pk_un q, pk_un q]; exact xf j (by omega)

set_option maxHeartbeats 4000000 in
set_option maxRecDepth 100000 in
theorem c_X3_add (l : Launch) (G : zK) (B0 : Nat) (F : zM) (r w cap n : Nat) (t : Nat → Int32) (x : Int32) (h : RA G 3 F r w cap n t) (hlt : n < cap) (hcap : cap ≤ 100) : Met l yX3_add (Cond.code yX3_add cX3_add 2 none :: zW) (zRm 0 0 0 0) (va_Pc [.ref r, .int x] (zPre G B0 F)) (zQv G B0 (fun F' => RA G 3 F' r w cap (n + 1) (upd t n x) ∧ zSm F F' r w)) 0 0 (zA B0) := by
  refine z_of (own := RX3) (by decide) rfl (Nat.le_of_ble_eq_true rfl) ?_
  intro p e s m below meth c ls hx hb hr hml hown hlocks hnm hts hl hI
  have hl : lv_has ls 2 [(0, .ref r), (1, .int x)] := hl
  obtain ⟨xn, xr, f, xw, xf⟩ := id h
  refine lv_aload_n hx hb dX3_add_0 rfl (lv_at hl 0 rfl) ?_
  refine z_get hx hb hts hown zlX3 rfl 0 (by decide) (hts _ q743) rfl hI xr rfl dX3_add_1 ?_
  refine lv_aload_n hx hb dX3_add_4 rfl (lv_at hl 0 rfl) ?_
  refine z_get hx hb hts hown zlX3 rfl 1 (by decide) (hts _ q745) rfl hI xr rfl dX3_add_5 ?_
  refine lv_iload_n hx hb dX3_add_8 rfl (lv_at hl 1 rfl) ?_
  refine z_ist (k := n) hx hb hI xw (by omega) (by omega) dX3_add_9 (fun H locs F1 hw2 ho3 hI => ?_)
  have hc4 : F1 r = some (zO 3 [.ref w, .int (nI n)]) := (ho3 _ (zne xr xw (fun q => by cases q))).trans xr
  refine lv_aload_n hx hb dX3_add_10 rfl (lv_at hl 0 rfl) ?_
  refine lv_dup hx hb dX3_add_11 rfl ?_
  refine z_get hx hb hts hown zlX3 rfl 1 (by decide) (hts _ q745) rfl hI hc4 rfl dX3_add_12 ?_
  refine lv_iconst (v := nI 1) hx hb dX3_add_15 (by decide) ?_
  refine lv_iadd hx hb dX3_add_16 ?_
  refine z_topi (nI_add n 1) ?_
  refine z_put hx hb hts hown zlX3 tyX3 tyX3_ok nmX3 rfl 1 (by decide) (hts _ q745) rfl hI hc4 rfl rfl rfl rfl (Nat.le_of_ble_eq_true rfl) dX3_add_17 (fun H locs F5 hw6 ho7 hI => ?_)
  have hw6 : F5 r = some (zO 3 [.ref w, .int (nI (n + 1))]) := hw6
  have hc8 : F5 w = some (zAI G cap (upd f n x)) := (ho7 _ (zne hw2 hc4 (fun q => by cases q))).trans hw2
  refine z_rv hx hb hr hlocks hI ?_ (Nat.le_of_ble_eq_true rfl) (Nat.le_of_ble_eq_true rfl) dX3_add_20
  refine ⟨rfl, ⟨by omega, hw6, _, hc8, fun j hj => ?_⟩, (zSm.tr (zSm.r ho3) (zSm.l ho7))⟩
  by_cases q : j = n
  · subst q; rw [pk_us, pk_us]
  · rw [pk_un q, pk_un q]; exact xf j (by omega)

set_option maxHeartbeats 4000000 in
set_option maxRecDepth 100000 in
theorem c_X1_timesOf (l : Launch) (G : zK) (B0 : Nat) (F : zM) (r w cap n : Nat) (t : Nat → Int32) (x : Int32) (h : RA G 1 F r w cap n t) (hcap : cap ≤ 100) : Met l yX1_timesOf (Cond.code yX1_timesOf cX1_timesOf 4 (some FieldType.int) :: zW) (zRm 0 0 0 0) (va_Pc [.ref r, .int x] (zPre G B0 F)) (zQi G B0 (fun r F' => F = F' ∧ r = nI (cnt t x n))) 0 0 (zA B0) := by
  refine z_of (own := RX1) (by decide) rfl (Nat.le_of_ble_eq_true rfl) ?_
  intro p e s m below meth c ls hx hb hr hml hown hlocks hnm hts hl hI
  have hl : lv_has ls 4 [(0, .ref r), (1, .int x)] := hl
  obtain ⟨xn, xr, f, xw, xf⟩ := id h
  refine lv_iconst (v := nI 0) hx hb dX1_timesOf_0 (by decide) ?_
  refine lv_istore_n (lv' := [(2, .int (nI 0)), (0, .ref r), (1, .int x)]) hx hb dX1_timesOf_1 rfl hl (by decide) rfl (fun ls hl => ?_)
  refine lv_iconst (v := nI 0) hx hb dX1_timesOf_2 (by decide) ?_
  refine lv_istore_n (lv' := [(3, .int (nI 0)), (2, .int (nI 0)), (0, .ref r), (1, .int x)]) hx hb dX1_timesOf_3 rfl hl (by decide) rfl (fun ls hl => ?_)
  refine z_loop (σ := Nat × Nat) (fun xx : Nat × Nat => match xx with | (k, a) => [(0, .ref r), (1, .int x), (3, .int (nI k)), (2, .int (nI a))]) (fun (xx : Nat × Nat) (Fx : zM) => match xx with | (k, a) => F = Fx ∧ k ≤ n ∧ a = cnt t x k) (fun xx : Nat × Nat => match xx with | (k, a) => n - k) (0, 0) (nL := 4) (st := []) ?_ (lv_sub hl [2, 3, 0, 1] rfl) hI ?_
  · exact ⟨rfl, Nat.zero_le _, rfl⟩
  · intro xx F1 ls H locs hi hl hI ih
    obtain ⟨k, a⟩ := xx
    have hl : lv_has ls 4 [(0, .ref r), (1, .int x), (3, .int (nI k)), (2, .int (nI a))] := hl
    obtain ⟨hF, hk, ha⟩ := hi
    subst hF
    have hcn := cnt_le t x k
    refine lv_iload_n hx hb dX1_timesOf_4 rfl (lv_at hl 2 rfl) ?_
    refine lv_aload_n hx hb dX1_timesOf_5 rfl (lv_at hl 0 rfl) ?_
    refine z_get hx hb hts hown zlX1 rfl 1 (by decide) (hts _ q32) rfl hI xr rfl dX1_timesOf_6 ?_
    refine z_icmp_ge (tgt := 31) (a := k) (b := n) hx hb dX1_timesOf_9 (by decide) (by omega) (fun hq2 => ?_) (fun hq2 => ?_)
    · refine lv_iload_n hx hb dX1_timesOf_31 rfl (lv_at hl 3 rfl) ?_
      refine z_ri hx hb hr hlocks hI ?_ (Nat.le_of_ble_eq_true rfl) (Nat.le_of_ble_eq_true rfl) dX1_timesOf_32
      have hkn : k = n := by omega
      subst hkn
      exact ⟨_, rfl, rfl, by rw [ha]⟩
    · refine lv_aload_n hx hb dX1_timesOf_12 rfl (lv_at hl 0 rfl) ?_
      refine z_get hx hb hts hown zlX1 rfl 0 (by decide) (hts _ q30) rfl hI xr rfl dX1_timesOf_13 ?_
      refine lv_iload_n hx hb dX1_timesOf_16 rfl (lv_at hl 2 rfl) ?_
      refine z_ild (k := k) (v := t k) hx hb hI xw (by omega) (by omega) (xf k (by omega)) dX1_timesOf_17 ?_
      refine lv_iload_n hx hb dX1_timesOf_18 rfl (lv_at hl 1 rfl) ?_
      refine lv_icmp_ne (tgt := 25) hx hb dX1_timesOf_19 (by decide) (fun hq3 => ?_) (fun hq3 => ?_)
      · refine lv_iinc (k := 2) (v := nI (k + 1)) (lv' := [(3, .int (nI (k + 1))), (0, .ref r), (1, .int x), (2, .int (nI a))]) hx hb dX1_timesOf_25 hl rfl (nI_add k 1) (by decide) rfl (fun ls hl => ?_)
        refine lv_goto (tgt := 4) hx hb dX1_timesOf_28 (by decide) ?_
        refine ih (k + 1, a) _ ls H locs (by first | omega | (dsimp only; omega)) ?_ (lv_sub hl [1, 2, 0, 3] rfl) hI
        exact ⟨rfl, by omega, by simp [cnt, ha, hq3]⟩
      · refine lv_iinc (k := 3) (v := nI (a + 1)) (lv' := [(2, .int (nI (a + 1))), (0, .ref r), (1, .int x), (3, .int (nI k))]) hx hb dX1_timesOf_22 hl rfl (nI_add a 1) (by decide) rfl (fun ls hl => ?_)
        refine lv_iinc (k := 3) (v := nI (k + 1)) (lv' := [(3, .int (nI (k + 1))), (2, .int (nI (a + 1))), (0, .ref r), (1, .int x)]) hx hb dX1_timesOf_25 hl rfl (nI_add k 1) (by decide) rfl (fun ls hl => ?_)
        refine lv_goto (tgt := 4) hx hb dX1_timesOf_28 (by decide) ?_
        refine ih (k + 1, a + 1) _ ls H locs (by first | omega | (dsimp only; omega)) ?_ (lv_sub hl [2, 3, 0, 1] rfl) hI
        exact ⟨rfl, by omega, by simp [cnt, ha, hq3]⟩

set_option maxHeartbeats 4000000 in
set_option maxRecDepth 100000 in
theorem c_X3_often (l : Launch) (G : zK) (B0 : Nat) (F : zM) (r w cap n : Nat) (t : Nat → Int32) (x : Int32) (h : RA G 3 F r w cap n t) (hcap : cap ≤ 100) : Met l yX3_often (Cond.code yX3_often cX3_often 4 (some FieldType.int) :: zW) (zRm 0 0 0 0) (va_Pc [.ref r, .int x] (zPre G B0 F)) (zQi G B0 (fun r F' => F = F' ∧ r = nI (cnt t x n))) 0 0 (zA B0) := by
  refine z_of (own := RX3) (by decide) rfl (Nat.le_of_ble_eq_true rfl) ?_
  intro p e s m below meth c ls hx hb hr hml hown hlocks hnm hts hl hI
  have hl : lv_has ls 4 [(0, .ref r), (1, .int x)] := hl
  obtain ⟨xn, xr, f, xw, xf⟩ := id h
  refine lv_iconst (v := nI 0) hx hb dX3_often_0 (by decide) ?_
  refine lv_istore_n (lv' := [(2, .int (nI 0)), (0, .ref r), (1, .int x)]) hx hb dX3_often_1 rfl hl (by decide) rfl (fun ls hl => ?_)
  refine lv_iconst (v := nI 0) hx hb dX3_often_2 (by decide) ?_
  refine lv_istore_n (lv' := [(3, .int (nI 0)), (2, .int (nI 0)), (0, .ref r), (1, .int x)]) hx hb dX3_often_3 rfl hl (by decide) rfl (fun ls hl => ?_)
  refine z_loop (σ := Nat × Nat) (fun xx : Nat × Nat => match xx with | (k, a) => [(0, .ref r), (1, .int x), (3, .int (nI k)), (2, .int (nI a))]) (fun (xx : Nat × Nat) (Fx : zM) => match xx with | (k, a) => F = Fx ∧ k ≤ n ∧ a = cnt t x k) (fun xx : Nat × Nat => match xx with | (k, a) => n - k) (0, 0) (nL := 4) (st := []) ?_ (lv_sub hl [2, 3, 0, 1] rfl) hI ?_
  · exact ⟨rfl, Nat.zero_le _, rfl⟩
  · intro xx F1 ls H locs hi hl hI ih
    obtain ⟨k, a⟩ := xx
    have hl : lv_has ls 4 [(0, .ref r), (1, .int x), (3, .int (nI k)), (2, .int (nI a))] := hl
    obtain ⟨hF, hk, ha⟩ := hi
    subst hF
    have hcn := cnt_le t x k
    refine lv_iload_n hx hb dX3_often_4 rfl (lv_at hl 2 rfl) ?_
    refine lv_aload_n hx hb dX3_often_5 rfl (lv_at hl 0 rfl) ?_
    refine z_get hx hb hts hown zlX3 rfl 1 (by decide) (hts _ q745) rfl hI xr rfl dX3_often_6 ?_
    refine z_icmp_ge (tgt := 36) (a := k) (b := n) hx hb dX3_often_9 (by decide) (by omega) (fun hq2 => ?_) (fun hq2 => ?_)
    · refine lv_iload_n hx hb dX3_often_36 rfl (lv_at hl 3 rfl) ?_
      refine z_ri hx hb hr hlocks hI ?_ (Nat.le_of_ble_eq_true rfl) (Nat.le_of_ble_eq_true rfl) dX3_often_37
      have hkn : k = n := by omega
      subst hkn
      exact ⟨_, rfl, rfl, by rw [ha]⟩
    · refine lv_iload_n hx hb dX3_often_12 rfl (lv_at hl 3 rfl) ?_
      refine lv_aload_n hx hb dX3_often_13 rfl (lv_at hl 0 rfl) ?_
      refine z_get hx hb hts hown zlX3 rfl 0 (by decide) (hts _ q743) rfl hI xr rfl dX3_often_14 ?_
      refine lv_iload_n hx hb dX3_often_17 rfl (lv_at hl 2 rfl) ?_
      refine z_ild (k := k) (v := t k) hx hb hI xw (by omega) (by omega) (xf k (by omega)) dX3_often_18 ?_
      refine lv_iload_n hx hb dX3_often_19 rfl (lv_at hl 1 rfl) ?_
      refine lv_icmp_ne (tgt := 27) hx hb dX3_often_20 (by decide) (fun hq3 => ?_) (fun hq3 => ?_)
      · refine lv_iconst (v := nI 0) hx hb dX3_often_27 (by decide) ?_
        refine lv_iadd hx hb dX3_often_28 ?_
        refine z_topi (nI_add a 0) ?_
        refine lv_istore_n (lv' := [(2, .int (nI (a + 0))), (0, .ref r), (1, .int x), (3, .int (nI k))]) hx hb dX3_often_29 rfl hl (by decide) rfl (fun ls hl => ?_)
        refine lv_iinc (k := 3) (v := nI (k + 1)) (lv' := [(3, .int (nI (k + 1))), (2, .int (nI (a + 0))), (0, .ref r), (1, .int x)]) hx hb dX3_often_30 hl rfl (nI_add k 1) (by decide) rfl (fun ls hl => ?_)
        refine lv_goto (tgt := 4) hx hb dX3_often_33 (by decide) ?_
        refine ih (k + 1, a + 0) _ ls H locs (by first | omega | (dsimp only; omega)) ?_ (lv_sub hl [2, 3, 0, 1] rfl) hI
        exact ⟨rfl, by omega, by simp [cnt, ha, hq3]⟩
      · refine lv_iconst (v := nI 1) hx hb dX3_often_23 (by decide) ?_
        refine lv_goto (tgt := 28) hx hb dX3_often_24 (by decide) ?_
        refine lv_iadd hx hb dX3_often_28 ?_
        refine z_topi (nI_add a 1) ?_
        refine lv_istore_n (lv' := [(2, .int (nI (a + 1))), (0, .ref r), (1, .int x), (3, .int (nI k))]) hx hb dX3_often_29 rfl hl (by decide) rfl (fun ls hl => ?_)
        refine lv_iinc (k := 3) (v := nI (k + 1)) (lv' := [(3, .int (nI (k + 1))), (2, .int (nI (a + 1))), (0, .ref r), (1, .int x)]) hx hb dX3_often_30 hl rfl (nI_add k 1) (by decide) rfl (fun ls hl => ?_)
        refine lv_goto (tgt := 4) hx hb dX3_often_33 (by decide) ?_
        refine ih (k + 1, a + 1) _ ls H locs (by first | omega | (dsimp only; omega)) ?_ (lv_sub hl [2, 3, 0, 1] rfl) hI
        exact ⟨rfl, by omega, by simp [cnt, ha, hq3]⟩

set_option maxHeartbeats 4000000 in
set_option maxRecDepth 100000 in
theorem c_X1_appendAll (l : Launch) (G : zK) (B0 : Nat) (F : zM) (r w cap n : Nat) (t : Nat → Int32) (r2 w2 cap2 n2 : Nat) (t2 : Nat → Int32) (h : RA G 1 F r w cap n t) (hcap : cap ≤ 100) (h2 : RA G 1 F r2 w2 cap2 n2 t2) (hcap2 : cap2 ≤ 100) (ner : r ≠ r2) (nww : w ≠ w2) (hcat : n + n2 ≤ cap) : Met l yX1_appendAll (Cond.code yX1_appendAll cX1_appendAll 4 none :: zW) (zRm 1 21 0 0) (va_Pc [.ref r, .ref r2] (zPre G B0 F)) (zQv G B0 (fun F' => RA G 1 F' r w cap (n + n2) (catt t n t2) ∧ zSm F F' r w)) 0 0 (zA B0) := by
  refine z_of (own := RX1) (by decide) rfl (Nat.le_of_ble_eq_true rfl) ?_
  intro p e s m below meth c ls hx hb hr hml hown hlocks hnm hts hl hI
  have hl : lv_has ls 4 [(0, .ref r), (1, .ref r2)] := hl
  obtain ⟨xn, xr, f, xw, xf⟩ := id h
  obtain ⟨xn2, xr2, f2, xw2, xf2⟩ := id h2
  refine lv_aload_n hx hb dX1_appendAll_0 rfl (lv_at hl 1 rfl) ?_
  refine z_get hx hb hts hown zlX1 rfl 1 (by decide) (hts _ q32) rfl hI xr2 rfl dX1_appendAll_1 ?_
  refine lv_istore_n (lv' := [(2, .int (nI n2)), (0, .ref r), (1, .ref r2)]) hx hb dX1_appendAll_4 rfl hl (by decide) rfl (fun ls hl => ?_)
  refine lv_iconst (v := nI 0) hx hb dX1_appendAll_5 (by decide) ?_
  refine lv_istore_n (lv' := [(3, .int (nI 0)), (2, .int (nI n2)), (0, .ref r), (1, .ref r2)]) hx hb dX1_appendAll_6 rfl hl (by decide) rfl (fun ls hl => ?_)
  refine z_loop (σ := Nat) (fun k : Nat => [(0, .ref r), (1, .ref r2), (2, .int (nI n2)), (3, .int (nI k))]) (fun (k : Nat) (Fx : zM) => RA G 1 Fx r w cap (n + k) (catt t n t2) ∧ zSm F Fx r w ∧ k ≤ n2) (fun k : Nat => n2 - k) 0 (nL := 4) (st := []) ?_ (lv_sub hl [2, 3, 1, 0] rfl) hI ?_
  · exact ⟨RA.cg h (fun j hj => (catt_lo (by omega)).symm), zSm.rf, Nat.zero_le _⟩
  · intro k F1 ls H locs hi hl hI ih
    have hl : lv_has ls 4 [(0, .ref r), (1, .ref r2), (2, .int (nI n2)), (3, .int (nI k))] := hl
    obtain ⟨ha0, hs0, hk⟩ := hi
    obtain ⟨xn_, xr_, f_, xw_, xf_⟩ := id ha0
    have h2x : RA G 1 F1 r2 w2 cap2 n2 t2 := h2.go (hs0 _ (Ne.symm ner) (RA.ne2 h2 h)) (hs0 _ (fun q => RA.ne2 h h2 q.symm) (Ne.symm nww))
    obtain ⟨xn2, xr2, f2, xw2, xf2⟩ := id h2x
    refine lv_iload_n hx hb dX1_appendAll_7 rfl (lv_at hl 3 rfl) ?_
    refine lv_iload_n hx hb dX1_appendAll_8 rfl (lv_at hl 2 rfl) ?_
    refine z_icmp_ge (tgt := 28) (a := k) (b := n2) hx hb dX1_appendAll_9 (by decide) (by omega) (fun hq2 => ?_) (fun hq2 => ?_)
    · refine z_rv hx hb hr hlocks hI ?_ (Nat.le_of_ble_eq_true rfl) (Nat.le_of_ble_eq_true rfl) dX1_appendAll_28
      have hkn : k = n2 := by omega
      subst hkn
      exact ⟨rfl, ha0, hs0⟩
    · refine lv_aload_n hx hb dX1_appendAll_12 rfl (lv_at hl 0 rfl) ?_
      refine lv_aload_n hx hb dX1_appendAll_13 rfl (lv_at hl 1 rfl) ?_
      refine z_get hx hb hts hown zlX1 rfl 0 (by decide) (hts _ q30) rfl hI xr2 rfl dX1_appendAll_14 ?_
      refine lv_iload_n hx hb dX1_appendAll_17 rfl (lv_at hl 3 rfl) ?_
      refine z_ild (k := k) (v := t2 k) hx hb hI xw2 (by omega) (by omega) (xf2 k (by omega)) dX1_appendAll_18 ?_
      refine z_callv hI (z_V (As := [.int (t2 k)]) (rest := []) ⟨hx, hb, hml, hown, hts⟩ hI xr_ rfl (c_X1_append l G B0 F1 r w cap (n + k) (catt t n t2) (t2 k) ⟨xn_, xr_, f_, xw_, xf_⟩ (by omega) (by omega)) (z_cwV vX1_append hts q385 ⟨Nat.le_of_ble_eq_true rfl, Nat.le_of_ble_eq_true rfl⟩) rfl hl.1 rfl (lv_room (Nat.le_of_ble_eq_true rfl)) dX1_appendAll_19 ⟨Nat.le_of_ble_eq_true rfl, Nat.le_of_ble_eq_true rfl⟩) (fun F3 H locs hp5 hI => ?_)
      obtain ⟨ha6, hs6⟩ := hp5
      have hc7 : F3 r2 = some (zO 1 [.ref w2, .int (nI n2)]) := (hs6 _ (Ne.symm ner) (zne xr2 xw_ (fun q => by cases q))).trans xr2
      have hc8 : F3 w2 = some (zAI G cap2 f2) := (hs6 _ (zne xw2 xr_ (fun q => by cases q)) (Ne.symm nww)).trans xw2
      obtain ⟨xn_6, xr_6, f_6, xw_6, xf_6⟩ := id ha6
      refine lv_iinc (k := 3) (v := nI (k + 1)) (lv' := [(3, .int (nI (k + 1))), (0, .ref r), (1, .ref r2), (2, .int (nI n2))]) hx hb dX1_appendAll_22 hl rfl (nI_add k 1) (by decide) rfl (fun ls hl => ?_)
      refine lv_goto (tgt := 7) hx hb dX1_appendAll_25 (by decide) ?_
      refine ih (k + 1) _ ls H locs (by first | omega | (dsimp only; omega)) ?_ (lv_sub hl [1, 2, 3, 0] rfl) hI
      refine ⟨RA.cg ha6 (fun j hj => ?_), (zSm.tr hs0 hs6), by omega⟩
      by_cases q : j = n + k
      · subst q; rw [pk_us, catt_hi]
      · rw [pk_un q]

set_option maxHeartbeats 4000000 in
set_option maxRecDepth 100000 in
theorem c_X1_become (l : Launch) (G : zK) (B0 : Nat) (F : zM) (r w cap n : Nat) (t : Nat → Int32) (r2 w2 cap2 n2 : Nat) (t2 : Nat → Int32) (h : RA G 1 F r w cap n t) (hcap : cap ≤ 100) (h2 : RA G 1 F r2 w2 cap2 n2 t2) (hcap2 : cap2 ≤ 100) (ner : r ≠ r2) (nww : w ≠ w2) (hcat : n2 ≤ cap) : Met l yX1_become (Cond.code yX1_become cX1_become 2 none :: zW) (zRm 2 44 0 0) (va_Pc [.ref r, .ref r2] (zPre G B0 F)) (zQv G B0 (fun F' => RA G 1 F' r w cap n2 t2 ∧ zSm F F' r w)) 0 0 (zA B0) := by
  refine z_of (own := RX1) (by decide) rfl (Nat.le_of_ble_eq_true rfl) ?_
  intro p e s m below meth c ls hx hb hr hml hown hlocks hnm hts hl hI
  have hl : lv_has ls 2 [(0, .ref r), (1, .ref r2)] := hl
  obtain ⟨xn, xr, f, xw, xf⟩ := id h
  obtain ⟨xn2, xr2, f2, xw2, xf2⟩ := id h2
  refine lv_aload_n hx hb dX1_become_0 rfl (lv_at hl 0 rfl) ?_
  refine lv_iconst (v := nI 0) hx hb dX1_become_1 (by decide) ?_
  refine z_put hx hb hts hown zlX1 tyX1 tyX1_ok nmX1 rfl 1 (by decide) (hts _ q32) rfl hI xr rfl rfl rfl rfl (Nat.le_of_ble_eq_true rfl) dX1_become_2 (fun H locs F1 hw2 ho3 hI => ?_)
  have hw2 : F1 r = some (zO 1 [.ref w, .int (nI 0)]) := hw2
  have hc4 : F1 w = some (zAI G cap f) := (ho3 _ (zne xw xr (fun q => by cases q))).trans xw
  have hc5 : F1 r2 = some (zO 1 [.ref w2, .int (nI n2)]) := (ho3 _ (Ne.symm ner)).trans xr2
  have hc6 : F1 w2 = some (zAI G cap2 f2) := (ho3 _ (zne xw2 xr (fun q => by cases q))).trans xw2
  refine lv_aload_n hx hb dX1_become_5 rfl (lv_at hl 0 rfl) ?_
  refine lv_aload_n hx hb dX1_become_6 rfl (lv_at hl 1 rfl) ?_
  refine z_callv hI (z_V (As := [.ref r2]) (rest := []) ⟨hx, hb, hml, hown, hts⟩ hI hw2 rfl (c_X1_appendAll l G B0 F1 r w cap 0 t r2 w2 cap2 n2 t2 ⟨(Nat.zero_le _), hw2, f, hc4, (fun j hj => absurd hj (Nat.not_lt_zero _))⟩ (by omega) ⟨xn2, hc5, f2, hc6, xf2⟩ (by omega) ner nww (by omega)) (z_cwV vX1_appendAll hts q390 ⟨Nat.le_of_ble_eq_true rfl, Nat.le_of_ble_eq_true rfl⟩) rfl hl.1 rfl (lv_room (Nat.le_of_ble_eq_true rfl)) dX1_become_7 ⟨Nat.le_of_ble_eq_true rfl, Nat.le_of_ble_eq_true rfl⟩) (fun F7 H locs hp9 hI => ?_)
  obtain ⟨ha10, hs10⟩ := hp9
  have hc11 : F7 r2 = some (zO 1 [.ref w2, .int (nI n2)]) := (hs10 _ (Ne.symm ner) (zne hc5 hc4 (fun q => by cases q))).trans hc5
  have hc12 : F7 w2 = some (zAI G cap2 f2) := (hs10 _ (zne hc6 hw2 (fun q => by cases q)) (Ne.symm nww)).trans hc6
  obtain ⟨xn_10, xr_10, f_10, xw_10, xf_10⟩ := id ha10
  refine z_rv hx hb hr hlocks hI ?_ (Nat.le_of_ble_eq_true rfl) (Nat.le_of_ble_eq_true rfl) dX1_become_10
  rw [Nat.zero_add] at ha10
  exact ⟨rfl, RA.cg ha10 (fun j hj => catt_0 j), (zSm.tr (zSm.l ho3) hs10)⟩

set_option maxHeartbeats 4000000 in
set_option maxRecDepth 100000 in
theorem c_X3_takes (l : Launch) (G : zK) (B0 : Nat) (F : zM) (r w cap n : Nat) (t : Nat → Int32) (r2 w2 cap2 n2 : Nat) (t2 : Nat → Int32) (h : RA G 3 F r w cap n t) (hcap : cap ≤ 100) (h2 : RA G 3 F r2 w2 cap2 n2 t2) (hcap2 : cap2 ≤ 100) (ner : r ≠ r2) (nww : w ≠ w2) (hcat : n2 ≤ cap) : Met l yX3_takes (Cond.code yX3_takes cX3_takes 3 none :: zW) (zRm 1 21 0 0) (va_Pc [.ref r, .ref r2] (zPre G B0 F)) (zQv G B0 (fun F' => RA G 3 F' r w cap n2 t2 ∧ zSm F F' r w)) 0 0 (zA B0) := by
  refine z_of (own := RX3) (by decide) rfl (Nat.le_of_ble_eq_true rfl) ?_
  intro p e s m below meth c ls hx hb hr hml hown hlocks hnm hts hl hI
  have hl : lv_has ls 3 [(0, .ref r), (1, .ref r2)] := hl
  obtain ⟨xn, xr, f, xw, xf⟩ := id h
  obtain ⟨xn2, xr2, f2, xw2, xf2⟩ := id h2
  refine lv_aload_n hx hb dX3_takes_0 rfl (lv_at hl 0 rfl) ?_
  refine lv_iconst (v := nI 0) hx hb dX3_takes_1 (by decide) ?_
  refine z_put hx hb hts hown zlX3 tyX3 tyX3_ok nmX3 rfl 1 (by decide) (hts _ q745) rfl hI xr rfl rfl rfl rfl (Nat.le_of_ble_eq_true rfl) dX3_takes_2 (fun H locs F1 hw2 ho3 hI => ?_)
  have hw2 : F1 r = some (zO 3 [.ref w, .int (nI 0)]) := hw2
  have hc4 : F1 w = some (zAI G cap f) := (ho3 _ (zne xw xr (fun q => by cases q))).trans xw
  have hc5 : F1 r2 = some (zO 3 [.ref w2, .int (nI n2)]) := (ho3 _ (Ne.symm ner)).trans xr2
  have hc6 : F1 w2 = some (zAI G cap2 f2) := (ho3 _ (zne xw2 xr (fun q => by cases q))).trans xw2
  refine lv_iconst (v := nI 0) hx hb dX3_takes_5 (by decide) ?_
  refine lv_istore_n (lv' := [(2, .int (nI 0)), (0, .ref r), (1, .ref r2)]) hx hb dX3_takes_6 rfl hl (by decide) rfl (fun ls hl => ?_)
  refine z_loop (σ := Nat) (fun k : Nat => [(0, .ref r), (1, .ref r2), (2, .int (nI k))]) (fun (k : Nat) (Fx : zM) => RA G 3 Fx r w cap k t2 ∧ zSm F Fx r w ∧ k ≤ n2) (fun k : Nat => n2 - k) 0 (nL := 3) (st := []) ?_ (lv_sub hl [1, 2, 0] rfl) hI ?_
  · exact ⟨⟨Nat.zero_le _, hw2, _, hc4, fun j hj => absurd hj (Nat.not_lt_zero _)⟩, (zSm.l ho3), Nat.zero_le _⟩
  · intro k F7 ls H locs hi hl hI ih
    have hl : lv_has ls 3 [(0, .ref r), (1, .ref r2), (2, .int (nI k))] := hl
    obtain ⟨ha0, hs0, hk⟩ := hi
    obtain ⟨xn_, xr_, f_, xw_, xf_⟩ := id ha0
    have h2x : RA G 3 F7 r2 w2 cap2 n2 t2 := h2.go (hs0 _ (Ne.symm ner) (RA.ne2 h2 h)) (hs0 _ (fun q => RA.ne2 h h2 q.symm) (Ne.symm nww))
    obtain ⟨xn2, xr2, f2, xw2, xf2⟩ := id h2x
    refine lv_iload_n hx hb dX3_takes_7 rfl (lv_at hl 2 rfl) ?_
    refine lv_aload_n hx hb dX3_takes_8 rfl (lv_at hl 1 rfl) ?_
    refine z_get hx hb hts hown zlX3 rfl 1 (by decide) (hts _ q745) rfl hI xr2 rfl dX3_takes_9 ?_
    refine z_icmp_ge (tgt := 31) (a := k) (b := n2) hx hb dX3_takes_12 (by decide) (by omega) (fun hq8 => ?_) (fun hq8 => ?_)
    · refine z_rv hx hb hr hlocks hI ?_ (Nat.le_of_ble_eq_true rfl) (Nat.le_of_ble_eq_true rfl) dX3_takes_31
      have hkn : k = n2 := by omega
      subst hkn
      exact ⟨rfl, ha0, hs0⟩
    · refine lv_aload_n hx hb dX3_takes_15 rfl (lv_at hl 0 rfl) ?_
      refine lv_aload_n hx hb dX3_takes_16 rfl (lv_at hl 1 rfl) ?_
      refine z_get hx hb hts hown zlX3 rfl 0 (by decide) (hts _ q743) rfl hI xr2 rfl dX3_takes_17 ?_
      refine lv_iload_n hx hb dX3_takes_20 rfl (lv_at hl 2 rfl) ?_
      refine z_ild (k := k) (v := t2 k) hx hb hI xw2 (by omega) (by omega) (xf2 k (by omega)) dX3_takes_21 ?_
      refine z_callv hI (z_V (As := [.int (t2 k)]) (rest := []) ⟨hx, hb, hml, hown, hts⟩ hI xr_ rfl (c_X3_add l G B0 F7 r w cap k t2 (t2 k) ⟨xn_, xr_, f_, xw_, xf_⟩ (by omega) (by omega)) (z_cwV vX3_add hts q926 ⟨Nat.le_of_ble_eq_true rfl, Nat.le_of_ble_eq_true rfl⟩) rfl hl.1 rfl (lv_room (Nat.le_of_ble_eq_true rfl)) dX3_takes_22 ⟨Nat.le_of_ble_eq_true rfl, Nat.le_of_ble_eq_true rfl⟩) (fun F9 H locs hp11 hI => ?_)
      obtain ⟨ha12, hs12⟩ := hp11
      have hc13 : F9 r2 = some (zO 3 [.ref w2, .int (nI n2)]) := (hs12 _ (Ne.symm ner) (zne xr2 xw_ (fun q => by cases q))).trans xr2
      have hc14 : F9 w2 = some (zAI G cap2 f2) := (hs12 _ (zne xw2 xr_ (fun q => by cases q)) (Ne.symm nww)).trans xw2
      obtain ⟨xn_12, xr_12, f_12, xw_12, xf_12⟩ := id ha12
      refine lv_iinc (k := 2) (v := nI (k + 1)) (lv' := [(2, .int (nI (k + 1))), (0, .ref r), (1, .ref r2)]) hx hb dX3_takes_25 hl rfl (nI_add k 1) (by decide) rfl (fun ls hl => ?_)
      refine lv_goto (tgt := 7) hx hb dX3_takes_28 (by decide) ?_
      refine ih (k + 1) _ ls H locs (by first | omega | (dsimp only; omega)) ?_ (lv_sub hl [1, 2, 0] rfl) hI
      refine ⟨RA.cg ha12 (fun j hj => ?_), (zSm.tr hs0 hs12), by omega⟩
      by_cases q : j = k
      · subst q; rw [pk_us]
      · rw [pk_un q]

set_option maxHeartbeats 4000000 in
set_option maxRecDepth 100000 in
theorem c_X1_openUp (l : Launch) (G : zK) (B0 : Nat) (F : zM) (r w cap n : Nat) (t : Nat → Int32) (pl : Nat) (x : Int32) (h : RA G 1 F r w cap n t) (hcap : cap ≤ 100) (hpl : pl ≤ n) (hlt : n < cap) : Met l yX1_openUp (Cond.code yX1_openUp cX1_openUp 4 none :: zW) (zRm 0 0 0 0) (va_Pc [.ref r, .int (nI pl), .int x] (zPre G B0 F)) (zQv G B0 (fun F' => RA G 1 F' r w cap (n + 1) (inst t pl x) ∧ zSm F F' r w)) 0 0 (zA B0) := by
  refine z_of (own := RX1) (by decide) rfl (Nat.le_of_ble_eq_true rfl) ?_
  intro p e s m below meth c ls hx hb hr hml hown hlocks hnm hts hl hI
  have hl : lv_has ls 4 [(0, .ref r), (1, .int (nI pl)), (2, .int x)] := hl
  obtain ⟨xn, xr, f, xw, xf⟩ := id h
  refine lv_aload_n hx hb dX1_openUp_0 rfl (lv_at hl 0 rfl) ?_
  refine z_get hx hb hts hown zlX1 rfl 1 (by decide) (hts _ q32) rfl hI xr rfl dX1_openUp_1 ?_
  refine lv_istore_n (lv' := [(3, .int (nI n)), (0, .ref r), (1, .int (nI pl)), (2, .int x)]) hx hb dX1_openUp_4 rfl hl (by decide) rfl (fun ls hl => ?_)
  refine z_loop (σ := Nat) (fun i : Nat => [(0, .ref r), (1, .int (nI pl)), (2, .int x), (3, .int (nI i))]) (fun (i : Nat) (Fx : zM) => Fx r = some (zO 1 [.ref w, .int (nI n)]) ∧ zSm F Fx r w ∧ pl ≤ i ∧ i ≤ n ∧ ∃ f, Fx w = some (zAI G cap f) ∧ (∀ j, j < i → f j = t j) ∧ (∀ j, i < j → j ≤ n → f j = t (j - 1))) (fun i : Nat => i) n (nL := 4) (st := []) ?_ (lv_sub hl [1, 2, 3, 0] rfl) hI ?_
  · exact ⟨xr, zSm.rf, hpl, Nat.le_refl _, f, xw, fun j hj => xf j hj, fun j hj hj2 => absurd hj (by omega)⟩
  · intro i F1 ls H locs hi hl hI ih
    have hl : lv_has ls 4 [(0, .ref r), (1, .int (nI pl)), (2, .int x), (3, .int (nI i))] := hl
    obtain ⟨xr_, hs0, hpi, hin2, f_, xw_, hlo, hhi⟩ := hi
    refine lv_iload_n hx hb dX1_openUp_5 rfl (lv_at hl 3 rfl) ?_
    refine lv_iload_n hx hb dX1_openUp_6 rfl (lv_at hl 1 rfl) ?_
    refine z_icmp_le (tgt := 30) (a := i) (b := pl) hx hb dX1_openUp_7 (by decide) (by omega) (fun hq2 => ?_) (fun hq2 => ?_)
    · refine lv_aload_n hx hb dX1_openUp_30 rfl (lv_at hl 0 rfl) ?_
      refine z_get hx hb hts hown zlX1 rfl 0 (by decide) (hts _ q30) rfl hI xr_ rfl dX1_openUp_31 ?_
      refine lv_iload_n hx hb dX1_openUp_34 rfl (lv_at hl 1 rfl) ?_
      refine lv_iload_n hx hb dX1_openUp_35 rfl (lv_at hl 2 rfl) ?_
      refine z_ist (k := pl) hx hb hI xw_ (by omega) (by omega) dX1_openUp_36 (fun H locs F3 hw4 ho5 hI => ?_)
      have hc6 : F3 r = some (zO 1 [.ref w, .int (nI n)]) := (ho5 _ (zne xr_ xw_ (fun q => by cases q))).trans xr_
      refine lv_aload_n hx hb dX1_openUp_37 rfl (lv_at hl 0 rfl) ?_
      refine lv_dup hx hb dX1_openUp_38 rfl ?_
      refine z_get hx hb hts hown zlX1 rfl 1 (by decide) (hts _ q32) rfl hI hc6 rfl dX1_openUp_39 ?_
      refine lv_iconst (v := nI 1) hx hb dX1_openUp_42 (by decide) ?_
      refine lv_iadd hx hb dX1_openUp_43 ?_
      refine z_topi (nI_add n 1) ?_
      refine z_put hx hb hts hown zlX1 tyX1 tyX1_ok nmX1 rfl 1 (by decide) (hts _ q32) rfl hI hc6 rfl rfl rfl rfl (Nat.le_of_ble_eq_true rfl) dX1_openUp_44 (fun H locs F7 hw8 ho9 hI => ?_)
      have hw8 : F7 r = some (zO 1 [.ref w, .int (nI (n + 1))]) := hw8
      have hc10 : F7 w = some (zAI G cap (upd f_ pl x)) := (ho9 _ (zne hw4 hc6 (fun q => by cases q))).trans hw4
      refine z_rv hx hb hr hlocks hI ?_ (Nat.le_of_ble_eq_true rfl) (Nat.le_of_ble_eq_true rfl) dX1_openUp_47
      have hipl : i = pl := by omega
      subst hipl
      refine ⟨rfl, ⟨by omega, hw8, _, hc10, fun j hj => ?_⟩, (zSm.tr (zSm.tr hs0 (zSm.r ho5)) (zSm.l ho9))⟩
      simp only [inst]
      by_cases q : j = i
      · subst q; rw [pk_us, if_neg (Nat.lt_irrefl _), if_pos rfl]
      · rw [pk_un q]
        by_cases q2 : j < i
        · rw [if_pos q2]; exact hlo j q2
        · rw [if_neg q2, if_neg q]; exact hhi j (by omega) (by omega)
    · refine lv_aload_n hx hb dX1_openUp_10 rfl (lv_at hl 0 rfl) ?_
      refine z_get hx hb hts hown zlX1 rfl 0 (by decide) (hts _ q30) rfl hI xr_ rfl dX1_openUp_11 ?_
      refine lv_iload_n hx hb dX1_openUp_14 rfl (lv_at hl 3 rfl) ?_
      refine lv_aload_n hx hb dX1_openUp_15 rfl (lv_at hl 0 rfl) ?_
      refine z_get hx hb hts hown zlX1 rfl 0 (by decide) (hts _ q30) rfl hI xr_ rfl dX1_openUp_16 ?_
      refine lv_iload_n hx hb dX1_openUp_19 rfl (lv_at hl 3 rfl) ?_
      refine lv_iconst (v := nI 1) hx hb dX1_openUp_20 (by decide) ?_
      refine lv_isub hx hb dX1_openUp_21 ?_
      refine z_topi (pk_sub (a := i) (b := 1) (by omega)) ?_
      refine z_ild (k := i - 1) (v := t (i - 1)) hx hb hI xw_ (by omega) (by omega) (hlo (i - 1) (by omega)) dX1_openUp_22 ?_
      refine z_ist (k := i) hx hb hI xw_ (by omega) (by omega) dX1_openUp_23 (fun H locs F11 hw12 ho13 hI => ?_)
      have hc14 : F11 r = some (zO 1 [.ref w, .int (nI n)]) := (ho13 _ (zne xr_ xw_ (fun q => by cases q))).trans xr_
      refine lv_iinc (k := 3) (v := nI (i - 1)) (lv' := [(3, .int (nI (i - 1))), (0, .ref r), (1, .int (nI pl)), (2, .int x)]) hx hb dX1_openUp_24 hl rfl (sb_m1 (p := i) (by omega)) (by decide) rfl (fun ls hl => ?_)
      refine lv_goto (tgt := 5) hx hb dX1_openUp_27 (by decide) ?_
      refine ih (i - 1) _ ls H locs (by first | omega | (dsimp only; omega)) ?_ (lv_sub hl [1, 2, 3, 0] rfl) hI
      refine ⟨hc14, (zSm.tr hs0 (zSm.r ho13)), by omega, by omega, _, hw12, fun j hj => ?_, fun j hj hj2 => ?_⟩
      · rw [pk_un (by omega)]; exact hlo j (by omega)
      · by_cases q : j = i
        · subst q; rw [pk_us]
        · rw [pk_un q]; exact hhi j (by omega) hj2

set_option maxHeartbeats 4000000 in
set_option maxRecDepth 100000 in
theorem c_X3_insert (l : Launch) (G : zK) (B0 : Nat) (F : zM) (r w cap n : Nat) (t : Nat → Int32) (pl : Nat) (x : Int32) (h : RA G 3 F r w cap n t) (hcap : cap ≤ 100) (hpl : pl ≤ n) (hlt : n < cap) : Met l yX3_insert (Cond.code yX3_insert cX3_insert 4 none :: zW) (zRm 0 0 0 0) (va_Pc [.ref r, .int (nI pl), .int x] (zPre G B0 F)) (zQv G B0 (fun F' => RA G 3 F' r w cap (n + 1) (inst t pl x) ∧ zSm F F' r w)) 0 0 (zA B0) := by
  refine z_of (own := RX3) (by decide) rfl (Nat.le_of_ble_eq_true rfl) ?_
  intro p e s m below meth c ls hx hb hr hml hown hlocks hnm hts hl hI
  have hl : lv_has ls 4 [(0, .ref r), (1, .int (nI pl)), (2, .int x)] := hl
  obtain ⟨xn, xr, f, xw, xf⟩ := id h
  refine lv_aload_n hx hb dX3_insert_0 rfl (lv_at hl 0 rfl) ?_
  refine z_get hx hb hts hown zlX3 rfl 1 (by decide) (hts _ q745) rfl hI xr rfl dX3_insert_1 ?_
  refine lv_istore_n (lv' := [(3, .int (nI n)), (0, .ref r), (1, .int (nI pl)), (2, .int x)]) hx hb dX3_insert_4 rfl hl (by decide) rfl (fun ls hl => ?_)
  refine z_loop (σ := Nat) (fun i : Nat => [(0, .ref r), (1, .int (nI pl)), (2, .int x), (3, .int (nI i))]) (fun (i : Nat) (Fx : zM) => Fx r = some (zO 3 [.ref w, .int (nI n)]) ∧ zSm F Fx r w ∧ pl ≤ i ∧ i ≤ n ∧ ∃ f, Fx w = some (zAI G cap f) ∧ (∀ j, j < i → f j = t j) ∧ (∀ j, i < j → j ≤ n → f j = t (j - 1))) (fun i : Nat => i) n (nL := 4) (st := []) ?_ (lv_sub hl [1, 2, 3, 0] rfl) hI ?_
  · exact ⟨xr, zSm.rf, hpl, Nat.le_refl _, f, xw, fun j hj => xf j hj, fun j hj hj2 => absurd hj (by omega)⟩
  · intro i F1 ls H locs hi hl hI ih
    have hl : lv_has ls 4 [(0, .ref r), (1, .int (nI pl)), (2, .int x), (3, .int (nI i))] := hl
    obtain ⟨xr_, hs0, hpi, hin2, f_, xw_, hlo, hhi⟩ := hi
    refine lv_iload_n hx hb dX3_insert_5 rfl (lv_at hl 3 rfl) ?_
    refine lv_iload_n hx hb dX3_insert_6 rfl (lv_at hl 1 rfl) ?_
    refine z_icmp_le (tgt := 30) (a := i) (b := pl) hx hb dX3_insert_7 (by decide) (by omega) (fun hq2 => ?_) (fun hq2 => ?_)
    · refine lv_aload_n hx hb dX3_insert_30 rfl (lv_at hl 0 rfl) ?_
      refine z_get hx hb hts hown zlX3 rfl 0 (by decide) (hts _ q743) rfl hI xr_ rfl dX3_insert_31 ?_
      refine lv_iload_n hx hb dX3_insert_34 rfl (lv_at hl 1 rfl) ?_
      refine lv_iload_n hx hb dX3_insert_35 rfl (lv_at hl 2 rfl) ?_
      refine z_ist (k := pl) hx hb hI xw_ (by omega) (by omega) dX3_insert_36 (fun H locs F3 hw4 ho5 hI => ?_)
      have hc6 : F3 r = some (zO 3 [.ref w, .int (nI n)]) := (ho5 _ (zne xr_ xw_ (fun q => by cases q))).trans xr_
      refine lv_aload_n hx hb dX3_insert_37 rfl (lv_at hl 0 rfl) ?_
      refine lv_dup hx hb dX3_insert_38 rfl ?_
      refine z_get hx hb hts hown zlX3 rfl 1 (by decide) (hts _ q745) rfl hI hc6 rfl dX3_insert_39 ?_
      refine lv_iconst (v := nI 1) hx hb dX3_insert_42 (by decide) ?_
      refine lv_iadd hx hb dX3_insert_43 ?_
      refine z_topi (nI_add n 1) ?_
      refine z_put hx hb hts hown zlX3 tyX3 tyX3_ok nmX3 rfl 1 (by decide) (hts _ q745) rfl hI hc6 rfl rfl rfl rfl (Nat.le_of_ble_eq_true rfl) dX3_insert_44 (fun H locs F7 hw8 ho9 hI => ?_)
      have hw8 : F7 r = some (zO 3 [.ref w, .int (nI (n + 1))]) := hw8
      have hc10 : F7 w = some (zAI G cap (upd f_ pl x)) := (ho9 _ (zne hw4 hc6 (fun q => by cases q))).trans hw4
      refine z_rv hx hb hr hlocks hI ?_ (Nat.le_of_ble_eq_true rfl) (Nat.le_of_ble_eq_true rfl) dX3_insert_47
      have hipl : i = pl := by omega
      subst hipl
      refine ⟨rfl, ⟨by omega, hw8, _, hc10, fun j hj => ?_⟩, (zSm.tr (zSm.tr hs0 (zSm.r ho5)) (zSm.l ho9))⟩
      simp only [inst]
      by_cases q : j = i
      · subst q; rw [pk_us, if_neg (Nat.lt_irrefl _), if_pos rfl]
      · rw [pk_un q]
        by_cases q2 : j < i
        · rw [if_pos q2]; exact hlo j q2
        · rw [if_neg q2, if_neg q]; exact hhi j (by omega) (by omega)
    · refine lv_aload_n hx hb dX3_insert_10 rfl (lv_at hl 0 rfl) ?_
      refine z_get hx hb hts hown zlX3 rfl 0 (by decide) (hts _ q743) rfl hI xr_ rfl dX3_insert_11 ?_
      refine lv_iload_n hx hb dX3_insert_14 rfl (lv_at hl 3 rfl) ?_
      refine lv_aload_n hx hb dX3_insert_15 rfl (lv_at hl 0 rfl) ?_
      refine z_get hx hb hts hown zlX3 rfl 0 (by decide) (hts _ q743) rfl hI xr_ rfl dX3_insert_16 ?_
      refine lv_iload_n hx hb dX3_insert_19 rfl (lv_at hl 3 rfl) ?_
      refine lv_iconst (v := nI 1) hx hb dX3_insert_20 (by decide) ?_
      refine lv_isub hx hb dX3_insert_21 ?_
      refine z_topi (pk_sub (a := i) (b := 1) (by omega)) ?_
      refine z_ild (k := i - 1) (v := t (i - 1)) hx hb hI xw_ (by omega) (by omega) (hlo (i - 1) (by omega)) dX3_insert_22 ?_
      refine z_ist (k := i) hx hb hI xw_ (by omega) (by omega) dX3_insert_23 (fun H locs F11 hw12 ho13 hI => ?_)
      have hc14 : F11 r = some (zO 3 [.ref w, .int (nI n)]) := (ho13 _ (zne xr_ xw_ (fun q => by cases q))).trans xr_
      refine lv_iinc (k := 3) (v := nI (i - 1)) (lv' := [(3, .int (nI (i - 1))), (0, .ref r), (1, .int (nI pl)), (2, .int x)]) hx hb dX3_insert_24 hl rfl (sb_m1 (p := i) (by omega)) (by decide) rfl (fun ls hl => ?_)
      refine lv_goto (tgt := 5) hx hb dX3_insert_27 (by decide) ?_
      refine ih (i - 1) _ ls H locs (by first | omega | (dsimp only; omega)) ?_ (lv_sub hl [1, 2, 3, 0] rfl) hI
      refine ⟨hc14, (zSm.tr hs0 (zSm.r ho13)), by omega, by omega, _, hw12, fun j hj => ?_, fun j hj hj2 => ?_⟩
      · rw [pk_un (by omega)]; exact hlo j (by omega)
      · by_cases q : j = i
        · subst q; rw [pk_us]
        · rw [pk_un q]; exact hhi j (by omega) hj2

set_option maxHeartbeats 4000000 in
set_option maxRecDepth 100000 in
theorem c_X1_closeUp (l : Launch) (G : zK) (B0 : Nat) (F : zM) (r w cap n : Nat) (t : Nat → Int32) (a b : Nat) (h : RA G 1 F r w cap n t) (hcap : cap ≤ 100) (hab : a ≤ b) (hbn : b ≤ n) : Met l yX1_closeUp (Cond.code yX1_closeUp cX1_closeUp 5 none :: zW) (zRm 0 0 0 0) (va_Pc [.ref r, .int (nI a), .int (nI b)] (zPre G B0 F)) (zQv G B0 (fun F' => RA G 1 F' r w cap (n - (b - a)) (clot t a b) ∧ zSm F F' r w)) 0 0 (zA B0) := by
  refine z_of (own := RX1) (by decide) rfl (Nat.le_of_ble_eq_true rfl) ?_
  intro p e s m below meth c ls hx hb hr hml hown hlocks hnm hts hl hI
  have hl : lv_has ls 5 [(0, .ref r), (1, .int (nI a)), (2, .int (nI b))] := hl
  obtain ⟨xn, xr, f, xw, xf⟩ := id h
  refine lv_iload_n hx hb dX1_closeUp_0 rfl (lv_at hl 2 rfl) ?_
  refine lv_iload_n hx hb dX1_closeUp_1 rfl (lv_at hl 1 rfl) ?_
  refine lv_isub hx hb dX1_closeUp_2 ?_
  refine z_topi (pk_sub (a := b) (b := a) (by omega)) ?_
  refine lv_istore_n (lv' := [(3, .int (nI (b - a))), (0, .ref r), (1, .int (nI a)), (2, .int (nI b))]) hx hb dX1_closeUp_3 rfl hl (by decide) rfl (fun ls hl => ?_)
  refine lv_iload_n hx hb dX1_closeUp_4 rfl (lv_at hl 3 rfl) ?_
  refine lv_istore (lv' := [(4, .int (nI b)), (3, .int (nI (b - a))), (0, .ref r), (1, .int (nI a)), (2, .int (nI b))]) hx hb dX1_closeUp_5 hl (by decide) rfl (fun ls hl => ?_)
  refine z_loop (σ := Nat) (fun i : Nat => [(0, .ref r), (1, .int (nI a)), (2, .int (nI b)), (3, .int (nI (b - a))), (4, .int (nI i))]) (fun (i : Nat) (Fx : zM) => Fx r = some (zO 1 [.ref w, .int (nI n)]) ∧ zSm F Fx r w ∧ b ≤ i ∧ i ≤ n ∧ ∃ f, Fx w = some (zAI G cap f) ∧ (∀ j, j < a → f j = t j) ∧ (∀ j, a ≤ j → j + (b - a) < i → f j = t (j + (b - a))) ∧ (∀ j, i ≤ j + (b - a) → j < n → f j = t j)) (fun i : Nat => n - i) b (nL := 5) (st := []) ?_ (lv_sub hl [2, 3, 4, 1, 0] rfl) hI ?_
  · exact ⟨xr, zSm.rf, Nat.le_refl _, hbn, f, xw, fun j hj => xf j (by omega), fun j hj hj2 => absurd hj2 (by omega), fun j hj hj2 => xf j hj2⟩
  · intro i F1 ls H locs hi hl hI ih
    have hl : lv_has ls 5 [(0, .ref r), (1, .int (nI a)), (2, .int (nI b)), (3, .int (nI (b - a))), (4, .int (nI i))] := hl
    obtain ⟨xr_, hs0, hbi, hin2, f_, xw_, hlo, hmi, hhi⟩ := hi
    refine lv_iload hx hb dX1_closeUp_7 (lv_at hl 4 rfl) ?_
    refine lv_aload_n hx hb dX1_closeUp_9 rfl (lv_at hl 0 rfl) ?_
    refine z_get hx hb hts hown zlX1 rfl 1 (by decide) (hts _ q32) rfl hI xr_ rfl dX1_closeUp_10 ?_
    refine z_icmp_ge (tgt := 38) (a := i) (b := n) hx hb dX1_closeUp_13 (by decide) (by omega) (fun hq2 => ?_) (fun hq2 => ?_)
    · refine lv_aload_n hx hb dX1_closeUp_38 rfl (lv_at hl 0 rfl) ?_
      refine lv_dup hx hb dX1_closeUp_39 rfl ?_
      refine z_get hx hb hts hown zlX1 rfl 1 (by decide) (hts _ q32) rfl hI xr_ rfl dX1_closeUp_40 ?_
      refine lv_iload_n hx hb dX1_closeUp_43 rfl (lv_at hl 3 rfl) ?_
      refine lv_isub hx hb dX1_closeUp_44 ?_
      refine z_topi (pk_sub (a := n) (b := b - a) (by omega)) ?_
      refine z_put hx hb hts hown zlX1 tyX1 tyX1_ok nmX1 rfl 1 (by decide) (hts _ q32) rfl hI xr_ rfl rfl rfl rfl (Nat.le_of_ble_eq_true rfl) dX1_closeUp_45 (fun H locs F3 hw4 ho5 hI => ?_)
      have hw4 : F3 r = some (zO 1 [.ref w, .int (nI (n - (b - a)))]) := hw4
      have hc6 : F3 w = some (zAI G cap f_) := (ho5 _ (zne xw_ xr_ (fun q => by cases q))).trans xw_
      refine z_rv hx hb hr hlocks hI ?_ (Nat.le_of_ble_eq_true rfl) (Nat.le_of_ble_eq_true rfl) dX1_closeUp_48
      have hipl : i = n := by omega
      subst hipl
      refine ⟨rfl, ⟨by omega, hw4, _, hc6, fun j hj => ?_⟩, (zSm.tr hs0 (zSm.l ho5))⟩
      simp only [clot]
      by_cases q : j < a
      · rw [if_pos q]; exact hlo j q
      · rw [if_neg q]; exact hmi j (by omega) (by omega)
    · refine lv_aload_n hx hb dX1_closeUp_16 rfl (lv_at hl 0 rfl) ?_
      refine z_get hx hb hts hown zlX1 rfl 0 (by decide) (hts _ q30) rfl hI xr_ rfl dX1_closeUp_17 ?_
      refine lv_iload hx hb dX1_closeUp_20 (lv_at hl 4 rfl) ?_
      refine lv_iload_n hx hb dX1_closeUp_22 rfl (lv_at hl 3 rfl) ?_
      refine lv_isub hx hb dX1_closeUp_23 ?_
      refine z_topi (pk_sub (a := i) (b := b - a) (by omega)) ?_
      refine lv_aload_n hx hb dX1_closeUp_24 rfl (lv_at hl 0 rfl) ?_
      refine z_get hx hb hts hown zlX1 rfl 0 (by decide) (hts _ q30) rfl hI xr_ rfl dX1_closeUp_25 ?_
      refine lv_iload hx hb dX1_closeUp_28 (lv_at hl 4 rfl) ?_
      refine z_ild (k := i) (v := t i) hx hb hI xw_ (by omega) (by omega) (hhi i (by omega) (by omega)) dX1_closeUp_30 ?_
      refine z_ist (k := i - (b - a)) hx hb hI xw_ (by omega) (by omega) dX1_closeUp_31 (fun H locs F7 hw8 ho9 hI => ?_)
      have hc10 : F7 r = some (zO 1 [.ref w, .int (nI n)]) := (ho9 _ (zne xr_ xw_ (fun q => by cases q))).trans xr_
      refine lv_iinc (k := 4) (v := nI (i + 1)) (lv' := [(4, .int (nI (i + 1))), (0, .ref r), (1, .int (nI a)), (2, .int (nI b)), (3, .int (nI (b - a)))]) hx hb dX1_closeUp_32 hl rfl (nI_add i 1) (by decide) rfl (fun ls hl => ?_)
      refine lv_goto (tgt := 7) hx hb dX1_closeUp_35 (by decide) ?_
      refine ih (i + 1) _ ls H locs (by first | omega | (dsimp only; omega)) ?_ (lv_sub hl [1, 2, 3, 4, 0] rfl) hI
      refine ⟨hc10, (zSm.tr hs0 (zSm.r ho9)), by omega, by omega, _, hw8, fun j hj => ?_, fun j hj hj2 => ?_, fun j hj hj2 => ?_⟩
      · rw [pk_un (by omega)]; exact hlo j hj
      · by_cases q : j = i - (b - a)
        · subst q; rw [pk_us]; congr 1; omega
        · rw [pk_un q]; exact hmi j hj (by omega)
      · rw [pk_un (by omega)]; exact hhi j (by omega) hj2

set_option maxHeartbeats 4000000 in
set_option maxRecDepth 100000 in
theorem c_X3_remove (l : Launch) (G : zK) (B0 : Nat) (F : zM) (r w cap n : Nat) (t : Nat → Int32) (pl : Nat) (h : RA G 3 F r w cap n t) (hcap : cap ≤ 100) (hpl : pl < n) : Met l yX3_remove (Cond.code yX3_remove cX3_remove 4 (some FieldType.int) :: zW) (zRm 0 0 0 0) (va_Pc [.ref r, .int (nI pl)] (zPre G B0 F)) (zQi G B0 (fun r' F' => r' = t pl ∧ RA G 3 F' r w cap (n - 1) (clot t pl (pl + 1)) ∧ zSm F F' r w)) 0 0 (zA B0) := by
  refine z_of (own := RX3) (by decide) rfl (Nat.le_of_ble_eq_true rfl) ?_
  intro p e s m below meth c ls hx hb hr hml hown hlocks hnm hts hl hI
  have hl : lv_has ls 4 [(0, .ref r), (1, .int (nI pl))] := hl
  obtain ⟨xn, xr, f, xw, xf⟩ := id h
  refine lv_aload_n hx hb dX3_remove_0 rfl (lv_at hl 0 rfl) ?_
  refine z_get hx hb hts hown zlX3 rfl 0 (by decide) (hts _ q743) rfl hI xr rfl dX3_remove_1 ?_
  refine lv_iload_n hx hb dX3_remove_4 rfl (lv_at hl 1 rfl) ?_
  refine z_ild (k := pl) (v := t pl) hx hb hI xw (by omega) (by omega) (xf pl (by omega)) dX3_remove_5 ?_
  refine lv_istore_n (lv' := [(2, .int (t pl)), (0, .ref r), (1, .int (nI pl))]) hx hb dX3_remove_6 rfl hl (by decide) rfl (fun ls hl => ?_)
  refine lv_aload_n hx hb dX3_remove_7 rfl (lv_at hl 1 rfl) ?_
  refine lv_dup hx hb dX3_remove_8 rfl ?_
  refine z_get hx hb hts hown zlX3 rfl 1 (by decide) (hts _ q745) rfl hI xr rfl dX3_remove_9 ?_
  refine lv_iconst (v := nI 1) hx hb dX3_remove_12 (by decide) ?_
  refine lv_isub hx hb dX3_remove_13 ?_
  refine z_topi (pk_sub (a := n) (b := 1) (by omega)) ?_
  refine z_put hx hb hts hown zlX3 tyX3 tyX3_ok nmX3 rfl 1 (by decide) (hts _ q745) rfl hI xr rfl rfl rfl rfl (Nat.le_of_ble_eq_true rfl) dX3_remove_14 (fun H locs F1 hw2 ho3 hI => ?_)
  have hw2 : F1 r = some (zO 3 [.ref w, .int (nI (n - 1))]) := hw2
  have hc4 : F1 w = some (zAI G cap f) := (ho3 _ (zne xw xr (fun q => by cases q))).trans xw
  refine lv_iload_n hx hb dX3_remove_17 rfl (lv_at hl 2 rfl) ?_
  refine lv_istore_n (lv' := [(3, .int (nI pl)), (2, .int (t pl)), (0, .ref r), (1, .int (nI pl))]) hx hb dX3_remove_18 rfl hl (by decide) rfl (fun ls hl => ?_)
  refine z_loop (σ := Nat) (fun i : Nat => [(0, .ref r), (1, .int (nI pl)), (2, .int (t pl)), (3, .int (nI i))]) (fun (i : Nat) (Fx : zM) => Fx r = some (zO 3 [.ref w, .int (nI (n - 1))]) ∧ zSm F Fx r w ∧ pl ≤ i ∧ i ≤ n - 1 ∧ ∃ f, Fx w = some (zAI G cap f) ∧ (∀ j, j < i → f j = clot t pl (pl + 1) j) ∧ (∀ j, i ≤ j → j < n → f j = t j)) (fun i : Nat => n - 1 - i) pl (nL := 4) (st := []) ?_ (lv_sub hl [2, 3, 1, 0] rfl) hI ?_
  · exact ⟨hw2, (zSm.l ho3), Nat.le_refl _, by omega, f, hc4, fun j hj => by simp only [clot]; rw [if_pos hj]; exact xf j (by omega), fun j hj hj2 => xf j hj2⟩
  · intro i F5 ls H locs hi hl hI ih
    have hl : lv_has ls 4 [(0, .ref r), (1, .int (nI pl)), (2, .int (t pl)), (3, .int (nI i))] := hl
    obtain ⟨xr_, hs0, hbi, hin2, f_, xw_, hlo, hhi⟩ := hi
    refine lv_iload_n hx hb dX3_remove_19 rfl (lv_at hl 3 rfl) ?_
    refine lv_aload_n hx hb dX3_remove_20 rfl (lv_at hl 0 rfl) ?_
    refine z_get hx hb hts hown zlX3 rfl 1 (by decide) (hts _ q745) rfl hI xr_ rfl dX3_remove_21 ?_
    refine z_icmp_ge (tgt := 47) (a := i) (b := n - 1) hx hb dX3_remove_24 (by decide) (by omega) (fun hq6 => ?_) (fun hq6 => ?_)
    · refine lv_iload_n hx hb dX3_remove_47 rfl (lv_at hl 2 rfl) ?_
      refine z_ri hx hb hr hlocks hI ?_ (Nat.le_of_ble_eq_true rfl) (Nat.le_of_ble_eq_true rfl) dX3_remove_48
      have hipl : i = n - 1 := by omega
      subst hipl
      exact ⟨_, rfl, rfl, ⟨by omega, xr_, _, xw_, hlo⟩, hs0⟩
    · refine lv_aload_n hx hb dX3_remove_27 rfl (lv_at hl 0 rfl) ?_
      refine z_get hx hb hts hown zlX3 rfl 0 (by decide) (hts _ q743) rfl hI xr_ rfl dX3_remove_28 ?_
      refine lv_iload_n hx hb dX3_remove_31 rfl (lv_at hl 3 rfl) ?_
      refine lv_aload_n hx hb dX3_remove_32 rfl (lv_at hl 0 rfl) ?_
      refine z_get hx hb hts hown zlX3 rfl 0 (by decide) (hts _ q743) rfl hI xr_ rfl dX3_remove_33 ?_
      refine lv_iload_n hx hb dX3_remove_36 rfl (lv_at hl 3 rfl) ?_
      refine lv_iconst (v := nI 1) hx hb dX3_remove_37 (by decide) ?_
      refine lv_iadd hx hb dX3_remove_38 ?_
      refine z_topi (nI_add i 1) ?_
      refine z_ild (k := i + 1) (v := t (i + 1)) hx hb hI xw_ (by omega) (by omega) (hhi (i + 1) (by omega) (by omega)) dX3_remove_39 ?_
      refine z_ist (k := i) hx hb hI xw_ (by omega) (by omega) dX3_remove_40 (fun H locs F7 hw8 ho9 hI => ?_)
      have hc10 : F7 r = some (zO 3 [.ref w, .int (nI (n - 1))]) := (ho9 _ (zne xr_ xw_ (fun q => by cases q))).trans xr_
      refine lv_iinc (k := 3) (v := nI (i + 1)) (lv' := [(3, .int (nI (i + 1))), (0, .ref r), (1, .int (nI pl)), (2, .int (t pl))]) hx hb dX3_remove_41 hl rfl (nI_add i 1) (by decide) rfl (fun ls hl => ?_)
      refine lv_goto (tgt := 19) hx hb dX3_remove_44 (by decide) ?_
      refine ih (i + 1) _ ls H locs (by first | omega | (dsimp only; omega)) ?_ (lv_sub hl [1, 2, 3, 0] rfl) hI
      refine ⟨hc10, (zSm.tr hs0 (zSm.r ho9)), by omega, by omega, _, hw8, fun j hj => ?_, fun j hj hj2 => ?_⟩
      · by_cases q : j = i
        · subst q; rw [pk_us]; simp only [clot]; rw [if_neg (by omega)]; congr 1; omega
        · rw [pk_un q]; exact hlo j (by omega)
      · rw [pk_un (by omega)]; exact hhi j (by omega) hj2

set_option maxHeartbeats 4000000 in
set_option maxRecDepth 100000 in
theorem c_X1_exchange (l : Launch) (G : zK) (B0 : Nat) (F : zM) (r w cap n : Nat) (t : Nat → Int32) (i1 i2 : Nat) (h : RA G 1 F r w cap n t) (hcap : cap ≤ 100) (hi1 : i1 < n) (hi2 : i2 < n) : Met l yX1_exchange (Cond.code yX1_exchange cX1_exchange 4 none :: zW) (zRm 0 0 0 0) (va_Pc [.ref r, .int (nI i1), .int (nI i2)] (zPre G B0 F)) (zQv G B0 (fun F' => RA G 1 F' r w cap n (swpt t i1 i2) ∧ zSm F F' r w)) 0 0 (zA B0) := by
  refine z_of (own := RX1) (by decide) rfl (Nat.le_of_ble_eq_true rfl) ?_
  intro p e s m below meth c ls hx hb hr hml hown hlocks hnm hts hl hI
  have hl : lv_has ls 4 [(0, .ref r), (1, .int (nI i1)), (2, .int (nI i2))] := hl
  obtain ⟨xn, xr, f, xw, xf⟩ := id h
  refine lv_aload_n hx hb dX1_exchange_0 rfl (lv_at hl 0 rfl) ?_
  refine z_get hx hb hts hown zlX1 rfl 0 (by decide) (hts _ q30) rfl hI xr rfl dX1_exchange_1 ?_
  refine lv_iload_n hx hb dX1_exchange_4 rfl (lv_at hl 1 rfl) ?_
  refine z_ild (k := i1) (v := t i1) hx hb hI xw (by omega) (by omega) (xf i1 (by omega)) dX1_exchange_5 ?_
  refine lv_istore_n (lv' := [(3, .int (t i1)), (0, .ref r), (1, .int (nI i1)), (2, .int (nI i2))]) hx hb dX1_exchange_6 rfl hl (by decide) rfl (fun ls hl => ?_)
  refine lv_aload_n hx hb dX1_exchange_7 rfl (lv_at hl 1 rfl) ?_
  refine z_get hx hb hts hown zlX1 rfl 0 (by decide) (hts _ q30) rfl hI xr rfl dX1_exchange_8 ?_
  refine lv_iload_n hx hb dX1_exchange_11 rfl (lv_at hl 2 rfl) ?_
  refine lv_aload_n hx hb dX1_exchange_12 rfl (lv_at hl 1 rfl) ?_
  refine z_get hx hb hts hown zlX1 rfl 0 (by decide) (hts _ q30) rfl hI xr rfl dX1_exchange_13 ?_
  refine lv_iload_n hx hb dX1_exchange_16 rfl (lv_at hl 3 rfl) ?_
  refine z_ild (k := i2) (v := t i2) hx hb hI xw (by omega) (by omega) (xf i2 (by omega)) dX1_exchange_17 ?_
  refine z_ist (k := i1) hx hb hI xw (by omega) (by omega) dX1_exchange_18 (fun H locs F1 hw2 ho3 hI => ?_)
  have hc4 : F1 r = some (zO 1 [.ref w, .int (nI n)]) := (ho3 _ (zne xr xw (fun q => by cases q))).trans xr
  refine lv_aload_n hx hb dX1_exchange_19 rfl (lv_at hl 1 rfl) ?_
  refine z_get hx hb hts hown zlX1 rfl 0 (by decide) (hts _ q30) rfl hI hc4 rfl dX1_exchange_20 ?_
  refine lv_iload_n hx hb dX1_exchange_23 rfl (lv_at hl 3 rfl) ?_
  refine lv_iload_n hx hb dX1_exchange_24 rfl (lv_at hl 0 rfl) ?_
  refine z_ist (k := i2) hx hb hI hw2 (by omega) (by omega) dX1_exchange_25 (fun H locs F5 hw6 ho7 hI => ?_)
  have hc8 : F5 r = some (zO 1 [.ref w, .int (nI n)]) := (ho7 _ (zne hc4 hw2 (fun q => by cases q))).trans hc4
  refine z_rv hx hb hr hlocks hI ?_ (Nat.le_of_ble_eq_true rfl) (Nat.le_of_ble_eq_true rfl) dX1_exchange_26
  refine ⟨rfl, ⟨by omega, hc8, _, hw6, fun j hj => ?_⟩, (zSm.tr (zSm.r ho3) (zSm.r ho7))⟩
  simp only [swpt]
  by_cases q : j = i2
  · subst q; rw [pk_us, if_pos rfl]
  · rw [pk_un q, if_neg q]
    by_cases q2 : j = i1
    · subst q2; rw [pk_us, if_pos rfl]
    · rw [pk_un q2, if_neg q2]; exact xf j hj

set_option maxHeartbeats 4000000 in
set_option maxRecDepth 100000 in
theorem c_X3_swap (l : Launch) (G : zK) (B0 : Nat) (F : zM) (r w cap n : Nat) (t : Nat → Int32) (i1 i2 : Nat) (h : RA G 3 F r w cap n t) (hcap : cap ≤ 100) (hi1 : i1 < n) (hi2 : i2 < n) : Met l yX3_swap (Cond.code yX3_swap cX3_swap 4 none :: zW) (zRm 0 0 0 0) (va_Pc [.ref r, .int (nI i1), .int (nI i2)] (zPre G B0 F)) (zQv G B0 (fun F' => RA G 3 F' r w cap n (swpt t i1 i2) ∧ zSm F F' r w)) 0 0 (zA B0) := by
  refine z_of (own := RX3) (by decide) rfl (Nat.le_of_ble_eq_true rfl) ?_
  intro p e s m below meth c ls hx hb hr hml hown hlocks hnm hts hl hI
  have hl : lv_has ls 4 [(0, .ref r), (1, .int (nI i1)), (2, .int (nI i2))] := hl
  obtain ⟨xn, xr, f, xw, xf⟩ := id h
  refine lv_aload_n hx hb dX3_swap_0 rfl (lv_at hl 0 rfl) ?_
  refine z_get hx hb hts hown zlX3 rfl 0 (by decide) (hts _ q743) rfl hI xr rfl dX3_swap_1 ?_
  refine lv_iload_n hx hb dX3_swap_4 rfl (lv_at hl 1 rfl) ?_
  refine z_ild (k := i1) (v := t i1) hx hb hI xw (by omega) (by omega) (xf i1 (by omega)) dX3_swap_5 ?_
  refine lv_istore_n (lv' := [(3, .int (t i1)), (0, .ref r), (1, .int (nI i1)), (2, .int (nI i2))]) hx hb dX3_swap_6 rfl hl (by decide) rfl (fun ls hl => ?_)
  refine lv_aload_n hx hb dX3_swap_7 rfl (lv_at hl 1 rfl) ?_
  refine z_get hx hb hts hown zlX3 rfl 0 (by decide) (hts _ q743) rfl hI xr rfl dX3_swap_8 ?_
  refine lv_iload_n hx hb dX3_swap_11 rfl (lv_at hl 2 rfl) ?_
  refine lv_aload_n hx hb dX3_swap_12 rfl (lv_at hl 1 rfl) ?_
  refine z_get hx hb hts hown zlX3 rfl 0 (by decide) (hts _ q743) rfl hI xr rfl dX3_swap_13 ?_
  refine lv_iload_n hx hb dX3_swap_16 rfl (lv_at hl 3 rfl) ?_
  refine z_ild (k := i2) (v := t i2) hx hb hI xw (by omega) (by omega) (xf i2 (by omega)) dX3_swap_17 ?_
  refine z_ist (k := i1) hx hb hI xw (by omega) (by omega) dX3_swap_18 (fun H locs F1 hw2 ho3 hI => ?_)
  have hc4 : F1 r = some (zO 3 [.ref w, .int (nI n)]) := (ho3 _ (zne xr xw (fun q => by cases q))).trans xr
  refine lv_aload_n hx hb dX3_swap_19 rfl (lv_at hl 1 rfl) ?_
  refine z_get hx hb hts hown zlX3 rfl 0 (by decide) (hts _ q743) rfl hI hc4 rfl dX3_swap_20 ?_
  refine lv_iload_n hx hb dX3_swap_23 rfl (lv_at hl 3 rfl) ?_
  refine lv_iload_n hx hb dX3_swap_24 rfl (lv_at hl 0 rfl) ?_
  refine z_ist (k := i2) hx hb hI hw2 (by omega) (by omega) dX3_swap_25 (fun H locs F5 hw6 ho7 hI => ?_)
  have hc8 : F5 r = some (zO 3 [.ref w, .int (nI n)]) := (ho7 _ (zne hc4 hw2 (fun q => by cases q))).trans hc4
  refine z_rv hx hb hr hlocks hI ?_ (Nat.le_of_ble_eq_true rfl) (Nat.le_of_ble_eq_true rfl) dX3_swap_26
  refine ⟨rfl, ⟨by omega, hc8, _, hw6, fun j hj => ?_⟩, (zSm.tr (zSm.r ho3) (zSm.r ho7))⟩
  simp only [swpt]
  by_cases q : j = i2
  · subst q; rw [pk_us, if_pos rfl]
  · rw [pk_un q, if_neg q]
    by_cases q2 : j = i1
    · subst q2; rw [pk_us, if_pos rfl]
    · rw [pk_un q2, if_neg q2]; exact xf j hj

set_option maxHeartbeats 4000000 in
set_option maxRecDepth 100000 in
theorem c_X1_turnRound (l : Launch) (G : zK) (B0 : Nat) (F : zM) (r w cap n : Nat) (t : Nat → Int32) (a b : Nat) (h : RA G 1 F r w cap n t) (hcap : cap ≤ 100) (hab : a ≤ b) (hbn : b ≤ n) : Met l yX1_turnRound (Cond.code yX1_turnRound cX1_turnRound 5 none :: zW) (zRm 1 23 0 0) (va_Pc [.ref r, .int (nI a), .int (nI b)] (zPre G B0 F)) (zQv G B0 (fun F' => RA G 1 F' r w cap n (revt t a b) ∧ zSm F F' r w)) 0 0 (zA B0) := by
  refine z_of (own := RX1) (by decide) rfl (Nat.le_of_ble_eq_true rfl) ?_
  intro p e s m below meth c ls hx hb hr hml hown hlocks hnm hts hl hI
  have hl : lv_has ls 5 [(0, .ref r), (1, .int (nI a)), (2, .int (nI b))] := hl
  obtain ⟨xn, xr, f, xw, xf⟩ := id h
  refine lv_iload_n hx hb dX1_turnRound_0 rfl (lv_at hl 2 rfl) ?_
  refine lv_iload_n hx hb dX1_turnRound_1 rfl (lv_at hl 1 rfl) ?_
  refine lv_isub hx hb dX1_turnRound_2 ?_
  refine z_topi (pk_sub (a := b) (b := a) (by omega)) ?_
  refine lv_iconst (v := nI 2) hx hb dX1_turnRound_3 (by decide) ?_
  refine lv_idiv hx hb dX1_turnRound_4 (nI_ne0 (by omega) (by omega)) ?_
  refine z_topi (pk_div (a := b - a) (d := 2) (by omega) (by omega) (by omega)) ?_
  refine lv_istore_n (lv' := [(3, .int (nI ((b - a) / 2))), (0, .ref r), (1, .int (nI a)), (2, .int (nI b))]) hx hb dX1_turnRound_5 rfl hl (by decide) rfl (fun ls hl => ?_)
  refine lv_iconst (v := nI 0) hx hb dX1_turnRound_6 (by decide) ?_
  refine lv_istore (lv' := [(4, .int (nI 0)), (3, .int (nI ((b - a) / 2))), (0, .ref r), (1, .int (nI a)), (2, .int (nI b))]) hx hb dX1_turnRound_7 hl (by decide) rfl (fun ls hl => ?_)
  refine z_loop (σ := Nat) (fun i : Nat => [(0, .ref r), (1, .int (nI a)), (2, .int (nI b)), (3, .int (nI ((b - a) / 2))), (4, .int (nI i))]) (fun (i : Nat) (Fx : zM) => RA G 1 Fx r w cap n (revk t a b i) ∧ zSm F Fx r w ∧ i ≤ (b - a) / 2) (fun i : Nat => (b - a) / 2 - i) 0 (nL := 5) (st := []) ?_ (lv_sub hl [2, 3, 4, 1, 0] rfl) hI ?_
  · exact ⟨RA.cg h (fun j hj => revk_0 j), zSm.rf, Nat.zero_le _⟩
  · intro i F1 ls H locs hi hl hI ih
    have hl : lv_has ls 5 [(0, .ref r), (1, .int (nI a)), (2, .int (nI b)), (3, .int (nI ((b - a) / 2))), (4, .int (nI i))] := hl
    obtain ⟨ha0, hs0, hk⟩ := hi
    obtain ⟨xn_, xr_, f_, xw_, xf_⟩ := id ha0
    refine lv_iload hx hb dX1_turnRound_9 (lv_at hl 4 rfl) ?_
    refine lv_iload_n hx hb dX1_turnRound_11 rfl (lv_at hl 3 rfl) ?_
    refine z_icmp_ge (tgt := 35) (a := i) (b := (b - a) / 2) hx hb dX1_turnRound_12 (by decide) (by omega) (fun hq2 => ?_) (fun hq2 => ?_)
    · refine z_rv hx hb hr hlocks hI ?_ (Nat.le_of_ble_eq_true rfl) (Nat.le_of_ble_eq_true rfl) dX1_turnRound_35
      have hipl : i = (b - a) / 2 := by omega
      subst hipl
      exact ⟨rfl, RA.cg ha0 (fun j hj => revk_e hab j), hs0⟩
    · refine lv_aload_n hx hb dX1_turnRound_15 rfl (lv_at hl 0 rfl) ?_
      refine lv_iload_n hx hb dX1_turnRound_16 rfl (lv_at hl 1 rfl) ?_
      refine lv_iload hx hb dX1_turnRound_17 (lv_at hl 4 rfl) ?_
      refine lv_iadd hx hb dX1_turnRound_19 ?_
      refine z_topi (nI_add a i) ?_
      refine lv_iload_n hx hb dX1_turnRound_20 rfl (lv_at hl 2 rfl) ?_
      refine lv_iconst (v := nI 1) hx hb dX1_turnRound_21 (by decide) ?_
      refine lv_isub hx hb dX1_turnRound_22 ?_
      refine z_topi (pk_sub (a := b) (b := 1) (by omega)) ?_
      refine lv_iload hx hb dX1_turnRound_23 (lv_at hl 4 rfl) ?_
      refine lv_isub hx hb dX1_turnRound_25 ?_
      refine z_topi (pk_sub (a := b - 1) (b := i) (by omega)) ?_
      refine z_callv hI (z_V (As := [.int (nI (a + i)), .int (nI (b - 1 - i))]) (rest := []) ⟨hx, hb, hml, hown, hts⟩ hI xr_ rfl (c_X1_exchange l G B0 F1 r w cap n (revk t a b i) (a + i) (b - 1 - i) ⟨xn_, xr_, f_, xw_, xf_⟩ (by omega) (by omega) (by omega)) (z_cwV vX1_exchange hts q543 ⟨Nat.le_of_ble_eq_true rfl, Nat.le_of_ble_eq_true rfl⟩) rfl hl.1 rfl (lv_room (Nat.le_of_ble_eq_true rfl)) dX1_turnRound_26 ⟨Nat.le_of_ble_eq_true rfl, Nat.le_of_ble_eq_true rfl⟩) (fun F3 H locs hp5 hI => ?_)
      obtain ⟨ha6, hs6⟩ := hp5
      obtain ⟨xn_6, xr_6, f_6, xw_6, xf_6⟩ := id ha6
      refine lv_iinc (k := 4) (v := nI (i + 1)) (lv' := [(4, .int (nI (i + 1))), (0, .ref r), (1, .int (nI a)), (2, .int (nI b)), (3, .int (nI ((b - a) / 2)))]) hx hb dX1_turnRound_29 hl rfl (nI_add i 1) (by decide) rfl (fun ls hl => ?_)
      refine lv_goto (tgt := 9) hx hb dX1_turnRound_32 (by decide) ?_
      refine ih (i + 1) _ ls H locs (by first | omega | (dsimp only; omega)) ?_ (lv_sub hl [1, 2, 3, 4, 0] rfl) hI
      exact ⟨RA.cg ha6 (fun j hj => revk_s (by omega) j), (zSm.tr hs0 hs6), by omega⟩

set_option maxHeartbeats 4000000 in
set_option maxRecDepth 100000 in
theorem c_X1_hasWord (l : Launch) (G : zK) (B0 : Nat) (F : zM) (r w cap n : Nat) (t : Nat → Int32) (x : Int32) (h : RA G 1 F r w cap n t) (hcap : cap ≤ 100) : Met l yX1_hasWord (Cond.code yX1_hasWord cX1_hasWord 2 (some FieldType.boolean) :: zW) (zRm 1 23 0 0) (va_Pc [.ref r, .int x] (zPre G B0 F)) (zQi G B0 (fun r F' => F = F' ∧ r = pI (0 < cnt t x n))) 0 0 (zA B0) := by
  refine z_of (own := RX1) (by decide) rfl (Nat.le_of_ble_eq_true rfl) ?_
  intro p e s m below meth c ls hx hb hr hml hown hlocks hnm hts hl hI
  have hl : lv_has ls 2 [(0, .ref r), (1, .int x)] := hl
  obtain ⟨xn, xr, f, xw, xf⟩ := id h
  refine lv_aload_n hx hb dX1_hasWord_0 rfl (lv_at hl 0 rfl) ?_
  refine lv_iload_n hx hb dX1_hasWord_1 rfl (lv_at hl 1 rfl) ?_
  refine z_calli hI (z_V (As := [.int x]) (rest := []) ⟨hx, hb, hml, hown, hts⟩ hI xr rfl (c_X1_timesOf l G B0 F r w cap n t x ⟨xn, xr, f, xw, xf⟩ (by omega)) (z_cwV vX1_timesOf hts q458 ⟨Nat.le_of_ble_eq_true rfl, Nat.le_of_ble_eq_true rfl⟩) rfl hl.1 rfl (lv_room (Nat.le_of_ble_eq_true rfl)) dX1_hasWord_2 ⟨Nat.le_of_ble_eq_true rfl, Nat.le_of_ble_eq_true rfl⟩) (fun r2 F1 H locs hp3 hI => ?_)
  obtain ⟨rfl, rfl⟩ := hp3
  have hcn := cnt_le t x n
  refine z_if_le (tgt := 12) (a := cnt t x n) hx hb dX1_hasWord_5 (by decide) (by omega) (fun hq4 => ?_) (fun hq4 => ?_)
  · refine lv_iconst (v := nI 0) hx hb dX1_hasWord_12 (by decide) ?_
    refine z_rz hx hb hr hlocks (Or.inl rfl) hI ?_ (Nat.le_of_ble_eq_true rfl) (Nat.le_of_ble_eq_true rfl) dX1_hasWord_13
    exact ⟨_, rfl, rfl, pI_f (by omega)⟩
  · refine lv_iconst (v := nI 1) hx hb dX1_hasWord_8 (by decide) ?_
    refine lv_goto (tgt := 13) hx hb dX1_hasWord_9 (by decide) ?_
    refine z_rz hx hb hr hlocks (Or.inr rfl) hI ?_ (Nat.le_of_ble_eq_true rfl) (Nat.le_of_ble_eq_true rfl) dX1_hasWord_13
    exact ⟨_, rfl, rfl, pI_t hq4⟩

set_option maxHeartbeats 4000000 in
set_option maxRecDepth 100000 in
theorem c_X1_isFirstOfItsWord (l : Launch) (G : zK) (B0 : Nat) (F : zM) (r w cap n : Nat) (t : Nat → Int32) (pl : Nat) (h : RA G 1 F r w cap n t) (hcap : cap ≤ 100) (hpl : pl < n) : Met l yX1_isFirstOfItsWord (Cond.code yX1_isFirstOfItsWord cX1_isFirstOfItsWord 3 (some FieldType.boolean) :: zW) (zRm 0 0 0 0) (va_Pc [.ref r, .int (nI pl)] (zPre G B0 F)) (zQi G B0 (fun r F' => F = F' ∧ r = pI (cnt t (t pl) pl = 0))) 0 0 (zA B0) := by
  refine z_of (own := RX1) (by decide) rfl (Nat.le_of_ble_eq_true rfl) ?_
  intro p e s m below meth c ls hx hb hr hml hown hlocks hnm hts hl hI
  have hl : lv_has ls 3 [(0, .ref r), (1, .int (nI pl))] := hl
  obtain ⟨xn, xr, f, xw, xf⟩ := id h
  refine lv_iconst (v := nI 0) hx hb dX1_isFirstOfItsWord_0 (by decide) ?_
  refine lv_istore_n (lv' := [(2, .int (nI 0)), (0, .ref r), (1, .int (nI pl))]) hx hb dX1_isFirstOfItsWord_1 rfl hl (by decide) rfl (fun ls hl => ?_)
  refine z_loop (σ := Nat) (fun k : Nat => [(0, .ref r), (1, .int (nI pl)), (2, .int (nI k))]) (fun (k : Nat) (Fx : zM) => F = Fx ∧ k ≤ pl ∧ cnt t (t pl) k = 0) (fun k : Nat => pl - k) 0 (nL := 3) (st := []) ?_ (lv_sub hl [1, 2, 0] rfl) hI ?_
  · exact ⟨rfl, Nat.zero_le _, rfl⟩
  · intro k F1 ls H locs hi hl hI ih
    have hl : lv_has ls 3 [(0, .ref r), (1, .int (nI pl)), (2, .int (nI k))] := hl
    obtain ⟨hF, hk, hc⟩ := hi
    subst hF
    refine lv_iload_n hx hb dX1_isFirstOfItsWord_2 rfl (lv_at hl 2 rfl) ?_
    refine lv_iload_n hx hb dX1_isFirstOfItsWord_3 rfl (lv_at hl 1 rfl) ?_
    refine z_icmp_ge (tgt := 30) (a := k) (b := pl) hx hb dX1_isFirstOfItsWord_4 (by decide) (by omega) (fun hq2 => ?_) (fun hq2 => ?_)
    · refine lv_iconst (v := nI 1) hx hb dX1_isFirstOfItsWord_30 (by decide) ?_
      refine z_rz hx hb hr hlocks (Or.inr rfl) hI ?_ (Nat.le_of_ble_eq_true rfl) (Nat.le_of_ble_eq_true rfl) dX1_isFirstOfItsWord_31
      have hkn : k = pl := by omega
      subst hkn
      exact ⟨_, rfl, rfl, pI_t hc⟩
    · refine lv_aload_n hx hb dX1_isFirstOfItsWord_7 rfl (lv_at hl 0 rfl) ?_
      refine z_get hx hb hts hown zlX1 rfl 0 (by decide) (hts _ q30) rfl hI xr rfl dX1_isFirstOfItsWord_8 ?_
      refine lv_iload_n hx hb dX1_isFirstOfItsWord_11 rfl (lv_at hl 2 rfl) ?_
      refine z_ild (k := k) (v := t k) hx hb hI xw (by omega) (by omega) (xf k (by omega)) dX1_isFirstOfItsWord_12 ?_
      refine lv_aload_n hx hb dX1_isFirstOfItsWord_13 rfl (lv_at hl 0 rfl) ?_
      refine z_get hx hb hts hown zlX1 rfl 0 (by decide) (hts _ q30) rfl hI xr rfl dX1_isFirstOfItsWord_14 ?_
      refine lv_iload_n hx hb dX1_isFirstOfItsWord_17 rfl (lv_at hl 1 rfl) ?_
      refine z_ild (k := pl) (v := t pl) hx hb hI xw (by omega) (by omega) (xf pl (by omega)) dX1_isFirstOfItsWord_18 ?_
      refine lv_icmp_ne (tgt := 24) hx hb dX1_isFirstOfItsWord_19 (by decide) (fun hq3 => ?_) (fun hq3 => ?_)
      · refine lv_iinc (k := 2) (v := nI (k + 1)) (lv' := [(2, .int (nI (k + 1))), (0, .ref r), (1, .int (nI pl))]) hx hb dX1_isFirstOfItsWord_24 hl rfl (nI_add k 1) (by decide) rfl (fun ls hl => ?_)
        refine lv_goto (tgt := 2) hx hb dX1_isFirstOfItsWord_27 (by decide) ?_
        refine ih (k + 1) _ ls H locs (by first | omega | (dsimp only; omega)) ?_ (lv_sub hl [1, 2, 0] rfl) hI
        exact ⟨rfl, by omega, by simp [cnt, hc, hq3]⟩
      · refine lv_iconst (v := nI 0) hx hb dX1_isFirstOfItsWord_22 (by decide) ?_
        refine z_rz hx hb hr hlocks (Or.inl rfl) hI ?_ (Nat.le_of_ble_eq_true rfl) (Nat.le_of_ble_eq_true rfl) dX1_isFirstOfItsWord_23
        exact ⟨_, rfl, rfl, pI_f (Nat.pos_iff_ne_zero.mp (cnt_pos (by omega) hq3))⟩

set_option maxHeartbeats 4000000 in
set_option maxRecDepth 100000 in
theorem c_X1_differencesFrom (l : Launch) (G : zK) (B0 : Nat) (F : zM) (r w cap n : Nat) (t : Nat → Int32) (r2 w2 cap2 : Nat) (t2 : Nat → Int32) (h : RA G 1 F r w cap n t) (hcap : cap ≤ 100) (h2 : RA G 1 F r2 w2 cap2 n t2) (hcap2 : cap2 ≤ 100) : Met l yX1_differencesFrom (Cond.code yX1_differencesFrom cX1_differencesFrom 4 (some FieldType.int) :: zW) (zRm 0 0 0 0) (va_Pc [.ref r, .ref r2] (zPre G B0 F)) (zQi G B0 (fun r F' => F = F' ∧ r = nI (dif t t2 n))) 0 0 (zA B0) := by
  refine z_of (own := RX1) (by decide) rfl (Nat.le_of_ble_eq_true rfl) ?_
  intro p e s m below meth c ls hx hb hr hml hown hlocks hnm hts hl hI
  have hl : lv_has ls 4 [(0, .ref r), (1, .ref r2)] := hl
  obtain ⟨xn, xr, f, xw, xf⟩ := id h
  obtain ⟨xn2, xr2, f2, xw2, xf2⟩ := id h2
  refine lv_iconst (v := nI 0) hx hb dX1_differencesFrom_0 (by decide) ?_
  refine lv_istore_n (lv' := [(2, .int (nI 0)), (0, .ref r), (1, .ref r2)]) hx hb dX1_differencesFrom_1 rfl hl (by decide) rfl (fun ls hl => ?_)
  refine lv_iconst (v := nI 0) hx hb dX1_differencesFrom_2 (by decide) ?_
  refine lv_istore_n (lv' := [(3, .int (nI 0)), (2, .int (nI 0)), (0, .ref r), (1, .ref r2)]) hx hb dX1_differencesFrom_3 rfl hl (by decide) rfl (fun ls hl => ?_)
  refine z_loop (σ := Nat × Nat) (fun xx : Nat × Nat => match xx with | (k, a) => [(0, .ref r), (1, .ref r2), (3, .int (nI k)), (2, .int (nI a))]) (fun (xx : Nat × Nat) (Fx : zM) => match xx with | (k, a) => F = Fx ∧ k ≤ n ∧ a = dif t t2 k) (fun xx : Nat × Nat => match xx with | (k, a) => n - k) (0, 0) (nL := 4) (st := []) ?_ (lv_sub hl [2, 3, 0, 1] rfl) hI ?_
  · exact ⟨rfl, Nat.zero_le _, rfl⟩
  · intro xx F1 ls H locs hi hl hI ih
    obtain ⟨k, a⟩ := xx
    have hl : lv_has ls 4 [(0, .ref r), (1, .ref r2), (3, .int (nI k)), (2, .int (nI a))] := hl
    obtain ⟨hF, hk, ha⟩ := hi
    subst hF
    have hcn := dif_le t t2 k
    refine lv_iload_n hx hb dX1_differencesFrom_4 rfl (lv_at hl 2 rfl) ?_
    refine lv_aload_n hx hb dX1_differencesFrom_5 rfl (lv_at hl 0 rfl) ?_
    refine z_get hx hb hts hown zlX1 rfl 1 (by decide) (hts _ q32) rfl hI xr rfl dX1_differencesFrom_6 ?_
    refine z_icmp_ge (tgt := 44) (a := k) (b := n) hx hb dX1_differencesFrom_9 (by decide) (by omega) (fun hq2 => ?_) (fun hq2 => ?_)
    · refine lv_iload_n hx hb dX1_differencesFrom_44 rfl (lv_at hl 3 rfl) ?_
      refine z_ri hx hb hr hlocks hI ?_ (Nat.le_of_ble_eq_true rfl) (Nat.le_of_ble_eq_true rfl) dX1_differencesFrom_45
      have hkn : k = n := by omega
      subst hkn
      exact ⟨_, rfl, rfl, by rw [ha]⟩
    · refine lv_iload_n hx hb dX1_differencesFrom_12 rfl (lv_at hl 2 rfl) ?_
      refine lv_aload_n hx hb dX1_differencesFrom_13 rfl (lv_at hl 1 rfl) ?_
      refine z_get hx hb hts hown zlX1 rfl 1 (by decide) (hts _ q32) rfl hI xr2 rfl dX1_differencesFrom_14 ?_
      refine z_icmp_ge (tgt := 44) (a := k) (b := n) hx hb dX1_differencesFrom_17 (by decide) (by omega) (fun hq3 => ?_) (fun hq3 => ?_)
      · refine lv_iload_n hx hb dX1_differencesFrom_44 rfl (lv_at hl 3 rfl) ?_
        refine z_ri hx hb hr hlocks hI ?_ (Nat.le_of_ble_eq_true rfl) (Nat.le_of_ble_eq_true rfl) dX1_differencesFrom_45
        have hkn : k = n := by omega
        subst hkn
        exact ⟨_, rfl, rfl, by rw [ha]⟩
      · refine lv_aload_n hx hb dX1_differencesFrom_20 rfl (lv_at hl 0 rfl) ?_
        refine z_get hx hb hts hown zlX1 rfl 0 (by decide) (hts _ q30) rfl hI xr rfl dX1_differencesFrom_21 ?_
        refine lv_iload_n hx hb dX1_differencesFrom_24 rfl (lv_at hl 2 rfl) ?_
        refine z_ild (k := k) (v := t k) hx hb hI xw (by omega) (by omega) (xf k (by omega)) dX1_differencesFrom_25 ?_
        refine lv_aload_n hx hb dX1_differencesFrom_26 rfl (lv_at hl 1 rfl) ?_
        refine z_get hx hb hts hown zlX1 rfl 0 (by decide) (hts _ q30) rfl hI xr2 rfl dX1_differencesFrom_27 ?_
        refine lv_iload_n hx hb dX1_differencesFrom_30 rfl (lv_at hl 2 rfl) ?_
        refine z_ild (k := k) (v := t2 k) hx hb hI xw2 (by omega) (by omega) (xf2 k (by omega)) dX1_differencesFrom_31 ?_
        refine lv_icmp_eq (tgt := 38) hx hb dX1_differencesFrom_32 (by decide) (fun hq4 => ?_) (fun hq4 => ?_)
        · refine lv_iinc (k := 2) (v := nI (k + 1)) (lv' := [(3, .int (nI (k + 1))), (0, .ref r), (1, .ref r2), (2, .int (nI a))]) hx hb dX1_differencesFrom_38 hl rfl (nI_add k 1) (by decide) rfl (fun ls hl => ?_)
          refine lv_goto (tgt := 4) hx hb dX1_differencesFrom_41 (by decide) ?_
          refine ih (k + 1, a) _ ls H locs (by first | omega | (dsimp only; omega)) ?_ (lv_sub hl [1, 2, 0, 3] rfl) hI
          exact ⟨rfl, by omega, by simp [dif, ha, hq4]⟩
        · refine lv_iinc (k := 3) (v := nI (a + 1)) (lv' := [(2, .int (nI (a + 1))), (0, .ref r), (1, .ref r2), (3, .int (nI k))]) hx hb dX1_differencesFrom_35 hl rfl (nI_add a 1) (by decide) rfl (fun ls hl => ?_)
          refine lv_iinc (k := 3) (v := nI (k + 1)) (lv' := [(3, .int (nI (k + 1))), (2, .int (nI (a + 1))), (0, .ref r), (1, .ref r2)]) hx hb dX1_differencesFrom_38 hl rfl (nI_add k 1) (by decide) rfl (fun ls hl => ?_)
          refine lv_goto (tgt := 4) hx hb dX1_differencesFrom_41 (by decide) ?_
          refine ih (k + 1, a + 1) _ ls H locs (by first | omega | (dsimp only; omega)) ?_ (lv_sub hl [2, 3, 0, 1] rfl) hI
          exact ⟨rfl, by omega, by simp [dif, ha, hq4]⟩

set_option maxHeartbeats 4000000 in
set_option maxRecDepth 100000 in
theorem c_X3_others (l : Launch) (G : zK) (B0 : Nat) (F : zM) (r w cap n : Nat) (t : Nat → Int32) (r2 w2 cap2 : Nat) (t2 : Nat → Int32) (h : RA G 3 F r w cap n t) (hcap : cap ≤ 100) (h2 : RA G 3 F r2 w2 cap2 n t2) (hcap2 : cap2 ≤ 100) : Met l yX3_others (Cond.code yX3_others cX3_others 4 (some FieldType.int) :: zW) (zRm 0 0 0 0) (va_Pc [.ref r, .ref r2] (zPre G B0 F)) (zQi G B0 (fun r F' => F = F' ∧ r = nI (dif t t2 n))) 0 0 (zA B0) := by
  refine z_of (own := RX3) (by decide) rfl (Nat.le_of_ble_eq_true rfl) ?_
  intro p e s m below meth c ls hx hb hr hml hown hlocks hnm hts hl hI
  have hl : lv_has ls 4 [(0, .ref r), (1, .ref r2)] := hl
  obtain ⟨xn, xr, f, xw, xf⟩ := id h
  obtain ⟨xn2, xr2, f2, xw2, xf2⟩ := id h2
  refine lv_iconst (v := nI 0) hx hb dX3_others_0 (by decide) ?_
  refine lv_istore_n (lv' := [(2, .int (nI 0)), (0, .ref r), (1, .ref r2)]) hx hb dX3_others_1 rfl hl (by decide) rfl (fun ls hl => ?_)
  refine lv_iconst (v := nI 0) hx hb dX3_others_2 (by decide) ?_
  refine lv_istore_n (lv' := [(3, .int (nI 0)), (2, .int (nI 0)), (0, .ref r), (1, .ref r2)]) hx hb dX3_others_3 rfl hl (by decide) rfl (fun ls hl => ?_)
  refine z_loop (σ := Nat × Nat) (fun xx : Nat × Nat => match xx with | (k, a) => [(0, .ref r), (1, .ref r2), (3, .int (nI k)), (2, .int (nI a))]) (fun (xx : Nat × Nat) (Fx : zM) => match xx with | (k, a) => F = Fx ∧ k ≤ n ∧ a = dif t t2 k) (fun xx : Nat × Nat => match xx with | (k, a) => n - k) (0, 0) (nL := 4) (st := []) ?_ (lv_sub hl [2, 3, 0, 1] rfl) hI ?_
  · exact ⟨rfl, Nat.zero_le _, rfl⟩
  · intro xx F1 ls H locs hi hl hI ih
    obtain ⟨k, a⟩ := xx
    have hl : lv_has ls 4 [(0, .ref r), (1, .ref r2), (3, .int (nI k)), (2, .int (nI a))] := hl
    obtain ⟨hF, hk, ha⟩ := hi
    subst hF
    have hcn := dif_le t t2 k
    refine lv_iload_n hx hb dX3_others_4 rfl (lv_at hl 2 rfl) ?_
    refine lv_aload_n hx hb dX3_others_5 rfl (lv_at hl 0 rfl) ?_
    refine z_get hx hb hts hown zlX3 rfl 1 (by decide) (hts _ q745) rfl hI xr rfl dX3_others_6 ?_
    refine z_icmp_ge (tgt := 41) (a := k) (b := n) hx hb dX3_others_9 (by decide) (by omega) (fun hq2 => ?_) (fun hq2 => ?_)
    · refine lv_iload_n hx hb dX3_others_41 rfl (lv_at hl 3 rfl) ?_
      refine z_ri hx hb hr hlocks hI ?_ (Nat.le_of_ble_eq_true rfl) (Nat.le_of_ble_eq_true rfl) dX3_others_42
      have hkn : k = n := by omega
      subst hkn
      exact ⟨_, rfl, rfl, by rw [ha]⟩
    · refine lv_iload_n hx hb dX3_others_12 rfl (lv_at hl 3 rfl) ?_
      refine lv_aload_n hx hb dX3_others_13 rfl (lv_at hl 0 rfl) ?_
      refine z_get hx hb hts hown zlX3 rfl 0 (by decide) (hts _ q743) rfl hI xr rfl dX3_others_14 ?_
      refine lv_iload_n hx hb dX3_others_17 rfl (lv_at hl 2 rfl) ?_
      refine z_ild (k := k) (v := t k) hx hb hI xw (by omega) (by omega) (xf k (by omega)) dX3_others_18 ?_
      refine lv_aload_n hx hb dX3_others_19 rfl (lv_at hl 1 rfl) ?_
      refine z_get hx hb hts hown zlX3 rfl 0 (by decide) (hts _ q743) rfl hI xr2 rfl dX3_others_20 ?_
      refine lv_iload_n hx hb dX3_others_23 rfl (lv_at hl 2 rfl) ?_
      refine z_ild (k := k) (v := t2 k) hx hb hI xw2 (by omega) (by omega) (xf2 k (by omega)) dX3_others_24 ?_
      refine lv_icmp_ne (tgt := 32) hx hb dX3_others_25 (by decide) (fun hq3 => ?_) (fun hq3 => ?_)
      · refine lv_iconst (v := nI 1) hx hb dX3_others_32 (by decide) ?_
        refine lv_iadd hx hb dX3_others_33 ?_
        refine z_topi (nI_add a 1) ?_
        refine lv_istore_n (lv' := [(2, .int (nI (a + 1))), (0, .ref r), (1, .ref r2), (3, .int (nI k))]) hx hb dX3_others_34 rfl hl (by decide) rfl (fun ls hl => ?_)
        refine lv_iinc (k := 3) (v := nI (k + 1)) (lv' := [(3, .int (nI (k + 1))), (2, .int (nI (a + 1))), (0, .ref r), (1, .ref r2)]) hx hb dX3_others_35 hl rfl (nI_add k 1) (by decide) rfl (fun ls hl => ?_)
        refine lv_goto (tgt := 4) hx hb dX3_others_38 (by decide) ?_
        refine ih (k + 1, a + 1) _ ls H locs (by first | omega | (dsimp only; omega)) ?_ (lv_sub hl [2, 3, 0, 1] rfl) hI
        exact ⟨rfl, by omega, by simp [dif, ha, hq3]⟩
      · refine lv_iconst (v := nI 0) hx hb dX3_others_28 (by decide) ?_
        refine lv_goto (tgt := 33) hx hb dX3_others_29 (by decide) ?_
        refine lv_iadd hx hb dX3_others_33 ?_
        refine z_topi (nI_add a 0) ?_
        refine lv_istore_n (lv' := [(2, .int (nI (a + 0))), (0, .ref r), (1, .ref r2), (3, .int (nI k))]) hx hb dX3_others_34 rfl hl (by decide) rfl (fun ls hl => ?_)
        refine lv_iinc (k := 3) (v := nI (k + 1)) (lv' := [(3, .int (nI (k + 1))), (2, .int (nI (a + 0))), (0, .ref r), (1, .ref r2)]) hx hb dX3_others_35 hl rfl (nI_add k 1) (by decide) rfl (fun ls hl => ?_)
        refine lv_goto (tgt := 4) hx hb dX3_others_38 (by decide) ?_
        refine ih (k + 1, a + 0) _ ls H locs (by first | omega | (dsimp only; omega)) ?_ (lv_sub hl [2, 3, 0, 1] rfl) hI
        exact ⟨rfl, by omega, by simp [dif, ha, hq3]⟩

