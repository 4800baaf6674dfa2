set_option maxHeartbeats 4000000 in
set_option maxRecDepth 100000 in
theorem c_X1_init (l : Launch) (G : zK) (B0 : Nat) (F : zM) (q w n : Nat) (h : F q = some (zO 1 [.null, .int 0])) : Met l yX1_init (Cond.code yX1_init cX1_init 2 none :: zW) (zRm 1 40 0 0) (va_Pc [.ref q, .ref w] (zPreN G B0 F (n))) (zQn G B0 (fun v F' => v = none ∧ (F' q = some (zO 1 [.ref w, .int (nI 0)]) ∧ ∀ b, b ≠ q → F' b = F b)) (n)) 0 0 (zA B0) := by
  refine z_ofN (own := RX1) (by decide) rfl (Nat.le_of_ble_eq_true rfl) ?_
  intro p e s m below meth c ls hx hb hr hml hown hlocks hnm hts hl hI hsz
  have hl : lv_has ls 2 [(0, .ref q), (1, .ref w)] := hl
  refine lv_aload_n hx hb dX1_init_0 rfl (lv_at hl 0 rfl) ?_
  refine z_obj hx hb hown hts q29 (hl.1.trans hml.symm) dX1_init_1 ⟨Nat.le_of_ble_eq_true rfl, Nat.le_of_ble_eq_true rfl⟩ ?_
  refine lv_aload_n hx hb dX1_init_4 rfl (lv_at hl 0 rfl) ?_
  refine lv_aload_n hx hb dX1_init_5 rfl (lv_at hl 1 rfl) ?_
  refine z_putF hx hb hts hown zlX1 tyX1 tyX1_ok nmX1 rfl 0 (by decide) (hts _ q30) rfl hI h rfl hnm rfl rfl rfl rfl (Nat.le_of_ble_eq_true rfl) dX1_init_6 (fun H locs hz1 F2 hw3 ho4 hI => ?_)
  have hw3 : F2 q = some (zO 1 [.ref w, .int (nI 0)]) := hw3
  have hsz : H.size = n := hz1.trans hsz
  refine z_rvN hx hb hr hlocks hI hsz ?_ (Nat.le_of_ble_eq_true rfl) (Nat.le_of_ble_eq_true rfl) dX1_init_9
  exact ⟨rfl, hw3, ho4⟩

set_option maxHeartbeats 4000000 in
set_option maxRecDepth 100000 in
theorem c_X0_init (l : Launch) (G : zK) (B0 : Nat) (F : zM) (q : Nat) (x y : Int32) (n : Nat) (h : F q = some (zO 0 [.int 0, .int 0])) : Met l yX0_init (Cond.code yX0_init cX0_init 3 none :: zW) (zRm 1 40 0 0) (va_Pc [.ref q, .int x, .int y] (zPreN G B0 F (n))) (zQn G B0 (fun v F' => v = none ∧ (F' q = some (zO 0 [.int x, .int y]) ∧ ∀ b, b ≠ q → F' b = F b)) (n)) 0 0 (zA B0) := by
  refine z_ofN (own := RX0) (by decide) rfl (Nat.le_of_ble_eq_true rfl) ?_
  intro p e s m below meth c ls hx hb hr hml hown hlocks hnm hts hl hI hsz
  have hl : lv_has ls 3 [(0, .ref q), (1, .int x), (2, .int y)] := hl
  refine lv_aload_n hx hb dX0_init_0 rfl (lv_at hl 0 rfl) ?_
  refine z_obj hx hb hown hts q642 (hl.1.trans hml.symm) dX0_init_1 ⟨Nat.le_of_ble_eq_true rfl, Nat.le_of_ble_eq_true rfl⟩ ?_
  refine lv_aload_n hx hb dX0_init_4 rfl (lv_at hl 0 rfl) ?_
  refine lv_iload_n hx hb dX0_init_5 rfl (lv_at hl 1 rfl) ?_
  refine z_putF hx hb hts hown zlX0 tyX0 tyX0_ok nmX0 rfl 0 (by decide) (hts _ q643) rfl hI h rfl hnm rfl rfl rfl rfl (Nat.le_of_ble_eq_true rfl) dX0_init_6 (fun H locs hz1 F2 hw3 ho4 hI => ?_)
  have hw3 : F2 q = some (zO 0 [.int x, .int (nI 0)]) := hw3
  have hsz : H.size = n := hz1.trans hsz
  refine lv_aload_n hx hb dX0_init_9 rfl (lv_at hl 0 rfl) ?_
  refine lv_iload_n hx hb dX0_init_10 rfl (lv_at hl 2 rfl) ?_
  refine z_putF hx hb hts hown zlX0 tyX0 tyX0_ok nmX0 rfl 1 (by decide) (hts _ q644) rfl hI hw3 rfl hnm rfl rfl rfl rfl (Nat.le_of_ble_eq_true rfl) dX0_init_11 (fun H locs hz5 F6 hw7 ho8 hI => ?_)
  have hw7 : F6 q = some (zO 0 [.int x, .int y]) := hw7
  have hsz : H.size = n := hz5.trans hsz
  refine z_rvN hx hb hr hlocks hI hsz ?_ (Nat.le_of_ble_eq_true rfl) (Nat.le_of_ble_eq_true rfl) dX0_init_14
  exact ⟨rfl, hw7, fun b hb9 => (ho8 b hb9).trans (ho4 b hb9)⟩

set_option maxHeartbeats 4000000 in
set_option maxRecDepth 100000 in
theorem c_X3_init (l : Launch) (G : zK) (B0 : Nat) (F : zM) (q n : Nat) (h : F q = some (zO 3 [.null, .int 0])) : Met l yX3_init (Cond.code yX3_init cX3_init 1 none :: zW) (zRm 1 40 1 60) (va_Pc [.ref q] (zPreN G B0 F (n))) (zQn G B0 (fun v F' => v = none ∧ (F' q = some (zO 3 [.ref n, .int (nI 0)]) ∧ F' n = some (zAI G 60 (fun _ => 0)) ∧ ∀ b, b ≠ q → b ≠ n → F' b = F b)) (n + 1)) 1 60 (zA B0) := by
  refine z_ofN (own := RX3) (by decide) rfl (Nat.le_of_ble_eq_true rfl) ?_
  intro p e s m below meth c ls hx hb hr hml hown hlocks hnm hts hl hI hsz
  have hl : lv_has ls 1 [(0, .ref q)] := hl
  have hqn : q < n := by have := hI.lt h; omega
  refine lv_aload_n hx hb dX3_init_0 rfl (lv_at hl 0 rfl) ?_
  refine z_obj hx hb hown hts q742 (hl.1.trans hml.symm) dX3_init_1 ⟨Nat.le_of_ble_eq_true rfl, Nat.le_of_ble_eq_true rfl⟩ ?_
  refine lv_aload_n hx hb dX3_init_4 rfl (lv_at hl 0 rfl) ?_
  refine lv_bipush (v := nI 60) hx hb dX3_init_5 (by decide) ?_
  refine z_newI (N' := 60) hx hb (hts _ q39) hI (by decide) (Nat.le_of_ble_eq_true rfl) (Nat.le_of_ble_eq_true rfl) dX3_init_7 (fun q1 H hq2 hz3 F4 hw5 ho6 hI => ?_)
  obtain rfl : n = q1 := (hq2.trans hsz).symm
  have hsz : H.size = n + 1 := hz3
  have hc7 : F4 q = some (zO 3 [.null, .int (nI 0)]) := (ho6 _ (by omega)).trans h
  refine z_putF hx hb hts hown zlX3 tyX3 tyX3_ok nmX3 rfl 0 (by decide) (hts _ q743) rfl hI hc7 rfl hnm rfl rfl rfl rfl (Nat.le_of_ble_eq_true rfl) dX3_init_9 (fun H locs hz8 F9 hw10 ho11 hI => ?_)
  have hw10 : F9 q = some (zO 3 [.ref n, .int (nI 0)]) := hw10
  have hsz : H.size = n + 1 := hz8.trans hsz
  have hc12 : F9 n = some (zAI G 60 (fun _ => 0)) := (ho11 _ (zne hw5 hc7 (fun q => by cases q))).trans hw5
  refine z_rvN hx hb hr hlocks hI hsz ?_ (Nat.le_of_ble_eq_true rfl) (Nat.le_of_ble_eq_true rfl) dX3_init_12
  exact ⟨rfl, hw10, hc12, fun b hb1 hb2 => (ho11 b hb1).trans (ho6 b hb2)⟩

theorem fr_0 {F : zM} {n : Nat} : ∀ b, b < n → F b = F b := fun _ _ => rfl
theorem fr_1 {F0 F1 F2 : zM} {B k a : Nat} (h : ∀ b, b < B + k → F1 b = F0 b) (ho : ∀ b, b ≠ B + a → F2 b = F1 b) (ha : k ≤ a) : ∀ b, b < B + k → F2 b = F0 b := fun b hb => (ho b (by omega)).trans (h b hb)
theorem fr_2 {F0 F1 F2 : zM} {B k a a' : Nat} (h : ∀ b, b < B + k → F1 b = F0 b) (ho : ∀ b, b ≠ B + a → b ≠ B + a' → F2 b = F1 b) (ha : k ≤ a) (ha' : k ≤ a') : ∀ b, b < B + k → F2 b = F0 b := fun b hb => (ho b (by omega) (by omega)).trans (h b hb)
def sg0 : Sg := (fun _ => 0, fun _ _ => 0, fun _ => 0, fun _ _ => 0, fun _ => 0)
theorem sg0_ok : SgOk sg0 := ⟨fun _ _ => ⟨Nat.zero_le _, fun _ h => absurd h (Nat.not_lt_zero _)⟩, fun _ _ => Nat.zero_le _⟩
set_option maxHeartbeats 4000000 in
set_option maxRecDepth 100000 in
theorem c_X2_init (l : Launch) (G : zK) (B0 : Nat) (F : zM)  (h : F B0 = some (zO 2 [.null, .null, .null, .null, .null, .null, .null])) : Met l yX2_init (Cond.code yX2_init cX2_init 2 none :: zW) (zRm 2 61 22 581) (va_Pc [.ref B0] (zPreN G B0 F (B0 + 1))) (zQn G B0 (fun v F' => v = none ∧ (CS G B0 F' sg0)) (B0 + 23)) 22 581 (zA B0) := by
  refine z_ofN (own := RX2) (by decide) rfl (Nat.le_of_ble_eq_true rfl) ?_
  intro p e s m below meth c ls hx hb hr hml hown hlocks hnm hts hl hI hsz
  have hl : lv_has ls 2 [(0, .ref B0)] := hl
  refine lv_aload_n hx hb dX2_init_0 rfl (lv_at hl 0 rfl) ?_
  refine z_obj hx hb hown hts q20 (hl.1.trans hml.symm) dX2_init_1 ⟨Nat.le_of_ble_eq_true rfl, Nat.le_of_ble_eq_true rfl⟩ ?_
  refine lv_aload_n hx hb dX2_init_4 rfl (lv_at hl 0 rfl) ?_
  refine lv_iconst (v := nI 4) hx hb dX2_init_5 (by decide) ?_
  refine z_newQ (N' := 4) 1 (C := RX1) rfl hx hb hown (hts _ q23) hI.1.2.2.2.2.2.1 hI (by decide) (Nat.le_of_ble_eq_true rfl) (Nat.le_of_ble_eq_true rfl) dX2_init_6 (fun q1 H hq2 hz3 F4 hw5 ho6 hI => ?_)
  obtain rfl : B0 + 1 = q1 := (hq2.trans hsz).symm
  have hsz : H.size = B0 + 2 := hz3
  have hc7 : F4 B0 = some (zO 2 [.null, .null, .null, .null, .null, .null, .null]) := (ho6 _ (by omega)).trans h
  refine z_putF hx hb hts hown zlX2 tyX2 tyX2_ok nmX2 rfl 0 (by decide) (hts _ q40) rfl hI hc7 rfl hnm rfl rfl rfl rfl (Nat.le_of_ble_eq_true rfl) dX2_init_9 (fun H locs hz8 F9 hw10 ho11 hI => ?_)
  have hw10 : F9 B0 = some (zO 2 [.ref (B0 + 1), .null, .null, .null, .null, .null, .null]) := hw10
  have hsz : H.size = B0 + 2 := hz8.trans hsz
  have hc12 : F9 (B0 + 1) = some (zA1 G 4 (fun _ => none)) := (ho11 _ (zne hw5 hc7 (fun q => by cases q))).trans hw5
  refine lv_aload_n hx hb dX2_init_12 rfl (lv_at hl 0 rfl) ?_
  refine lv_iconst (v := nI 2) hx hb dX2_init_13 (by decide) ?_
  refine z_newQ (N' := 2) 1 (C := RX1) rfl hx hb hown (hts _ q23) hI.1.2.2.2.2.2.1 hI (by decide) (Nat.le_of_ble_eq_true rfl) (Nat.le_of_ble_eq_true rfl) dX2_init_14 (fun q13 H hq14 hz15 F16 hw17 ho18 hI => ?_)
  obtain rfl : B0 + 2 = q13 := (hq14.trans hsz).symm
  have hsz : H.size = B0 + 3 := hz15
  have hc19 : F16 B0 = some (zO 2 [.ref (B0 + 1), .null, .null, .null, .null, .null, .null]) := (ho18 _ (by omega)).trans hw10
  have hc20 : F16 (B0 + 1) = some (zA1 G 4 (fun _ => none)) := (ho18 _ (by omega)).trans hc12
  refine z_putF hx hb hts hown zlX2 tyX2 tyX2_ok nmX2 rfl 1 (by decide) (hts _ q41) rfl hI hc19 rfl hnm rfl rfl rfl rfl (Nat.le_of_ble_eq_true rfl) dX2_init_17 (fun H locs hz21 F22 hw23 ho24 hI => ?_)
  have hw23 : F22 B0 = some (zO 2 [.ref (B0 + 1), .ref (B0 + 2), .null, .null, .null, .null, .null]) := hw23
  have hsz : H.size = B0 + 3 := hz21.trans hsz
  have hc25 : F22 (B0 + 1) = some (zA1 G 4 (fun _ => none)) := (ho24 _ (zne hc20 hc19 (fun q => by cases q))).trans hc20
  have hc26 : F22 (B0 + 2) = some (zA1 G 2 (fun _ => none)) := (ho24 _ (zne hw17 hc19 (fun q => by cases q))).trans hw17
  refine lv_aload_n hx hb dX2_init_20 rfl (lv_at hl 0 rfl) ?_
  refine lv_bipush (v := nI 100) hx hb dX2_init_21 (by decide) ?_
  refine z_newI (N' := 100) hx hb (hts _ q39) hI (by decide) (Nat.le_of_ble_eq_true rfl) (Nat.le_of_ble_eq_true rfl) dX2_init_23 (fun q27 H hq28 hz29 F30 hw31 ho32 hI => ?_)
  obtain rfl : B0 + 3 = q27 := (hq28.trans hsz).symm
  have hsz : H.size = B0 + 4 := hz29
  have hc33 : F30 B0 = some (zO 2 [.ref (B0 + 1), .ref (B0 + 2), .null, .null, .null, .null, .null]) := (ho32 _ (by omega)).trans hw23
  have hc34 : F30 (B0 + 1) = some (zA1 G 4 (fun _ => none)) := (ho32 _ (by omega)).trans hc25
  have hc35 : F30 (B0 + 2) = some (zA1 G 2 (fun _ => none)) := (ho32 _ (by omega)).trans hc26
  refine z_putF hx hb hts hown zlX2 tyX2 tyX2_ok nmX2 rfl 2 (by decide) (hts _ q42) rfl hI hc33 rfl hnm rfl rfl rfl rfl (Nat.le_of_ble_eq_true rfl) dX2_init_25 (fun H locs hz36 F37 hw38 ho39 hI => ?_)
  have hw38 : F37 B0 = some (zO 2 [.ref (B0 + 1), .ref (B0 + 2), .ref (B0 + 3), .null, .null, .null, .null]) := hw38
  have hsz : H.size = B0 + 4 := hz36.trans hsz
  have hc40 : F37 (B0 + 1) = some (zA1 G 4 (fun _ => none)) := (ho39 _ (zne hc34 hc33 (fun q => by cases q))).trans hc34
  have hc41 : F37 (B0 + 2) = some (zA1 G 2 (fun _ => none)) := (ho39 _ (zne hc35 hc33 (fun q => by cases q))).trans hc35
  have hc42 : F37 (B0 + 3) = some (zAI G 100 (fun _ => 0)) := (ho39 _ (zne hw31 hc33 (fun q => by cases q))).trans hw31
  refine lv_aload_n hx hb dX2_init_28 rfl (lv_at hl 0 rfl) ?_
  refine z_new (ci := 1) hx hb hts hown zlX1 tyX1 tyX1_ok (hts _ q23) (hts _ q25) (hts _ q2) hI rfl (fs := [.null, .int 0]) (by intro j hj; rcases j with _ | _ | _ | _ | _ | _ | _ | j <;> first | rfl | omega) (Nat.le_of_ble_eq_true rfl) (Nat.le_of_ble_eq_true rfl) dX2_init_29 (fun q43 H hq44 hz45 F46 hw47 ho48 hI => ?_)
  obtain rfl : B0 + 4 = q43 := (hq44.trans hsz).symm
  have hsz : H.size = B0 + 5 := hz45
  have hc49 : F46 B0 = some (zO 2 [.ref (B0 + 1), .ref (B0 + 2), .ref (B0 + 3), .null, .null, .null, .null]) := (ho48 _ (by omega)).trans hw38
  have hc50 : F46 (B0 + 1) = some (zA1 G 4 (fun _ => none)) := (ho48 _ (by omega)).trans hc40
  have hc51 : F46 (B0 + 2) = some (zA1 G 2 (fun _ => none)) := (ho48 _ (by omega)).trans hc41
  have hc52 : F46 (B0 + 3) = some (zAI G 100 (fun _ => 0)) := (ho48 _ (by omega)).trans hc42
  refine lv_dup hx hb dX2_init_32 rfl ?_
  refine lv_bipush (v := nI 60) hx hb dX2_init_33 (by decide) ?_
  refine z_newI (N' := 60) hx hb (hts _ q39) hI (by decide) (Nat.le_of_ble_eq_true rfl) (Nat.le_of_ble_eq_true rfl) dX2_init_35 (fun q53 H hq54 hz55 F56 hw57 ho58 hI => ?_)
  obtain rfl : B0 + 5 = q53 := (hq54.trans hsz).symm
  have hsz : H.size = B0 + 6 := hz55
  have hc59 : F56 B0 = some (zO 2 [.ref (B0 + 1), .ref (B0 + 2), .ref (B0 + 3), .null, .null, .null, .null]) := (ho58 _ (by omega)).trans hc49
  have hc60 : F56 (B0 + 1) = some (zA1 G 4 (fun _ => none)) := (ho58 _ (by omega)).trans hc50
  have hc61 : F56 (B0 + 2) = some (zA1 G 2 (fun _ => none)) := (ho58 _ (by omega)).trans hc51
  have hc62 : F56 (B0 + 3) = some (zAI G 100 (fun _ => 0)) := (ho58 _ (by omega)).trans hc52
  have hc63 : F56 (B0 + 4) = some (zO 1 [.null, .int (nI 0)]) := (ho58 _ (by omega)).trans hw47
  refine z_callvN hI (z_InN (As := [.ref (B0 + 5)]) (rest := [.ref (B0 + 4), .ref B0]) ⟨hx, hb, hml, hown, hts⟩ hI hsz (c_X1_init l G B0 F56 (B0 + 4) (B0 + 5) (B0 + 6) hc63) (z_cwI vX1_init hts q26 ⟨Nat.le_of_ble_eq_true rfl, Nat.le_of_ble_eq_true rfl⟩) rfl hl.1 rfl (lv_room (Nat.le_of_ble_eq_true rfl)) dX2_init_37 ⟨Nat.le_of_ble_eq_true rfl, Nat.le_of_ble_eq_true rfl⟩) (fun F64 H locs hp65 hI hz66 => ?_)
  obtain ⟨hw68, ho67⟩ := hp65
  have hsz := hz66
  have hc69 : F64 B0 = some (zO 2 [.ref (B0 + 1), .ref (B0 + 2), .ref (B0 + 3), .null, .null, .null, .null]) := (ho67 _ (by omega)).trans hc59
  have hc70 : F64 (B0 + 1) = some (zA1 G 4 (fun _ => none)) := (ho67 _ (by omega)).trans hc60
  have hc71 : F64 (B0 + 2) = some (zA1 G 2 (fun _ => none)) := (ho67 _ (by omega)).trans hc61
  have hc72 : F64 (B0 + 3) = some (zAI G 100 (fun _ => 0)) := (ho67 _ (by omega)).trans hc62
  have hc73 : F64 (B0 + 5) = some (zAI G 60 (fun _ => 0)) := (ho67 _ (by omega)).trans hw57
  refine z_putF hx hb hts hown zlX2 tyX2 tyX2_ok nmX2 rfl 3 (by decide) (hts _ q43) rfl hI hc69 rfl hnm rfl rfl rfl rfl (Nat.le_of_ble_eq_true rfl) dX2_init_40 (fun H locs hz74 F75 hw76 ho77 hI => ?_)
  have hw76 : F75 B0 = some (zO 2 [.ref (B0 + 1), .ref (B0 + 2), .ref (B0 + 3), .ref (B0 + 4), .null, .null, .null]) := hw76
  have hsz : H.size = B0 + 6 := hz74.trans hsz
  have hc78 : F75 (B0 + 1) = some (zA1 G 4 (fun _ => none)) := (ho77 _ (zne hc70 hc69 (fun q => by cases q))).trans hc70
  have hc79 : F75 (B0 + 2) = some (zA1 G 2 (fun _ => none)) := (ho77 _ (zne hc71 hc69 (fun q => by cases q))).trans hc71
  have hc80 : F75 (B0 + 3) = some (zAI G 100 (fun _ => 0)) := (ho77 _ (zne hc72 hc69 (fun q => by cases q))).trans hc72
  have hc81 : F75 (B0 + 4) = some (zO 1 [.ref (B0 + 5), .int (nI 0)]) := (ho77 _ (zne hw68 hc69 (fun q => by cases q))).trans hw68
  have hc82 : F75 (B0 + 5) = some (zAI G 60 (fun _ => 0)) := (ho77 _ (zne hc73 hc69 (fun q => by cases q))).trans hc73
  refine lv_aload_n hx hb dX2_init_43 rfl (lv_at hl 0 rfl) ?_
  refine z_new (ci := 1) hx hb hts hown zlX1 tyX1 tyX1_ok (hts _ q23) (hts _ q25) (hts _ q2) hI rfl (fs := [.null, .int 0]) (by intro j hj; rcases j with _ | _ | _ | _ | _ | _ | _ | j <;> first | rfl | omega) (Nat.le_of_ble_eq_true rfl) (Nat.le_of_ble_eq_true rfl) dX2_init_44 (fun q83 H hq84 hz85 F86 hw87 ho88 hI => ?_)
  obtain rfl : B0 + 6 = q83 := (hq84.trans hsz).symm
  have hsz : H.size = B0 + 7 := hz85
  have hc89 : F86 B0 = some (zO 2 [.ref (B0 + 1), .ref (B0 + 2), .ref (B0 + 3), .ref (B0 + 4), .null, .null, .null]) := (ho88 _ (by omega)).trans hw76
  have hc90 : F86 (B0 + 1) = some (zA1 G 4 (fun _ => none)) := (ho88 _ (by omega)).trans hc78
  have hc91 : F86 (B0 + 2) = some (zA1 G 2 (fun _ => none)) := (ho88 _ (by omega)).trans hc79
  have hc92 : F86 (B0 + 3) = some (zAI G 100 (fun _ => 0)) := (ho88 _ (by omega)).trans hc80
  have hc93 : F86 (B0 + 4) = some (zO 1 [.ref (B0 + 5), .int (nI 0)]) := (ho88 _ (by omega)).trans hc81
  have hc94 : F86 (B0 + 5) = some (zAI G 60 (fun _ => 0)) := (ho88 _ (by omega)).trans hc82
  refine lv_dup hx hb dX2_init_47 rfl ?_
  refine lv_bipush (v := nI 60) hx hb dX2_init_48 (by decide) ?_
  refine z_newI (N' := 60) hx hb (hts _ q39) hI (by decide) (Nat.le_of_ble_eq_true rfl) (Nat.le_of_ble_eq_true rfl) dX2_init_50 (fun q95 H hq96 hz97 F98 hw99 ho100 hI => ?_)
  obtain rfl : B0 + 7 = q95 := (hq96.trans hsz).symm
  have hsz : H.size = B0 + 8 := hz97
  have hc101 : F98 B0 = some (zO 2 [.ref (B0 + 1), .ref (B0 + 2), .ref (B0 + 3), .ref (B0 + 4), .null, .null, .null]) := (ho100 _ (by omega)).trans hc89
  have hc102 : F98 (B0 + 1) = some (zA1 G 4 (fun _ => none)) := (ho100 _ (by omega)).trans hc90
  have hc103 : F98 (B0 + 2) = some (zA1 G 2 (fun _ => none)) := (ho100 _ (by omega)).trans hc91
  have hc104 : F98 (B0 + 3) = some (zAI G 100 (fun _ => 0)) := (ho100 _ (by omega)).trans hc92
  have hc105 : F98 (B0 + 4) = some (zO 1 [.ref (B0 + 5), .int (nI 0)]) := (ho100 _ (by omega)).trans hc93
  have hc106 : F98 (B0 + 5) = some (zAI G 60 (fun _ => 0)) := (ho100 _ (by omega)).trans hc94
  have hc107 : F98 (B0 + 6) = some (zO 1 [.null, .int (nI 0)]) := (ho100 _ (by omega)).trans hw87
  refine z_callvN hI (z_InN (As := [.ref (B0 + 7)]) (rest := [.ref (B0 + 6), .ref B0]) ⟨hx, hb, hml, hown, hts⟩ hI hsz (c_X1_init l G B0 F98 (B0 + 6) (B0 + 7) (B0 + 8) hc107) (z_cwI vX1_init hts q26 ⟨Nat.le_of_ble_eq_true rfl, Nat.le_of_ble_eq_true rfl⟩) rfl hl.1 rfl (lv_room (Nat.le_of_ble_eq_true rfl)) dX2_init_52 ⟨Nat.le_of_ble_eq_true rfl, Nat.le_of_ble_eq_true rfl⟩) (fun F108 H locs hp109 hI hz110 => ?_)
  obtain ⟨hw112, ho111⟩ := hp109
  have hsz := hz110
  have hc113 : F108 B0 = some (zO 2 [.ref (B0 + 1), .ref (B0 + 2), .ref (B0 + 3), .ref (B0 + 4), .null, .null, .null]) := (ho111 _ (by omega)).trans hc101
  have hc114 : F108 (B0 + 1) = some (zA1 G 4 (fun _ => none)) := (ho111 _ (by omega)).trans hc102
  have hc115 : F108 (B0 + 2) = some (zA1 G 2 (fun _ => none)) := (ho111 _ (by omega)).trans hc103
  have hc116 : F108 (B0 + 3) = some (zAI G 100 (fun _ => 0)) := (ho111 _ (by omega)).trans hc104
  have hc117 : F108 (B0 + 4) = some (zO 1 [.ref (B0 + 5), .int (nI 0)]) := (ho111 _ (by omega)).trans hc105
  have hc118 : F108 (B0 + 5) = some (zAI G 60 (fun _ => 0)) := (ho111 _ (by omega)).trans hc106
  have hc119 : F108 (B0 + 7) = some (zAI G 60 (fun _ => 0)) := (ho111 _ (by omega)).trans hw99
  refine z_putF hx hb hts hown zlX2 tyX2 tyX2_ok nmX2 rfl 4 (by decide) (hts _ q44) rfl hI hc113 rfl hnm rfl rfl rfl rfl (Nat.le_of_ble_eq_true rfl) dX2_init_55 (fun H locs hz120 F121 hw122 ho123 hI => ?_)
  have hw122 : F121 B0 = some (zO 2 [.ref (B0 + 1), .ref (B0 + 2), .ref (B0 + 3), .ref (B0 + 4), .ref (B0 + 6), .null, .null]) := hw122
  have hsz : H.size = B0 + 8 := hz120.trans hsz
  have hc124 : F121 (B0 + 1) = some (zA1 G 4 (fun _ => none)) := (ho123 _ (zne hc114 hc113 (fun q => by cases q))).trans hc114
  have hc125 : F121 (B0 + 2) = some (zA1 G 2 (fun _ => none)) := (ho123 _ (zne hc115 hc113 (fun q => by cases q))).trans hc115
  have hc126 : F121 (B0 + 3) = some (zAI G 100 (fun _ => 0)) := (ho123 _ (zne hc116 hc113 (fun q => by cases q))).trans hc116
  have hc127 : F121 (B0 + 4) = some (zO 1 [.ref (B0 + 5), .int (nI 0)]) := (ho123 _ (zne hc117 hc113 (fun q => by cases q))).trans hc117
  have hc128 : F121 (B0 + 5) = some (zAI G 60 (fun _ => 0)) := (ho123 _ (zne hc118 hc113 (fun q => by cases q))).trans hc118
  have hc129 : F121 (B0 + 6) = some (zO 1 [.ref (B0 + 7), .int (nI 0)]) := (ho123 _ (zne hw112 hc113 (fun q => by cases q))).trans hw112
  have hc130 : F121 (B0 + 7) = some (zAI G 60 (fun _ => 0)) := (ho123 _ (zne hc119 hc113 (fun q => by cases q))).trans hc119
  refine lv_aload_n hx hb dX2_init_58 rfl (lv_at hl 0 rfl) ?_
  refine z_new (ci := 1) hx hb hts hown zlX1 tyX1 tyX1_ok (hts _ q23) (hts _ q25) (hts _ q2) hI rfl (fs := [.null, .int 0]) (by intro j hj; rcases j with _ | _ | _ | _ | _ | _ | _ | j <;> first | rfl | omega) (Nat.le_of_ble_eq_true rfl) (Nat.le_of_ble_eq_true rfl) dX2_init_59 (fun q131 H hq132 hz133 F134 hw135 ho136 hI => ?_)
  obtain rfl : B0 + 8 = q131 := (hq132.trans hsz).symm
  have hsz : H.size = B0 + 9 := hz133
  have hc137 : F134 B0 = some (zO 2 [.ref (B0 + 1), .ref (B0 + 2), .ref (B0 + 3), .ref (B0 + 4), .ref (B0 + 6), .null, .null]) := (ho136 _ (by omega)).trans hw122
  have hc138 : F134 (B0 + 1) = some (zA1 G 4 (fun _ => none)) := (ho136 _ (by omega)).trans hc124
  have hc139 : F134 (B0 + 2) = some (zA1 G 2 (fun _ => none)) := (ho136 _ (by omega)).trans hc125
  have hc140 : F134 (B0 + 3) = some (zAI G 100 (fun _ => 0)) := (ho136 _ (by omega)).trans hc126
  have hc141 : F134 (B0 + 4) = some (zO 1 [.ref (B0 + 5), .int (nI 0)]) := (ho136 _ (by omega)).trans hc127
  have hc142 : F134 (B0 + 5) = some (zAI G 60 (fun _ => 0)) := (ho136 _ (by omega)).trans hc128
  have hc143 : F134 (B0 + 6) = some (zO 1 [.ref (B0 + 7), .int (nI 0)]) := (ho136 _ (by omega)).trans hc129
  have hc144 : F134 (B0 + 7) = some (zAI G 60 (fun _ => 0)) := (ho136 _ (by omega)).trans hc130
  refine lv_dup hx hb dX2_init_62 rfl ?_
  refine lv_bipush (v := nI 12) hx hb dX2_init_63 (by decide) ?_
  refine z_newI (N' := 12) hx hb (hts _ q39) hI (by decide) (Nat.le_of_ble_eq_true rfl) (Nat.le_of_ble_eq_true rfl) dX2_init_65 (fun q145 H hq146 hz147 F148 hw149 ho150 hI => ?_)
  obtain rfl : B0 + 9 = q145 := (hq146.trans hsz).symm
  have hsz : H.size = B0 + 10 := hz147
  have hc151 : F148 B0 = some (zO 2 [.ref (B0 + 1), .ref (B0 + 2), .ref (B0 + 3), .ref (B0 + 4), .ref (B0 + 6), .null, .null]) := (ho150 _ (by omega)).trans hc137
  have hc152 : F148 (B0 + 1) = some (zA1 G 4 (fun _ => none)) := (ho150 _ (by omega)).trans hc138
  have hc153 : F148 (B0 + 2) = some (zA1 G 2 (fun _ => none)) := (ho150 _ (by omega)).trans hc139
  have hc154 : F148 (B0 + 3) = some (zAI G 100 (fun _ => 0)) := (ho150 _ (by omega)).trans hc140
  have hc155 : F148 (B0 + 4) = some (zO 1 [.ref (B0 + 5), .int (nI 0)]) := (ho150 _ (by omega)).trans hc141
  have hc156 : F148 (B0 + 5) = some (zAI G 60 (fun _ => 0)) := (ho150 _ (by omega)).trans hc142
  have hc157 : F148 (B0 + 6) = some (zO 1 [.ref (B0 + 7), .int (nI 0)]) := (ho150 _ (by omega)).trans hc143
  have hc158 : F148 (B0 + 7) = some (zAI G 60 (fun _ => 0)) := (ho150 _ (by omega)).trans hc144
  have hc159 : F148 (B0 + 8) = some (zO 1 [.null, .int (nI 0)]) := (ho150 _ (by omega)).trans hw135
  refine z_callvN hI (z_InN (As := [.ref (B0 + 9)]) (rest := [.ref (B0 + 8), .ref B0]) ⟨hx, hb, hml, hown, hts⟩ hI hsz (c_X1_init l G B0 F148 (B0 + 8) (B0 + 9) (B0 + 10) hc159) (z_cwI vX1_init hts q26 ⟨Nat.le_of_ble_eq_true rfl, Nat.le_of_ble_eq_true rfl⟩) rfl hl.1 rfl (lv_room (Nat.le_of_ble_eq_true rfl)) dX2_init_67 ⟨Nat.le_of_ble_eq_true rfl, Nat.le_of_ble_eq_true rfl⟩) (fun F160 H locs hp161 hI hz162 => ?_)
  obtain ⟨hw164, ho163⟩ := hp161
  have hsz := hz162
  have hc165 : F160 B0 = some (zO 2 [.ref (B0 + 1), .ref (B0 + 2), .ref (B0 + 3), .ref (B0 + 4), .ref (B0 + 6), .null, .null]) := (ho163 _ (by omega)).trans hc151
  have hc166 : F160 (B0 + 1) = some (zA1 G 4 (fun _ => none)) := (ho163 _ (by omega)).trans hc152
  have hc167 : F160 (B0 + 2) = some (zA1 G 2 (fun _ => none)) := (ho163 _ (by omega)).trans hc153
  have hc168 : F160 (B0 + 3) = some (zAI G 100 (fun _ => 0)) := (ho163 _ (by omega)).trans hc154
  have hc169 : F160 (B0 + 4) = some (zO 1 [.ref (B0 + 5), .int (nI 0)]) := (ho163 _ (by omega)).trans hc155
  have hc170 : F160 (B0 + 5) = some (zAI G 60 (fun _ => 0)) := (ho163 _ (by omega)).trans hc156
  have hc171 : F160 (B0 + 6) = some (zO 1 [.ref (B0 + 7), .int (nI 0)]) := (ho163 _ (by omega)).trans hc157
  have hc172 : F160 (B0 + 7) = some (zAI G 60 (fun _ => 0)) := (ho163 _ (by omega)).trans hc158
  have hc173 : F160 (B0 + 9) = some (zAI G 12 (fun _ => 0)) := (ho163 _ (by omega)).trans hw149
  refine z_putF hx hb hts hown zlX2 tyX2 tyX2_ok nmX2 rfl 5 (by decide) (hts _ q45) rfl hI hc165 rfl hnm rfl rfl rfl rfl (Nat.le_of_ble_eq_true rfl) dX2_init_70 (fun H locs hz174 F175 hw176 ho177 hI => ?_)
  have hw176 : F175 B0 = some (zO 2 [.ref (B0 + 1), .ref (B0 + 2), .ref (B0 + 3), .ref (B0 + 4), .ref (B0 + 6), .ref (B0 + 8), .null]) := hw176
  have hsz : H.size = B0 + 10 := hz174.trans hsz
  have hc178 : F175 (B0 + 1) = some (zA1 G 4 (fun _ => none)) := (ho177 _ (zne hc166 hc165 (fun q => by cases q))).trans hc166
  have hc179 : F175 (B0 + 2) = some (zA1 G 2 (fun _ => none)) := (ho177 _ (zne hc167 hc165 (fun q => by cases q))).trans hc167
  have hc180 : F175 (B0 + 3) = some (zAI G 100 (fun _ => 0)) := (ho177 _ (zne hc168 hc165 (fun q => by cases q))).trans hc168
  have hc181 : F175 (B0 + 4) = some (zO 1 [.ref (B0 + 5), .int (nI 0)]) := (ho177 _ (zne hc169 hc165 (fun q => by cases q))).trans hc169
  have hc182 : F175 (B0 + 5) = some (zAI G 60 (fun _ => 0)) := (ho177 _ (zne hc170 hc165 (fun q => by cases q))).trans hc170
  have hc183 : F175 (B0 + 6) = some (zO 1 [.ref (B0 + 7), .int (nI 0)]) := (ho177 _ (zne hc171 hc165 (fun q => by cases q))).trans hc171
  have hc184 : F175 (B0 + 7) = some (zAI G 60 (fun _ => 0)) := (ho177 _ (zne hc172 hc165 (fun q => by cases q))).trans hc172
  have hc185 : F175 (B0 + 8) = some (zO 1 [.ref (B0 + 9), .int (nI 0)]) := (ho177 _ (zne hw164 hc165 (fun q => by cases q))).trans hw164
  have hc186 : F175 (B0 + 9) = some (zAI G 12 (fun _ => 0)) := (ho177 _ (zne hc173 hc165 (fun q => by cases q))).trans hc173
  refine lv_aload_n hx hb dX2_init_73 rfl (lv_at hl 0 rfl) ?_
  refine lv_bipush (v := nI 61) hx hb dX2_init_74 (by decide) ?_
  refine z_newI (N' := 61) hx hb (hts _ q39) hI (by decide) (Nat.le_of_ble_eq_true rfl) (Nat.le_of_ble_eq_true rfl) dX2_init_76 (fun q187 H hq188 hz189 F190 hw191 ho192 hI => ?_)
  obtain rfl : B0 + 10 = q187 := (hq188.trans hsz).symm
  have hsz : H.size = B0 + 11 := hz189
  have hc193 : F190 B0 = some (zO 2 [.ref (B0 + 1), .ref (B0 + 2), .ref (B0 + 3), .ref (B0 + 4), .ref (B0 + 6), .ref (B0 + 8), .null]) := (ho192 _ (by omega)).trans hw176
  have hc194 : F190 (B0 + 1) = some (zA1 G 4 (fun _ => none)) := (ho192 _ (by omega)).trans hc178
  have hc195 : F190 (B0 + 2) = some (zA1 G 2 (fun _ => none)) := (ho192 _ (by omega)).trans hc179
  have hc196 : F190 (B0 + 3) = some (zAI G 100 (fun _ => 0)) := (ho192 _ (by omega)).trans hc180
  have hc197 : F190 (B0 + 4) = some (zO 1 [.ref (B0 + 5), .int (nI 0)]) := (ho192 _ (by omega)).trans hc181
  have hc198 : F190 (B0 + 5) = some (zAI G 60 (fun _ => 0)) := (ho192 _ (by omega)).trans hc182
  have hc199 : F190 (B0 + 6) = some (zO 1 [.ref (B0 + 7), .int (nI 0)]) := (ho192 _ (by omega)).trans hc183
  have hc200 : F190 (B0 + 7) = some (zAI G 60 (fun _ => 0)) := (ho192 _ (by omega)).trans hc184
  have hc201 : F190 (B0 + 8) = some (zO 1 [.ref (B0 + 9), .int (nI 0)]) := (ho192 _ (by omega)).trans hc185
  have hc202 : F190 (B0 + 9) = some (zAI G 12 (fun _ => 0)) := (ho192 _ (by omega)).trans hc186
  refine z_putF hx hb hts hown zlX2 tyX2 tyX2_ok nmX2 rfl 6 (by decide) (hts _ q46) rfl hI hc193 rfl hnm rfl rfl rfl rfl (Nat.le_of_ble_eq_true rfl) dX2_init_78 (fun H locs hz203 F204 hw205 ho206 hI => ?_)
  have hw205 : F204 B0 = some (zO 2 [.ref (B0 + 1), .ref (B0 + 2), .ref (B0 + 3), .ref (B0 + 4), .ref (B0 + 6), .ref (B0 + 8), .ref (B0 + 10)]) := hw205
  have hsz : H.size = B0 + 11 := hz203.trans hsz
  have hc207 : F204 (B0 + 1) = some (zA1 G 4 (fun _ => none)) := (ho206 _ (zne hc194 hc193 (fun q => by cases q))).trans hc194
  have hc208 : F204 (B0 + 2) = some (zA1 G 2 (fun _ => none)) := (ho206 _ (zne hc195 hc193 (fun q => by cases q))).trans hc195
  have hc209 : F204 (B0 + 3) = some (zAI G 100 (fun _ => 0)) := (ho206 _ (zne hc196 hc193 (fun q => by cases q))).trans hc196
  have hc210 : F204 (B0 + 4) = some (zO 1 [.ref (B0 + 5), .int (nI 0)]) := (ho206 _ (zne hc197 hc193 (fun q => by cases q))).trans hc197
  have hc211 : F204 (B0 + 5) = some (zAI G 60 (fun _ => 0)) := (ho206 _ (zne hc198 hc193 (fun q => by cases q))).trans hc198
  have hc212 : F204 (B0 + 6) = some (zO 1 [.ref (B0 + 7), .int (nI 0)]) := (ho206 _ (zne hc199 hc193 (fun q => by cases q))).trans hc199
  have hc213 : F204 (B0 + 7) = some (zAI G 60 (fun _ => 0)) := (ho206 _ (zne hc200 hc193 (fun q => by cases q))).trans hc200
  have hc214 : F204 (B0 + 8) = some (zO 1 [.ref (B0 + 9), .int (nI 0)]) := (ho206 _ (zne hc201 hc193 (fun q => by cases q))).trans hc201
  have hc215 : F204 (B0 + 9) = some (zAI G 12 (fun _ => 0)) := (ho206 _ (zne hc202 hc193 (fun q => by cases q))).trans hc202
  have hc216 : F204 (B0 + 10) = some (zAI G 61 (fun _ => 0)) := (ho206 _ (zne hw191 hc193 (fun q => by cases q))).trans hw191
  refine lv_iconst (v := nI 0) hx hb dX2_init_81 (by decide) ?_
  refine lv_istore_n (lv' := [(1, .int (nI 0)), (0, .ref B0)]) hx hb dX2_init_82 rfl hl (by decide) rfl (fun ls hl => ?_)
  refine lv_iload_n hx hb dX2_init_83 rfl (lv_at hl 0 rfl) ?_
  refine lv_iconst (v := nI 4) hx hb dX2_init_84 (by decide) ?_
  refine z_icmp_ge (tgt := 111) (a := 0) (b := 4) hx hb dX2_init_85 (by decide) (by omega) (fun hq217 => ?_) (fun hq217 => ?_)
  · omega
  · refine lv_aload_n hx hb dX2_init_88 rfl (lv_at hl 1 rfl) ?_
    refine z_get hx hb hts hown zlX2 rfl 0 (by decide) (hts _ q40) rfl hI hw205 rfl dX2_init_89 ?_
    refine lv_iload_n hx hb dX2_init_92 rfl (lv_at hl 0 rfl) ?_
    refine z_new (ci := 1) hx hb hts hown zlX1 tyX1 tyX1_ok (hts _ q23) (hts _ q25) (hts _ q2) hI rfl (fs := [.null, .int 0]) (by intro j hj; rcases j with _ | _ | _ | _ | _ | _ | _ | j <;> first | rfl | omega) (Nat.le_of_ble_eq_true rfl) (Nat.le_of_ble_eq_true rfl) dX2_init_93 (fun q218 H hq219 hz220 F221 hw222 ho223 hI => ?_)
    obtain rfl : B0 + 11 = q218 := (hq219.trans hsz).symm
    have hsz : H.size = B0 + 12 := hz220
    have hc224 : F221 B0 = some (zO 2 [.ref (B0 + 1), .ref (B0 + 2), .ref (B0 + 3), .ref (B0 + 4), .ref (B0 + 6), .ref (B0 + 8), .ref (B0 + 10)]) := (ho223 _ (by omega)).trans hw205
    have hc225 : F221 (B0 + 1) = some (zA1 G 4 (fun _ => none)) := (ho223 _ (by omega)).trans hc207
    have hc226 : F221 (B0 + 2) = some (zA1 G 2 (fun _ => none)) := (ho223 _ (by omega)).trans hc208
    have hc227 : F221 (B0 + 3) = some (zAI G 100 (fun _ => 0)) := (ho223 _ (by omega)).trans hc209
    have hc228 : F221 (B0 + 4) = some (zO 1 [.ref (B0 + 5), .int (nI 0)]) := (ho223 _ (by omega)).trans hc210
    have hc229 : F221 (B0 + 5) = some (zAI G 60 (fun _ => 0)) := (ho223 _ (by omega)).trans hc211
    have hc230 : F221 (B0 + 6) = some (zO 1 [.ref (B0 + 7), .int (nI 0)]) := (ho223 _ (by omega)).trans hc212
    have hc231 : F221 (B0 + 7) = some (zAI G 60 (fun _ => 0)) := (ho223 _ (by omega)).trans hc213
    have hc232 : F221 (B0 + 8) = some (zO 1 [.ref (B0 + 9), .int (nI 0)]) := (ho223 _ (by omega)).trans hc214
    have hc233 : F221 (B0 + 9) = some (zAI G 12 (fun _ => 0)) := (ho223 _ (by omega)).trans hc215
    have hc234 : F221 (B0 + 10) = some (zAI G 61 (fun _ => 0)) := (ho223 _ (by omega)).trans hc216
    refine lv_dup hx hb dX2_init_96 rfl ?_
    refine lv_bipush (v := nI 60) hx hb dX2_init_97 (by decide) ?_
    refine z_newI (N' := 60) hx hb (hts _ q39) hI (by decide) (Nat.le_of_ble_eq_true rfl) (Nat.le_of_ble_eq_true rfl) dX2_init_99 (fun q235 H hq236 hz237 F238 hw239 ho240 hI => ?_)
    obtain rfl : B0 + 12 = q235 := (hq236.trans hsz).symm
    have hsz : H.size = B0 + 13 := hz237
    have hc241 : F238 B0 = some (zO 2 [.ref (B0 + 1), .ref (B0 + 2), .ref (B0 + 3), .ref (B0 + 4), .ref (B0 + 6), .ref (B0 + 8), .ref (B0 + 10)]) := (ho240 _ (by omega)).trans hc224
    have hc242 : F238 (B0 + 1) = some (zA1 G 4 (fun _ => none)) := (ho240 _ (by omega)).trans hc225
    have hc243 : F238 (B0 + 2) = some (zA1 G 2 (fun _ => none)) := (ho240 _ (by omega)).trans hc226
    have hc244 : F238 (B0 + 3) = some (zAI G 100 (fun _ => 0)) := (ho240 _ (by omega)).trans hc227
    have hc245 : F238 (B0 + 4) = some (zO 1 [.ref (B0 + 5), .int (nI 0)]) := (ho240 _ (by omega)).trans hc228
    have hc246 : F238 (B0 + 5) = some (zAI G 60 (fun _ => 0)) := (ho240 _ (by omega)).trans hc229
    have hc247 : F238 (B0 + 6) = some (zO 1 [.ref (B0 + 7), .int (nI 0)]) := (ho240 _ (by omega)).trans hc230
    have hc248 : F238 (B0 + 7) = some (zAI G 60 (fun _ => 0)) := (ho240 _ (by omega)).trans hc231
    have hc249 : F238 (B0 + 8) = some (zO 1 [.ref (B0 + 9), .int (nI 0)]) := (ho240 _ (by omega)).trans hc232
    have hc250 : F238 (B0 + 9) = some (zAI G 12 (fun _ => 0)) := (ho240 _ (by omega)).trans hc233
    have hc251 : F238 (B0 + 10) = some (zAI G 61 (fun _ => 0)) := (ho240 _ (by omega)).trans hc234
    have hc252 : F238 (B0 + 11) = some (zO 1 [.null, .int (nI 0)]) := (ho240 _ (by omega)).trans hw222
    refine z_callvN hI (z_InN (As := [.ref (B0 + 12)]) (rest := [.ref (B0 + 11), .int (nI 0), .ref (B0 + 1)]) ⟨hx, hb, hml, hown, hts⟩ hI hsz (c_X1_init l G B0 F238 (B0 + 11) (B0 + 12) (B0 + 13) hc252) (z_cwI vX1_init hts q26 ⟨Nat.le_of_ble_eq_true rfl, Nat.le_of_ble_eq_true rfl⟩) rfl hl.1 rfl (lv_room (Nat.le_of_ble_eq_true rfl)) dX2_init_101 ⟨Nat.le_of_ble_eq_true rfl, Nat.le_of_ble_eq_true rfl⟩) (fun F253 H locs hp254 hI hz255 => ?_)
    obtain ⟨hw257, ho256⟩ := hp254
    have hsz := hz255
    have hc258 : F253 B0 = some (zO 2 [.ref (B0 + 1), .ref (B0 + 2), .ref (B0 + 3), .ref (B0 + 4), .ref (B0 + 6), .ref (B0 + 8), .ref (B0 + 10)]) := (ho256 _ (by omega)).trans hc241
    have hc259 : F253 (B0 + 1) = some (zA1 G 4 (fun _ => none)) := (ho256 _ (by omega)).trans hc242
    have hc260 : F253 (B0 + 2) = some (zA1 G 2 (fun _ => none)) := (ho256 _ (by omega)).trans hc243
    have hc261 : F253 (B0 + 3) = some (zAI G 100 (fun _ => 0)) := (ho256 _ (by omega)).trans hc244
    have hc262 : F253 (B0 + 4) = some (zO 1 [.ref (B0 + 5), .int (nI 0)]) := (ho256 _ (by omega)).trans hc245
    have hc263 : F253 (B0 + 5) = some (zAI G 60 (fun _ => 0)) := (ho256 _ (by omega)).trans hc246
    have hc264 : F253 (B0 + 6) = some (zO 1 [.ref (B0 + 7), .int (nI 0)]) := (ho256 _ (by omega)).trans hc247
    have hc265 : F253 (B0 + 7) = some (zAI G 60 (fun _ => 0)) := (ho256 _ (by omega)).trans hc248
    have hc266 : F253 (B0 + 8) = some (zO 1 [.ref (B0 + 9), .int (nI 0)]) := (ho256 _ (by omega)).trans hc249
    have hc267 : F253 (B0 + 9) = some (zAI G 12 (fun _ => 0)) := (ho256 _ (by omega)).trans hc250
    have hc268 : F253 (B0 + 10) = some (zAI G 61 (fun _ => 0)) := (ho256 _ (by omega)).trans hc251
    have hc269 : F253 (B0 + 12) = some (zAI G 60 (fun _ => 0)) := (ho256 _ (by omega)).trans hw239
    refine z_ast 1 1 (C := G.2 1) rfl rfl hx hb hI hc259 hw257 (k := 0) (by omega) (by decide) dX2_init_104 (fun H locs hz270 F271 hw272 ho273 hI => ?_)
    have hsz : H.size = B0 + 13 := hz270.trans hsz
    have hc274 : F271 B0 = some (zO 2 [.ref (B0 + 1), .ref (B0 + 2), .ref (B0 + 3), .ref (B0 + 4), .ref (B0 + 6), .ref (B0 + 8), .ref (B0 + 10)]) := (ho273 _ (zne hc258 hc259 (fun q => by cases q))).trans hc258
    have hc275 : F271 (B0 + 2) = some (zA1 G 2 (fun _ => none)) := (ho273 _ (by omega)).trans hc260
    have hc276 : F271 (B0 + 3) = some (zAI G 100 (fun _ => 0)) := (ho273 _ (by omega)).trans hc261
    have hc277 : F271 (B0 + 4) = some (zO 1 [.ref (B0 + 5), .int (nI 0)]) := (ho273 _ (zne hc262 hc259 (fun q => by cases q))).trans hc262
    have hc278 : F271 (B0 + 5) = some (zAI G 60 (fun _ => 0)) := (ho273 _ (by omega)).trans hc263
    have hc279 : F271 (B0 + 6) = some (zO 1 [.ref (B0 + 7), .int (nI 0)]) := (ho273 _ (zne hc264 hc259 (fun q => by cases q))).trans hc264
    have hc280 : F271 (B0 + 7) = some (zAI G 60 (fun _ => 0)) := (ho273 _ (by omega)).trans hc265
    have hc281 : F271 (B0 + 8) = some (zO 1 [.ref (B0 + 9), .int (nI 0)]) := (ho273 _ (zne hc266 hc259 (fun q => by cases q))).trans hc266
    have hc282 : F271 (B0 + 9) = some (zAI G 12 (fun _ => 0)) := (ho273 _ (by omega)).trans hc267
    have hc283 : F271 (B0 + 10) = some (zAI G 61 (fun _ => 0)) := (ho273 _ (by omega)).trans hc268
    have hc284 : F271 (B0 + 11) = some (zO 1 [.ref (B0 + 12), .int (nI 0)]) := (ho273 _ (zne hw257 hc259 (fun q => by cases q))).trans hw257
    have hc285 : F271 (B0 + 12) = some (zAI G 60 (fun _ => 0)) := (ho273 _ (by omega)).trans hc269
    refine lv_iinc (k := 0) (v := nI (0 + 1)) (lv' := [(1, .int (nI (0 + 1))), (0, .ref B0)]) hx hb dX2_init_105 hl rfl (nI_add 0 1) (by decide) rfl (fun ls hl => ?_)
    refine lv_goto (tgt := 83) hx hb dX2_init_108 (by decide) ?_
    refine lv_iload_n hx hb dX2_init_83 rfl (lv_at hl 0 rfl) ?_
    refine lv_iconst (v := nI 4) hx hb dX2_init_84 (by decide) ?_
    refine z_icmp_ge (tgt := 111) (a := 0 + 1) (b := 4) hx hb dX2_init_85 (by decide) (by omega) (fun hq286 => ?_) (fun hq286 => ?_)
    · omega
    · refine lv_aload_n hx hb dX2_init_88 rfl (lv_at hl 1 rfl) ?_
      refine z_get hx hb hts hown zlX2 rfl 0 (by decide) (hts _ q40) rfl hI hc274 rfl dX2_init_89 ?_
      refine lv_iload_n hx hb dX2_init_92 rfl (lv_at hl 0 rfl) ?_
      refine z_new (ci := 1) hx hb hts hown zlX1 tyX1 tyX1_ok (hts _ q23) (hts _ q25) (hts _ q2) hI rfl (fs := [.null, .int 0]) (by intro j hj; rcases j with _ | _ | _ | _ | _ | _ | _ | j <;> first | rfl | omega) (Nat.le_of_ble_eq_true rfl) (Nat.le_of_ble_eq_true rfl) dX2_init_93 (fun q287 H hq288 hz289 F290 hw291 ho292 hI => ?_)
      obtain rfl : B0 + 13 = q287 := (hq288.trans hsz).symm
      have hsz : H.size = B0 + 14 := hz289
      have hc293 : F290 B0 = some (zO 2 [.ref (B0 + 1), .ref (B0 + 2), .ref (B0 + 3), .ref (B0 + 4), .ref (B0 + 6), .ref (B0 + 8), .ref (B0 + 10)]) := (ho292 _ (by omega)).trans hc274
      have hc294 : F290 (B0 + 1) = some (zA1 G 4 (va_up (fun _ => none) 0 (some (B0 + 11)))) := (ho292 _ (by omega)).trans hw272
      have hc295 : F290 (B0 + 2) = some (zA1 G 2 (fun _ => none)) := (ho292 _ (by omega)).trans hc275
      have hc296 : F290 (B0 + 3) = some (zAI G 100 (fun _ => 0)) := (ho292 _ (by omega)).trans hc276
      have hc297 : F290 (B0 + 4) = some (zO 1 [.ref (B0 + 5), .int (nI 0)]) := (ho292 _ (by omega)).trans hc277
      have hc298 : F290 (B0 + 5) = some (zAI G 60 (fun _ => 0)) := (ho292 _ (by omega)).trans hc278
      have hc299 : F290 (B0 + 6) = some (zO 1 [.ref (B0 + 7), .int (nI 0)]) := (ho292 _ (by omega)).trans hc279
      have hc300 : F290 (B0 + 7) = some (zAI G 60 (fun _ => 0)) := (ho292 _ (by omega)).trans hc280
      have hc301 : F290 (B0 + 8) = some (zO 1 [.ref (B0 + 9), .int (nI 0)]) := (ho292 _ (by omega)).trans hc281
      have hc302 : F290 (B0 + 9) = some (zAI G 12 (fun _ => 0)) := (ho292 _ (by omega)).trans hc282
      have hc303 : F290 (B0 + 10) = some (zAI G 61 (fun _ => 0)) := (ho292 _ (by omega)).trans hc283
      have hc304 : F290 (B0 + 11) = some (zO 1 [.ref (B0 + 12), .int (nI 0)]) := (ho292 _ (by omega)).trans hc284
      have hc305 : F290 (B0 + 12) = some (zAI G 60 (fun _ => 0)) := (ho292 _ (by omega)).trans hc285
      refine lv_dup hx hb dX2_init_96 rfl ?_
      refine lv_bipush (v := nI 60) hx hb dX2_init_97 (by decide) ?_
      refine z_newI (N' := 60) hx hb (hts _ q39) hI (by decide) (Nat.le_of_ble_eq_true rfl) (Nat.le_of_ble_eq_true rfl) dX2_init_99 (fun q306 H hq307 hz308 F309 hw310 ho311 hI => ?_)
      obtain rfl : B0 + 14 = q306 := (hq307.trans hsz).symm
      have hsz : H.size = B0 + 15 := hz308
      have hc312 : F309 B0 = some (zO 2 [.ref (B0 + 1), .ref (B0 + 2), .ref (B0 + 3), .ref (B0 + 4), .ref (B0 + 6), .ref (B0 + 8), .ref (B0 + 10)]) := (ho311 _ (by omega)).trans hc293
      have hc313 : F309 (B0 + 1) = some (zA1 G 4 (va_up (fun _ => none) 0 (some (B0 + 11)))) := (ho311 _ (by omega)).trans hc294
      have hc314 : F309 (B0 + 2) = some (zA1 G 2 (fun _ => none)) := (ho311 _ (by omega)).trans hc295
      have hc315 : F309 (B0 + 3) = some (zAI G 100 (fun _ => 0)) := (ho311 _ (by omega)).trans hc296
      have hc316 : F309 (B0 + 4) = some (zO 1 [.ref (B0 + 5), .int (nI 0)]) := (ho311 _ (by omega)).trans hc297
      have hc317 : F309 (B0 + 5) = some (zAI G 60 (fun _ => 0)) := (ho311 _ (by omega)).trans hc298
      have hc318 : F309 (B0 + 6) = some (zO 1 [.ref (B0 + 7), .int (nI 0)]) := (ho311 _ (by omega)).trans hc299
      have hc319 : F309 (B0 + 7) = some (zAI G 60 (fun _ => 0)) := (ho311 _ (by omega)).trans hc300
      have hc320 : F309 (B0 + 8) = some (zO 1 [.ref (B0 + 9), .int (nI 0)]) := (ho311 _ (by omega)).trans hc301
      have hc321 : F309 (B0 + 9) = some (zAI G 12 (fun _ => 0)) := (ho311 _ (by omega)).trans hc302
      have hc322 : F309 (B0 + 10) = some (zAI G 61 (fun _ => 0)) := (ho311 _ (by omega)).trans hc303
      have hc323 : F309 (B0 + 11) = some (zO 1 [.ref (B0 + 12), .int (nI 0)]) := (ho311 _ (by omega)).trans hc304
      have hc324 : F309 (B0 + 12) = some (zAI G 60 (fun _ => 0)) := (ho311 _ (by omega)).trans hc305
      have hc325 : F309 (B0 + 13) = some (zO 1 [.null, .int (nI 0)]) := (ho311 _ (by omega)).trans hw291
      refine z_callvN hI (z_InN (As := [.ref (B0 + 14)]) (rest := [.ref (B0 + 13), .int (nI (0 + 1)), .ref (B0 + 1)]) ⟨hx, hb, hml, hown, hts⟩ hI hsz (c_X1_init l G B0 F309 (B0 + 13) (B0 + 14) (B0 + 15) hc325) (z_cwI vX1_init hts q26 ⟨Nat.le_of_ble_eq_true rfl, Nat.le_of_ble_eq_true rfl⟩) rfl hl.1 rfl (lv_room (Nat.le_of_ble_eq_true rfl)) dX2_init_101 ⟨Nat.le_of_ble_eq_true rfl, Nat.le_of_ble_eq_true rfl⟩) (fun F326 H locs hp327 hI hz328 => ?_)
      obtain ⟨hw330, ho329⟩ := hp327
      have hsz := hz328
      have hc331 : F326 B0 = some (zO 2 [.ref (B0 + 1), .ref (B0 + 2), .ref (B0 + 3), .ref (B0 + 4), .ref (B0 + 6), .ref (B0 + 8), .ref (B0 + 10)]) := (ho329 _ (by omega)).trans hc312
      have hc332 : F326 (B0 + 1) = some (zA1 G 4 (va_up (fun _ => none) 0 (some (B0 + 11)))) := (ho329 _ (by omega)).trans hc313
      have hc333 : F326 (B0 + 2) = some (zA1 G 2 (fun _ => none)) := (ho329 _ (by omega)).trans hc314
      have hc334 : F326 (B0 + 3) = some (zAI G 100 (fun _ => 0)) := (ho329 _ (by omega)).trans hc315
      have hc335 : F326 (B0 + 4) = some (zO 1 [.ref (B0 + 5), .int (nI 0)]) := (ho329 _ (by omega)).trans hc316
      have hc336 : F326 (B0 + 5) = some (zAI G 60 (fun _ => 0)) := (ho329 _ (by omega)).trans hc317
      have hc337 : F326 (B0 + 6) = some (zO 1 [.ref (B0 + 7), .int (nI 0)]) := (ho329 _ (by omega)).trans hc318
      have hc338 : F326 (B0 + 7) = some (zAI G 60 (fun _ => 0)) := (ho329 _ (by omega)).trans hc319
      have hc339 : F326 (B0 + 8) = some (zO 1 [.ref (B0 + 9), .int (nI 0)]) := (ho329 _ (by omega)).trans hc320
      have hc340 : F326 (B0 + 9) = some (zAI G 12 (fun _ => 0)) := (ho329 _ (by omega)).trans hc321
      have hc341 : F326 (B0 + 10) = some (zAI G 61 (fun _ => 0)) := (ho329 _ (by omega)).trans hc322
      have hc342 : F326 (B0 + 11) = some (zO 1 [.ref (B0 + 12), .int (nI 0)]) := (ho329 _ (by omega)).trans hc323
      have hc343 : F326 (B0 + 12) = some (zAI G 60 (fun _ => 0)) := (ho329 _ (by omega)).trans hc324
      have hc344 : F326 (B0 + 14) = some (zAI G 60 (fun _ => 0)) := (ho329 _ (by omega)).trans hw310
      refine z_ast 1 1 (C := G.2 1) rfl rfl hx hb hI hc332 hw330 (k := 0 + 1) (by omega) (by decide) dX2_init_104 (fun H locs hz345 F346 hw347 ho348 hI => ?_)
      have hsz : H.size = B0 + 15 := hz345.trans hsz
      have hc349 : F346 B0 = some (zO 2 [.ref (B0 + 1), .ref (B0 + 2), .ref (B0 + 3), .ref (B0 + 4), .ref (B0 + 6), .ref (B0 + 8), .ref (B0 + 10)]) := (ho348 _ (zne hc331 hc332 (fun q => by cases q))).trans hc331
      have hc350 : F346 (B0 + 2) = some (zA1 G 2 (fun _ => none)) := (ho348 _ (by omega)).trans hc333
      have hc351 : F346 (B0 + 3) = some (zAI G 100 (fun _ => 0)) := (ho348 _ (by omega)).trans hc334
      have hc352 : F346 (B0 + 4) = some (zO 1 [.ref (B0 + 5), .int (nI 0)]) := (ho348 _ (zne hc335 hc332 (fun q => by cases q))).trans hc335
      have hc353 : F346 (B0 + 5) = some (zAI G 60 (fun _ => 0)) := (ho348 _ (by omega)).trans hc336
      have hc354 : F346 (B0 + 6) = some (zO 1 [.ref (B0 + 7), .int (nI 0)]) := (ho348 _ (zne hc337 hc332 (fun q => by cases q))).trans hc337
      have hc355 : F346 (B0 + 7) = some (zAI G 60 (fun _ => 0)) := (ho348 _ (by omega)).trans hc338
      have hc356 : F346 (B0 + 8) = some (zO 1 [.ref (B0 + 9), .int (nI 0)]) := (ho348 _ (zne hc339 hc332 (fun q => by cases q))).trans hc339
      have hc357 : F346 (B0 + 9) = some (zAI G 12 (fun _ => 0)) := (ho348 _ (by omega)).trans hc340
      have hc358 : F346 (B0 + 10) = some (zAI G 61 (fun _ => 0)) := (ho348 _ (by omega)).trans hc341
      have hc359 : F346 (B0 + 11) = some (zO 1 [.ref (B0 + 12), .int (nI 0)]) := (ho348 _ (zne hc342 hc332 (fun q => by cases q))).trans hc342
      have hc360 : F346 (B0 + 12) = some (zAI G 60 (fun _ => 0)) := (ho348 _ (by omega)).trans hc343
      have hc361 : F346 (B0 + 13) = some (zO 1 [.ref (B0 + 14), .int (nI 0)]) := (ho348 _ (zne hw330 hc332 (fun q => by cases q))).trans hw330
      have hc362 : F346 (B0 + 14) = some (zAI G 60 (fun _ => 0)) := (ho348 _ (by omega)).trans hc344
      refine lv_iinc (k := 0) (v := nI (0 + 1 + 1)) (lv' := [(1, .int (nI (0 + 1 + 1))), (0, .ref B0)]) hx hb dX2_init_105 hl rfl (nI_add (0 + 1) 1) (by decide) rfl (fun ls hl => ?_)
      refine lv_goto (tgt := 83) hx hb dX2_init_108 (by decide) ?_
      refine lv_iload_n hx hb dX2_init_83 rfl (lv_at hl 0 rfl) ?_
      refine lv_iconst (v := nI 4) hx hb dX2_init_84 (by decide) ?_
      refine z_icmp_ge (tgt := 111) (a := 0 + 1 + 1) (b := 4) hx hb dX2_init_85 (by decide) (by omega) (fun hq363 => ?_) (fun hq363 => ?_)
      · omega
      · refine lv_aload_n hx hb dX2_init_88 rfl (lv_at hl 1 rfl) ?_
        refine z_get hx hb hts hown zlX2 rfl 0 (by decide) (hts _ q40) rfl hI hc349 rfl dX2_init_89 ?_
        refine lv_iload_n hx hb dX2_init_92 rfl (lv_at hl 0 rfl) ?_
        refine z_new (ci := 1) hx hb hts hown zlX1 tyX1 tyX1_ok (hts _ q23) (hts _ q25) (hts _ q2) hI rfl (fs := [.null, .int 0]) (by intro j hj; rcases j with _ | _ | _ | _ | _ | _ | _ | j <;> first | rfl | omega) (Nat.le_of_ble_eq_true rfl) (Nat.le_of_ble_eq_true rfl) dX2_init_93 (fun q364 H hq365 hz366 F367 hw368 ho369 hI => ?_)
        obtain rfl : B0 + 15 = q364 := (hq365.trans hsz).symm
        have hsz : H.size = B0 + 16 := hz366
        have hc370 : F367 B0 = some (zO 2 [.ref (B0 + 1), .ref (B0 + 2), .ref (B0 + 3), .ref (B0 + 4), .ref (B0 + 6), .ref (B0 + 8), .ref (B0 + 10)]) := (ho369 _ (by omega)).trans hc349
        have hc371 : F367 (B0 + 1) = some (zA1 G 4 (va_up (va_up (fun _ => none) 0 (some (B0 + 11))) (0 + 1) (some (B0 + 13)))) := (ho369 _ (by omega)).trans hw347
        have hc372 : F367 (B0 + 2) = some (zA1 G 2 (fun _ => none)) := (ho369 _ (by omega)).trans hc350
        have hc373 : F367 (B0 + 3) = some (zAI G 100 (fun _ => 0)) := (ho369 _ (by omega)).trans hc351
        have hc374 : F367 (B0 + 4) = some (zO 1 [.ref (B0 + 5), .int (nI 0)]) := (ho369 _ (by omega)).trans hc352
        have hc375 : F367 (B0 + 5) = some (zAI G 60 (fun _ => 0)) := (ho369 _ (by omega)).trans hc353
        have hc376 : F367 (B0 + 6) = some (zO 1 [.ref (B0 + 7), .int (nI 0)]) := (ho369 _ (by omega)).trans hc354
        have hc377 : F367 (B0 + 7) = some (zAI G 60 (fun _ => 0)) := (ho369 _ (by omega)).trans hc355
        have hc378 : F367 (B0 + 8) = some (zO 1 [.ref (B0 + 9), .int (nI 0)]) := (ho369 _ (by omega)).trans hc356
        have hc379 : F367 (B0 + 9) = some (zAI G 12 (fun _ => 0)) := (ho369 _ (by omega)).trans hc357
        have hc380 : F367 (B0 + 10) = some (zAI G 61 (fun _ => 0)) := (ho369 _ (by omega)).trans hc358
        have hc381 : F367 (B0 + 11) = some (zO 1 [.ref (B0 + 12), .int (nI 0)]) := (ho369 _ (by omega)).trans hc359
        have hc382 : F367 (B0 + 12) = some (zAI G 60 (fun _ => 0)) := (ho369 _ (by omega)).trans hc360
        have hc383 : F367 (B0 + 13) = some (zO 1 [.ref (B0 + 14), .int (nI 0)]) := (ho369 _ (by omega)).trans hc361
        have hc384 : F367 (B0 + 14) = some (zAI G 60 (fun _ => 0)) := (ho369 _ (by omega)).trans hc362
        refine lv_dup hx hb dX2_init_96 rfl ?_
        refine lv_bipush (v := nI 60) hx hb dX2_init_97 (by decide) ?_
        refine z_newI (N' := 60) hx hb (hts _ q39) hI (by decide) (Nat.le_of_ble_eq_true rfl) (Nat.le_of_ble_eq_true rfl) dX2_init_99 (fun q385 H hq386 hz387 F388 hw389 ho390 hI => ?_)
        obtain rfl : B0 + 16 = q385 := (hq386.trans hsz).symm
        have hsz : H.size = B0 + 17 := hz387
        have hc391 : F388 B0 = some (zO 2 [.ref (B0 + 1), .ref (B0 + 2), .ref (B0 + 3), .ref (B0 + 4), .ref (B0 + 6), .ref (B0 + 8), .ref (B0 + 10)]) := (ho390 _ (by omega)).trans hc370
        have hc392 : F388 (B0 + 1) = some (zA1 G 4 (va_up (va_up (fun _ => none) 0 (some (B0 + 11))) (0 + 1) (some (B0 + 13)))) := (ho390 _ (by omega)).trans hc371
        have hc393 : F388 (B0 + 2) = some (zA1 G 2 (fun _ => none)) := (ho390 _ (by omega)).trans hc372
        have hc394 : F388 (B0 + 3) = some (zAI G 100 (fun _ => 0)) := (ho390 _ (by omega)).trans hc373
        have hc395 : F388 (B0 + 4) = some (zO 1 [.ref (B0 + 5), .int (nI 0)]) := (ho390 _ (by omega)).trans hc374
        have hc396 : F388 (B0 + 5) = some (zAI G 60 (fun _ => 0)) := (ho390 _ (by omega)).trans hc375
        have hc397 : F388 (B0 + 6) = some (zO 1 [.ref (B0 + 7), .int (nI 0)]) := (ho390 _ (by omega)).trans hc376
        have hc398 : F388 (B0 + 7) = some (zAI G 60 (fun _ => 0)) := (ho390 _ (by omega)).trans hc377
        have hc399 : F388 (B0 + 8) = some (zO 1 [.ref (B0 + 9), .int (nI 0)]) := (ho390 _ (by omega)).trans hc378
        have hc400 : F388 (B0 + 9) = some (zAI G 12 (fun _ => 0)) := (ho390 _ (by omega)).trans hc379
        have hc401 : F388 (B0 + 10) = some (zAI G 61 (fun _ => 0)) := (ho390 _ (by omega)).trans hc380
        have hc402 : F388 (B0 + 11) = some (zO 1 [.ref (B0 + 12), .int (nI 0)]) := (ho390 _ (by omega)).trans hc381
        have hc403 : F388 (B0 + 12) = some (zAI G 60 (fun _ => 0)) := (ho390 _ (by omega)).trans hc382
        have hc404 : F388 (B0 + 13) = some (zO 1 [.ref (B0 + 14), .int (nI 0)]) := (ho390 _ (by omega)).trans hc383
        have hc405 : F388 (B0 + 14) = some (zAI G 60 (fun _ => 0)) := (ho390 _ (by omega)).trans hc384
        have hc406 : F388 (B0 + 15) = some (zO 1 [.null, .int (nI 0)]) := (ho390 _ (by omega)).trans hw368
        refine z_callvN hI (z_InN (As := [.ref (B0 + 16)]) (rest := [.ref (B0 + 15), .int (nI (0 + 1 + 1)), .ref (B0 + 1)]) ⟨hx, hb, hml, hown, hts⟩ hI hsz (c_X1_init l G B0 F388 (B0 + 15) (B0 + 16) (B0 + 17) hc406) (z_cwI vX1_init hts q26 ⟨Nat.le_of_ble_eq_true rfl, Nat.le_of_ble_eq_true rfl⟩) rfl hl.1 rfl (lv_room (Nat.le_of_ble_eq_true rfl)) dX2_init_101 ⟨Nat.le_of_ble_eq_true rfl, Nat.le_of_ble_eq_true rfl⟩) (fun F407 H locs hp408 hI hz409 => ?_)
        obtain ⟨hw411, ho410⟩ := hp408
        have hsz := hz409
        have hc412 : F407 B0 = some (zO 2 [.ref (B0 + 1), .ref (B0 + 2), .ref (B0 + 3), .ref (B0 + 4), .ref (B0 + 6), .ref (B0 + 8), .ref (B0 + 10)]) := (ho410 _ (by omega)).trans hc391
        have hc413 : F407 (B0 + 1) = some (zA1 G 4 (va_up (va_up (fun _ => none) 0 (some (B0 + 11))) (0 + 1) (some (B0 + 13)))) := (ho410 _ (by omega)).trans hc392
        have hc414 : F407 (B0 + 2) = some (zA1 G 2 (fun _ => none)) := (ho410 _ (by omega)).trans hc393
        have hc415 : F407 (B0 + 3) = some (zAI G 100 (fun _ => 0)) := (ho410 _ (by omega)).trans hc394
        have hc416 : F407 (B0 + 4) = some (zO 1 [.ref (B0 + 5), .int (nI 0)]) := (ho410 _ (by omega)).trans hc395
        have hc417 : F407 (B0 + 5) = some (zAI G 60 (fun _ => 0)) := (ho410 _ (by omega)).trans hc396
        have hc418 : F407 (B0 + 6) = some (zO 1 [.ref (B0 + 7), .int (nI 0)]) := (ho410 _ (by omega)).trans hc397
        have hc419 : F407 (B0 + 7) = some (zAI G 60 (fun _ => 0)) := (ho410 _ (by omega)).trans hc398
        have hc420 : F407 (B0 + 8) = some (zO 1 [.ref (B0 + 9), .int (nI 0)]) := (ho410 _ (by omega)).trans hc399
        have hc421 : F407 (B0 + 9) = some (zAI G 12 (fun _ => 0)) := (ho410 _ (by omega)).trans hc400
        have hc422 : F407 (B0 + 10) = some (zAI G 61 (fun _ => 0)) := (ho410 _ (by omega)).trans hc401
        have hc423 : F407 (B0 + 11) = some (zO 1 [.ref (B0 + 12), .int (nI 0)]) := (ho410 _ (by omega)).trans hc402
        have hc424 : F407 (B0 + 12) = some (zAI G 60 (fun _ => 0)) := (ho410 _ (by omega)).trans hc403
        have hc425 : F407 (B0 + 13) = some (zO 1 [.ref (B0 + 14), .int (nI 0)]) := (ho410 _ (by omega)).trans hc404
        have hc426 : F407 (B0 + 14) = some (zAI G 60 (fun _ => 0)) := (ho410 _ (by omega)).trans hc405
        have hc427 : F407 (B0 + 16) = some (zAI G 60 (fun _ => 0)) := (ho410 _ (by omega)).trans hw389
        refine z_ast 1 1 (C := G.2 1) rfl rfl hx hb hI hc413 hw411 (k := 0 + 1 + 1) (by omega) (by decide) dX2_init_104 (fun H locs hz428 F429 hw430 ho431 hI => ?_)
        have hsz : H.size = B0 + 17 := hz428.trans hsz
        have hc432 : F429 B0 = some (zO 2 [.ref (B0 + 1), .ref (B0 + 2), .ref (B0 + 3), .ref (B0 + 4), .ref (B0 + 6), .ref (B0 + 8), .ref (B0 + 10)]) := (ho431 _ (zne hc412 hc413 (fun q => by cases q))).trans hc412
        have hc433 : F429 (B0 + 2) = some (zA1 G 2 (fun _ => none)) := (ho431 _ (by omega)).trans hc414
        have hc434 : F429 (B0 + 3) = some (zAI G 100 (fun _ => 0)) := (ho431 _ (by omega)).trans hc415
        have hc435 : F429 (B0 + 4) = some (zO 1 [.ref (B0 + 5), .int (nI 0)]) := (ho431 _ (zne hc416 hc413 (fun q => by cases q))).trans hc416
        have hc436 : F429 (B0 + 5) = some (zAI G 60 (fun _ => 0)) := (ho431 _ (by omega)).trans hc417
        have hc437 : F429 (B0 + 6) = some (zO 1 [.ref (B0 + 7), .int (nI 0)]) := (ho431 _ (zne hc418 hc413 (fun q => by cases q))).trans hc418
        have hc438 : F429 (B0 + 7) = some (zAI G 60 (fun _ => 0)) := (ho431 _ (by omega)).trans hc419
        have hc439 : F429 (B0 + 8) = some (zO 1 [.ref (B0 + 9), .int (nI 0)]) := (ho431 _ (zne hc420 hc413 (fun q => by cases q))).trans hc420
        have hc440 : F429 (B0 + 9) = some (zAI G 12 (fun _ => 0)) := (ho431 _ (by omega)).trans hc421
        have hc441 : F429 (B0 + 10) = some (zAI G 61 (fun _ => 0)) := (ho431 _ (by omega)).trans hc422
        have hc442 : F429 (B0 + 11) = some (zO 1 [.ref (B0 + 12), .int (nI 0)]) := (ho431 _ (zne hc423 hc413 (fun q => by cases q))).trans hc423
        have hc443 : F429 (B0 + 12) = some (zAI G 60 (fun _ => 0)) := (ho431 _ (by omega)).trans hc424
        have hc444 : F429 (B0 + 13) = some (zO 1 [.ref (B0 + 14), .int (nI 0)]) := (ho431 _ (zne hc425 hc413 (fun q => by cases q))).trans hc425
        have hc445 : F429 (B0 + 14) = some (zAI G 60 (fun _ => 0)) := (ho431 _ (by omega)).trans hc426
        have hc446 : F429 (B0 + 15) = some (zO 1 [.ref (B0 + 16), .int (nI 0)]) := (ho431 _ (zne hw411 hc413 (fun q => by cases q))).trans hw411
        have hc447 : F429 (B0 + 16) = some (zAI G 60 (fun _ => 0)) := (ho431 _ (by omega)).trans hc427
        refine lv_iinc (k := 0) (v := nI (0 + 1 + 1 + 1)) (lv' := [(1, .int (nI (0 + 1 + 1 + 1))), (0, .ref B0)]) hx hb dX2_init_105 hl rfl (nI_add (0 + 1 + 1) 1) (by decide) rfl (fun ls hl => ?_)
        refine lv_goto (tgt := 83) hx hb dX2_init_108 (by decide) ?_
        refine lv_iload_n hx hb dX2_init_83 rfl (lv_at hl 0 rfl) ?_
        refine lv_iconst (v := nI 4) hx hb dX2_init_84 (by decide) ?_
        refine z_icmp_ge (tgt := 111) (a := 0 + 1 + 1 + 1) (b := 4) hx hb dX2_init_85 (by decide) (by omega) (fun hq448 => ?_) (fun hq448 => ?_)
        · omega
        · refine lv_aload_n hx hb dX2_init_88 rfl (lv_at hl 1 rfl) ?_
          refine z_get hx hb hts hown zlX2 rfl 0 (by decide) (hts _ q40) rfl hI hc432 rfl dX2_init_89 ?_
          refine lv_iload_n hx hb dX2_init_92 rfl (lv_at hl 0 rfl) ?_
          refine z_new (ci := 1) hx hb hts hown zlX1 tyX1 tyX1_ok (hts _ q23) (hts _ q25) (hts _ q2) hI rfl (fs := [.null, .int 0]) (by intro j hj; rcases j with _ | _ | _ | _ | _ | _ | _ | j <;> first | rfl | omega) (Nat.le_of_ble_eq_true rfl) (Nat.le_of_ble_eq_true rfl) dX2_init_93 (fun q449 H hq450 hz451 F452 hw453 ho454 hI => ?_)
          obtain rfl : B0 + 17 = q449 := (hq450.trans hsz).symm
          have hsz : H.size = B0 + 18 := hz451
          have hc455 : F452 B0 = some (zO 2 [.ref (B0 + 1), .ref (B0 + 2), .ref (B0 + 3), .ref (B0 + 4), .ref (B0 + 6), .ref (B0 + 8), .ref (B0 + 10)]) := (ho454 _ (by omega)).trans hc432
          have hc456 : F452 (B0 + 1) = some (zA1 G 4 (va_up (va_up (va_up (fun _ => none) 0 (some (B0 + 11))) (0 + 1) (some (B0 + 13))) (0 + 1 + 1) (some (B0 + 15)))) := (ho454 _ (by omega)).trans hw430
          have hc457 : F452 (B0 + 2) = some (zA1 G 2 (fun _ => none)) := (ho454 _ (by omega)).trans hc433
          have hc458 : F452 (B0 + 3) = some (zAI G 100 (fun _ => 0)) := (ho454 _ (by omega)).trans hc434
          have hc459 : F452 (B0 + 4) = some (zO 1 [.ref (B0 + 5), .int (nI 0)]) := (ho454 _ (by omega)).trans hc435
          have hc460 : F452 (B0 + 5) = some (zAI G 60 (fun _ => 0)) := (ho454 _ (by omega)).trans hc436
          have hc461 : F452 (B0 + 6) = some (zO 1 [.ref (B0 + 7), .int (nI 0)]) := (ho454 _ (by omega)).trans hc437
          have hc462 : F452 (B0 + 7) = some (zAI G 60 (fun _ => 0)) := (ho454 _ (by omega)).trans hc438
          have hc463 : F452 (B0 + 8) = some (zO 1 [.ref (B0 + 9), .int (nI 0)]) := (ho454 _ (by omega)).trans hc439
          have hc464 : F452 (B0 + 9) = some (zAI G 12 (fun _ => 0)) := (ho454 _ (by omega)).trans hc440
          have hc465 : F452 (B0 + 10) = some (zAI G 61 (fun _ => 0)) := (ho454 _ (by omega)).trans hc441
          have hc466 : F452 (B0 + 11) = some (zO 1 [.ref (B0 + 12), .int (nI 0)]) := (ho454 _ (by omega)).trans hc442
          have hc467 : F452 (B0 + 12) = some (zAI G 60 (fun _ => 0)) := (ho454 _ (by omega)).trans hc443
          have hc468 : F452 (B0 + 13) = some (zO 1 [.ref (B0 + 14), .int (nI 0)]) := (ho454 _ (by omega)).trans hc444
          have hc469 : F452 (B0 + 14) = some (zAI G 60 (fun _ => 0)) := (ho454 _ (by omega)).trans hc445
          have hc470 : F452 (B0 + 15) = some (zO 1 [.ref (B0 + 16), .int (nI 0)]) := (ho454 _ (by omega)).trans hc446
          have hc471 : F452 (B0 + 16) = some (zAI G 60 (fun _ => 0)) := (ho454 _ (by omega)).trans hc447
          refine lv_dup hx hb dX2_init_96 rfl ?_
          refine lv_bipush (v := nI 60) hx hb dX2_init_97 (by decide) ?_
          refine z_newI (N' := 60) hx hb (hts _ q39) hI (by decide) (Nat.le_of_ble_eq_true rfl) (Nat.le_of_ble_eq_true rfl) dX2_init_99 (fun q472 H hq473 hz474 F475 hw476 ho477 hI => ?_)
          obtain rfl : B0 + 18 = q472 := (hq473.trans hsz).symm
          have hsz : H.size = B0 + 19 := hz474
          have hc478 : F475 B0 = some (zO 2 [.ref (B0 + 1), .ref (B0 + 2), .ref (B0 + 3), .ref (B0 + 4), .ref (B0 + 6), .ref (B0 + 8), .ref (B0 + 10)]) := (ho477 _ (by omega)).trans hc455
          have hc479 : F475 (B0 + 1) = some (zA1 G 4 (va_up (va_up (va_up (fun _ => none) 0 (some (B0 + 11))) (0 + 1) (some (B0 + 13))) (0 + 1 + 1) (some (B0 + 15)))) := (ho477 _ (by omega)).trans hc456
          have hc480 : F475 (B0 + 2) = some (zA1 G 2 (fun _ => none)) := (ho477 _ (by omega)).trans hc457
          have hc481 : F475 (B0 + 3) = some (zAI G 100 (fun _ => 0)) := (ho477 _ (by omega)).trans hc458
          have hc482 : F475 (B0 + 4) = some (zO 1 [.ref (B0 + 5), .int (nI 0)]) := (ho477 _ (by omega)).trans hc459
          have hc483 : F475 (B0 + 5) = some (zAI G 60 (fun _ => 0)) := (ho477 _ (by omega)).trans hc460
          have hc484 : F475 (B0 + 6) = some (zO 1 [.ref (B0 + 7), .int (nI 0)]) := (ho477 _ (by omega)).trans hc461
          have hc485 : F475 (B0 + 7) = some (zAI G 60 (fun _ => 0)) := (ho477 _ (by omega)).trans hc462
          have hc486 : F475 (B0 + 8) = some (zO 1 [.ref (B0 + 9), .int (nI 0)]) := (ho477 _ (by omega)).trans hc463
          have hc487 : F475 (B0 + 9) = some (zAI G 12 (fun _ => 0)) := (ho477 _ (by omega)).trans hc464
          have hc488 : F475 (B0 + 10) = some (zAI G 61 (fun _ => 0)) := (ho477 _ (by omega)).trans hc465
          have hc489 : F475 (B0 + 11) = some (zO 1 [.ref (B0 + 12), .int (nI 0)]) := (ho477 _ (by omega)).trans hc466
          have hc490 : F475 (B0 + 12) = some (zAI G 60 (fun _ => 0)) := (ho477 _ (by omega)).trans hc467
          have hc491 : F475 (B0 + 13) = some (zO 1 [.ref (B0 + 14), .int (nI 0)]) := (ho477 _ (by omega)).trans hc468
          have hc492 : F475 (B0 + 14) = some (zAI G 60 (fun _ => 0)) := (ho477 _ (by omega)).trans hc469
          have hc493 : F475 (B0 + 15) = some (zO 1 [.ref (B0 + 16), .int (nI 0)]) := (ho477 _ (by omega)).trans hc470
          have hc494 : F475 (B0 + 16) = some (zAI G 60 (fun _ => 0)) := (ho477 _ (by omega)).trans hc471
          have hc495 : F475 (B0 + 17) = some (zO 1 [.null, .int (nI 0)]) := (ho477 _ (by omega)).trans hw453
          refine z_callvN hI (z_InN (As := [.ref (B0 + 18)]) (rest := [.ref (B0 + 17), .int (nI (0 + 1 + 1 + 1)), .ref (B0 + 1)]) ⟨hx, hb, hml, hown, hts⟩ hI hsz (c_X1_init l G B0 F475 (B0 + 17) (B0 + 18) (B0 + 19) hc495) (z_cwI vX1_init hts q26 ⟨Nat.le_of_ble_eq_true rfl, Nat.le_of_ble_eq_true rfl⟩) rfl hl.1 rfl (lv_room (Nat.le_of_ble_eq_true rfl)) dX2_init_101 ⟨Nat.le_of_ble_eq_true rfl, Nat.le_of_ble_eq_true rfl⟩) (fun F496 H locs hp497 hI hz498 => ?_)
          obtain ⟨hw500, ho499⟩ := hp497
          have hsz := hz498
          have hc501 : F496 B0 = some (zO 2 [.ref (B0 + 1), .ref (B0 + 2), .ref (B0 + 3), .ref (B0 + 4), .ref (B0 + 6), .ref (B0 + 8), .ref (B0 + 10)]) := (ho499 _ (by omega)).trans hc478
          have hc502 : F496 (B0 + 1) = some (zA1 G 4 (va_up (va_up (va_up (fun _ => none) 0 (some (B0 + 11))) (0 + 1) (some (B0 + 13))) (0 + 1 + 1) (some (B0 + 15)))) := (ho499 _ (by omega)).trans hc479
          have hc503 : F496 (B0 + 2) = some (zA1 G 2 (fun _ => none)) := (ho499 _ (by omega)).trans hc480
          have hc504 : F496 (B0 + 3) = some (zAI G 100 (fun _ => 0)) := (ho499 _ (by omega)).trans hc481
          have hc505 : F496 (B0 + 4) = some (zO 1 [.ref (B0 + 5), .int (nI 0)]) := (ho499 _ (by omega)).trans hc482
          have hc506 : F496 (B0 + 5) = some (zAI G 60 (fun _ => 0)) := (ho499 _ (by omega)).trans hc483
          have hc507 : F496 (B0 + 6) = some (zO 1 [.ref (B0 + 7), .int (nI 0)]) := (ho499 _ (by omega)).trans hc484
          have hc508 : F496 (B0 + 7) = some (zAI G 60 (fun _ => 0)) := (ho499 _ (by omega)).trans hc485
          have hc509 : F496 (B0 + 8) = some (zO 1 [.ref (B0 + 9), .int (nI 0)]) := (ho499 _ (by omega)).trans hc486
          have hc510 : F496 (B0 + 9) = some (zAI G 12 (fun _ => 0)) := (ho499 _ (by omega)).trans hc487
          have hc511 : F496 (B0 + 10) = some (zAI G 61 (fun _ => 0)) := (ho499 _ (by omega)).trans hc488
          have hc512 : F496 (B0 + 11) = some (zO 1 [.ref (B0 + 12), .int (nI 0)]) := (ho499 _ (by omega)).trans hc489
          have hc513 : F496 (B0 + 12) = some (zAI G 60 (fun _ => 0)) := (ho499 _ (by omega)).trans hc490
          have hc514 : F496 (B0 + 13) = some (zO 1 [.ref (B0 + 14), .int (nI 0)]) := (ho499 _ (by omega)).trans hc491
          have hc515 : F496 (B0 + 14) = some (zAI G 60 (fun _ => 0)) := (ho499 _ (by omega)).trans hc492
          have hc516 : F496 (B0 + 15) = some (zO 1 [.ref (B0 + 16), .int (nI 0)]) := (ho499 _ (by omega)).trans hc493
          have hc517 : F496 (B0 + 16) = some (zAI G 60 (fun _ => 0)) := (ho499 _ (by omega)).trans hc494
          have hc518 : F496 (B0 + 18) = some (zAI G 60 (fun _ => 0)) := (ho499 _ (by omega)).trans hw476
          refine z_ast 1 1 (C := G.2 1) rfl rfl hx hb hI hc502 hw500 (k := 0 + 1 + 1 + 1) (by omega) (by decide) dX2_init_104 (fun H locs hz519 F520 hw521 ho522 hI => ?_)
          have hsz : H.size = B0 + 19 := hz519.trans hsz
          have hc523 : F520 B0 = some (zO 2 [.ref (B0 + 1), .ref (B0 + 2), .ref (B0 + 3), .ref (B0 + 4), .ref (B0 + 6), .ref (B0 + 8), .ref (B0 + 10)]) := (ho522 _ (zne hc501 hc502 (fun q => by cases q))).trans hc501
          have hc524 : F520 (B0 + 2) = some (zA1 G 2 (fun _ => none)) := (ho522 _ (by omega)).trans hc503
          have hc525 : F520 (B0 + 3) = some (zAI G 100 (fun _ => 0)) := (ho522 _ (by omega)).trans hc504
          have hc526 : F520 (B0 + 4) = some (zO 1 [.ref (B0 + 5), .int (nI 0)]) := (ho522 _ (zne hc505 hc502 (fun q => by cases q))).trans hc505
          have hc527 : F520 (B0 + 5) = some (zAI G 60 (fun _ => 0)) := (ho522 _ (by omega)).trans hc506
          have hc528 : F520 (B0 + 6) = some (zO 1 [.ref (B0 + 7), .int (nI 0)]) := (ho522 _ (zne hc507 hc502 (fun q => by cases q))).trans hc507
          have hc529 : F520 (B0 + 7) = some (zAI G 60 (fun _ => 0)) := (ho522 _ (by omega)).trans hc508
          have hc530 : F520 (B0 + 8) = some (zO 1 [.ref (B0 + 9), .int (nI 0)]) := (ho522 _ (zne hc509 hc502 (fun q => by cases q))).trans hc509
          have hc531 : F520 (B0 + 9) = some (zAI G 12 (fun _ => 0)) := (ho522 _ (by omega)).trans hc510
          have hc532 : F520 (B0 + 10) = some (zAI G 61 (fun _ => 0)) := (ho522 _ (by omega)).trans hc511
          have hc533 : F520 (B0 + 11) = some (zO 1 [.ref (B0 + 12), .int (nI 0)]) := (ho522 _ (zne hc512 hc502 (fun q => by cases q))).trans hc512
          have hc534 : F520 (B0 + 12) = some (zAI G 60 (fun _ => 0)) := (ho522 _ (by omega)).trans hc513
          have hc535 : F520 (B0 + 13) = some (zO 1 [.ref (B0 + 14), .int (nI 0)]) := (ho522 _ (zne hc514 hc502 (fun q => by cases q))).trans hc514
          have hc536 : F520 (B0 + 14) = some (zAI G 60 (fun _ => 0)) := (ho522 _ (by omega)).trans hc515
          have hc537 : F520 (B0 + 15) = some (zO 1 [.ref (B0 + 16), .int (nI 0)]) := (ho522 _ (zne hc516 hc502 (fun q => by cases q))).trans hc516
          have hc538 : F520 (B0 + 16) = some (zAI G 60 (fun _ => 0)) := (ho522 _ (by omega)).trans hc517
          have hc539 : F520 (B0 + 17) = some (zO 1 [.ref (B0 + 18), .int (nI 0)]) := (ho522 _ (zne hw500 hc502 (fun q => by cases q))).trans hw500
          have hc540 : F520 (B0 + 18) = some (zAI G 60 (fun _ => 0)) := (ho522 _ (by omega)).trans hc518
          refine lv_iinc (k := 0) (v := nI (0 + 1 + 1 + 1 + 1)) (lv' := [(1, .int (nI (0 + 1 + 1 + 1 + 1))), (0, .ref B0)]) hx hb dX2_init_105 hl rfl (nI_add (0 + 1 + 1 + 1) 1) (by decide) rfl (fun ls hl => ?_)
          refine lv_goto (tgt := 83) hx hb dX2_init_108 (by decide) ?_
          refine lv_iload_n hx hb dX2_init_83 rfl (lv_at hl 0 rfl) ?_
          refine lv_iconst (v := nI 4) hx hb dX2_init_84 (by decide) ?_
          refine z_icmp_ge (tgt := 111) (a := 0 + 1 + 1 + 1 + 1) (b := 4) hx hb dX2_init_85 (by decide) (by omega) (fun hq541 => ?_) (fun hq541 => ?_)
          · refine lv_iconst (v := nI 0) hx hb dX2_init_111 (by decide) ?_
            refine lv_istore_n (lv' := [(1, .int (nI 0)), (0, .ref B0)]) hx hb dX2_init_112 rfl hl (by decide) rfl (fun ls hl => ?_)
            refine lv_iload_n hx hb dX2_init_113 rfl (lv_at hl 0 rfl) ?_
            refine lv_iconst (v := nI 2) hx hb dX2_init_114 (by decide) ?_
            refine z_icmp_ge (tgt := 141) (a := 0) (b := 2) hx hb dX2_init_115 (by decide) (by omega) (fun hq542 => ?_) (fun hq542 => ?_)
            · omega
            · refine lv_aload_n hx hb dX2_init_118 rfl (lv_at hl 1 rfl) ?_
              refine z_get hx hb hts hown zlX2 rfl 1 (by decide) (hts _ q41) rfl hI hc523 rfl dX2_init_119 ?_
              refine lv_iload_n hx hb dX2_init_122 rfl (lv_at hl 0 rfl) ?_
              refine z_new (ci := 1) hx hb hts hown zlX1 tyX1 tyX1_ok (hts _ q23) (hts _ q25) (hts _ q2) hI rfl (fs := [.null, .int 0]) (by intro j hj; rcases j with _ | _ | _ | _ | _ | _ | _ | j <;> first | rfl | omega) (Nat.le_of_ble_eq_true rfl) (Nat.le_of_ble_eq_true rfl) dX2_init_123 (fun q543 H hq544 hz545 F546 hw547 ho548 hI => ?_)
              obtain rfl : B0 + 19 = q543 := (hq544.trans hsz).symm
              have hsz : H.size = B0 + 20 := hz545
              have hc549 : F546 B0 = some (zO 2 [.ref (B0 + 1), .ref (B0 + 2), .ref (B0 + 3), .ref (B0 + 4), .ref (B0 + 6), .ref (B0 + 8), .ref (B0 + 10)]) := (ho548 _ (by omega)).trans hc523
              have hc550 : F546 (B0 + 1) = some (zA1 G 4 (va_up (va_up (va_up (va_up (fun _ => none) 0 (some (B0 + 11))) (0 + 1) (some (B0 + 13))) (0 + 1 + 1) (some (B0 + 15))) (0 + 1 + 1 + 1) (some (B0 + 17)))) := (ho548 _ (by omega)).trans hw521
              have hc551 : F546 (B0 + 2) = some (zA1 G 2 (fun _ => none)) := (ho548 _ (by omega)).trans hc524
              have hc552 : F546 (B0 + 3) = some (zAI G 100 (fun _ => 0)) := (ho548 _ (by omega)).trans hc525
              have hc553 : F546 (B0 + 4) = some (zO 1 [.ref (B0 + 5), .int (nI 0)]) := (ho548 _ (by omega)).trans hc526
              have hc554 : F546 (B0 + 5) = some (zAI G 60 (fun _ => 0)) := (ho548 _ (by omega)).trans hc527
              have hc555 : F546 (B0 + 6) = some (zO 1 [.ref (B0 + 7), .int (nI 0)]) := (ho548 _ (by omega)).trans hc528
              have hc556 : F546 (B0 + 7) = some (zAI G 60 (fun _ => 0)) := (ho548 _ (by omega)).trans hc529
              have hc557 : F546 (B0 + 8) = some (zO 1 [.ref (B0 + 9), .int (nI 0)]) := (ho548 _ (by omega)).trans hc530
              have hc558 : F546 (B0 + 9) = some (zAI G 12 (fun _ => 0)) := (ho548 _ (by omega)).trans hc531
              have hc559 : F546 (B0 + 10) = some (zAI G 61 (fun _ => 0)) := (ho548 _ (by omega)).trans hc532
              have hc560 : F546 (B0 + 11) = some (zO 1 [.ref (B0 + 12), .int (nI 0)]) := (ho548 _ (by omega)).trans hc533
              have hc561 : F546 (B0 + 12) = some (zAI G 60 (fun _ => 0)) := (ho548 _ (by omega)).trans hc534
              have hc562 : F546 (B0 + 13) = some (zO 1 [.ref (B0 + 14), .int (nI 0)]) := (ho548 _ (by omega)).trans hc535
              have hc563 : F546 (B0 + 14) = some (zAI G 60 (fun _ => 0)) := (ho548 _ (by omega)).trans hc536
              have hc564 : F546 (B0 + 15) = some (zO 1 [.ref (B0 + 16), .int (nI 0)]) := (ho548 _ (by omega)).trans hc537
              have hc565 : F546 (B0 + 16) = some (zAI G 60 (fun _ => 0)) := (ho548 _ (by omega)).trans hc538
              have hc566 : F546 (B0 + 17) = some (zO 1 [.ref (B0 + 18), .int (nI 0)]) := (ho548 _ (by omega)).trans hc539
              have hc567 : F546 (B0 + 18) = some (zAI G 60 (fun _ => 0)) := (ho548 _ (by omega)).trans hc540
              refine lv_dup hx hb dX2_init_126 rfl ?_
              refine lv_bipush (v := nI 12) hx hb dX2_init_127 (by decide) ?_
              refine z_newI (N' := 12) hx hb (hts _ q39) hI (by decide) (Nat.le_of_ble_eq_true rfl) (Nat.le_of_ble_eq_true rfl) dX2_init_129 (fun q568 H hq569 hz570 F571 hw572 ho573 hI => ?_)
              obtain rfl : B0 + 20 = q568 := (hq569.trans hsz).symm
              have hsz : H.size = B0 + 21 := hz570
              have hc574 : F571 B0 = some (zO 2 [.ref (B0 + 1), .ref (B0 + 2), .ref (B0 + 3), .ref (B0 + 4), .ref (B0 + 6), .ref (B0 + 8), .ref (B0 + 10)]) := (ho573 _ (by omega)).trans hc549
              have hc575 : F571 (B0 + 1) = some (zA1 G 4 (va_up (va_up (va_up (va_up (fun _ => none) 0 (some (B0 + 11))) (0 + 1) (some (B0 + 13))) (0 + 1 + 1) (some (B0 + 15))) (0 + 1 + 1 + 1) (some (B0 + 17)))) := (ho573 _ (by omega)).trans hc550
              have hc576 : F571 (B0 + 2) = some (zA1 G 2 (fun _ => none)) := (ho573 _ (by omega)).trans hc551
              have hc577 : F571 (B0 + 3) = some (zAI G 100 (fun _ => 0)) := (ho573 _ (by omega)).trans hc552
              have hc578 : F571 (B0 + 4) = some (zO 1 [.ref (B0 + 5), .int (nI 0)]) := (ho573 _ (by omega)).trans hc553
              have hc579 : F571 (B0 + 5) = some (zAI G 60 (fun _ => 0)) := (ho573 _ (by omega)).trans hc554
              have hc580 : F571 (B0 + 6) = some (zO 1 [.ref (B0 + 7), .int (nI 0)]) := (ho573 _ (by omega)).trans hc555
              have hc581 : F571 (B0 + 7) = some (zAI G 60 (fun _ => 0)) := (ho573 _ (by omega)).trans hc556
              have hc582 : F571 (B0 + 8) = some (zO 1 [.ref (B0 + 9), .int (nI 0)]) := (ho573 _ (by omega)).trans hc557
              have hc583 : F571 (B0 + 9) = some (zAI G 12 (fun _ => 0)) := (ho573 _ (by omega)).trans hc558
              have hc584 : F571 (B0 + 10) = some (zAI G 61 (fun _ => 0)) := (ho573 _ (by omega)).trans hc559
              have hc585 : F571 (B0 + 11) = some (zO 1 [.ref (B0 + 12), .int (nI 0)]) := (ho573 _ (by omega)).trans hc560
              have hc586 : F571 (B0 + 12) = some (zAI G 60 (fun _ => 0)) := (ho573 _ (by omega)).trans hc561
              have hc587 : F571 (B0 + 13) = some (zO 1 [.ref (B0 + 14), .int (nI 0)]) := (ho573 _ (by omega)).trans hc562
              have hc588 : F571 (B0 + 14) = some (zAI G 60 (fun _ => 0)) := (ho573 _ (by omega)).trans hc563
              have hc589 : F571 (B0 + 15) = some (zO 1 [.ref (B0 + 16), .int (nI 0)]) := (ho573 _ (by omega)).trans hc564
              have hc590 : F571 (B0 + 16) = some (zAI G 60 (fun _ => 0)) := (ho573 _ (by omega)).trans hc565
              have hc591 : F571 (B0 + 17) = some (zO 1 [.ref (B0 + 18), .int (nI 0)]) := (ho573 _ (by omega)).trans hc566
              have hc592 : F571 (B0 + 18) = some (zAI G 60 (fun _ => 0)) := (ho573 _ (by omega)).trans hc567
              have hc593 : F571 (B0 + 19) = some (zO 1 [.null, .int (nI 0)]) := (ho573 _ (by omega)).trans hw547
              refine z_callvN hI (z_InN (As := [.ref (B0 + 20)]) (rest := [.ref (B0 + 19), .int (nI 0), .ref (B0 + 2)]) ⟨hx, hb, hml, hown, hts⟩ hI hsz (c_X1_init l G B0 F571 (B0 + 19) (B0 + 20) (B0 + 21) hc593) (z_cwI vX1_init hts q26 ⟨Nat.le_of_ble_eq_true rfl, Nat.le_of_ble_eq_true rfl⟩) rfl hl.1 rfl (lv_room (Nat.le_of_ble_eq_true rfl)) dX2_init_131 ⟨Nat.le_of_ble_eq_true rfl, Nat.le_of_ble_eq_true rfl⟩) (fun F594 H locs hp595 hI hz596 => ?_)
              obtain ⟨hw598, ho597⟩ := hp595
              have hsz := hz596
              have hc599 : F594 B0 = some (zO 2 [.ref (B0 + 1), .ref (B0 + 2), .ref (B0 + 3), .ref (B0 + 4), .ref (B0 + 6), .ref (B0 + 8), .ref (B0 + 10)]) := (ho597 _ (by omega)).trans hc574
              have hc600 : F594 (B0 + 1) = some (zA1 G 4 (va_up (va_up (va_up (va_up (fun _ => none) 0 (some (B0 + 11))) (0 + 1) (some (B0 + 13))) (0 + 1 + 1) (some (B0 + 15))) (0 + 1 + 1 + 1) (some (B0 + 17)))) := (ho597 _ (by omega)).trans hc575
              have hc601 : F594 (B0 + 2) = some (zA1 G 2 (fun _ => none)) := (ho597 _ (by omega)).trans hc576
              have hc602 : F594 (B0 + 3) = some (zAI G 100 (fun _ => 0)) := (ho597 _ (by omega)).trans hc577
              have hc603 : F594 (B0 + 4) = some (zO 1 [.ref (B0 + 5), .int (nI 0)]) := (ho597 _ (by omega)).trans hc578
              have hc604 : F594 (B0 + 5) = some (zAI G 60 (fun _ => 0)) := (ho597 _ (by omega)).trans hc579
              have hc605 : F594 (B0 + 6) = some (zO 1 [.ref (B0 + 7), .int (nI 0)]) := (ho597 _ (by omega)).trans hc580
              have hc606 : F594 (B0 + 7) = some (zAI G 60 (fun _ => 0)) := (ho597 _ (by omega)).trans hc581
              have hc607 : F594 (B0 + 8) = some (zO 1 [.ref (B0 + 9), .int (nI 0)]) := (ho597 _ (by omega)).trans hc582
              have hc608 : F594 (B0 + 9) = some (zAI G 12 (fun _ => 0)) := (ho597 _ (by omega)).trans hc583
              have hc609 : F594 (B0 + 10) = some (zAI G 61 (fun _ => 0)) := (ho597 _ (by omega)).trans hc584
              have hc610 : F594 (B0 + 11) = some (zO 1 [.ref (B0 + 12), .int (nI 0)]) := (ho597 _ (by omega)).trans hc585
              have hc611 : F594 (B0 + 12) = some (zAI G 60 (fun _ => 0)) := (ho597 _ (by omega)).trans hc586
              have hc612 : F594 (B0 + 13) = some (zO 1 [.ref (B0 + 14), .int (nI 0)]) := (ho597 _ (by omega)).trans hc587
              have hc613 : F594 (B0 + 14) = some (zAI G 60 (fun _ => 0)) := (ho597 _ (by omega)).trans hc588
              have hc614 : F594 (B0 + 15) = some (zO 1 [.ref (B0 + 16), .int (nI 0)]) := (ho597 _ (by omega)).trans hc589
              have hc615 : F594 (B0 + 16) = some (zAI G 60 (fun _ => 0)) := (ho597 _ (by omega)).trans hc590
              have hc616 : F594 (B0 + 17) = some (zO 1 [.ref (B0 + 18), .int (nI 0)]) := (ho597 _ (by omega)).trans hc591
              have hc617 : F594 (B0 + 18) = some (zAI G 60 (fun _ => 0)) := (ho597 _ (by omega)).trans hc592
              have hc618 : F594 (B0 + 20) = some (zAI G 12 (fun _ => 0)) := (ho597 _ (by omega)).trans hw572
              refine z_ast 1 1 (C := G.2 1) rfl rfl hx hb hI hc601 hw598 (k := 0) (by omega) (by decide) dX2_init_134 (fun H locs hz619 F620 hw621 ho622 hI => ?_)
              have hsz : H.size = B0 + 21 := hz619.trans hsz
              have hc623 : F620 B0 = some (zO 2 [.ref (B0 + 1), .ref (B0 + 2), .ref (B0 + 3), .ref (B0 + 4), .ref (B0 + 6), .ref (B0 + 8), .ref (B0 + 10)]) := (ho622 _ (zne hc599 hc601 (fun q => by cases q))).trans hc599
              have hc624 : F620 (B0 + 1) = some (zA1 G 4 (va_up (va_up (va_up (va_up (fun _ => none) 0 (some (B0 + 11))) (0 + 1) (some (B0 + 13))) (0 + 1 + 1) (some (B0 + 15))) (0 + 1 + 1 + 1) (some (B0 + 17)))) := (ho622 _ (by omega)).trans hc600
              have hc625 : F620 (B0 + 3) = some (zAI G 100 (fun _ => 0)) := (ho622 _ (by omega)).trans hc602
              have hc626 : F620 (B0 + 4) = some (zO 1 [.ref (B0 + 5), .int (nI 0)]) := (ho622 _ (zne hc603 hc601 (fun q => by cases q))).trans hc603
              have hc627 : F620 (B0 + 5) = some (zAI G 60 (fun _ => 0)) := (ho622 _ (by omega)).trans hc604
              have hc628 : F620 (B0 + 6) = some (zO 1 [.ref (B0 + 7), .int (nI 0)]) := (ho622 _ (zne hc605 hc601 (fun q => by cases q))).trans hc605
              have hc629 : F620 (B0 + 7) = some (zAI G 60 (fun _ => 0)) := (ho622 _ (by omega)).trans hc606
              have hc630 : F620 (B0 + 8) = some (zO 1 [.ref (B0 + 9), .int (nI 0)]) := (ho622 _ (zne hc607 hc601 (fun q => by cases q))).trans hc607
              have hc631 : F620 (B0 + 9) = some (zAI G 12 (fun _ => 0)) := (ho622 _ (by omega)).trans hc608
              have hc632 : F620 (B0 + 10) = some (zAI G 61 (fun _ => 0)) := (ho622 _ (by omega)).trans hc609
              have hc633 : F620 (B0 + 11) = some (zO 1 [.ref (B0 + 12), .int (nI 0)]) := (ho622 _ (zne hc610 hc601 (fun q => by cases q))).trans hc610
              have hc634 : F620 (B0 + 12) = some (zAI G 60 (fun _ => 0)) := (ho622 _ (by omega)).trans hc611
              have hc635 : F620 (B0 + 13) = some (zO 1 [.ref (B0 + 14), .int (nI 0)]) := (ho622 _ (zne hc612 hc601 (fun q => by cases q))).trans hc612
              have hc636 : F620 (B0 + 14) = some (zAI G 60 (fun _ => 0)) := (ho622 _ (by omega)).trans hc613
              have hc637 : F620 (B0 + 15) = some (zO 1 [.ref (B0 + 16), .int (nI 0)]) := (ho622 _ (zne hc614 hc601 (fun q => by cases q))).trans hc614
              have hc638 : F620 (B0 + 16) = some (zAI G 60 (fun _ => 0)) := (ho622 _ (by omega)).trans hc615
              have hc639 : F620 (B0 + 17) = some (zO 1 [.ref (B0 + 18), .int (nI 0)]) := (ho622 _ (zne hc616 hc601 (fun q => by cases q))).trans hc616
              have hc640 : F620 (B0 + 18) = some (zAI G 60 (fun _ => 0)) := (ho622 _ (by omega)).trans hc617
              have hc641 : F620 (B0 + 19) = some (zO 1 [.ref (B0 + 20), .int (nI 0)]) := (ho622 _ (zne hw598 hc601 (fun q => by cases q))).trans hw598
              have hc642 : F620 (B0 + 20) = some (zAI G 12 (fun _ => 0)) := (ho622 _ (by omega)).trans hc618
              refine lv_iinc (k := 0) (v := nI (0 + 1)) (lv' := [(1, .int (nI (0 + 1))), (0, .ref B0)]) hx hb dX2_init_135 hl rfl (nI_add 0 1) (by decide) rfl (fun ls hl => ?_)
              refine lv_goto (tgt := 113) hx hb dX2_init_138 (by decide) ?_
              refine lv_iload_n hx hb dX2_init_113 rfl (lv_at hl 0 rfl) ?_
              refine lv_iconst (v := nI 2) hx hb dX2_init_114 (by decide) ?_
              refine z_icmp_ge (tgt := 141) (a := 0 + 1) (b := 2) hx hb dX2_init_115 (by decide) (by omega) (fun hq643 => ?_) (fun hq643 => ?_)
              · omega
              · refine lv_aload_n hx hb dX2_init_118 rfl (lv_at hl 1 rfl) ?_
                refine z_get hx hb hts hown zlX2 rfl 1 (by decide) (hts _ q41) rfl hI hc623 rfl dX2_init_119 ?_
                refine lv_iload_n hx hb dX2_init_122 rfl (lv_at hl 0 rfl) ?_
                refine z_new (ci := 1) hx hb hts hown zlX1 tyX1 tyX1_ok (hts _ q23) (hts _ q25) (hts _ q2) hI rfl (fs := [.null, .int 0]) (by intro j hj; rcases j with _ | _ | _ | _ | _ | _ | _ | j <;> first | rfl | omega) (Nat.le_of_ble_eq_true rfl) (Nat.le_of_ble_eq_true rfl) dX2_init_123 (fun q644 H hq645 hz646 F647 hw648 ho649 hI => ?_)
                obtain rfl : B0 + 21 = q644 := (hq645.trans hsz).symm
                have hsz : H.size = B0 + 22 := hz646
                have hc650 : F647 B0 = some (zO 2 [.ref (B0 + 1), .ref (B0 + 2), .ref (B0 + 3), .ref (B0 + 4), .ref (B0 + 6), .ref (B0 + 8), .ref (B0 + 10)]) := (ho649 _ (by omega)).trans hc623
                have hc651 : F647 (B0 + 1) = some (zA1 G 4 (va_up (va_up (va_up (va_up (fun _ => none) 0 (some (B0 + 11))) (0 + 1) (some (B0 + 13))) (0 + 1 + 1) (some (B0 + 15))) (0 + 1 + 1 + 1) (some (B0 + 17)))) := (ho649 _ (by omega)).trans hc624
                have hc652 : F647 (B0 + 2) = some (zA1 G 2 (va_up (fun _ => none) 0 (some (B0 + 19)))) := (ho649 _ (by omega)).trans hw621
                have hc653 : F647 (B0 + 3) = some (zAI G 100 (fun _ => 0)) := (ho649 _ (by omega)).trans hc625
                have hc654 : F647 (B0 + 4) = some (zO 1 [.ref (B0 + 5), .int (nI 0)]) := (ho649 _ (by omega)).trans hc626
                have hc655 : F647 (B0 + 5) = some (zAI G 60 (fun _ => 0)) := (ho649 _ (by omega)).trans hc627
                have hc656 : F647 (B0 + 6) = some (zO 1 [.ref (B0 + 7), .int (nI 0)]) := (ho649 _ (by omega)).trans hc628
                have hc657 : F647 (B0 + 7) = some (zAI G 60 (fun _ => 0)) := (ho649 _ (by omega)).trans hc629
                have hc658 : F647 (B0 + 8) = some (zO 1 [.ref (B0 + 9), .int (nI 0)]) := (ho649 _ (by omega)).trans hc630
                have hc659 : F647 (B0 + 9) = some (zAI G 12 (fun _ => 0)) := (ho649 _ (by omega)).trans hc631
                have hc660 : F647 (B0 + 10) = some (zAI G 61 (fun _ => 0)) := (ho649 _ (by omega)).trans hc632
                have hc661 : F647 (B0 + 11) = some (zO 1 [.ref (B0 + 12), .int (nI 0)]) := (ho649 _ (by omega)).trans hc633
                have hc662 : F647 (B0 + 12) = some (zAI G 60 (fun _ => 0)) := (ho649 _ (by omega)).trans hc634
                have hc663 : F647 (B0 + 13) = some (zO 1 [.ref (B0 + 14), .int (nI 0)]) := (ho649 _ (by omega)).trans hc635
                have hc664 : F647 (B0 + 14) = some (zAI G 60 (fun _ => 0)) := (ho649 _ (by omega)).trans hc636
                have hc665 : F647 (B0 + 15) = some (zO 1 [.ref (B0 + 16), .int (nI 0)]) := (ho649 _ (by omega)).trans hc637
                have hc666 : F647 (B0 + 16) = some (zAI G 60 (fun _ => 0)) := (ho649 _ (by omega)).trans hc638
                have hc667 : F647 (B0 + 17) = some (zO 1 [.ref (B0 + 18), .int (nI 0)]) := (ho649 _ (by omega)).trans hc639
                have hc668 : F647 (B0 + 18) = some (zAI G 60 (fun _ => 0)) := (ho649 _ (by omega)).trans hc640
                have hc669 : F647 (B0 + 19) = some (zO 1 [.ref (B0 + 20), .int (nI 0)]) := (ho649 _ (by omega)).trans hc641
                have hc670 : F647 (B0 + 20) = some (zAI G 12 (fun _ => 0)) := (ho649 _ (by omega)).trans hc642
                refine lv_dup hx hb dX2_init_126 rfl ?_
                refine lv_bipush (v := nI 12) hx hb dX2_init_127 (by decide) ?_
                refine z_newI (N' := 12) hx hb (hts _ q39) hI (by decide) (Nat.le_of_ble_eq_true rfl) (Nat.le_of_ble_eq_true rfl) dX2_init_129 (fun q671 H hq672 hz673 F674 hw675 ho676 hI => ?_)
                obtain rfl : B0 + 22 = q671 := (hq672.trans hsz).symm
                have hsz : H.size = B0 + 23 := hz673
                have hc677 : F674 B0 = some (zO 2 [.ref (B0 + 1), .ref (B0 + 2), .ref (B0 + 3), .ref (B0 + 4), .ref (B0 + 6), .ref (B0 + 8), .ref (B0 + 10)]) := (ho676 _ (by omega)).trans hc650
                have hc678 : F674 (B0 + 1) = some (zA1 G 4 (va_up (va_up (va_up (va_up (fun _ => none) 0 (some (B0 + 11))) (0 + 1) (some (B0 + 13))) (0 + 1 + 1) (some (B0 + 15))) (0 + 1 + 1 + 1) (some (B0 + 17)))) := (ho676 _ (by omega)).trans hc651
                have hc679 : F674 (B0 + 2) = some (zA1 G 2 (va_up (fun _ => none) 0 (some (B0 + 19)))) := (ho676 _ (by omega)).trans hc652
                have hc680 : F674 (B0 + 3) = some (zAI G 100 (fun _ => 0)) := (ho676 _ (by omega)).trans hc653
                have hc681 : F674 (B0 + 4) = some (zO 1 [.ref (B0 + 5), .int (nI 0)]) := (ho676 _ (by omega)).trans hc654
                have hc682 : F674 (B0 + 5) = some (zAI G 60 (fun _ => 0)) := (ho676 _ (by omega)).trans hc655
                have hc683 : F674 (B0 + 6) = some (zO 1 [.ref (B0 + 7), .int (nI 0)]) := (ho676 _ (by omega)).trans hc656
                have hc684 : F674 (B0 + 7) = some (zAI G 60 (fun _ => 0)) := (ho676 _ (by omega)).trans hc657
                have hc685 : F674 (B0 + 8) = some (zO 1 [.ref (B0 + 9), .int (nI 0)]) := (ho676 _ (by omega)).trans hc658
                have hc686 : F674 (B0 + 9) = some (zAI G 12 (fun _ => 0)) := (ho676 _ (by omega)).trans hc659
                have hc687 : F674 (B0 + 10) = some (zAI G 61 (fun _ => 0)) := (ho676 _ (by omega)).trans hc660
                have hc688 : F674 (B0 + 11) = some (zO 1 [.ref (B0 + 12), .int (nI 0)]) := (ho676 _ (by omega)).trans hc661
                have hc689 : F674 (B0 + 12) = some (zAI G 60 (fun _ => 0)) := (ho676 _ (by omega)).trans hc662
                have hc690 : F674 (B0 + 13) = some (zO 1 [.ref (B0 + 14), .int (nI 0)]) := (ho676 _ (by omega)).trans hc663
                have hc691 : F674 (B0 + 14) = some (zAI G 60 (fun _ => 0)) := (ho676 _ (by omega)).trans hc664
                have hc692 : F674 (B0 + 15) = some (zO 1 [.ref (B0 + 16), .int (nI 0)]) := (ho676 _ (by omega)).trans hc665
                have hc693 : F674 (B0 + 16) = some (zAI G 60 (fun _ => 0)) := (ho676 _ (by omega)).trans hc666
                have hc694 : F674 (B0 + 17) = some (zO 1 [.ref (B0 + 18), .int (nI 0)]) := (ho676 _ (by omega)).trans hc667
                have hc695 : F674 (B0 + 18) = some (zAI G 60 (fun _ => 0)) := (ho676 _ (by omega)).trans hc668
                have hc696 : F674 (B0 + 19) = some (zO 1 [.ref (B0 + 20), .int (nI 0)]) := (ho676 _ (by omega)).trans hc669
                have hc697 : F674 (B0 + 20) = some (zAI G 12 (fun _ => 0)) := (ho676 _ (by omega)).trans hc670
                have hc698 : F674 (B0 + 21) = some (zO 1 [.null, .int (nI 0)]) := (ho676 _ (by omega)).trans hw648
                refine z_callvN hI (z_InN (As := [.ref (B0 + 22)]) (rest := [.ref (B0 + 21), .int (nI (0 + 1)), .ref (B0 + 2)]) ⟨hx, hb, hml, hown, hts⟩ hI hsz (c_X1_init l G B0 F674 (B0 + 21) (B0 + 22) (B0 + 23) hc698) (z_cwI vX1_init hts q26 ⟨Nat.le_of_ble_eq_true rfl, Nat.le_of_ble_eq_true rfl⟩) rfl hl.1 rfl (lv_room (Nat.le_of_ble_eq_true rfl)) dX2_init_131 ⟨Nat.le_of_ble_eq_true rfl, Nat.le_of_ble_eq_true rfl⟩) (fun F699 H locs hp700 hI hz701 => ?_)
                obtain ⟨hw703, ho702⟩ := hp700
                have hsz := hz701
                have hc704 : F699 B0 = some (zO 2 [.ref (B0 + 1), .ref (B0 + 2), .ref (B0 + 3), .ref (B0 + 4), .ref (B0 + 6), .ref (B0 + 8), .ref (B0 + 10)]) := (ho702 _ (by omega)).trans hc677
                have hc705 : F699 (B0 + 1) = some (zA1 G 4 (va_up (va_up (va_up (va_up (fun _ => none) 0 (some (B0 + 11))) (0 + 1) (some (B0 + 13))) (0 + 1 + 1) (some (B0 + 15))) (0 + 1 + 1 + 1) (some (B0 + 17)))) := (ho702 _ (by omega)).trans hc678
                have hc706 : F699 (B0 + 2) = some (zA1 G 2 (va_up (fun _ => none) 0 (some (B0 + 19)))) := (ho702 _ (by omega)).trans hc679
                have hc707 : F699 (B0 + 3) = some (zAI G 100 (fun _ => 0)) := (ho702 _ (by omega)).trans hc680
                have hc708 : F699 (B0 + 4) = some (zO 1 [.ref (B0 + 5), .int (nI 0)]) := (ho702 _ (by omega)).trans hc681
                have hc709 : F699 (B0 + 5) = some (zAI G 60 (fun _ => 0)) := (ho702 _ (by omega)).trans hc682
                have hc710 : F699 (B0 + 6) = some (zO 1 [.ref (B0 + 7), .int (nI 0)]) := (ho702 _ (by omega)).trans hc683
                have hc711 : F699 (B0 + 7) = some (zAI G 60 (fun _ => 0)) := (ho702 _ (by omega)).trans hc684
                have hc712 : F699 (B0 + 8) = some (zO 1 [.ref (B0 + 9), .int (nI 0)]) := (ho702 _ (by omega)).trans hc685
                have hc713 : F699 (B0 + 9) = some (zAI G 12 (fun _ => 0)) := (ho702 _ (by omega)).trans hc686
                have hc714 : F699 (B0 + 10) = some (zAI G 61 (fun _ => 0)) := (ho702 _ (by omega)).trans hc687
                have hc715 : F699 (B0 + 11) = some (zO 1 [.ref (B0 + 12), .int (nI 0)]) := (ho702 _ (by omega)).trans hc688
                have hc716 : F699 (B0 + 12) = some (zAI G 60 (fun _ => 0)) := (ho702 _ (by omega)).trans hc689
                have hc717 : F699 (B0 + 13) = some (zO 1 [.ref (B0 + 14), .int (nI 0)]) := (ho702 _ (by omega)).trans hc690
                have hc718 : F699 (B0 + 14) = some (zAI G 60 (fun _ => 0)) := (ho702 _ (by omega)).trans hc691
                have hc719 : F699 (B0 + 15) = some (zO 1 [.ref (B0 + 16), .int (nI 0)]) := (ho702 _ (by omega)).trans hc692
                have hc720 : F699 (B0 + 16) = some (zAI G 60 (fun _ => 0)) := (ho702 _ (by omega)).trans hc693
                have hc721 : F699 (B0 + 17) = some (zO 1 [.ref (B0 + 18), .int (nI 0)]) := (ho702 _ (by omega)).trans hc694
                have hc722 : F699 (B0 + 18) = some (zAI G 60 (fun _ => 0)) := (ho702 _ (by omega)).trans hc695
                have hc723 : F699 (B0 + 19) = some (zO 1 [.ref (B0 + 20), .int (nI 0)]) := (ho702 _ (by omega)).trans hc696
                have hc724 : F699 (B0 + 20) = some (zAI G 12 (fun _ => 0)) := (ho702 _ (by omega)).trans hc697
                have hc725 : F699 (B0 + 22) = some (zAI G 12 (fun _ => 0)) := (ho702 _ (by omega)).trans hw675
                refine z_ast 1 1 (C := G.2 1) rfl rfl hx hb hI hc706 hw703 (k := 0 + 1) (by omega) (by decide) dX2_init_134 (fun H locs hz726 F727 hw728 ho729 hI => ?_)
                have hsz : H.size = B0 + 23 := hz726.trans hsz
                have hc730 : F727 B0 = some (zO 2 [.ref (B0 + 1), .ref (B0 + 2), .ref (B0 + 3), .ref (B0 + 4), .ref (B0 + 6), .ref (B0 + 8), .ref (B0 + 10)]) := (ho729 _ (zne hc704 hc706 (fun q => by cases q))).trans hc704
                have hc731 : F727 (B0 + 1) = some (zA1 G 4 (va_up (va_up (va_up (va_up (fun _ => none) 0 (some (B0 + 11))) (0 + 1) (some (B0 + 13))) (0 + 1 + 1) (some (B0 + 15))) (0 + 1 + 1 + 1) (some (B0 + 17)))) := (ho729 _ (by omega)).trans hc705
                have hc732 : F727 (B0 + 3) = some (zAI G 100 (fun _ => 0)) := (ho729 _ (by omega)).trans hc707
                have hc733 : F727 (B0 + 4) = some (zO 1 [.ref (B0 + 5), .int (nI 0)]) := (ho729 _ (zne hc708 hc706 (fun q => by cases q))).trans hc708
                have hc734 : F727 (B0 + 5) = some (zAI G 60 (fun _ => 0)) := (ho729 _ (by omega)).trans hc709
                have hc735 : F727 (B0 + 6) = some (zO 1 [.ref (B0 + 7), .int (nI 0)]) := (ho729 _ (zne hc710 hc706 (fun q => by cases q))).trans hc710
                have hc736 : F727 (B0 + 7) = some (zAI G 60 (fun _ => 0)) := (ho729 _ (by omega)).trans hc711
                have hc737 : F727 (B0 + 8) = some (zO 1 [.ref (B0 + 9), .int (nI 0)]) := (ho729 _ (zne hc712 hc706 (fun q => by cases q))).trans hc712
                have hc738 : F727 (B0 + 9) = some (zAI G 12 (fun _ => 0)) := (ho729 _ (by omega)).trans hc713
                have hc739 : F727 (B0 + 10) = some (zAI G 61 (fun _ => 0)) := (ho729 _ (by omega)).trans hc714
                have hc740 : F727 (B0 + 11) = some (zO 1 [.ref (B0 + 12), .int (nI 0)]) := (ho729 _ (zne hc715 hc706 (fun q => by cases q))).trans hc715
                have hc741 : F727 (B0 + 12) = some (zAI G 60 (fun _ => 0)) := (ho729 _ (by omega)).trans hc716
                have hc742 : F727 (B0 + 13) = some (zO 1 [.ref (B0 + 14), .int (nI 0)]) := (ho729 _ (zne hc717 hc706 (fun q => by cases q))).trans hc717
                have hc743 : F727 (B0 + 14) = some (zAI G 60 (fun _ => 0)) := (ho729 _ (by omega)).trans hc718
                have hc744 : F727 (B0 + 15) = some (zO 1 [.ref (B0 + 16), .int (nI 0)]) := (ho729 _ (zne hc719 hc706 (fun q => by cases q))).trans hc719
                have hc745 : F727 (B0 + 16) = some (zAI G 60 (fun _ => 0)) := (ho729 _ (by omega)).trans hc720
                have hc746 : F727 (B0 + 17) = some (zO 1 [.ref (B0 + 18), .int (nI 0)]) := (ho729 _ (zne hc721 hc706 (fun q => by cases q))).trans hc721
                have hc747 : F727 (B0 + 18) = some (zAI G 60 (fun _ => 0)) := (ho729 _ (by omega)).trans hc722
                have hc748 : F727 (B0 + 19) = some (zO 1 [.ref (B0 + 20), .int (nI 0)]) := (ho729 _ (zne hc723 hc706 (fun q => by cases q))).trans hc723
                have hc749 : F727 (B0 + 20) = some (zAI G 12 (fun _ => 0)) := (ho729 _ (by omega)).trans hc724
                have hc750 : F727 (B0 + 21) = some (zO 1 [.ref (B0 + 22), .int (nI 0)]) := (ho729 _ (zne hw703 hc706 (fun q => by cases q))).trans hw703
                have hc751 : F727 (B0 + 22) = some (zAI G 12 (fun _ => 0)) := (ho729 _ (by omega)).trans hc725
                refine lv_iinc (k := 0) (v := nI (0 + 1 + 1)) (lv' := [(1, .int (nI (0 + 1 + 1))), (0, .ref B0)]) hx hb dX2_init_135 hl rfl (nI_add (0 + 1) 1) (by decide) rfl (fun ls hl => ?_)
                refine lv_goto (tgt := 113) hx hb dX2_init_138 (by decide) ?_
                refine lv_iload_n hx hb dX2_init_113 rfl (lv_at hl 0 rfl) ?_
                refine lv_iconst (v := nI 2) hx hb dX2_init_114 (by decide) ?_
                refine z_icmp_ge (tgt := 141) (a := 0 + 1 + 1) (b := 2) hx hb dX2_init_115 (by decide) (by omega) (fun hq752 => ?_) (fun hq752 => ?_)
                · refine z_rvN hx hb hr hlocks hI hsz ?_ (Nat.le_of_ble_eq_true rfl) (Nat.le_of_ble_eq_true rfl) dX2_init_141
                  refine ⟨rfl, hc730, ⟨_, hc731, fun i hi => by rcases i with _ | _ | _ | _ | i <;> first | rfl | omega⟩, ⟨_, hw728, fun i hi => by rcases i with _ | _ | i <;> first | rfl | omega⟩, ⟨_, hc732, fun k hk => rfl⟩, ⟨0, fun _ => 0, ⟨Nat.zero_le _, hc733, _, hc734, fun j hj => absurd hj (Nat.not_lt_zero _)⟩⟩, ⟨0, fun _ => 0, ⟨Nat.zero_le _, hc735, _, hc736, fun j hj => absurd hj (Nat.not_lt_zero _)⟩⟩, ⟨0, fun _ => 0, ⟨Nat.zero_le _, hc737, _, hc738, fun j hj => absurd hj (Nat.not_lt_zero _)⟩⟩, ⟨_, hc739⟩, fun i hi => ?_, fun i hi => ?_⟩
                  · match i, hi with
                    | 0, _ => exact ⟨Nat.zero_le _, hc740, _, hc741, fun j hj => absurd hj (Nat.not_lt_zero _)⟩
                    | 1, _ => exact ⟨Nat.zero_le _, hc742, _, hc743, fun j hj => absurd hj (Nat.not_lt_zero _)⟩
                    | 2, _ => exact ⟨Nat.zero_le _, hc744, _, hc745, fun j hj => absurd hj (Nat.not_lt_zero _)⟩
                    | 3, _ => exact ⟨Nat.zero_le _, hc746, _, hc747, fun j hj => absurd hj (Nat.not_lt_zero _)⟩
                  · match i, hi with
                    | 0, _ => exact ⟨Nat.zero_le _, hc748, _, hc749, fun j hj => absurd hj (Nat.not_lt_zero _)⟩
                    | 1, _ => exact ⟨Nat.zero_le _, hc750, _, hc751, fun j hj => absurd hj (Nat.not_lt_zero _)⟩
                · omega
          · omega

set_option maxHeartbeats 4000000 in
set_option maxRecDepth 100000 in
theorem c_X4_init (l : Launch) (G : zK) (B0 : Nat) (F : zM)  (h : F (B0 + 23) = some (zO 4 [.int 0, .null, .null, .null, .null])) : Met l yX4_init (Cond.code yX4_init cX4_init 1 none :: zW) (zRm 2 60 17 540) (va_Pc [.ref (B0 + 23)] (zPreN G B0 F (B0 + 24))) (zQn G B0 (fun v F' => v = none ∧ (MS G B0 F' sg0 0 ∧ ∀ b, b < B0 + 23 → F' b = F b)) (B0 + 41)) 17 540 (zA B0) := by
  refine z_ofN (own := RX4) (by decide) rfl (Nat.le_of_ble_eq_true rfl) ?_
  intro p e s m below meth c ls hx hb hr hml hown hlocks hnm hts hl hI hsz
  have hl : lv_has ls 1 [(0, .ref (B0 + 23))] := hl
  refine lv_aload_n hx hb dX4_init_0 rfl (lv_at hl 0 rfl) ?_
  refine z_obj hx hb hown hts q735 (hl.1.trans hml.symm) dX4_init_1 ⟨Nat.le_of_ble_eq_true rfl, Nat.le_of_ble_eq_true rfl⟩ ?_
  refine lv_aload_n hx hb dX4_init_4 rfl (lv_at hl 0 rfl) ?_
  refine lv_iconst (v := nI 4) hx hb dX4_init_5 (by decide) ?_
  refine z_newQ (N' := 4) 2 (C := RX3) rfl hx hb hown (hts _ q736) hI.1.2.2.2.2.2.2.1 hI (by decide) (Nat.le_of_ble_eq_true rfl) (Nat.le_of_ble_eq_true rfl) dX4_init_6 (fun q1 H hq2 hz3 F4 hw5 ho6 hI => ?_)
  obtain rfl : B0 + 24 = q1 := (hq2.trans hsz).symm
  have hsz : H.size = B0 + 25 := hz3
  have hc7 : F4 (B0 + 23) = some (zO 4 [.int (nI 0), .null, .null, .null, .null]) := (ho6 _ (by omega)).trans h
  refine lv_dup hx hb dX4_init_9 rfl ?_
  refine lv_iconst (v := nI 0) hx hb dX4_init_10 (by decide) ?_
  refine z_new (ci := 3) hx hb hts hown zlX3 tyX3 tyX3_ok (hts _ q736) (hts _ q738) (hts _ q4) hI rfl (fs := [.null, .int 0]) (by intro j hj; rcases j with _ | _ | _ | _ | _ | _ | _ | j <;> first | rfl | omega) (Nat.le_of_ble_eq_true rfl) (Nat.le_of_ble_eq_true rfl) dX4_init_11 (fun q8 H hq9 hz10 F11 hw12 ho13 hI => ?_)
  obtain rfl : B0 + 25 = q8 := (hq9.trans hsz).symm
  have hsz : H.size = B0 + 26 := hz10
  have hc14 : F11 (B0 + 23) = some (zO 4 [.int (nI 0), .null, .null, .null, .null]) := (ho13 _ (by omega)).trans hc7
  have hc15 : F11 (B0 + 24) = some (zA3 G 4 (fun _ => none)) := (ho13 _ (by omega)).trans hw5
  refine lv_dup hx hb dX4_init_14 rfl ?_
  refine z_callvN hI (z_INN (As := []) (rest := [.ref (B0 + 25), .int (nI 0), .ref (B0 + 24), .ref (B0 + 24), .ref (B0 + 23)]) ⟨hx, hb, hml, hown, hts⟩ hI hsz (c_X3_init l G B0 F11 (B0 + 25) (B0 + 26) hw12) (z_cwIN vX3_init hts (hI.1.2.1 _ (List.mem_of_getElem? (i := 4) rfl)) ⟨Nat.le_of_ble_eq_true rfl, Nat.le_of_ble_eq_true rfl⟩) rfl hl.1 rfl (lv_room (Nat.le_of_ble_eq_true rfl)) dX4_init_15 ⟨Nat.le_of_ble_eq_true rfl, Nat.le_of_ble_eq_true rfl⟩) (fun F16 H locs hp17 hI hz18 => ?_)
  obtain ⟨hw20, hw21, ho19⟩ := hp17
  have hsz : H.size = B0 + 27 := hz18
  have hc22 : F16 (B0 + 23) = some (zO 4 [.int (nI 0), .null, .null, .null, .null]) := (ho19 _ (by omega) (by omega)).trans hc14
  have hc23 : F16 (B0 + 24) = some (zA3 G 4 (fun _ => none)) := (ho19 _ (by omega) (by omega)).trans hc15
  refine z_ast 2 3 (C := G.2 2) rfl rfl hx hb hI hc23 hw20 (k := 0) (by omega) (by decide) dX4_init_18 (fun H locs hz24 F25 hw26 ho27 hI => ?_)
  have hsz : H.size = B0 + 27 := hz24.trans hsz
  have hc28 : F25 (B0 + 23) = some (zO 4 [.int (nI 0), .null, .null, .null, .null]) := (ho27 _ (zne hc22 hc23 (fun q => by cases q))).trans hc22
  have hc29 : F25 (B0 + 25) = some (zO 3 [.ref (B0 + 26), .int (nI 0)]) := (ho27 _ (zne hw20 hc23 (fun q => by cases q))).trans hw20
  have hc30 : F25 (B0 + 26) = some (zAI G 60 (fun _ => 0)) := (ho27 _ (by omega)).trans hw21
  refine lv_dup hx hb dX4_init_19 rfl ?_
  refine lv_iconst (v := nI 1) hx hb dX4_init_20 (by decide) ?_
  refine z_new (ci := 3) hx hb hts hown zlX3 tyX3 tyX3_ok (hts _ q736) (hts _ q738) (hts _ q4) hI rfl (fs := [.null, .int 0]) (by intro j hj; rcases j with _ | _ | _ | _ | _ | _ | _ | j <;> first | rfl | omega) (Nat.le_of_ble_eq_true rfl) (Nat.le_of_ble_eq_true rfl) dX4_init_21 (fun q31 H hq32 hz33 F34 hw35 ho36 hI => ?_)
  obtain rfl : B0 + 27 = q31 := (hq32.trans hsz).symm
  have hsz : H.size = B0 + 28 := hz33
  have hc37 : F34 (B0 + 23) = some (zO 4 [.int (nI 0), .null, .null, .null, .null]) := (ho36 _ (by omega)).trans hc28
  have hc38 : F34 (B0 + 24) = some (zA3 G 4 (va_up (fun _ => none) 0 (some (B0 + 25)))) := (ho36 _ (by omega)).trans hw26
  have hc39 : F34 (B0 + 25) = some (zO 3 [.ref (B0 + 26), .int (nI 0)]) := (ho36 _ (by omega)).trans hc29
  have hc40 : F34 (B0 + 26) = some (zAI G 60 (fun _ => 0)) := (ho36 _ (by omega)).trans hc30
  refine lv_dup hx hb dX4_init_24 rfl ?_
  refine z_callvN hI (z_INN (As := []) (rest := [.ref (B0 + 27), .int (nI 1), .ref (B0 + 24), .ref (B0 + 24), .ref (B0 + 23)]) ⟨hx, hb, hml, hown, hts⟩ hI hsz (c_X3_init l G B0 F34 (B0 + 27) (B0 + 28) hw35) (z_cwIN vX3_init hts (hI.1.2.1 _ (List.mem_of_getElem? (i := 4) rfl)) ⟨Nat.le_of_ble_eq_true rfl, Nat.le_of_ble_eq_true rfl⟩) rfl hl.1 rfl (lv_room (Nat.le_of_ble_eq_true rfl)) dX4_init_25 ⟨Nat.le_of_ble_eq_true rfl, Nat.le_of_ble_eq_true rfl⟩) (fun F41 H locs hp42 hI hz43 => ?_)
  obtain ⟨hw45, hw46, ho44⟩ := hp42
  have hsz : H.size = B0 + 29 := hz43
  have hc47 : F41 (B0 + 23) = some (zO 4 [.int (nI 0), .null, .null, .null, .null]) := (ho44 _ (by omega) (by omega)).trans hc37
  have hc48 : F41 (B0 + 24) = some (zA3 G 4 (va_up (fun _ => none) 0 (some (B0 + 25)))) := (ho44 _ (by omega) (by omega)).trans hc38
  have hc49 : F41 (B0 + 25) = some (zO 3 [.ref (B0 + 26), .int (nI 0)]) := (ho44 _ (by omega) (by omega)).trans hc39
  have hc50 : F41 (B0 + 26) = some (zAI G 60 (fun _ => 0)) := (ho44 _ (by omega) (by omega)).trans hc40
  refine z_ast 2 3 (C := G.2 2) rfl rfl hx hb hI hc48 hw45 (k := 1) (by omega) (by decide) dX4_init_28 (fun H locs hz51 F52 hw53 ho54 hI => ?_)
  have hsz : H.size = B0 + 29 := hz51.trans hsz
  have hc55 : F52 (B0 + 23) = some (zO 4 [.int (nI 0), .null, .null, .null, .null]) := (ho54 _ (zne hc47 hc48 (fun q => by cases q))).trans hc47
  have hc56 : F52 (B0 + 25) = some (zO 3 [.ref (B0 + 26), .int (nI 0)]) := (ho54 _ (zne hc49 hc48 (fun q => by cases q))).trans hc49
  have hc57 : F52 (B0 + 26) = some (zAI G 60 (fun _ => 0)) := (ho54 _ (by omega)).trans hc50
  have hc58 : F52 (B0 + 27) = some (zO 3 [.ref (B0 + 28), .int (nI 0)]) := (ho54 _ (zne hw45 hc48 (fun q => by cases q))).trans hw45
  have hc59 : F52 (B0 + 28) = some (zAI G 60 (fun _ => 0)) := (ho54 _ (by omega)).trans hw46
  refine lv_dup hx hb dX4_init_29 rfl ?_
  refine lv_iconst (v := nI 2) hx hb dX4_init_30 (by decide) ?_
  refine z_new (ci := 3) hx hb hts hown zlX3 tyX3 tyX3_ok (hts _ q736) (hts _ q738) (hts _ q4) hI rfl (fs := [.null, .int 0]) (by intro j hj; rcases j with _ | _ | _ | _ | _ | _ | _ | j <;> first | rfl | omega) (Nat.le_of_ble_eq_true rfl) (Nat.le_of_ble_eq_true rfl) dX4_init_31 (fun q60 H hq61 hz62 F63 hw64 ho65 hI => ?_)
  obtain rfl : B0 + 29 = q60 := (hq61.trans hsz).symm
  have hsz : H.size = B0 + 30 := hz62
  have hc66 : F63 (B0 + 23) = some (zO 4 [.int (nI 0), .null, .null, .null, .null]) := (ho65 _ (by omega)).trans hc55
  have hc67 : F63 (B0 + 24) = some (zA3 G 4 (va_up (va_up (fun _ => none) 0 (some (B0 + 25))) 1 (some (B0 + 27)))) := (ho65 _ (by omega)).trans hw53
  have hc68 : F63 (B0 + 25) = some (zO 3 [.ref (B0 + 26), .int (nI 0)]) := (ho65 _ (by omega)).trans hc56
  have hc69 : F63 (B0 + 26) = some (zAI G 60 (fun _ => 0)) := (ho65 _ (by omega)).trans hc57
  have hc70 : F63 (B0 + 27) = some (zO 3 [.ref (B0 + 28), .int (nI 0)]) := (ho65 _ (by omega)).trans hc58
  have hc71 : F63 (B0 + 28) = some (zAI G 60 (fun _ => 0)) := (ho65 _ (by omega)).trans hc59
  refine lv_dup hx hb dX4_init_34 rfl ?_
  refine z_callvN hI (z_INN (As := []) (rest := [.ref (B0 + 29), .int (nI 2), .ref (B0 + 24), .ref (B0 + 24), .ref (B0 + 23)]) ⟨hx, hb, hml, hown, hts⟩ hI hsz (c_X3_init l G B0 F63 (B0 + 29) (B0 + 30) hw64) (z_cwIN vX3_init hts (hI.1.2.1 _ (List.mem_of_getElem? (i := 4) rfl)) ⟨Nat.le_of_ble_eq_true rfl, Nat.le_of_ble_eq_true rfl⟩) rfl hl.1 rfl (lv_room (Nat.le_of_ble_eq_true rfl)) dX4_init_35 ⟨Nat.le_of_ble_eq_true rfl, Nat.le_of_ble_eq_true rfl⟩) (fun F72 H locs hp73 hI hz74 => ?_)
  obtain ⟨hw76, hw77, ho75⟩ := hp73
  have hsz : H.size = B0 + 31 := hz74
  have hc78 : F72 (B0 + 23) = some (zO 4 [.int (nI 0), .null, .null, .null, .null]) := (ho75 _ (by omega) (by omega)).trans hc66
  have hc79 : F72 (B0 + 24) = some (zA3 G 4 (va_up (va_up (fun _ => none) 0 (some (B0 + 25))) 1 (some (B0 + 27)))) := (ho75 _ (by omega) (by omega)).trans hc67
  have hc80 : F72 (B0 + 25) = some (zO 3 [.ref (B0 + 26), .int (nI 0)]) := (ho75 _ (by omega) (by omega)).trans hc68
  have hc81 : F72 (B0 + 26) = some (zAI G 60 (fun _ => 0)) := (ho75 _ (by omega) (by omega)).trans hc69
  have hc82 : F72 (B0 + 27) = some (zO 3 [.ref (B0 + 28), .int (nI 0)]) := (ho75 _ (by omega) (by omega)).trans hc70
  have hc83 : F72 (B0 + 28) = some (zAI G 60 (fun _ => 0)) := (ho75 _ (by omega) (by omega)).trans hc71
  refine z_ast 2 3 (C := G.2 2) rfl rfl hx hb hI hc79 hw76 (k := 2) (by omega) (by decide) dX4_init_38 (fun H locs hz84 F85 hw86 ho87 hI => ?_)
  have hsz : H.size = B0 + 31 := hz84.trans hsz
  have hc88 : F85 (B0 + 23) = some (zO 4 [.int (nI 0), .null, .null, .null, .null]) := (ho87 _ (zne hc78 hc79 (fun q => by cases q))).trans hc78
  have hc89 : F85 (B0 + 25) = some (zO 3 [.ref (B0 + 26), .int (nI 0)]) := (ho87 _ (zne hc80 hc79 (fun q => by cases q))).trans hc80
  have hc90 : F85 (B0 + 26) = some (zAI G 60 (fun _ => 0)) := (ho87 _ (by omega)).trans hc81
  have hc91 : F85 (B0 + 27) = some (zO 3 [.ref (B0 + 28), .int (nI 0)]) := (ho87 _ (zne hc82 hc79 (fun q => by cases q))).trans hc82
  have hc92 : F85 (B0 + 28) = some (zAI G 60 (fun _ => 0)) := (ho87 _ (by omega)).trans hc83
  have hc93 : F85 (B0 + 29) = some (zO 3 [.ref (B0 + 30), .int (nI 0)]) := (ho87 _ (zne hw76 hc79 (fun q => by cases q))).trans hw76
  have hc94 : F85 (B0 + 30) = some (zAI G 60 (fun _ => 0)) := (ho87 _ (by omega)).trans hw77
  refine lv_dup hx hb dX4_init_39 rfl ?_
  refine lv_iconst (v := nI 3) hx hb dX4_init_40 (by decide) ?_
  refine z_new (ci := 3) hx hb hts hown zlX3 tyX3 tyX3_ok (hts _ q736) (hts _ q738) (hts _ q4) hI rfl (fs := [.null, .int 0]) (by intro j hj; rcases j with _ | _ | _ | _ | _ | _ | _ | j <;> first | rfl | omega) (Nat.le_of_ble_eq_true rfl) (Nat.le_of_ble_eq_true rfl) dX4_init_41 (fun q95 H hq96 hz97 F98 hw99 ho100 hI => ?_)
  obtain rfl : B0 + 31 = q95 := (hq96.trans hsz).symm
  have hsz : H.size = B0 + 32 := hz97
  have hc101 : F98 (B0 + 23) = some (zO 4 [.int (nI 0), .null, .null, .null, .null]) := (ho100 _ (by omega)).trans hc88
  have hc102 : F98 (B0 + 24) = some (zA3 G 4 (va_up (va_up (va_up (fun _ => none) 0 (some (B0 + 25))) 1 (some (B0 + 27))) 2 (some (B0 + 29)))) := (ho100 _ (by omega)).trans hw86
  have hc103 : F98 (B0 + 25) = some (zO 3 [.ref (B0 + 26), .int (nI 0)]) := (ho100 _ (by omega)).trans hc89
  have hc104 : F98 (B0 + 26) = some (zAI G 60 (fun _ => 0)) := (ho100 _ (by omega)).trans hc90
  have hc105 : F98 (B0 + 27) = some (zO 3 [.ref (B0 + 28), .int (nI 0)]) := (ho100 _ (by omega)).trans hc91
  have hc106 : F98 (B0 + 28) = some (zAI G 60 (fun _ => 0)) := (ho100 _ (by omega)).trans hc92
  have hc107 : F98 (B0 + 29) = some (zO 3 [.ref (B0 + 30), .int (nI 0)]) := (ho100 _ (by omega)).trans hc93
  have hc108 : F98 (B0 + 30) = some (zAI G 60 (fun _ => 0)) := (ho100 _ (by omega)).trans hc94
  refine lv_dup hx hb dX4_init_44 rfl ?_
  refine z_callvN hI (z_INN (As := []) (rest := [.ref (B0 + 31), .int (nI 3), .ref (B0 + 24), .ref (B0 + 24), .ref (B0 + 23)]) ⟨hx, hb, hml, hown, hts⟩ hI hsz (c_X3_init l G B0 F98 (B0 + 31) (B0 + 32) hw99) (z_cwIN vX3_init hts (hI.1.2.1 _ (List.mem_of_getElem? (i := 4) rfl)) ⟨Nat.le_of_ble_eq_true rfl, Nat.le_of_ble_eq_true rfl⟩) rfl hl.1 rfl (lv_room (Nat.le_of_ble_eq_true rfl)) dX4_init_45 ⟨Nat.le_of_ble_eq_true rfl, Nat.le_of_ble_eq_true rfl⟩) (fun F109 H locs hp110 hI hz111 => ?_)
  obtain ⟨hw113, hw114, ho112⟩ := hp110
  have hsz : H.size = B0 + 33 := hz111
  have hc115 : F109 (B0 + 23) = some (zO 4 [.int (nI 0), .null, .null, .null, .null]) := (ho112 _ (by omega) (by omega)).trans hc101
  have hc116 : F109 (B0 + 24) = some (zA3 G 4 (va_up (va_up (va_up (fun _ => none) 0 (some (B0 + 25))) 1 (some (B0 + 27))) 2 (some (B0 + 29)))) := (ho112 _ (by omega) (by omega)).trans hc102
  have hc117 : F109 (B0 + 25) = some (zO 3 [.ref (B0 + 26), .int (nI 0)]) := (ho112 _ (by omega) (by omega)).trans hc103
  have hc118 : F109 (B0 + 26) = some (zAI G 60 (fun _ => 0)) := (ho112 _ (by omega) (by omega)).trans hc104
  have hc119 : F109 (B0 + 27) = some (zO 3 [.ref (B0 + 28), .int (nI 0)]) := (ho112 _ (by omega) (by omega)).trans hc105
  have hc120 : F109 (B0 + 28) = some (zAI G 60 (fun _ => 0)) := (ho112 _ (by omega) (by omega)).trans hc106
  have hc121 : F109 (B0 + 29) = some (zO 3 [.ref (B0 + 30), .int (nI 0)]) := (ho112 _ (by omega) (by omega)).trans hc107
  have hc122 : F109 (B0 + 30) = some (zAI G 60 (fun _ => 0)) := (ho112 _ (by omega) (by omega)).trans hc108
  refine z_ast 2 3 (C := G.2 2) rfl rfl hx hb hI hc116 hw113 (k := 3) (by omega) (by decide) dX4_init_48 (fun H locs hz123 F124 hw125 ho126 hI => ?_)
  have hsz : H.size = B0 + 33 := hz123.trans hsz
  have hc127 : F124 (B0 + 23) = some (zO 4 [.int (nI 0), .null, .null, .null, .null]) := (ho126 _ (zne hc115 hc116 (fun q => by cases q))).trans hc115
  have hc128 : F124 (B0 + 25) = some (zO 3 [.ref (B0 + 26), .int (nI 0)]) := (ho126 _ (zne hc117 hc116 (fun q => by cases q))).trans hc117
  have hc129 : F124 (B0 + 26) = some (zAI G 60 (fun _ => 0)) := (ho126 _ (by omega)).trans hc118
  have hc130 : F124 (B0 + 27) = some (zO 3 [.ref (B0 + 28), .int (nI 0)]) := (ho126 _ (zne hc119 hc116 (fun q => by cases q))).trans hc119
  have hc131 : F124 (B0 + 28) = some (zAI G 60 (fun _ => 0)) := (ho126 _ (by omega)).trans hc120
  have hc132 : F124 (B0 + 29) = some (zO 3 [.ref (B0 + 30), .int (nI 0)]) := (ho126 _ (zne hc121 hc116 (fun q => by cases q))).trans hc121
  have hc133 : F124 (B0 + 30) = some (zAI G 60 (fun _ => 0)) := (ho126 _ (by omega)).trans hc122
  have hc134 : F124 (B0 + 31) = some (zO 3 [.ref (B0 + 32), .int (nI 0)]) := (ho126 _ (zne hw113 hc116 (fun q => by cases q))).trans hw113
  have hc135 : F124 (B0 + 32) = some (zAI G 60 (fun _ => 0)) := (ho126 _ (by omega)).trans hw114
  refine z_putF hx hb hts hown zlX4 tyX4 tyX4_ok nmX4 rfl 1 (by decide) (hts _ q753) rfl hI hc127 rfl hnm rfl rfl rfl rfl (Nat.le_of_ble_eq_true rfl) dX4_init_49 (fun H locs hz136 F137 hw138 ho139 hI => ?_)
  have hw138 : F137 (B0 + 23) = some (zO 4 [.int (nI 0), .ref (B0 + 24), .null, .null, .null]) := hw138
  have hsz : H.size = B0 + 33 := hz136.trans hsz
  have hc140 : F137 (B0 + 24) = some (zA3 G 4 (va_up (va_up (va_up (va_up (fun _ => none) 0 (some (B0 + 25))) 1 (some (B0 + 27))) 2 (some (B0 + 29))) 3 (some (B0 + 31)))) := (ho139 _ (zne hw125 hc127 (fun q => by cases q))).trans hw125
  have hc141 : F137 (B0 + 25) = some (zO 3 [.ref (B0 + 26), .int (nI 0)]) := (ho139 _ (zne hc128 hc127 (fun q => by cases q))).trans hc128
  have hc142 : F137 (B0 + 26) = some (zAI G 60 (fun _ => 0)) := (ho139 _ (zne hc129 hc127 (fun q => by cases q))).trans hc129
  have hc143 : F137 (B0 + 27) = some (zO 3 [.ref (B0 + 28), .int (nI 0)]) := (ho139 _ (zne hc130 hc127 (fun q => by cases q))).trans hc130
  have hc144 : F137 (B0 + 28) = some (zAI G 60 (fun _ => 0)) := (ho139 _ (zne hc131 hc127 (fun q => by cases q))).trans hc131
  have hc145 : F137 (B0 + 29) = some (zO 3 [.ref (B0 + 30), .int (nI 0)]) := (ho139 _ (zne hc132 hc127 (fun q => by cases q))).trans hc132
  have hc146 : F137 (B0 + 30) = some (zAI G 60 (fun _ => 0)) := (ho139 _ (zne hc133 hc127 (fun q => by cases q))).trans hc133
  have hc147 : F137 (B0 + 31) = some (zO 3 [.ref (B0 + 32), .int (nI 0)]) := (ho139 _ (zne hc134 hc127 (fun q => by cases q))).trans hc134
  have hc148 : F137 (B0 + 32) = some (zAI G 60 (fun _ => 0)) := (ho139 _ (zne hc135 hc127 (fun q => by cases q))).trans hc135
  refine lv_aload_n hx hb dX4_init_52 rfl (lv_at hl 0 rfl) ?_
  refine lv_iconst (v := nI 2) hx hb dX4_init_53 (by decide) ?_
  refine z_newQ (N' := 2) 2 (C := RX3) rfl hx hb hown (hts _ q736) hI.1.2.2.2.2.2.2.1 hI (by decide) (Nat.le_of_ble_eq_true rfl) (Nat.le_of_ble_eq_true rfl) dX4_init_54 (fun q149 H hq150 hz151 F152 hw153 ho154 hI => ?_)
  obtain rfl : B0 + 33 = q149 := (hq150.trans hsz).symm
  have hsz : H.size = B0 + 34 := hz151
  have hc155 : F152 (B0 + 23) = some (zO 4 [.int (nI 0), .ref (B0 + 24), .null, .null, .null]) := (ho154 _ (by omega)).trans hw138
  have hc156 : F152 (B0 + 24) = some (zA3 G 4 (va_up (va_up (va_up (va_up (fun _ => none) 0 (some (B0 + 25))) 1 (some (B0 + 27))) 2 (some (B0 + 29))) 3 (some (B0 + 31)))) := (ho154 _ (by omega)).trans hc140
  have hc157 : F152 (B0 + 25) = some (zO 3 [.ref (B0 + 26), .int (nI 0)]) := (ho154 _ (by omega)).trans hc141
  have hc158 : F152 (B0 + 26) = some (zAI G 60 (fun _ => 0)) := (ho154 _ (by omega)).trans hc142
  have hc159 : F152 (B0 + 27) = some (zO 3 [.ref (B0 + 28), .int (nI 0)]) := (ho154 _ (by omega)).trans hc143
  have hc160 : F152 (B0 + 28) = some (zAI G 60 (fun _ => 0)) := (ho154 _ (by omega)).trans hc144
  have hc161 : F152 (B0 + 29) = some (zO 3 [.ref (B0 + 30), .int (nI 0)]) := (ho154 _ (by omega)).trans hc145
  have hc162 : F152 (B0 + 30) = some (zAI G 60 (fun _ => 0)) := (ho154 _ (by omega)).trans hc146
  have hc163 : F152 (B0 + 31) = some (zO 3 [.ref (B0 + 32), .int (nI 0)]) := (ho154 _ (by omega)).trans hc147
  have hc164 : F152 (B0 + 32) = some (zAI G 60 (fun _ => 0)) := (ho154 _ (by omega)).trans hc148
  refine lv_dup hx hb dX4_init_57 rfl ?_
  refine lv_iconst (v := nI 0) hx hb dX4_init_58 (by decide) ?_
  refine z_new (ci := 3) hx hb hts hown zlX3 tyX3 tyX3_ok (hts _ q736) (hts _ q738) (hts _ q4) hI rfl (fs := [.null, .int 0]) (by intro j hj; rcases j with _ | _ | _ | _ | _ | _ | _ | j <;> first | rfl | omega) (Nat.le_of_ble_eq_true rfl) (Nat.le_of_ble_eq_true rfl) dX4_init_59 (fun q165 H hq166 hz167 F168 hw169 ho170 hI => ?_)
  obtain rfl : B0 + 34 = q165 := (hq166.trans hsz).symm
  have hsz : H.size = B0 + 35 := hz167
  have hc171 : F168 (B0 + 23) = some (zO 4 [.int (nI 0), .ref (B0 + 24), .null, .null, .null]) := (ho170 _ (by omega)).trans hc155
  have hc172 : F168 (B0 + 24) = some (zA3 G 4 (va_up (va_up (va_up (va_up (fun _ => none) 0 (some (B0 + 25))) 1 (some (B0 + 27))) 2 (some (B0 + 29))) 3 (some (B0 + 31)))) := (ho170 _ (by omega)).trans hc156
  have hc173 : F168 (B0 + 25) = some (zO 3 [.ref (B0 + 26), .int (nI 0)]) := (ho170 _ (by omega)).trans hc157
  have hc174 : F168 (B0 + 26) = some (zAI G 60 (fun _ => 0)) := (ho170 _ (by omega)).trans hc158
  have hc175 : F168 (B0 + 27) = some (zO 3 [.ref (B0 + 28), .int (nI 0)]) := (ho170 _ (by omega)).trans hc159
  have hc176 : F168 (B0 + 28) = some (zAI G 60 (fun _ => 0)) := (ho170 _ (by omega)).trans hc160
  have hc177 : F168 (B0 + 29) = some (zO 3 [.ref (B0 + 30), .int (nI 0)]) := (ho170 _ (by omega)).trans hc161
  have hc178 : F168 (B0 + 30) = some (zAI G 60 (fun _ => 0)) := (ho170 _ (by omega)).trans hc162
  have hc179 : F168 (B0 + 31) = some (zO 3 [.ref (B0 + 32), .int (nI 0)]) := (ho170 _ (by omega)).trans hc163
  have hc180 : F168 (B0 + 32) = some (zAI G 60 (fun _ => 0)) := (ho170 _ (by omega)).trans hc164
  have hc181 : F168 (B0 + 33) = some (zA3 G 2 (fun _ => none)) := (ho170 _ (by omega)).trans hw153
  refine lv_dup hx hb dX4_init_62 rfl ?_
  refine z_callvN hI (z_INN (As := []) (rest := [.ref (B0 + 34), .int (nI 0), .ref (B0 + 33), .ref (B0 + 33), .ref (B0 + 23)]) ⟨hx, hb, hml, hown, hts⟩ hI hsz (c_X3_init l G B0 F168 (B0 + 34) (B0 + 35) hw169) (z_cwIN vX3_init hts (hI.1.2.1 _ (List.mem_of_getElem? (i := 4) rfl)) ⟨Nat.le_of_ble_eq_true rfl, Nat.le_of_ble_eq_true rfl⟩) rfl hl.1 rfl (lv_room (Nat.le_of_ble_eq_true rfl)) dX4_init_63 ⟨Nat.le_of_ble_eq_true rfl, Nat.le_of_ble_eq_true rfl⟩) (fun F182 H locs hp183 hI hz184 => ?_)
  obtain ⟨hw186, hw187, ho185⟩ := hp183
  have hsz : H.size = B0 + 36 := hz184
  have hc188 : F182 (B0 + 23) = some (zO 4 [.int (nI 0), .ref (B0 + 24), .null, .null, .null]) := (ho185 _ (by omega) (by omega)).trans hc171
  have hc189 : F182 (B0 + 24) = some (zA3 G 4 (va_up (va_up (va_up (va_up (fun _ => none) 0 (some (B0 + 25))) 1 (some (B0 + 27))) 2 (some (B0 + 29))) 3 (some (B0 + 31)))) := (ho185 _ (by omega) (by omega)).trans hc172
  have hc190 : F182 (B0 + 25) = some (zO 3 [.ref (B0 + 26), .int (nI 0)]) := (ho185 _ (by omega) (by omega)).trans hc173
  have hc191 : F182 (B0 + 26) = some (zAI G 60 (fun _ => 0)) := (ho185 _ (by omega) (by omega)).trans hc174
  have hc192 : F182 (B0 + 27) = some (zO 3 [.ref (B0 + 28), .int (nI 0)]) := (ho185 _ (by omega) (by omega)).trans hc175
  have hc193 : F182 (B0 + 28) = some (zAI G 60 (fun _ => 0)) := (ho185 _ (by omega) (by omega)).trans hc176
  have hc194 : F182 (B0 + 29) = some (zO 3 [.ref (B0 + 30), .int (nI 0)]) := (ho185 _ (by omega) (by omega)).trans hc177
  have hc195 : F182 (B0 + 30) = some (zAI G 60 (fun _ => 0)) := (ho185 _ (by omega) (by omega)).trans hc178
  have hc196 : F182 (B0 + 31) = some (zO 3 [.ref (B0 + 32), .int (nI 0)]) := (ho185 _ (by omega) (by omega)).trans hc179
  have hc197 : F182 (B0 + 32) = some (zAI G 60 (fun _ => 0)) := (ho185 _ (by omega) (by omega)).trans hc180
  have hc198 : F182 (B0 + 33) = some (zA3 G 2 (fun _ => none)) := (ho185 _ (by omega) (by omega)).trans hc181
  refine z_ast 2 3 (C := G.2 2) rfl rfl hx hb hI hc198 hw186 (k := 0) (by omega) (by decide) dX4_init_66 (fun H locs hz199 F200 hw201 ho202 hI => ?_)
  have hsz : H.size = B0 + 36 := hz199.trans hsz
  have hc203 : F200 (B0 + 23) = some (zO 4 [.int (nI 0), .ref (B0 + 24), .null, .null, .null]) := (ho202 _ (zne hc188 hc198 (fun q => by cases q))).trans hc188
  have hc204 : F200 (B0 + 24) = some (zA3 G 4 (va_up (va_up (va_up (va_up (fun _ => none) 0 (some (B0 + 25))) 1 (some (B0 + 27))) 2 (some (B0 + 29))) 3 (some (B0 + 31)))) := (ho202 _ (by omega)).trans hc189
  have hc205 : F200 (B0 + 25) = some (zO 3 [.ref (B0 + 26), .int (nI 0)]) := (ho202 _ (zne hc190 hc198 (fun q => by cases q))).trans hc190
  have hc206 : F200 (B0 + 26) = some (zAI G 60 (fun _ => 0)) := (ho202 _ (by omega)).trans hc191
  have hc207 : F200 (B0 + 27) = some (zO 3 [.ref (B0 + 28), .int (nI 0)]) := (ho202 _ (zne hc192 hc198 (fun q => by cases q))).trans hc192
  have hc208 : F200 (B0 + 28) = some (zAI G 60 (fun _ => 0)) := (ho202 _ (by omega)).trans hc193
  have hc209 : F200 (B0 + 29) = some (zO 3 [.ref (B0 + 30), .int (nI 0)]) := (ho202 _ (zne hc194 hc198 (fun q => by cases q))).trans hc194
  have hc210 : F200 (B0 + 30) = some (zAI G 60 (fun _ => 0)) := (ho202 _ (by omega)).trans hc195
  have hc211 : F200 (B0 + 31) = some (zO 3 [.ref (B0 + 32), .int (nI 0)]) := (ho202 _ (zne hc196 hc198 (fun q => by cases q))).trans hc196
  have hc212 : F200 (B0 + 32) = some (zAI G 60 (fun _ => 0)) := (ho202 _ (by omega)).trans hc197
  have hc213 : F200 (B0 + 34) = some (zO 3 [.ref (B0 + 35), .int (nI 0)]) := (ho202 _ (zne hw186 hc198 (fun q => by cases q))).trans hw186
  have hc214 : F200 (B0 + 35) = some (zAI G 60 (fun _ => 0)) := (ho202 _ (by omega)).trans hw187
  refine lv_dup hx hb dX4_init_67 rfl ?_
  refine lv_iconst (v := nI 1) hx hb dX4_init_68 (by decide) ?_
  refine z_new (ci := 3) hx hb hts hown zlX3 tyX3 tyX3_ok (hts _ q736) (hts _ q738) (hts _ q4) hI rfl (fs := [.null, .int 0]) (by intro j hj; rcases j with _ | _ | _ | _ | _ | _ | _ | j <;> first | rfl | omega) (Nat.le_of_ble_eq_true rfl) (Nat.le_of_ble_eq_true rfl) dX4_init_69 (fun q215 H hq216 hz217 F218 hw219 ho220 hI => ?_)
  obtain rfl : B0 + 36 = q215 := (hq216.trans hsz).symm
  have hsz : H.size = B0 + 37 := hz217
  have hc221 : F218 (B0 + 23) = some (zO 4 [.int (nI 0), .ref (B0 + 24), .null, .null, .null]) := (ho220 _ (by omega)).trans hc203
  have hc222 : F218 (B0 + 24) = some (zA3 G 4 (va_up (va_up (va_up (va_up (fun _ => none) 0 (some (B0 + 25))) 1 (some (B0 + 27))) 2 (some (B0 + 29))) 3 (some (B0 + 31)))) := (ho220 _ (by omega)).trans hc204
  have hc223 : F218 (B0 + 25) = some (zO 3 [.ref (B0 + 26), .int (nI 0)]) := (ho220 _ (by omega)).trans hc205
  have hc224 : F218 (B0 + 26) = some (zAI G 60 (fun _ => 0)) := (ho220 _ (by omega)).trans hc206
  have hc225 : F218 (B0 + 27) = some (zO 3 [.ref (B0 + 28), .int (nI 0)]) := (ho220 _ (by omega)).trans hc207
  have hc226 : F218 (B0 + 28) = some (zAI G 60 (fun _ => 0)) := (ho220 _ (by omega)).trans hc208
  have hc227 : F218 (B0 + 29) = some (zO 3 [.ref (B0 + 30), .int (nI 0)]) := (ho220 _ (by omega)).trans hc209
  have hc228 : F218 (B0 + 30) = some (zAI G 60 (fun _ => 0)) := (ho220 _ (by omega)).trans hc210
  have hc229 : F218 (B0 + 31) = some (zO 3 [.ref (B0 + 32), .int (nI 0)]) := (ho220 _ (by omega)).trans hc211
  have hc230 : F218 (B0 + 32) = some (zAI G 60 (fun _ => 0)) := (ho220 _ (by omega)).trans hc212
  have hc231 : F218 (B0 + 33) = some (zA3 G 2 (va_up (fun _ => none) 0 (some (B0 + 34)))) := (ho220 _ (by omega)).trans hw201
  have hc232 : F218 (B0 + 34) = some (zO 3 [.ref (B0 + 35), .int (nI 0)]) := (ho220 _ (by omega)).trans hc213
  have hc233 : F218 (B0 + 35) = some (zAI G 60 (fun _ => 0)) := (ho220 _ (by omega)).trans hc214
  refine lv_dup hx hb dX4_init_72 rfl ?_
  refine z_callvN hI (z_INN (As := []) (rest := [.ref (B0 + 36), .int (nI 1), .ref (B0 + 33), .ref (B0 + 33), .ref (B0 + 23)]) ⟨hx, hb, hml, hown, hts⟩ hI hsz (c_X3_init l G B0 F218 (B0 + 36) (B0 + 37) hw219) (z_cwIN vX3_init hts (hI.1.2.1 _ (List.mem_of_getElem? (i := 4) rfl)) ⟨Nat.le_of_ble_eq_true rfl, Nat.le_of_ble_eq_true rfl⟩) rfl hl.1 rfl (lv_room (Nat.le_of_ble_eq_true rfl)) dX4_init_73 ⟨Nat.le_of_ble_eq_true rfl, Nat.le_of_ble_eq_true rfl⟩) (fun F234 H locs hp235 hI hz236 => ?_)
  obtain ⟨hw238, hw239, ho237⟩ := hp235
  have hsz : H.size = B0 + 38 := hz236
  have hc240 : F234 (B0 + 23) = some (zO 4 [.int (nI 0), .ref (B0 + 24), .null, .null, .null]) := (ho237 _ (by omega) (by omega)).trans hc221
  have hc241 : F234 (B0 + 24) = some (zA3 G 4 (va_up (va_up (va_up (va_up (fun _ => none) 0 (some (B0 + 25))) 1 (some (B0 + 27))) 2 (some (B0 + 29))) 3 (some (B0 + 31)))) := (ho237 _ (by omega) (by omega)).trans hc222
  have hc242 : F234 (B0 + 25) = some (zO 3 [.ref (B0 + 26), .int (nI 0)]) := (ho237 _ (by omega) (by omega)).trans hc223
  have hc243 : F234 (B0 + 26) = some (zAI G 60 (fun _ => 0)) := (ho237 _ (by omega) (by omega)).trans hc224
  have hc244 : F234 (B0 + 27) = some (zO 3 [.ref (B0 + 28), .int (nI 0)]) := (ho237 _ (by omega) (by omega)).trans hc225
  have hc245 : F234 (B0 + 28) = some (zAI G 60 (fun _ => 0)) := (ho237 _ (by omega) (by omega)).trans hc226
  have hc246 : F234 (B0 + 29) = some (zO 3 [.ref (B0 + 30), .int (nI 0)]) := (ho237 _ (by omega) (by omega)).trans hc227
  have hc247 : F234 (B0 + 30) = some (zAI G 60 (fun _ => 0)) := (ho237 _ (by omega) (by omega)).trans hc228
  have hc248 : F234 (B0 + 31) = some (zO 3 [.ref (B0 + 32), .int (nI 0)]) := (ho237 _ (by omega) (by omega)).trans hc229
  have hc249 : F234 (B0 + 32) = some (zAI G 60 (fun _ => 0)) := (ho237 _ (by omega) (by omega)).trans hc230
  have hc250 : F234 (B0 + 33) = some (zA3 G 2 (va_up (fun _ => none) 0 (some (B0 + 34)))) := (ho237 _ (by omega) (by omega)).trans hc231
  have hc251 : F234 (B0 + 34) = some (zO 3 [.ref (B0 + 35), .int (nI 0)]) := (ho237 _ (by omega) (by omega)).trans hc232
  have hc252 : F234 (B0 + 35) = some (zAI G 60 (fun _ => 0)) := (ho237 _ (by omega) (by omega)).trans hc233
  refine z_ast 2 3 (C := G.2 2) rfl rfl hx hb hI hc250 hw238 (k := 1) (by omega) (by decide) dX4_init_76 (fun H locs hz253 F254 hw255 ho256 hI => ?_)
  have hsz : H.size = B0 + 38 := hz253.trans hsz
  have hc257 : F254 (B0 + 23) = some (zO 4 [.int (nI 0), .ref (B0 + 24), .null, .null, .null]) := (ho256 _ (zne hc240 hc250 (fun q => by cases q))).trans hc240
  have hc258 : F254 (B0 + 24) = some (zA3 G 4 (va_up (va_up (va_up (va_up (fun _ => none) 0 (some (B0 + 25))) 1 (some (B0 + 27))) 2 (some (B0 + 29))) 3 (some (B0 + 31)))) := (ho256 _ (by omega)).trans hc241
  have hc259 : F254 (B0 + 25) = some (zO 3 [.ref (B0 + 26), .int (nI 0)]) := (ho256 _ (zne hc242 hc250 (fun q => by cases q))).trans hc242
  have hc260 : F254 (B0 + 26) = some (zAI G 60 (fun _ => 0)) := (ho256 _ (by omega)).trans hc243
  have hc261 : F254 (B0 + 27) = some (zO 3 [.ref (B0 + 28), .int (nI 0)]) := (ho256 _ (zne hc244 hc250 (fun q => by cases q))).trans hc244
  have hc262 : F254 (B0 + 28) = some (zAI G 60 (fun _ => 0)) := (ho256 _ (by omega)).trans hc245
  have hc263 : F254 (B0 + 29) = some (zO 3 [.ref (B0 + 30), .int (nI 0)]) := (ho256 _ (zne hc246 hc250 (fun q => by cases q))).trans hc246
  have hc264 : F254 (B0 + 30) = some (zAI G 60 (fun _ => 0)) := (ho256 _ (by omega)).trans hc247
  have hc265 : F254 (B0 + 31) = some (zO 3 [.ref (B0 + 32), .int (nI 0)]) := (ho256 _ (zne hc248 hc250 (fun q => by cases q))).trans hc248
  have hc266 : F254 (B0 + 32) = some (zAI G 60 (fun _ => 0)) := (ho256 _ (by omega)).trans hc249
  have hc267 : F254 (B0 + 34) = some (zO 3 [.ref (B0 + 35), .int (nI 0)]) := (ho256 _ (zne hc251 hc250 (fun q => by cases q))).trans hc251
  have hc268 : F254 (B0 + 35) = some (zAI G 60 (fun _ => 0)) := (ho256 _ (by omega)).trans hc252
  have hc269 : F254 (B0 + 36) = some (zO 3 [.ref (B0 + 37), .int (nI 0)]) := (ho256 _ (zne hw238 hc250 (fun q => by cases q))).trans hw238
  have hc270 : F254 (B0 + 37) = some (zAI G 60 (fun _ => 0)) := (ho256 _ (by omega)).trans hw239
  refine z_putF hx hb hts hown zlX4 tyX4 tyX4_ok nmX4 rfl 2 (by decide) (hts _ q754) rfl hI hc257 rfl hnm rfl rfl rfl rfl (Nat.le_of_ble_eq_true rfl) dX4_init_77 (fun H locs hz271 F272 hw273 ho274 hI => ?_)
  have hw273 : F272 (B0 + 23) = some (zO 4 [.int (nI 0), .ref (B0 + 24), .ref (B0 + 33), .null, .null]) := hw273
  have hsz : H.size = B0 + 38 := hz271.trans hsz
  have hc275 : F272 (B0 + 24) = some (zA3 G 4 (va_up (va_up (va_up (va_up (fun _ => none) 0 (some (B0 + 25))) 1 (some (B0 + 27))) 2 (some (B0 + 29))) 3 (some (B0 + 31)))) := (ho274 _ (zne hc258 hc257 (fun q => by cases q))).trans hc258
  have hc276 : F272 (B0 + 25) = some (zO 3 [.ref (B0 + 26), .int (nI 0)]) := (ho274 _ (zne hc259 hc257 (fun q => by cases q))).trans hc259
  have hc277 : F272 (B0 + 26) = some (zAI G 60 (fun _ => 0)) := (ho274 _ (zne hc260 hc257 (fun q => by cases q))).trans hc260
  have hc278 : F272 (B0 + 27) = some (zO 3 [.ref (B0 + 28), .int (nI 0)]) := (ho274 _ (zne hc261 hc257 (fun q => by cases q))).trans hc261
  have hc279 : F272 (B0 + 28) = some (zAI G 60 (fun _ => 0)) := (ho274 _ (zne hc262 hc257 (fun q => by cases q))).trans hc262
  have hc280 : F272 (B0 + 29) = some (zO 3 [.ref (B0 + 30), .int (nI 0)]) := (ho274 _ (zne hc263 hc257 (fun q => by cases q))).trans hc263
  have hc281 : F272 (B0 + 30) = some (zAI G 60 (fun _ => 0)) := (ho274 _ (zne hc264 hc257 (fun q => by cases q))).trans hc264
  have hc282 : F272 (B0 + 31) = some (zO 3 [.ref (B0 + 32), .int (nI 0)]) := (ho274 _ (zne hc265 hc257 (fun q => by cases q))).trans hc265
  have hc283 : F272 (B0 + 32) = some (zAI G 60 (fun _ => 0)) := (ho274 _ (zne hc266 hc257 (fun q => by cases q))).trans hc266
  have hc284 : F272 (B0 + 33) = some (zA3 G 2 (va_up (va_up (fun _ => none) 0 (some (B0 + 34))) 1 (some (B0 + 36)))) := (ho274 _ (zne hw255 hc257 (fun q => by cases q))).trans hw255
  have hc285 : F272 (B0 + 34) = some (zO 3 [.ref (B0 + 35), .int (nI 0)]) := (ho274 _ (zne hc267 hc257 (fun q => by cases q))).trans hc267
  have hc286 : F272 (B0 + 35) = some (zAI G 60 (fun _ => 0)) := (ho274 _ (zne hc268 hc257 (fun q => by cases q))).trans hc268
  have hc287 : F272 (B0 + 36) = some (zO 3 [.ref (B0 + 37), .int (nI 0)]) := (ho274 _ (zne hc269 hc257 (fun q => by cases q))).trans hc269
  have hc288 : F272 (B0 + 37) = some (zAI G 60 (fun _ => 0)) := (ho274 _ (zne hc270 hc257 (fun q => by cases q))).trans hc270
  refine lv_aload_n hx hb dX4_init_80 rfl (lv_at hl 0 rfl) ?_
  refine z_new (ci := 3) hx hb hts hown zlX3 tyX3 tyX3_ok (hts _ q736) (hts _ q738) (hts _ q4) hI rfl (fs := [.null, .int 0]) (by intro j hj; rcases j with _ | _ | _ | _ | _ | _ | _ | j <;> first | rfl | omega) (Nat.le_of_ble_eq_true rfl) (Nat.le_of_ble_eq_true rfl) dX4_init_81 (fun q289 H hq290 hz291 F292 hw293 ho294 hI => ?_)
  obtain rfl : B0 + 38 = q289 := (hq290.trans hsz).symm
  have hsz : H.size = B0 + 39 := hz291
  have hc295 : F292 (B0 + 23) = some (zO 4 [.int (nI 0), .ref (B0 + 24), .ref (B0 + 33), .null, .null]) := (ho294 _ (by omega)).trans hw273
  have hc296 : F292 (B0 + 24) = some (zA3 G 4 (va_up (va_up (va_up (va_up (fun _ => none) 0 (some (B0 + 25))) 1 (some (B0 + 27))) 2 (some (B0 + 29))) 3 (some (B0 + 31)))) := (ho294 _ (by omega)).trans hc275
  have hc297 : F292 (B0 + 25) = some (zO 3 [.ref (B0 + 26), .int (nI 0)]) := (ho294 _ (by omega)).trans hc276
  have hc298 : F292 (B0 + 26) = some (zAI G 60 (fun _ => 0)) := (ho294 _ (by omega)).trans hc277
  have hc299 : F292 (B0 + 27) = some (zO 3 [.ref (B0 + 28), .int (nI 0)]) := (ho294 _ (by omega)).trans hc278
  have hc300 : F292 (B0 + 28) = some (zAI G 60 (fun _ => 0)) := (ho294 _ (by omega)).trans hc279
  have hc301 : F292 (B0 + 29) = some (zO 3 [.ref (B0 + 30), .int (nI 0)]) := (ho294 _ (by omega)).trans hc280
  have hc302 : F292 (B0 + 30) = some (zAI G 60 (fun _ => 0)) := (ho294 _ (by omega)).trans hc281
  have hc303 : F292 (B0 + 31) = some (zO 3 [.ref (B0 + 32), .int (nI 0)]) := (ho294 _ (by omega)).trans hc282
  have hc304 : F292 (B0 + 32) = some (zAI G 60 (fun _ => 0)) := (ho294 _ (by omega)).trans hc283
  have hc305 : F292 (B0 + 33) = some (zA3 G 2 (va_up (va_up (fun _ => none) 0 (some (B0 + 34))) 1 (some (B0 + 36)))) := (ho294 _ (by omega)).trans hc284
  have hc306 : F292 (B0 + 34) = some (zO 3 [.ref (B0 + 35), .int (nI 0)]) := (ho294 _ (by omega)).trans hc285
  have hc307 : F292 (B0 + 35) = some (zAI G 60 (fun _ => 0)) := (ho294 _ (by omega)).trans hc286
  have hc308 : F292 (B0 + 36) = some (zO 3 [.ref (B0 + 37), .int (nI 0)]) := (ho294 _ (by omega)).trans hc287
  have hc309 : F292 (B0 + 37) = some (zAI G 60 (fun _ => 0)) := (ho294 _ (by omega)).trans hc288
  refine lv_dup hx hb dX4_init_84 rfl ?_
  refine z_callvN hI (z_INN (As := []) (rest := [.ref (B0 + 38), .ref (B0 + 23)]) ⟨hx, hb, hml, hown, hts⟩ hI hsz (c_X3_init l G B0 F292 (B0 + 38) (B0 + 39) hw293) (z_cwIN vX3_init hts (hI.1.2.1 _ (List.mem_of_getElem? (i := 4) rfl)) ⟨Nat.le_of_ble_eq_true rfl, Nat.le_of_ble_eq_true rfl⟩) rfl hl.1 rfl (lv_room (Nat.le_of_ble_eq_true rfl)) dX4_init_85 ⟨Nat.le_of_ble_eq_true rfl, Nat.le_of_ble_eq_true rfl⟩) (fun F310 H locs hp311 hI hz312 => ?_)
  obtain ⟨hw314, hw315, ho313⟩ := hp311
  have hsz : H.size = B0 + 40 := hz312
  have hc316 : F310 (B0 + 23) = some (zO 4 [.int (nI 0), .ref (B0 + 24), .ref (B0 + 33), .null, .null]) := (ho313 _ (by omega) (by omega)).trans hc295
  have hc317 : F310 (B0 + 24) = some (zA3 G 4 (va_up (va_up (va_up (va_up (fun _ => none) 0 (some (B0 + 25))) 1 (some (B0 + 27))) 2 (some (B0 + 29))) 3 (some (B0 + 31)))) := (ho313 _ (by omega) (by omega)).trans hc296
  have hc318 : F310 (B0 + 25) = some (zO 3 [.ref (B0 + 26), .int (nI 0)]) := (ho313 _ (by omega) (by omega)).trans hc297
  have hc319 : F310 (B0 + 26) = some (zAI G 60 (fun _ => 0)) := (ho313 _ (by omega) (by omega)).trans hc298
  have hc320 : F310 (B0 + 27) = some (zO 3 [.ref (B0 + 28), .int (nI 0)]) := (ho313 _ (by omega) (by omega)).trans hc299
  have hc321 : F310 (B0 + 28) = some (zAI G 60 (fun _ => 0)) := (ho313 _ (by omega) (by omega)).trans hc300
  have hc322 : F310 (B0 + 29) = some (zO 3 [.ref (B0 + 30), .int (nI 0)]) := (ho313 _ (by omega) (by omega)).trans hc301
  have hc323 : F310 (B0 + 30) = some (zAI G 60 (fun _ => 0)) := (ho313 _ (by omega) (by omega)).trans hc302
  have hc324 : F310 (B0 + 31) = some (zO 3 [.ref (B0 + 32), .int (nI 0)]) := (ho313 _ (by omega) (by omega)).trans hc303
  have hc325 : F310 (B0 + 32) = some (zAI G 60 (fun _ => 0)) := (ho313 _ (by omega) (by omega)).trans hc304
  have hc326 : F310 (B0 + 33) = some (zA3 G 2 (va_up (va_up (fun _ => none) 0 (some (B0 + 34))) 1 (some (B0 + 36)))) := (ho313 _ (by omega) (by omega)).trans hc305
  have hc327 : F310 (B0 + 34) = some (zO 3 [.ref (B0 + 35), .int (nI 0)]) := (ho313 _ (by omega) (by omega)).trans hc306
  have hc328 : F310 (B0 + 35) = some (zAI G 60 (fun _ => 0)) := (ho313 _ (by omega) (by omega)).trans hc307
  have hc329 : F310 (B0 + 36) = some (zO 3 [.ref (B0 + 37), .int (nI 0)]) := (ho313 _ (by omega) (by omega)).trans hc308
  have hc330 : F310 (B0 + 37) = some (zAI G 60 (fun _ => 0)) := (ho313 _ (by omega) (by omega)).trans hc309
  refine z_putF hx hb hts hown zlX4 tyX4 tyX4_ok nmX4 rfl 3 (by decide) (hts _ q755) rfl hI hc316 rfl hnm rfl rfl rfl rfl (Nat.le_of_ble_eq_true rfl) dX4_init_88 (fun H locs hz331 F332 hw333 ho334 hI => ?_)
  have hw333 : F332 (B0 + 23) = some (zO 4 [.int (nI 0), .ref (B0 + 24), .ref (B0 + 33), .ref (B0 + 38), .null]) := hw333
  have hsz : H.size = B0 + 40 := hz331.trans hsz
  have hc335 : F332 (B0 + 24) = some (zA3 G 4 (va_up (va_up (va_up (va_up (fun _ => none) 0 (some (B0 + 25))) 1 (some (B0 + 27))) 2 (some (B0 + 29))) 3 (some (B0 + 31)))) := (ho334 _ (zne hc317 hc316 (fun q => by cases q))).trans hc317
  have hc336 : F332 (B0 + 25) = some (zO 3 [.ref (B0 + 26), .int (nI 0)]) := (ho334 _ (zne hc318 hc316 (fun q => by cases q))).trans hc318
  have hc337 : F332 (B0 + 26) = some (zAI G 60 (fun _ => 0)) := (ho334 _ (zne hc319 hc316 (fun q => by cases q))).trans hc319
  have hc338 : F332 (B0 + 27) = some (zO 3 [.ref (B0 + 28), .int (nI 0)]) := (ho334 _ (zne hc320 hc316 (fun q => by cases q))).trans hc320
  have hc339 : F332 (B0 + 28) = some (zAI G 60 (fun _ => 0)) := (ho334 _ (zne hc321 hc316 (fun q => by cases q))).trans hc321
  have hc340 : F332 (B0 + 29) = some (zO 3 [.ref (B0 + 30), .int (nI 0)]) := (ho334 _ (zne hc322 hc316 (fun q => by cases q))).trans hc322
  have hc341 : F332 (B0 + 30) = some (zAI G 60 (fun _ => 0)) := (ho334 _ (zne hc323 hc316 (fun q => by cases q))).trans hc323
  have hc342 : F332 (B0 + 31) = some (zO 3 [.ref (B0 + 32), .int (nI 0)]) := (ho334 _ (zne hc324 hc316 (fun q => by cases q))).trans hc324
  have hc343 : F332 (B0 + 32) = some (zAI G 60 (fun _ => 0)) := (ho334 _ (zne hc325 hc316 (fun q => by cases q))).trans hc325
  have hc344 : F332 (B0 + 33) = some (zA3 G 2 (va_up (va_up (fun _ => none) 0 (some (B0 + 34))) 1 (some (B0 + 36)))) := (ho334 _ (zne hc326 hc316 (fun q => by cases q))).trans hc326
  have hc345 : F332 (B0 + 34) = some (zO 3 [.ref (B0 + 35), .int (nI 0)]) := (ho334 _ (zne hc327 hc316 (fun q => by cases q))).trans hc327
  have hc346 : F332 (B0 + 35) = some (zAI G 60 (fun _ => 0)) := (ho334 _ (zne hc328 hc316 (fun q => by cases q))).trans hc328
  have hc347 : F332 (B0 + 36) = some (zO 3 [.ref (B0 + 37), .int (nI 0)]) := (ho334 _ (zne hc329 hc316 (fun q => by cases q))).trans hc329
  have hc348 : F332 (B0 + 37) = some (zAI G 60 (fun _ => 0)) := (ho334 _ (zne hc330 hc316 (fun q => by cases q))).trans hc330
  have hc349 : F332 (B0 + 38) = some (zO 3 [.ref (B0 + 39), .int (nI 0)]) := (ho334 _ (zne hw314 hc316 (fun q => by cases q))).trans hw314
  have hc350 : F332 (B0 + 39) = some (zAI G 60 (fun _ => 0)) := (ho334 _ (zne hw315 hc316 (fun q => by cases q))).trans hw315
  refine lv_aload_n hx hb dX4_init_91 rfl (lv_at hl 0 rfl) ?_
  refine lv_bipush (v := nI 100) hx hb dX4_init_92 (by decide) ?_
  refine z_newI (N' := 100) hx hb (hts _ q39) hI (by decide) (Nat.le_of_ble_eq_true rfl) (Nat.le_of_ble_eq_true rfl) dX4_init_94 (fun q351 H hq352 hz353 F354 hw355 ho356 hI => ?_)
  obtain rfl : B0 + 40 = q351 := (hq352.trans hsz).symm
  have hsz : H.size = B0 + 41 := hz353
  have hc357 : F354 (B0 + 23) = some (zO 4 [.int (nI 0), .ref (B0 + 24), .ref (B0 + 33), .ref (B0 + 38), .null]) := (ho356 _ (by omega)).trans hw333
  have hc358 : F354 (B0 + 24) = some (zA3 G 4 (va_up (va_up (va_up (va_up (fun _ => none) 0 (some (B0 + 25))) 1 (some (B0 + 27))) 2 (some (B0 + 29))) 3 (some (B0 + 31)))) := (ho356 _ (by omega)).trans hc335
  have hc359 : F354 (B0 + 25) = some (zO 3 [.ref (B0 + 26), .int (nI 0)]) := (ho356 _ (by omega)).trans hc336
  have hc360 : F354 (B0 + 26) = some (zAI G 60 (fun _ => 0)) := (ho356 _ (by omega)).trans hc337
  have hc361 : F354 (B0 + 27) = some (zO 3 [.ref (B0 + 28), .int (nI 0)]) := (ho356 _ (by omega)).trans hc338
  have hc362 : F354 (B0 + 28) = some (zAI G 60 (fun _ => 0)) := (ho356 _ (by omega)).trans hc339
  have hc363 : F354 (B0 + 29) = some (zO 3 [.ref (B0 + 30), .int (nI 0)]) := (ho356 _ (by omega)).trans hc340
  have hc364 : F354 (B0 + 30) = some (zAI G 60 (fun _ => 0)) := (ho356 _ (by omega)).trans hc341
  have hc365 : F354 (B0 + 31) = some (zO 3 [.ref (B0 + 32), .int (nI 0)]) := (ho356 _ (by omega)).trans hc342
  have hc366 : F354 (B0 + 32) = some (zAI G 60 (fun _ => 0)) := (ho356 _ (by omega)).trans hc343
  have hc367 : F354 (B0 + 33) = some (zA3 G 2 (va_up (va_up (fun _ => none) 0 (some (B0 + 34))) 1 (some (B0 + 36)))) := (ho356 _ (by omega)).trans hc344
  have hc368 : F354 (B0 + 34) = some (zO 3 [.ref (B0 + 35), .int (nI 0)]) := (ho356 _ (by omega)).trans hc345
  have hc369 : F354 (B0 + 35) = some (zAI G 60 (fun _ => 0)) := (ho356 _ (by omega)).trans hc346
  have hc370 : F354 (B0 + 36) = some (zO 3 [.ref (B0 + 37), .int (nI 0)]) := (ho356 _ (by omega)).trans hc347
  have hc371 : F354 (B0 + 37) = some (zAI G 60 (fun _ => 0)) := (ho356 _ (by omega)).trans hc348
  have hc372 : F354 (B0 + 38) = some (zO 3 [.ref (B0 + 39), .int (nI 0)]) := (ho356 _ (by omega)).trans hc349
  have hc373 : F354 (B0 + 39) = some (zAI G 60 (fun _ => 0)) := (ho356 _ (by omega)).trans hc350
  refine z_putF hx hb hts hown zlX4 tyX4 tyX4_ok nmX4 rfl 4 (by decide) (hts _ q756) rfl hI hc357 rfl hnm rfl rfl rfl rfl (Nat.le_of_ble_eq_true rfl) dX4_init_96 (fun H locs hz374 F375 hw376 ho377 hI => ?_)
  have hw376 : F375 (B0 + 23) = some (zO 4 [.int (nI 0), .ref (B0 + 24), .ref (B0 + 33), .ref (B0 + 38), .ref (B0 + 40)]) := hw376
  have hsz : H.size = B0 + 41 := hz374.trans hsz
  have hc378 : F375 (B0 + 24) = some (zA3 G 4 (va_up (va_up (va_up (va_up (fun _ => none) 0 (some (B0 + 25))) 1 (some (B0 + 27))) 2 (some (B0 + 29))) 3 (some (B0 + 31)))) := (ho377 _ (zne hc358 hc357 (fun q => by cases q))).trans hc358
  have hc379 : F375 (B0 + 25) = some (zO 3 [.ref (B0 + 26), .int (nI 0)]) := (ho377 _ (zne hc359 hc357 (fun q => by cases q))).trans hc359
  have hc380 : F375 (B0 + 26) = some (zAI G 60 (fun _ => 0)) := (ho377 _ (zne hc360 hc357 (fun q => by cases q))).trans hc360
  have hc381 : F375 (B0 + 27) = some (zO 3 [.ref (B0 + 28), .int (nI 0)]) := (ho377 _ (zne hc361 hc357 (fun q => by cases q))).trans hc361
  have hc382 : F375 (B0 + 28) = some (zAI G 60 (fun _ => 0)) := (ho377 _ (zne hc362 hc357 (fun q => by cases q))).trans hc362
  have hc383 : F375 (B0 + 29) = some (zO 3 [.ref (B0 + 30), .int (nI 0)]) := (ho377 _ (zne hc363 hc357 (fun q => by cases q))).trans hc363
  have hc384 : F375 (B0 + 30) = some (zAI G 60 (fun _ => 0)) := (ho377 _ (zne hc364 hc357 (fun q => by cases q))).trans hc364
  have hc385 : F375 (B0 + 31) = some (zO 3 [.ref (B0 + 32), .int (nI 0)]) := (ho377 _ (zne hc365 hc357 (fun q => by cases q))).trans hc365
  have hc386 : F375 (B0 + 32) = some (zAI G 60 (fun _ => 0)) := (ho377 _ (zne hc366 hc357 (fun q => by cases q))).trans hc366
  have hc387 : F375 (B0 + 33) = some (zA3 G 2 (va_up (va_up (fun _ => none) 0 (some (B0 + 34))) 1 (some (B0 + 36)))) := (ho377 _ (zne hc367 hc357 (fun q => by cases q))).trans hc367
  have hc388 : F375 (B0 + 34) = some (zO 3 [.ref (B0 + 35), .int (nI 0)]) := (ho377 _ (zne hc368 hc357 (fun q => by cases q))).trans hc368
  have hc389 : F375 (B0 + 35) = some (zAI G 60 (fun _ => 0)) := (ho377 _ (zne hc369 hc357 (fun q => by cases q))).trans hc369
  have hc390 : F375 (B0 + 36) = some (zO 3 [.ref (B0 + 37), .int (nI 0)]) := (ho377 _ (zne hc370 hc357 (fun q => by cases q))).trans hc370
  have hc391 : F375 (B0 + 37) = some (zAI G 60 (fun _ => 0)) := (ho377 _ (zne hc371 hc357 (fun q => by cases q))).trans hc371
  have hc392 : F375 (B0 + 38) = some (zO 3 [.ref (B0 + 39), .int (nI 0)]) := (ho377 _ (zne hc372 hc357 (fun q => by cases q))).trans hc372
  have hc393 : F375 (B0 + 39) = some (zAI G 60 (fun _ => 0)) := (ho377 _ (zne hc373 hc357 (fun q => by cases q))).trans hc373
  have hc394 : F375 (B0 + 40) = some (zAI G 100 (fun _ => 0)) := (ho377 _ (zne hw355 hc357 (fun q => by cases q))).trans hw355
  refine lv_aload_n hx hb dX4_init_99 rfl (lv_at hl 0 rfl) ?_
  refine lv_iconst (v := nI 0) hx hb dX4_init_100 (by decide) ?_
  refine z_putS hx hb hts hown zlX4 tyX4 tyX4_ok nmX4 rfl 0 (by decide) (hts _ q752) rfl hI hw376 rfl rfl rfl rfl (Nat.le_of_ble_eq_true rfl) dX4_init_101 (fun H locs hz395 F396 hw397 ho398 hI => ?_)
  have hw397 : F396 (B0 + 23) = some (zO 4 [.int (nI 0), .ref (B0 + 24), .ref (B0 + 33), .ref (B0 + 38), .ref (B0 + 40)]) := hw397
  have hsz : H.size = B0 + 41 := hz395.trans hsz
  have hc399 : F396 (B0 + 24) = some (zA3 G 4 (va_up (va_up (va_up (va_up (fun _ => none) 0 (some (B0 + 25))) 1 (some (B0 + 27))) 2 (some (B0 + 29))) 3 (some (B0 + 31)))) := (ho398 _ (zne hc378 hw376 (fun q => by cases q))).trans hc378
  have hc400 : F396 (B0 + 25) = some (zO 3 [.ref (B0 + 26), .int (nI 0)]) := (ho398 _ (zne hc379 hw376 (fun q => by cases q))).trans hc379
  have hc401 : F396 (B0 + 26) = some (zAI G 60 (fun _ => 0)) := (ho398 _ (zne hc380 hw376 (fun q => by cases q))).trans hc380
  have hc402 : F396 (B0 + 27) = some (zO 3 [.ref (B0 + 28), .int (nI 0)]) := (ho398 _ (zne hc381 hw376 (fun q => by cases q))).trans hc381
  have hc403 : F396 (B0 + 28) = some (zAI G 60 (fun _ => 0)) := (ho398 _ (zne hc382 hw376 (fun q => by cases q))).trans hc382
  have hc404 : F396 (B0 + 29) = some (zO 3 [.ref (B0 + 30), .int (nI 0)]) := (ho398 _ (zne hc383 hw376 (fun q => by cases q))).trans hc383
  have hc405 : F396 (B0 + 30) = some (zAI G 60 (fun _ => 0)) := (ho398 _ (zne hc384 hw376 (fun q => by cases q))).trans hc384
  have hc406 : F396 (B0 + 31) = some (zO 3 [.ref (B0 + 32), .int (nI 0)]) := (ho398 _ (zne hc385 hw376 (fun q => by cases q))).trans hc385
  have hc407 : F396 (B0 + 32) = some (zAI G 60 (fun _ => 0)) := (ho398 _ (zne hc386 hw376 (fun q => by cases q))).trans hc386
  have hc408 : F396 (B0 + 33) = some (zA3 G 2 (va_up (va_up (fun _ => none) 0 (some (B0 + 34))) 1 (some (B0 + 36)))) := (ho398 _ (zne hc387 hw376 (fun q => by cases q))).trans hc387
  have hc409 : F396 (B0 + 34) = some (zO 3 [.ref (B0 + 35), .int (nI 0)]) := (ho398 _ (zne hc388 hw376 (fun q => by cases q))).trans hc388
  have hc410 : F396 (B0 + 35) = some (zAI G 60 (fun _ => 0)) := (ho398 _ (zne hc389 hw376 (fun q => by cases q))).trans hc389
  have hc411 : F396 (B0 + 36) = some (zO 3 [.ref (B0 + 37), .int (nI 0)]) := (ho398 _ (zne hc390 hw376 (fun q => by cases q))).trans hc390
  have hc412 : F396 (B0 + 37) = some (zAI G 60 (fun _ => 0)) := (ho398 _ (zne hc391 hw376 (fun q => by cases q))).trans hc391
  have hc413 : F396 (B0 + 38) = some (zO 3 [.ref (B0 + 39), .int (nI 0)]) := (ho398 _ (zne hc392 hw376 (fun q => by cases q))).trans hc392
  have hc414 : F396 (B0 + 39) = some (zAI G 60 (fun _ => 0)) := (ho398 _ (zne hc393 hw376 (fun q => by cases q))).trans hc393
  have hc415 : F396 (B0 + 40) = some (zAI G 100 (fun _ => 0)) := (ho398 _ (zne hc394 hw376 (fun q => by cases q))).trans hc394
  refine z_rvN hx hb hr hlocks hI hsz ?_ (Nat.le_of_ble_eq_true rfl) (Nat.le_of_ble_eq_true rfl) dX4_init_104
  refine ⟨rfl, ⟨hw397, ⟨_, hc399, fun i hi => by rcases i with _ | _ | _ | _ | i <;> first | rfl | omega⟩, ⟨_, hc408, fun i hi => by rcases i with _ | _ | i <;> first | rfl | omega⟩, ⟨_, hc415, fun k hk => rfl⟩, ⟨0, fun _ => 0, ⟨Nat.zero_le _, hc413, _, hc414, fun j hj => absurd hj (Nat.not_lt_zero _)⟩⟩, fun i hi => ?_, fun i hi => ?_⟩, fun b hb9 => ?_⟩
  · match i, hi with
    | 0, _ => exact ⟨Nat.zero_le _, hc400, _, hc401, fun j hj => absurd hj (Nat.not_lt_zero _)⟩
    | 1, _ => exact ⟨Nat.zero_le _, hc402, _, hc403, fun j hj => absurd hj (Nat.not_lt_zero _)⟩
    | 2, _ => exact ⟨Nat.zero_le _, hc404, _, hc405, fun j hj => absurd hj (Nat.not_lt_zero _)⟩
    | 3, _ => exact ⟨Nat.zero_le _, hc406, _, hc407, fun j hj => absurd hj (Nat.not_lt_zero _)⟩
  · match i, hi with
    | 0, _ => exact ⟨Nat.zero_le _, hc409, _, hc410, fun j hj => absurd hj (Nat.not_lt_zero _)⟩
    | 1, _ => exact ⟨Nat.zero_le _, hc411, _, hc412, fun j hj => absurd hj (Nat.not_lt_zero _)⟩
  · exact (fr_1 (fr_1 (fr_1 (fr_1 (fr_2 (fr_1 (fr_1 (fr_1 (fr_2 (fr_1 (fr_1 (fr_2 (fr_1 (fr_1 (fr_1 (fr_1 (fr_2 (fr_1 (fr_1 (fr_2 (fr_1 (fr_1 (fr_2 (fr_1 (fr_1 (fr_2 (fr_1 (fr_1 fr_0 ho6 (by decide)) ho13 (by decide)) ho19 (by decide) (by decide)) ho27 (by decide)) ho36 (by decide)) ho44 (by decide) (by decide)) ho54 (by decide)) ho65 (by decide)) ho75 (by decide) (by decide)) ho87 (by decide)) ho100 (by decide)) ho112 (by decide) (by decide)) ho126 (by decide)) ho139 (by decide)) ho154 (by decide)) ho170 (by decide)) ho185 (by decide) (by decide)) ho202 (by decide)) ho220 (by decide)) ho237 (by decide) (by decide)) ho256 (by decide)) ho274 (by decide)) ho294 (by decide)) ho313 (by decide) (by decide)) ho334 (by decide)) ho356 (by decide)) ho377 (by decide)) ho398 (by decide)) b hb9

