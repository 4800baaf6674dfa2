theorem lg_lt {x y : Int64} : lg_cmp x y < 0 ↔ x < y := by
  unfold lg_cmp
  by_cases h1 : y < x
  · rw [if_pos h1]
    exact ⟨fun q => absurd q (by decide), fun q => by exfalso; rw [Int64.lt_iff_toInt_lt] at q h1; omega⟩
  · rw [if_neg h1]
    by_cases h2 : x = y
    · subst h2
      simp only [BEq.rfl, if_true]
      exact ⟨fun q => absurd q (by decide), fun q => absurd q h1⟩
    · rw [if_neg (by simpa using h2)]
      refine ⟨fun _ => ?_, fun _ => by decide⟩
      rw [Int64.lt_iff_toInt_lt] at h1 ⊢
      have h3 : ¬ x.toInt = y.toInt := fun e => h2 (Int64.toInt_inj.mp e)
      omega
theorem lg_gt {x y : Int64} : 0 < lg_cmp x y ↔ y < x := by
  unfold lg_cmp
  by_cases h1 : y < x
  · rw [if_pos h1]
    exact ⟨fun _ => h1, fun _ => by decide⟩
  · rw [if_neg h1]
    refine ⟨fun q => absurd q ?_, fun q => absurd q h1⟩
    by_cases h2 : x = y
    · subst h2
      simp only [BEq.rfl, if_true]
      decide
    · rw [if_neg (by simpa using h2)]
      decide
theorem l_le_n {a b : Int64} : a ≤ b ↔ ¬ b < a := by
  rw [Int64.le_iff_toInt_le, Int64.lt_iff_toInt_lt]; omega
theorem il_toInt (x : Int32) : x.toInt64.toInt = x.toInt := Int32.toInt_toInt64 x
theorem lN_I {n : Nat} (h : n < 2 ^ 31) : (lN n).toInt = (n : Int) := lN_toInt h
theorem in_pl {x : Int32} {n : Nat} (hn : n < 2 ^ 20) : (0 ≤ x.toInt64 ∧ x.toInt64 ≤ lN n) ↔ ∃ i, i < n + 1 ∧ x = nI i := by
  rw [Int64.le_iff_toInt_le, Int64.le_iff_toInt_le, il_toInt, lN_I (by omega)]
  have h0 : (0 : Int64).toInt = 0 := rfl
  rw [h0]
  constructor
  · rintro ⟨h1, h2⟩
    obtain ⟨j, hj, rfl⟩ := nI_of (show ¬ x < 0 by rw [Int32.lt_iff_toInt_lt]; have : (0 : Int32).toInt = 0 := rfl; omega)
    rw [nI_toInt hj] at h2
    exact ⟨j, by omega, rfl⟩
  · rintro ⟨i, hi, rfl⟩
    rw [nI_toInt (by omega)]
    omega
theorem in_pl1 {x : Int32} {n : Nat} (hn : n < 2 ^ 20) : (0 ≤ x.toInt64 ∧ x.toInt64 ≤ (nI n - nI 1).toInt64) ↔ ∃ i, i < n ∧ x = nI i := by
  cases n with
  | zero =>
    rw [Int64.le_iff_toInt_le, Int64.le_iff_toInt_le, il_toInt, il_toInt]
    have h0 : (0 : Int64).toInt = 0 := rfl
    have h1 : (nI 0 - nI 1 : Int32).toInt = -1 := rfl
    rw [h0, h1]
    exact ⟨fun q => by omega, fun ⟨i, hi, _⟩ => absurd hi (Nat.not_lt_zero _)⟩
  | succ n =>
    rw [pk_sub (show 1 ≤ n + 1 by omega), nI_l (by omega)]
    exact in_pl (by omega)
theorem in_pt {x y : Int32} {n : Nat} (hn : n < 2 ^ 20) : ((0 ≤ x.toInt64 ∧ x.toInt64 ≤ (nI n).toInt64) ∧ (x.toInt64 ≤ y.toInt64 ∧ y.toInt64 ≤ (nI n).toInt64)) ↔ okR n x y := by
  rw [nI_l (by omega), in_pl hn]
  constructor
  · rintro ⟨⟨i, hi, rfl⟩, h1, h2⟩
    rw [nI_l (by omega), Int64.le_iff_toInt_le, lN_I (by omega), il_toInt] at h1
    rw [Int64.le_iff_toInt_le, lN_I (by omega), il_toInt] at h2
    obtain ⟨j, hj, rfl⟩ := nI_of (show ¬ y < 0 by rw [Int32.lt_iff_toInt_lt]; have : (0 : Int32).toInt = 0 := rfl; omega)
    rw [nI_toInt hj] at h1 h2
    exact ⟨i, j, by omega, by omega, rfl, rfl⟩
  · rintro ⟨i, j, h1, h2, rfl, rfl⟩
    refine ⟨⟨i, by omega, rfl⟩, ?_, ?_⟩
    · rw [nI_l (by omega), nI_l (by omega)]; exact (pk_lLE (by omega) (by omega)).mpr h1
    · rw [nI_l (by omega)]; exact (pk_lLE (by omega) (by omega)).mpr h2
theorem rm_1 {n : Nat} (hn : n < 2 ^ 20) : lN n + 1 ≤ lN 60 ↔ n < 60 := by
  rw [lN_1, pk_lLE (by omega) (by omega)]; omega
theorem rm_x {n : Nat} {x : Int32} (hn : n ≤ 60) (h : 0 ≤ x) : lN n + x.toInt64 ≤ lN 60 ↔ x ≤ nI (60 - n) := by
  obtain ⟨j, hj, rfl⟩ := nI_of (show ¬ x < 0 from fun q => by rw [Int32.lt_iff_toInt_lt] at q; rw [Int32.le_iff_toInt_le] at h; omega)
  rw [nI_l hj, lN_add, pk_lLE (by omega) (by omega), nI_leI hj (by omega)]; omega
theorem zTh_cg {p1 p2 p3 o1 o2 o3 : Prop} {k : Int32} (h1 : p1 ↔ o1) (h2 : o1 → (p2 ↔ o2)) (h3 : o1 → o2 → (p3 ↔ o3)) (h : zTh p1 p2 p3 k) : zTh o1 o2 o3 k := by
  rcases h with ⟨a, b, c, d⟩ | ⟨a, b⟩ | ⟨a, b, c⟩ | ⟨a, b, c, d⟩
  · exact Or.inl ⟨a, h1.mp b, (h2 (h1.mp b)).mp c, (h3 (h1.mp b) ((h2 (h1.mp b)).mp c)).mp d⟩
  · exact Or.inr (Or.inl ⟨a, fun q => b (h1.mpr q)⟩)
  · exact Or.inr (Or.inr (Or.inl ⟨a, h1.mp b, fun q => c ((h2 (h1.mp b)).mpr q)⟩))
  · exact Or.inr (Or.inr (Or.inr ⟨a, h1.mp b, (h2 (h1.mp b)).mp c, fun q => d ((h3 (h1.mp b) ((h2 (h1.mp b)).mp c)).mpr q)⟩))
theorem zC_cg {p1 p2 p3 o1 o2 o3 : Prop} (h1 : p1 ↔ o1) (h2 : o1 → (p2 ↔ o2)) (h3 : o1 → o2 → (p3 ↔ o3)) : (p1 ∧ p2 ∧ p3) ↔ (o1 ∧ o2 ∧ o3) :=
  ⟨fun ⟨a, b, c⟩ => ⟨h1.mp a, (h2 (h1.mp a)).mp b, (h3 (h1.mp a) ((h2 (h1.mp a)).mp b)).mp c⟩, fun ⟨a, b, c⟩ => ⟨h1.mpr a, (h2 a).mpr b, (h3 a b).mpr c⟩⟩
abbrev zRP {α : Type} (G : zK) (B0 : Nat) (F : zM) (σ : Sg) (o1 o2 o3 : Prop) (s1 : Sg) (r1 : α) (r' : α) (F' : zM) : Prop := ∃ th' σ', MS G B0 F' σ' th' ∧ zTh o1 o2 o3 th' ∧ (o1 ∧ o2 ∧ o3 → σ' = s1 ∧ r' = r1) ∧ (¬ (o1 ∧ o2 ∧ o3) → σ' = σ) ∧ zMf B0 F F'
theorem pI_1 {P : Prop} (h : P) : nI 1 = pI P := pI_t h
set_option maxHeartbeats 4000000 in
set_option maxRecDepth 100000 in
theorem c_X4_in (l : Launch) (G : zK) (B0 : Nat) (F : zM) (x a b : Int64) : Met l yX4_in (Cond.code yX4_in cX4_in 6 (some FieldType.boolean) :: zW) (zRm 0 0 0 0) (va_Pc [.long x, .long a, .long b] (zPre G B0 F)) (zQi G B0 (fun r F' => F = F' ∧ r = pI (a ≤ x ∧ x ≤ b))) 0 0 (zA B0) := by
  refine z_of (own := RX4) (by decide) rfl (Nat.le_of_ble_eq_true rfl) ?_
  intro p e s m below meth c ls hx hb hr hml hown hlocks hnm hts hl hI
  have hl : lv_has ls 6 [(0, .long x), (2, .long a), (4, .long b)] := hl
  refine lv_lload_n hx hb dX4_in_0 rfl (lv_at hl 0 rfl) ?_
  refine lv_lload_n hx hb dX4_in_1 rfl (lv_at hl 1 rfl) ?_
  refine W.lcmp hx hb dX4_in_2 ?_
  refine lv_if_lt (tgt := 17) hx hb dX4_in_3 (by decide) (fun hq1 => ?_) (fun hq1 => ?_)
  · refine lv_iconst (v := nI 0) hx hb dX4_in_17 (by decide) ?_
    refine z_rz hx hb hr hlocks (Or.inl rfl) hI ?_ (Nat.le_of_ble_eq_true rfl) (Nat.le_of_ble_eq_true rfl) dX4_in_18
    exact ⟨_, rfl, rfl, pI_f (fun z => l_le_n.mp z.1 (lg_lt.mp hq1))⟩
  · refine lv_lload_n hx hb dX4_in_6 rfl (lv_at hl 0 rfl) ?_
    refine lv_lload hx hb dX4_in_7 (lv_at hl 2 rfl) ?_
    refine W.lcmp hx hb dX4_in_9 ?_
    refine lv_if_gt (tgt := 17) hx hb dX4_in_10 (by decide) (fun hq2 => ?_) (fun hq2 => ?_)
    · refine lv_iconst (v := nI 0) hx hb dX4_in_17 (by decide) ?_
      refine z_rz hx hb hr hlocks (Or.inl rfl) hI ?_ (Nat.le_of_ble_eq_true rfl) (Nat.le_of_ble_eq_true rfl) dX4_in_18
      exact ⟨_, rfl, rfl, pI_f (fun z => l_le_n.mp z.2 (lg_gt.mp hq2))⟩
    · refine lv_iconst (v := nI 1) hx hb dX4_in_13 (by decide) ?_
      refine lv_goto (tgt := 18) hx hb dX4_in_14 (by decide) ?_
      refine z_rz hx hb hr hlocks (Or.inr rfl) hI ?_ (Nat.le_of_ble_eq_true rfl) (Nat.le_of_ble_eq_true rfl) dX4_in_18
      exact ⟨_, rfl, rfl, pI_t ⟨l_le_n.mpr (fun q => absurd (lg_lt.mpr q) (by first | exact hq1 | exact i_le_n.mp hq1)), l_le_n.mpr (fun q => absurd (lg_gt.mpr q) (by first | exact hq2 | exact i_le_n.mp hq2))⟩⟩

set_option maxHeartbeats 4000000 in
set_option maxRecDepth 100000 in
theorem c_X4_isText (l : Launch) (G : zK) (B0 : Nat) (F : zM) (zp0 : Int32) : Met l yX4_isText (Cond.code yX4_isText cX4_isText 1 (some FieldType.boolean) :: zW) (zRm 1 25 0 0) (va_Pc [.int zp0] (zPre G B0 F)) (zQi G B0 (fun r F' => F = F' ∧ r = pI (okT zp0))) 0 0 (zA B0) := by
  refine z_of (own := RX4) (by decide) rfl (Nat.le_of_ble_eq_true rfl) ?_
  intro p e s m below meth c ls hx hb hr hml hown hlocks hnm hts hl hI
  have hl : lv_has ls 1 [(0, .int zp0)] := hl
  refine lv_iload_n hx hb dX4_isText_0 rfl (lv_at hl 0 rfl) ?_
  refine lv_i2l hx hb dX4_isText_1 rfl ?_
  refine lv_lconst (v := 0) hx hb dX4_isText_2 (by decide) ?_
  refine lv_ldc2 (v := 3) hx hb hown (hts _ q775) dX4_isText_3 ?_
  refine z_calli hI (z_S (As := [.long zp0.toInt64, .long 0, .long 3]) (rest := []) ⟨hx, hb, hml, hown, hts⟩ hI (c_X4_in l G B0 F zp0.toInt64 0 3) (z_cwS vX4_in hts q776 ⟨Nat.le_of_ble_eq_true rfl, Nat.le_of_ble_eq_true rfl⟩) rfl hl.1 rfl (lv_room (Nat.le_of_ble_eq_true rfl)) dX4_isText_6 ⟨Nat.le_of_ble_eq_true rfl, Nat.le_of_ble_eq_true rfl⟩) (fun r2 F1 H locs hp3 hI => ?_)
  obtain ⟨rfl, rfl⟩ := hp3
  refine z_rz hx hb hr hlocks pI_or hI ?_ (Nat.le_of_ble_eq_true rfl) (Nat.le_of_ble_eq_true rfl) dX4_isText_9
  exact ⟨_, rfl, rfl, pI_cg (in_pl (n := 3) (by decide))⟩

set_option maxHeartbeats 4000000 in
set_option maxRecDepth 100000 in
theorem c_X4_isWord (l : Launch) (G : zK) (B0 : Nat) (F : zM) (zp0 : Int32) : Met l yX4_isWord (Cond.code yX4_isWord cX4_isWord 1 (some FieldType.boolean) :: zW) (zRm 1 25 0 0) (va_Pc [.int zp0] (zPre G B0 F)) (zQi G B0 (fun r F' => F = F' ∧ r = pI (okW zp0))) 0 0 (zA B0) := by
  refine z_of (own := RX4) (by decide) rfl (Nat.le_of_ble_eq_true rfl) ?_
  intro p e s m below meth c ls hx hb hr hml hown hlocks hnm hts hl hI
  have hl : lv_has ls 1 [(0, .int zp0)] := hl
  refine lv_iload_n hx hb dX4_isWord_0 rfl (lv_at hl 0 rfl) ?_
  refine lv_i2l hx hb dX4_isWord_1 rfl ?_
  refine lv_lconst (v := 0) hx hb dX4_isWord_2 (by decide) ?_
  refine lv_ldc2 (v := 99) hx hb hown (hts _ q782) dX4_isWord_3 ?_
  refine z_calli hI (z_S (As := [.long zp0.toInt64, .long 0, .long 99]) (rest := []) ⟨hx, hb, hml, hown, hts⟩ hI (c_X4_in l G B0 F zp0.toInt64 0 99) (z_cwS vX4_in hts q776 ⟨Nat.le_of_ble_eq_true rfl, Nat.le_of_ble_eq_true rfl⟩) rfl hl.1 rfl (lv_room (Nat.le_of_ble_eq_true rfl)) dX4_isWord_6 ⟨Nat.le_of_ble_eq_true rfl, Nat.le_of_ble_eq_true rfl⟩) (fun r2 F1 H locs hp3 hI => ?_)
  obtain ⟨rfl, rfl⟩ := hp3
  refine z_rz hx hb hr hlocks pI_or hI ?_ (Nat.le_of_ble_eq_true rfl) (Nat.le_of_ble_eq_true rfl) dX4_isWord_9
  exact ⟨_, rfl, rfl, pI_cg (in_pl (n := 99) (by decide))⟩

set_option maxHeartbeats 4000000 in
set_option maxRecDepth 100000 in
theorem c_X4_isPhrase (l : Launch) (G : zK) (B0 : Nat) (F : zM) (zp0 : Int32) : Met l yX4_isPhrase (Cond.code yX4_isPhrase cX4_isPhrase 1 (some FieldType.boolean) :: zW) (zRm 1 25 0 0) (va_Pc [.int zp0] (zPre G B0 F)) (zQi G B0 (fun r F' => F = F' ∧ r = pI (okB zp0))) 0 0 (zA B0) := by
  refine z_of (own := RX4) (by decide) rfl (Nat.le_of_ble_eq_true rfl) ?_
  intro p e s m below meth c ls hx hb hr hml hown hlocks hnm hts hl hI
  have hl : lv_has ls 1 [(0, .int zp0)] := hl
  refine lv_iload_n hx hb dX4_isPhrase_0 rfl (lv_at hl 0 rfl) ?_
  refine lv_i2l hx hb dX4_isPhrase_1 rfl ?_
  refine lv_lconst (v := 0) hx hb dX4_isPhrase_2 (by decide) ?_
  refine lv_lconst (v := 1) hx hb dX4_isPhrase_3 (by decide) ?_
  refine z_calli hI (z_S (As := [.long zp0.toInt64, .long 0, .long 1]) (rest := []) ⟨hx, hb, hml, hown, hts⟩ hI (c_X4_in l G B0 F zp0.toInt64 0 1) (z_cwS vX4_in hts q776 ⟨Nat.le_of_ble_eq_true rfl, Nat.le_of_ble_eq_true rfl⟩) rfl hl.1 rfl (lv_room (Nat.le_of_ble_eq_true rfl)) dX4_isPhrase_4 ⟨Nat.le_of_ble_eq_true rfl, Nat.le_of_ble_eq_true rfl⟩) (fun r2 F1 H locs hp3 hI => ?_)
  obtain ⟨rfl, rfl⟩ := hp3
  refine z_rz hx hb hr hlocks pI_or hI ?_ (Nat.le_of_ble_eq_true rfl) (Nat.le_of_ble_eq_true rfl) dX4_isPhrase_7
  exact ⟨_, rfl, rfl, pI_cg (in_pl (n := 1) (by decide))⟩

set_option maxHeartbeats 4000000 in
set_option maxRecDepth 100000 in
theorem c_X4_isOrder (l : Launch) (G : zK) (B0 : Nat) (F : zM) (zp0 : Int32) : Met l yX4_isOrder (Cond.code yX4_isOrder cX4_isOrder 1 (some FieldType.boolean) :: zW) (zRm 1 25 0 0) (va_Pc [.int zp0] (zPre G B0 F)) (zQi G B0 (fun r F' => F = F' ∧ r = pI (okB zp0))) 0 0 (zA B0) := by
  refine z_of (own := RX4) (by decide) rfl (Nat.le_of_ble_eq_true rfl) ?_
  intro p e s m below meth c ls hx hb hr hml hown hlocks hnm hts hl hI
  have hl : lv_has ls 1 [(0, .int zp0)] := hl
  refine lv_iload_n hx hb dX4_isOrder_0 rfl (lv_at hl 0 rfl) ?_
  refine lv_i2l hx hb dX4_isOrder_1 rfl ?_
  refine lv_lconst (v := 0) hx hb dX4_isOrder_2 (by decide) ?_
  refine lv_lconst (v := 1) hx hb dX4_isOrder_3 (by decide) ?_
  refine z_calli hI (z_S (As := [.long zp0.toInt64, .long 0, .long 1]) (rest := []) ⟨hx, hb, hml, hown, hts⟩ hI (c_X4_in l G B0 F zp0.toInt64 0 1) (z_cwS vX4_in hts q776 ⟨Nat.le_of_ble_eq_true rfl, Nat.le_of_ble_eq_true rfl⟩) rfl hl.1 rfl (lv_room (Nat.le_of_ble_eq_true rfl)) dX4_isOrder_4 ⟨Nat.le_of_ble_eq_true rfl, Nat.le_of_ble_eq_true rfl⟩) (fun r2 F1 H locs hp3 hI => ?_)
  obtain ⟨rfl, rfl⟩ := hp3
  refine z_rz hx hb hr hlocks pI_or hI ?_ (Nat.le_of_ble_eq_true rfl) (Nat.le_of_ble_eq_true rfl) dX4_isOrder_7
  exact ⟨_, rfl, rfl, pI_cg (in_pl (n := 1) (by decide))⟩

set_option maxHeartbeats 4000000 in
set_option maxRecDepth 100000 in
theorem c_X4_passes (l : Launch) (G : zK) (B0 : Nat) (F : zM) (σ : Sg) (th : Int32) (P1 P2 P3 : Prop) (hM : MS G B0 F σ th) : Met l yX4_passes (Cond.code yX4_passes cX4_passes 4 (some FieldType.boolean) :: zW) (zRm 0 0 0 0) (va_Pc [.ref (B0 + 23), .int (pI (P1)), .int (pI (P2)), .int (pI (P3))] (zPre G B0 F)) (zQi G B0 (fun r' F' => (∃ th', MS G B0 F' σ th' ∧ zTh P1 P2 P3 th') ∧ r' = pI (P1 ∧ P2 ∧ P3) ∧ ∀ q, q ≠ B0 + 23 → F' q = F q)) 0 0 (zA B0) := by
  refine z_of (own := RX4) (by decide) rfl (Nat.le_of_ble_eq_true rfl) ?_
  intro p e s m below meth c ls hx hb hr hml hown hlocks hnm hts hl hI
  have hl : lv_has ls 4 [(0, .ref (B0 + 23)), (1, .int (pI (P1))), (2, .int (pI (P2))), (3, .int (pI (P3)))] := hl
  obtain ⟨m01, ⟨ma1, m11, me11⟩, ⟨mb1, m21, me21⟩, ⟨mc1, m31, me31⟩, ⟨n91, t91, m41⟩, mT1, mP1⟩ := id hM
  refine lv_aload_n hx hb dX4_passes_0 rfl (lv_at hl 0 rfl) ?_
  refine lv_iload_n hx hb dX4_passes_1 rfl (lv_at hl 1 rfl) ?_
  refine z_ifp_ne (tgt := 9) hx hb dX4_passes_2 (by decide) (fun hq2 => ?_) (fun hq2 => ?_)
  · refine lv_iload_n hx hb dX4_passes_9 rfl (lv_at hl 2 rfl) ?_
    refine z_ifp_ne (tgt := 17) hx hb dX4_passes_10 (by decide) (fun hq3 => ?_) (fun hq3 => ?_)
    · refine lv_iload_n hx hb dX4_passes_17 rfl (lv_at hl 3 rfl) ?_
      refine z_ifp_ne (tgt := 25) hx hb dX4_passes_18 (by decide) (fun hq4 => ?_) (fun hq4 => ?_)
      · refine lv_iconst (v := nI 0) hx hb dX4_passes_25 (by decide) ?_
        refine z_put hx hb hts hown zlX4 tyX4 tyX4_ok nmX4 rfl 0 (by decide) (hts _ q752) rfl hI m01 rfl rfl rfl rfl (Nat.le_of_ble_eq_true rfl) dX4_passes_26 (fun H locs F5 hw6 ho7 hI => ?_)
        have hw6 : F5 (B0 + 23) = some (zO 4 [.int (nI 0), .ref (B0 + 24), .ref (B0 + 33), .ref (B0 + 38), .ref (B0 + 40)]) := hw6
        have hc8 : F5 (B0 + 24) = some (zA3 G 4 ma1) := (ho7 _ (zne m11 m01 (fun q => by cases q))).trans m11
        have hc9 : F5 (B0 + 33) = some (zA3 G 2 mb1) := (ho7 _ (zne m21 m01 (fun q => by cases q))).trans m21
        have hc10 : F5 (B0 + 40) = some (zAI G 100 mc1) := (ho7 _ (zne m31 m01 (fun q => by cases q))).trans m31
        refine lv_aload_n hx hb dX4_passes_29 rfl (lv_at hl 0 rfl) ?_
        refine z_get hx hb hts hown zlX4 rfl 0 (by decide) (hts _ q752) rfl hI hw6 rfl dX4_passes_30 ?_
        refine z_if_ne (tgt := 40) (a := 0) hx hb dX4_passes_33 (by decide) (by omega) (fun hq11 => ?_) (fun hq11 => ?_)
        · omega
        · refine lv_iconst (v := nI 1) hx hb dX4_passes_36 (by decide) ?_
          refine lv_goto (tgt := 41) hx hb dX4_passes_37 (by decide) ?_
          refine z_rz hx hb hr hlocks (Or.inr rfl) hI ?_ (Nat.le_of_ble_eq_true rfl) (Nat.le_of_ble_eq_true rfl) dX4_passes_41
          exact ⟨_, rfl, ⟨nI 0, MS.setH hM ho7 hw6, Or.inl ⟨rfl, hq2, hq3, hq4⟩⟩, pI_t ⟨hq2, hq3, hq4⟩, ho7⟩
      · refine lv_iconst (v := nI 3) hx hb dX4_passes_21 (by decide) ?_
        refine lv_goto (tgt := 26) hx hb dX4_passes_22 (by decide) ?_
        refine z_put hx hb hts hown zlX4 tyX4 tyX4_ok nmX4 rfl 0 (by decide) (hts _ q752) rfl hI m01 rfl rfl rfl rfl (Nat.le_of_ble_eq_true rfl) dX4_passes_26 (fun H locs F12 hw13 ho14 hI => ?_)
        have hw13 : F12 (B0 + 23) = some (zO 4 [.int (nI 3), .ref (B0 + 24), .ref (B0 + 33), .ref (B0 + 38), .ref (B0 + 40)]) := hw13
        have hc15 : F12 (B0 + 24) = some (zA3 G 4 ma1) := (ho14 _ (zne m11 m01 (fun q => by cases q))).trans m11
        have hc16 : F12 (B0 + 33) = some (zA3 G 2 mb1) := (ho14 _ (zne m21 m01 (fun q => by cases q))).trans m21
        have hc17 : F12 (B0 + 40) = some (zAI G 100 mc1) := (ho14 _ (zne m31 m01 (fun q => by cases q))).trans m31
        refine lv_aload_n hx hb dX4_passes_29 rfl (lv_at hl 0 rfl) ?_
        refine z_get hx hb hts hown zlX4 rfl 0 (by decide) (hts _ q752) rfl hI hw13 rfl dX4_passes_30 ?_
        refine z_if_ne (tgt := 40) (a := 3) hx hb dX4_passes_33 (by decide) (by omega) (fun hq18 => ?_) (fun hq18 => ?_)
        · refine lv_iconst (v := nI 0) hx hb dX4_passes_40 (by decide) ?_
          refine z_rz hx hb hr hlocks (Or.inl rfl) hI ?_ (Nat.le_of_ble_eq_true rfl) (Nat.le_of_ble_eq_true rfl) dX4_passes_41
          exact ⟨_, rfl, ⟨nI 3, MS.setH hM ho14 hw13, Or.inr (Or.inr (Or.inr ⟨rfl, hq2, hq3, hq4⟩))⟩, pI_f (fun z => hq4 z.2.2), ho14⟩
        · omega
    · refine lv_iconst (v := nI 2) hx hb dX4_passes_13 (by decide) ?_
      refine lv_goto (tgt := 26) hx hb dX4_passes_14 (by decide) ?_
      refine z_put hx hb hts hown zlX4 tyX4 tyX4_ok nmX4 rfl 0 (by decide) (hts _ q752) rfl hI m01 rfl rfl rfl rfl (Nat.le_of_ble_eq_true rfl) dX4_passes_26 (fun H locs F19 hw20 ho21 hI => ?_)
      have hw20 : F19 (B0 + 23) = some (zO 4 [.int (nI 2), .ref (B0 + 24), .ref (B0 + 33), .ref (B0 + 38), .ref (B0 + 40)]) := hw20
      have hc22 : F19 (B0 + 24) = some (zA3 G 4 ma1) := (ho21 _ (zne m11 m01 (fun q => by cases q))).trans m11
      have hc23 : F19 (B0 + 33) = some (zA3 G 2 mb1) := (ho21 _ (zne m21 m01 (fun q => by cases q))).trans m21
      have hc24 : F19 (B0 + 40) = some (zAI G 100 mc1) := (ho21 _ (zne m31 m01 (fun q => by cases q))).trans m31
      refine lv_aload_n hx hb dX4_passes_29 rfl (lv_at hl 0 rfl) ?_
      refine z_get hx hb hts hown zlX4 rfl 0 (by decide) (hts _ q752) rfl hI hw20 rfl dX4_passes_30 ?_
      refine z_if_ne (tgt := 40) (a := 2) hx hb dX4_passes_33 (by decide) (by omega) (fun hq25 => ?_) (fun hq25 => ?_)
      · refine lv_iconst (v := nI 0) hx hb dX4_passes_40 (by decide) ?_
        refine z_rz hx hb hr hlocks (Or.inl rfl) hI ?_ (Nat.le_of_ble_eq_true rfl) (Nat.le_of_ble_eq_true rfl) dX4_passes_41
        exact ⟨_, rfl, ⟨nI 2, MS.setH hM ho21 hw20, Or.inr (Or.inr (Or.inl ⟨rfl, hq2, hq3⟩))⟩, pI_f (fun z => hq3 z.2.1), ho21⟩
      · omega
  · refine lv_iconst (v := nI 1) hx hb dX4_passes_5 (by decide) ?_
    refine lv_goto (tgt := 26) hx hb dX4_passes_6 (by decide) ?_
    refine z_put hx hb hts hown zlX4 tyX4 tyX4_ok nmX4 rfl 0 (by decide) (hts _ q752) rfl hI m01 rfl rfl rfl rfl (Nat.le_of_ble_eq_true rfl) dX4_passes_26 (fun H locs F26 hw27 ho28 hI => ?_)
    have hw27 : F26 (B0 + 23) = some (zO 4 [.int (nI 1), .ref (B0 + 24), .ref (B0 + 33), .ref (B0 + 38), .ref (B0 + 40)]) := hw27
    have hc29 : F26 (B0 + 24) = some (zA3 G 4 ma1) := (ho28 _ (zne m11 m01 (fun q => by cases q))).trans m11
    have hc30 : F26 (B0 + 33) = some (zA3 G 2 mb1) := (ho28 _ (zne m21 m01 (fun q => by cases q))).trans m21
    have hc31 : F26 (B0 + 40) = some (zAI G 100 mc1) := (ho28 _ (zne m31 m01 (fun q => by cases q))).trans m31
    refine lv_aload_n hx hb dX4_passes_29 rfl (lv_at hl 0 rfl) ?_
    refine z_get hx hb hts hown zlX4 rfl 0 (by decide) (hts _ q752) rfl hI hw27 rfl dX4_passes_30 ?_
    refine z_if_ne (tgt := 40) (a := 1) hx hb dX4_passes_33 (by decide) (by omega) (fun hq32 => ?_) (fun hq32 => ?_)
    · refine lv_iconst (v := nI 0) hx hb dX4_passes_40 (by decide) ?_
      refine z_rz hx hb hr hlocks (Or.inl rfl) hI ?_ (Nat.le_of_ble_eq_true rfl) (Nat.le_of_ble_eq_true rfl) dX4_passes_41
      exact ⟨_, rfl, ⟨nI 1, MS.setH hM ho28 hw27, Or.inr (Or.inl ⟨rfl, hq2⟩)⟩, pI_f (fun z => hq2 z.1), ho28⟩
    · omega

