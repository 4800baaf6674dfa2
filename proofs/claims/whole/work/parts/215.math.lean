def zmax (x y : Int32) : Int32 := if x < y then y else x
def zmin (x y : Int32) : Int32 := if y < x then y else x
def zabs (x : Int32) : Int32 := if 0 ≤ x then x else -x
theorem zmax_N {a b : Nat} (ha : a < 2 ^ 31) (hb : b < 2 ^ 31) : zmax (nI a) (nI b) = nI (max a b) := by
  unfold zmax
  by_cases h : a < b
  · rw [if_pos ((nI_ltI ha hb).mpr h), Nat.max_eq_right (by omega)]
  · rw [if_neg (fun q => h ((nI_ltI ha hb).mp q)), Nat.max_eq_left (by omega)]
theorem zmin_N {a b : Nat} (ha : a < 2 ^ 31) (hb : b < 2 ^ 31) : zmin (nI a) (nI b) = nI (min a b) := by
  unfold zmin
  by_cases h : b < a
  · rw [if_pos ((nI_ltI hb ha).mpr h), Nat.min_eq_right (by omega)]
  · rw [if_neg (fun q => h ((nI_ltI hb ha).mp q)), Nat.min_eq_left (by omega)]

set_option maxHeartbeats 4000000 in
set_option maxRecDepth 100000 in
theorem c_J9_max_7cf53 (l : Launch) (G : zK) (B0 : Nat) (F : zM) (x y : Int32) : Met l yJ9_max_7cf53 (Cond.code yJ9_max_7cf53 cJ9_max_7cf53 2 (some FieldType.int) :: zW) (zRm 0 0 0 0) (va_Pc [.int x, .int y] (zPre G B0 F)) (zQi G B0 (fun r F' => F = F' ∧ r = zmax x y)) 0 0 (zA B0) := by
  refine z_ofF (own := RJ9) (by decide +kernel) rfl (Nat.le_of_ble_eq_true rfl) ?_
  intro p e s m below meth c ls hx hb hr hml hown hlocks hnm hts hl hI
  have hl : lv_has ls 2 [(0, .int x), (1, .int y)] := hl
  refine lv_iload_n hx hb dJ9_max_7cf53_0 rfl (lv_at hl 0 rfl) ?_
  refine lv_iload_n hx hb dJ9_max_7cf53_1 rfl (lv_at hl 1 rfl) ?_
  refine lv_icmp_lt (tgt := 9) hx hb dJ9_max_7cf53_2 (by decide) (fun hq1 => ?_) (fun hq1 => ?_)
  · refine lv_iload_n hx hb dJ9_max_7cf53_9 rfl (lv_at hl 1 rfl) ?_
    refine z_ri hx hb hr hlocks hI ?_ (Nat.le_of_ble_eq_true rfl) (Nat.le_of_ble_eq_true rfl) dJ9_max_7cf53_10
    exact ⟨_, rfl, rfl, by unfold zmax; split <;> first | rfl | contradiction⟩
  · refine lv_iload_n hx hb dJ9_max_7cf53_5 rfl (lv_at hl 0 rfl) ?_
    refine lv_goto (tgt := 10) hx hb dJ9_max_7cf53_6 (by decide) ?_
    refine z_ri hx hb hr hlocks hI ?_ (Nat.le_of_ble_eq_true rfl) (Nat.le_of_ble_eq_true rfl) dJ9_max_7cf53_10
    exact ⟨_, rfl, rfl, by unfold zmax; split <;> first | rfl | contradiction⟩

set_option maxHeartbeats 4000000 in
set_option maxRecDepth 100000 in
theorem c_J9_min_7cf53 (l : Launch) (G : zK) (B0 : Nat) (F : zM) (x y : Int32) : Met l yJ9_min_7cf53 (Cond.code yJ9_min_7cf53 cJ9_min_7cf53 2 (some FieldType.int) :: zW) (zRm 0 0 0 0) (va_Pc [.int x, .int y] (zPre G B0 F)) (zQi G B0 (fun r F' => F = F' ∧ r = zmin x y)) 0 0 (zA B0) := by
  refine z_ofF (own := RJ9) (by decide +kernel) rfl (Nat.le_of_ble_eq_true rfl) ?_
  intro p e s m below meth c ls hx hb hr hml hown hlocks hnm hts hl hI
  have hl : lv_has ls 2 [(0, .int x), (1, .int y)] := hl
  refine lv_iload_n hx hb dJ9_min_7cf53_0 rfl (lv_at hl 0 rfl) ?_
  refine lv_iload_n hx hb dJ9_min_7cf53_1 rfl (lv_at hl 1 rfl) ?_
  refine lv_icmp_gt (tgt := 9) hx hb dJ9_min_7cf53_2 (by decide) (fun hq1 => ?_) (fun hq1 => ?_)
  · refine lv_iload_n hx hb dJ9_min_7cf53_9 rfl (lv_at hl 1 rfl) ?_
    refine z_ri hx hb hr hlocks hI ?_ (Nat.le_of_ble_eq_true rfl) (Nat.le_of_ble_eq_true rfl) dJ9_min_7cf53_10
    exact ⟨_, rfl, rfl, by unfold zmin; split <;> first | rfl | contradiction⟩
  · refine lv_iload_n hx hb dJ9_min_7cf53_5 rfl (lv_at hl 0 rfl) ?_
    refine lv_goto (tgt := 10) hx hb dJ9_min_7cf53_6 (by decide) ?_
    refine z_ri hx hb hr hlocks hI ?_ (Nat.le_of_ble_eq_true rfl) (Nat.le_of_ble_eq_true rfl) dJ9_min_7cf53_10
    exact ⟨_, rfl, rfl, by unfold zmin; split <;> first | rfl | contradiction⟩

set_option maxHeartbeats 4000000 in
set_option maxRecDepth 100000 in
theorem c_J9_abs_0f7a4 (l : Launch) (G : zK) (B0 : Nat) (F : zM) (x : Int32) : Met l yJ9_abs_0f7a4 (Cond.code yJ9_abs_0f7a4 cJ9_abs_0f7a4 1 (some FieldType.int) :: zW) (zRm 0 0 0 0) (va_Pc [.int x] (zPre G B0 F)) (zQi G B0 (fun r F' => F = F' ∧ r = zabs x)) 0 0 (zA B0) := by
  refine z_ofF (own := RJ9) (by decide +kernel) rfl (Nat.le_of_ble_eq_true rfl) ?_
  intro p e s m below meth c ls hx hb hr hml hown hlocks hnm hts hl hI
  have hl : lv_has ls 1 [(0, .int x)] := hl
  refine lv_iload_n hx hb dJ9_abs_0f7a4_0 rfl (lv_at hl 0 rfl) ?_
  refine lv_if_ge (tgt := 9) hx hb dJ9_abs_0f7a4_1 (by decide) (fun hq1 => ?_) (fun hq1 => ?_)
  · refine lv_iload_n hx hb dJ9_abs_0f7a4_9 rfl (lv_at hl 0 rfl) ?_
    refine z_ri hx hb hr hlocks hI ?_ (Nat.le_of_ble_eq_true rfl) (Nat.le_of_ble_eq_true rfl) dJ9_abs_0f7a4_10
    exact ⟨_, rfl, rfl, by unfold zabs; split <;> first | rfl | contradiction⟩
  · refine lv_iload_n hx hb dJ9_abs_0f7a4_4 rfl (lv_at hl 0 rfl) ?_
    refine lv_ineg hx hb dJ9_abs_0f7a4_5 ?_
    refine lv_goto (tgt := 10) hx hb dJ9_abs_0f7a4_6 (by decide) ?_
    refine z_ri hx hb hr hlocks hI ?_ (Nat.le_of_ble_eq_true rfl) (Nat.le_of_ble_eq_true rfl) dJ9_abs_0f7a4_10
    exact ⟨_, rfl, rfl, by unfold zabs; split <;> first | rfl | contradiction⟩

def fmd (x : Int32) (k : Nat) : Nat := (x.toInt % (k : Int)).toNat
theorem fmd_lt (x : Int32) {k : Nat} (h : 0 < k) : fmd x k < k := by
  have h1 := Int.emod_nonneg x.toInt (show (k : Int) ≠ 0 by omega)
  have h2 := Int.emod_lt_of_pos x.toInt (show (0 : Int) < k by omega)
  unfold fmd
  omega
theorem xor_neg (x : Int32) {k : Nat} (hk : k < 2 ^ 31) : 0 ≤ x ^^^ nI k ↔ 0 ≤ x := by
  rw [Int32.le_iff_toInt_le, Int32.le_iff_toInt_le]
  have h1 : ∀ y : Int32, (0 : Int32).toInt ≤ y.toInt ↔ y.toBitVec.msb = false := fun y => by
    rw [BitVec.msb_eq_toInt]
    show (0 : Int) ≤ y.toBitVec.toInt ↔ _
    simp
  rw [h1, h1, Int32.toBitVec_xor, BitVec.msb_xor, (h1 (nI k)).mp (by rw [nI_toInt hk]; show (0 : Int) ≤ _; omega)]
  simp
theorem fmd_nn {x z : Int32} {k : Nat} (hk : 0 < k) (hk2 : k ≤ 100) (hz : z.toInt = x.toInt.tmod k) (hx : 0 ≤ x ∨ z = 0) : z = nI (fmd x k) := by
  have hl := fmd_lt x hk
  refine Int32.toInt_inj.mp ?_
  rw [nI_toInt (by omega), hz]
  unfold fmd
  rw [Int.toNat_of_nonneg (Int.emod_nonneg _ (by omega))]
  rcases hx with hx | hx
  · exact Int.tmod_eq_emod_of_nonneg (Int32.le_iff_toInt_le.mp hx)
  · rw [hx] at hz
    have h0 : x.toInt.tmod k = 0 := hz.symm
    have h1 := Int.tmod_eq_emod (a := x.toInt) (b := (k : Int))
    have h2 := Int.dvd_of_tmod_eq_zero h0
    rw [h0, Int.emod_eq_zero_of_dvd h2]
theorem fmd_neg {x z : Int32} {k : Nat} (hk : 0 < k) (hk2 : k ≤ 100) (hz : z.toInt = x.toInt.tmod k) (hx : ¬ 0 ≤ x) (h0 : ¬ z = 0) : z + nI k = nI (fmd x k) := by
  have hl := fmd_lt x hk
  have hxi : x.toInt < 0 := by
    rw [Int32.le_iff_toInt_le] at hx
    have : ((0 : Int32).toInt) = 0 := rfl
    omega
  have hzi : z.toInt ≠ 0 := fun q => h0 (Int32.toInt_inj.mp q)
  have h3 := Int.emod_nonneg x.toInt (show (k : Int) ≠ 0 by omega)
  have h4 := Int.emod_lt_of_pos x.toInt (show (0 : Int) < k by omega)
  have h5 := Int.emod_add_mul_ediv x.toInt k
  have h6 := Int.tmod_add_mul_tdiv x.toInt k
  have h7 := Int.lt_tmod_of_pos x.toInt (show (0 : Int) < k by omega)
  have h8 : x.toInt.tmod k ≤ 0 := by
    have e := Int.neg_tmod (-x.toInt) k
    rw [Int.neg_neg] at e
    have e3 := Int.tmod_nonneg (k : Int) (show 0 ≤ -x.toInt by omega)
    omega
  have key : x.toInt % k = x.toInt.tmod k + k := by
    have e1 : (x.toInt % k - x.toInt.tmod k) = k * (x.toInt.tdiv k - x.toInt / k) := by rw [Int.mul_sub]; omega
    rw [hz] at hzi
    have h9 : 0 < x.toInt % k - x.toInt.tmod k := by omega
    have h10 : x.toInt % k - x.toInt.tmod k < k * 2 := by omega
    rw [e1] at h9 h10
    have h11 : 0 < x.toInt.tdiv k - x.toInt / k := Int.pos_of_mul_pos_right h9 (by omega)
    have h12 : x.toInt.tdiv k - x.toInt / k < 2 := Int.lt_of_mul_lt_mul_left h10 (by omega)
    have h13 : x.toInt.tdiv k - x.toInt / k = 1 := by omega
    rw [h13] at e1
    omega
  refine Int32.toInt_inj.mp ?_
  rw [nI_toInt (by omega), Int32.toInt_add, nI_toInt (by omega), hz]
  have e2 : x.toInt.tmod k + (k : Int) = (fmd x k : Nat) := by
    unfold fmd
    rw [Int.toNat_of_nonneg h3]
    omega
  rw [e2, Int.bmod_eq_of_le] <;> omega


set_option maxHeartbeats 4000000 in
set_option maxRecDepth 100000 in
theorem c_J9_floorMod_7cf53 (l : Launch) (G : zK) (B0 : Nat) (F : zM) (x : Int32) (k : Nat) (hk0 : 0 < k) (hk : k ≤ 100) : Met l yJ9_floorMod_7cf53 (Cond.code yJ9_floorMod_7cf53 cJ9_floorMod_7cf53 3 (some FieldType.int) :: zW) (zRm 0 0 0 0) (va_Pc [.int x, .int (nI k)] (zPre G B0 F)) (zQi G B0 (fun r F' => F = F' ∧ r = nI (fmd x k))) 0 0 (zA B0) := by
  refine z_ofF (own := RJ9) (by decide +kernel) rfl (Nat.le_of_ble_eq_true rfl) ?_
  intro p e s m below meth c ls hx hb hr hml hown hlocks hnm hts hl hI
  have hl : lv_has ls 3 [(0, .int x), (1, .int (nI k))] := hl
  refine lv_iload_n hx hb dJ9_floorMod_7cf53_0 rfl (lv_at hl 0 rfl) ?_
  refine lv_iload_n hx hb dJ9_floorMod_7cf53_1 rfl (lv_at hl 1 rfl) ?_
  refine lv_irem hx hb dJ9_floorMod_7cf53_2 (nI_ne0 (by omega) (by omega)) ?_
  refine lv_istore_n (lv' := [(2, .int (x - x / (nI k) * (nI k))), (0, .int x), (1, .int (nI k))]) hx hb dJ9_floorMod_7cf53_3 rfl hl (by decide) rfl (fun ls hl => ?_)
  refine lv_iload_n hx hb dJ9_floorMod_7cf53_4 rfl (lv_at hl 1 rfl) ?_
  refine lv_iload_n hx hb dJ9_floorMod_7cf53_5 rfl (lv_at hl 2 rfl) ?_
  refine lv_ixor hx hb dJ9_floorMod_7cf53_6 ?_
  refine lv_if_ge (tgt := 18) hx hb dJ9_floorMod_7cf53_7 (by decide) (fun hq1 => ?_) (fun hq1 => ?_)
  · refine lv_iload_n hx hb dJ9_floorMod_7cf53_18 rfl (lv_at hl 0 rfl) ?_
    refine z_ri hx hb hr hlocks hI ?_ (Nat.le_of_ble_eq_true rfl) (Nat.le_of_ble_eq_true rfl) dJ9_floorMod_7cf53_19
    have hz : (x - x / nI k * nI k).toInt = x.toInt.tmod k := by rw [rem_toInt, nI_toInt (by omega)]
    exact ⟨_, rfl, rfl, fmd_nn hk0 hk hz (Or.inl ((xor_neg x (by omega)).mp hq1))⟩
  · refine lv_iload_n hx hb dJ9_floorMod_7cf53_10 rfl (lv_at hl 0 rfl) ?_
    refine lv_if_eq (tgt := 18) hx hb dJ9_floorMod_7cf53_11 (by decide) (fun hq2 => ?_) (fun hq2 => ?_)
    · refine lv_iload_n hx hb dJ9_floorMod_7cf53_18 rfl (lv_at hl 0 rfl) ?_
      refine z_ri hx hb hr hlocks hI ?_ (Nat.le_of_ble_eq_true rfl) (Nat.le_of_ble_eq_true rfl) dJ9_floorMod_7cf53_19
      have hz : (x - x / nI k * nI k).toInt = x.toInt.tmod k := by rw [rem_toInt, nI_toInt (by omega)]
      exact ⟨_, rfl, rfl, fmd_nn hk0 hk hz (Or.inr hq2)⟩
    · refine lv_iload_n hx hb dJ9_floorMod_7cf53_14 rfl (lv_at hl 0 rfl) ?_
      refine lv_iload_n hx hb dJ9_floorMod_7cf53_15 rfl (lv_at hl 2 rfl) ?_
      refine lv_iadd hx hb dJ9_floorMod_7cf53_16 ?_
      refine z_ri hx hb hr hlocks hI ?_ (Nat.le_of_ble_eq_true rfl) (Nat.le_of_ble_eq_true rfl) dJ9_floorMod_7cf53_17
      have hz : (x - x / nI k * nI k).toInt = x.toInt.tmod k := by rw [rem_toInt, nI_toInt (by omega)]
      exact ⟨_, rfl, rfl, fmd_neg hk0 hk hz (fun q => hq1 ((xor_neg x (by omega)).mpr q)) hq2⟩

