theorem rev_rev {t : Nat → Int32} {n j : Nat} (h : j < n) : revt (revt t 0 n) 0 n j = t j := by
  simp only [revt]
  rw [if_pos (by omega), if_pos (by omega)]
  congr 1; omega
theorem mv_mv {t : Nat → Int32} {n j : Nat} (h : j < n) (hn : n < 2 ^ 20) : mvt (mvt t 0 n (mby (nI 1) (n - 0))) 0 n (mby (-1) (n - 0)) j = t j := by
  have h1 : mby (nI 1) (n - 0) = 1 % n := by
    rw [mby_pos (by omega)]
    unfold fmd
    rw [nI_toInt (by decide), Nat.sub_zero]
    omega
  have h2 : mby (-1) (n - 0) = n - 1 := by
    rw [mby_pos (by omega)]
    unfold fmd
    have : (-1 : Int32).toInt = -1 := rfl
    rw [this, Nat.sub_zero]
    by_cases e : n = 1
    · subst e; rfl
    · have h3 : (-1 : Int) % (n : Int) = (n : Int) - 1 := by
        rw [Int.emod_eq_add_self_emod, Int.emod_eq_of_lt (by omega) (by omega)]
        omega
      rw [h3]; omega
  rw [h1, h2]
  simp only [mvt]
  have hm := Nat.mod_lt (j - 0 + (n - 0 - (n - 1))) (show 0 < n - 0 by omega)
  rw [if_pos (by omega), if_pos (by omega)]
  congr 1
  by_cases e : n = 1
  · subst e; omega
  · rw [Nat.mod_eq_of_lt (show 1 < n by omega)]
    by_cases e2 : j + 1 = n
    · rw [show j - 0 + (n - 0 - (n - 1)) = n - 0 by omega, Nat.mod_self, Nat.mod_eq_of_lt (show 0 + 0 - 0 + (n - 0 - 1) < n - 0 by omega)]
      omega
    · rw [Nat.mod_eq_of_lt (show j - 0 + (n - 0 - (n - 1)) < n - 0 by omega), show 0 + (j - 0 + (n - 0 - (n - 1))) - 0 + (n - 0 - 1) = j + (n - 0) by omega, Nat.add_mod_right, Nat.mod_eq_of_lt (show j < n - 0 by omega)]
      omega
theorem lnd_sp {P : Int32 → Int32 → Prop} {t : Nat → Int32} {w : Int32} : ∀ {j : Nat}, (∀ i, lnd P t w j ≤ i → i < j → P w (t i)) ∧ (0 < lnd P t w j → ¬ P w (t (lnd P t w j - 1)))
  | 0 => ⟨fun i _ h => absurd h (Nat.not_lt_zero _), fun h => absurd h (Nat.lt_irrefl _)⟩
  | j + 1 => by
    by_cases h : P w (t j)
    · rw [lnd_t h]
      have ih := lnd_sp (P := P) (t := t) (w := w) (j := j)
      refine ⟨fun i h1 h2 => ?_, ih.2⟩
      by_cases e : i = j
      · rw [e]; exact h
      · exact ih.1 i h1 (by omega)
    · rw [lnd_f h]
      exact ⟨fun i h1 h2 => by omega, fun _ => h⟩
theorem srt_ok {ρ : Nat → Int32} {o : Int32} {t : Nat → Int32} : ∀ {k : Nat} (i : Nat), 1 ≤ i → i ≤ k → ¬ kv ρ o (srt (psd ρ o 0) t k i) < kv ρ o (srt (psd ρ o 0) t k (i - 1))
  | 0, i, h1, h2 => by omega
  | k + 1, i, h1, h2 => by
    have ih := srt_ok (ρ := ρ) (o := o) (t := t) (k := k)
    obtain ⟨s1, s2⟩ := lnd_sp (P := psd ρ o 0) (t := srt (psd ρ o 0) t k) (w := srt (psd ρ o 0) t k (k + 1)) (j := k + 1)
    have hl := lnd_le (psd ρ o 0) (srt (psd ρ o 0) t k) (srt (psd ρ o 0) t k (k + 1)) (k + 1)
    simp only [srt]
    generalize hp : lnd (psd ρ o 0) (srt (psd ρ o 0) t k) (srt (psd ρ o 0) t k (k + 1)) (k + 1) = p at *
    generalize srt (psd ρ o 0) t k = T at *
    simp only [insk]
    by_cases e1 : i < p
    · rw [if_neg (by omega), if_neg (by omega), if_neg (by omega), if_neg (by omega)]
      exact ih i h1 (by omega)
    · by_cases e2 : i = p
      · rw [if_pos e2, if_neg (by omega), if_neg (by omega), e2]
        exact fun z => s2 (by omega) ⟨fun _ => z, fun z9 => absurd rfl z9⟩
      · by_cases e3 : i = p + 1
        · rw [if_neg (by omega), if_pos (by omega), if_pos (by omega), e3]
          exact i_asym ((s1 p (Nat.le_refl _) (by omega)).1 rfl)
        · rw [if_neg (by omega), if_pos (by omega), if_neg (by omega), if_pos (by omega)]
          exact ih (i - 1) (by omega) (by omega)
theorem srt_isr {ρ : Nat → Int32} {o : Int32} {t : Nat → Int32} {n : Nat} : isr ρ o (srt (psd ρ o 0) t (n - 1)) n := fun k h1 h2 => srt_ok k h1 (by omega)
theorem cnt_insk {t : Nat → Int32} {p k : Nat} {x : Int32} (hp : p ≤ k) : ∀ j : Nat, (j ≤ p → cnt (insk t p k) x j = cnt t x j) ∧ (p < j → j ≤ k + 1 → cnt (insk t p k) x j = cnt t x (j - 1) + (if t k = x then 1 else 0)) ∧ (k + 1 ≤ j → cnt (insk t p k) x j = cnt t x j)
  | 0 => ⟨fun _ => rfl, fun h => absurd h (Nat.not_lt_zero _), fun _ => rfl⟩
  | j + 1 => by
    obtain ⟨i1, i2, i3⟩ := cnt_insk (t := t) (x := x) hp j
    have a : j + 1 ≤ p → cnt (insk t p k) x (j + 1) = cnt t x (j + 1) := fun h => by
      simp only [cnt]
      rw [i1 (by omega), show insk t p k j = t j by simp only [insk]; rw [if_neg (by omega), if_neg (by omega)]]
    have b : p < j + 1 → j + 1 ≤ k + 1 → cnt (insk t p k) x (j + 1) = cnt t x (j + 1 - 1) + (if t k = x then 1 else 0) := fun h1 h2 => by
      simp only [cnt]
      by_cases e : j = p
      · rw [i1 (by omega), show insk t p k j = t k by simp only [insk]; rw [if_pos e]]; rfl
      · rw [i2 (by omega) (by omega), show insk t p k j = t (j - 1) by simp only [insk]; rw [if_neg e, if_pos (by omega)]]
        obtain ⟨j9, rfl⟩ : ∃ j9, j = j9 + 1 := ⟨j - 1, by omega⟩
        show cnt t x j9 + _ + _ = cnt t x (j9 + 1) + _
        simp only [cnt]
        show _ + _ + (if t j9 = x then 1 else 0) = _
        omega
    refine ⟨a, b, fun h => ?_⟩
    by_cases e : j = k
    · rw [b (by omega) (by omega), e]; rfl
    · simp only [cnt]
      rw [i3 (by omega), show insk t p k j = t j by simp only [insk]; rw [if_neg (by omega), if_neg (by omega)]]
theorem cnt_srt {P : Int32 → Int32 → Prop} {t : Nat → Int32} {n : Nat} {x : Int32} : ∀ {k : Nat}, k < n → cnt (srt P t k) x n = cnt t x n
  | 0, _ => rfl
  | k + 1, h => by
    simp only [srt]
    rw [(cnt_insk (lnd_le _ _ _ _) n).2.2 (by omega), cnt_srt (by omega)]
theorem zlst_some {P : Nat → Prop} : ∀ {c k : Nat}, zlst P c = some k → k < c ∧ P k ∧ ∀ j, k < j → j < c → ¬ P j
  | 0, k, h => by simp [zlst] at h
  | c + 1, k, h => by
    by_cases q : P c
    · rw [zlst_t q] at h
      cases h
      exact ⟨Nat.lt_succ_self _, q, fun j h1 h2 => by omega⟩
    · rw [zlst_f q] at h
      obtain ⟨h1, h2, h3⟩ := zlst_some h
      refine ⟨by omega, h2, fun j j1 j2 => ?_⟩
      by_cases e : j = c
      · rw [e]; exact q
      · exact h3 j j1 (by omega)
theorem zlst_none {P : Nat → Prop} : ∀ {c : Nat}, zlst P c = none → ∀ j, j < c → ¬ P j
  | 0, _, j, h => absurd h (Nat.not_lt_zero _)
  | c + 1, h, j, hj => by
    by_cases q : P c
    · rw [zlst_t q] at h; cases h
    · rw [zlst_f q] at h
      by_cases e : j = c
      · rw [e]; exact q
      · exact zlst_none h j (by omega)
theorem zfst_no {P : Nat → Prop} : ∀ {c a : Nat}, (∀ j, a ≤ j → j < a + c → ¬ P j) → zfst P a c = none
  | 0, _, _ => rfl
  | c + 1, a, h => by
    rw [zfst_f (h a (Nat.le_refl _) (by omega))]
    exact zfst_no (fun j h1 h2 => h j (by omega) (by omega))
theorem mir_h {t q : Nat → Int32} {n m p : Nat} (hp : p + m ≤ n) : hld (revt t 0 n) n (revt q 0 m) m p ↔ hld t n q m (n - m - p) := by
  constructor
  · rintro ⟨h1, h2⟩
    refine ⟨by omega, fun i hi => ?_⟩
    have h3 := h2 (m - 1 - i) (by omega)
    simp only [revt] at h3
    rw [if_pos (by omega), if_pos (by omega)] at h3
    rw [show n - m - p + i = 0 + n - 1 - (p + (m - 1 - i)) by omega, h3]
    congr 1; omega
  · rintro ⟨h1, h2⟩
    refine ⟨by omega, fun i hi => ?_⟩
    have h3 := h2 (m - 1 - i) (by omega)
    simp only [revt]
    rw [if_pos (by omega), if_pos (by omega), show 0 + m - 1 - i = m - 1 - i by omega, ← h3]
    congr 1; omega
theorem mir {t q : Nat → Int32} {n m : Nat} : (zfst (hld (revt t 0 n) n (revt q 0 m) m) 0 (n + 1 - m - 0) = none ∧ zlst (hld t n q m) (n + 1 - m) = none) ∨ ∃ k, k + m ≤ n ∧ zlst (hld t n q m) (n + 1 - m) = some k ∧ zfst (hld (revt t 0 n) n (revt q 0 m) m) 0 (n + 1 - m - 0) = some (n - m - k) := by
  cases h : zlst (hld t n q m) (n + 1 - m) with
  | none =>
    refine Or.inl ⟨zfst_no fun j _ hj z => zlst_none h (n - m - j) (by omega) ((mir_h (by omega)).mp z), rfl⟩
  | some k =>
    obtain ⟨h1, h2, h3⟩ := zlst_some h
    refine Or.inr ⟨k, by omega, rfl, zfst_eq ((mir_h (by omega)).mpr ?_) (Nat.zero_le _) (by omega) (fun j _ hj z => ?_)⟩
    · rw [show n - m - (n - m - k) = k by omega]; exact h2
    · exact h3 (n - m - j) (by omega) (by omega) ((mir_h (by omega)).mp z)
theorem zap_ct (P : Nat → Prop) (m : Nat) : ∀ c, (zap P m c).1 ≤ zct P c
  | 0 => Nat.le_refl _
  | c + 1 => by
    have h := zap_ct P m c
    by_cases q : (zap P m c).2 ≤ c ∧ P c
    · rw [zap_t q, zct_t q.2]; exact Nat.succ_le_succ h
    · rw [zap_f q]; exact Nat.le_trans h (zct_mono P (Nat.le_succ _))
theorem fnd_none {P : Nat → Prop} {c m : Nat} (h : zfst P 0 c = none) : zct P c = 0 ∧ (zap P m c).1 = 0 := by
  have h1 : zct P c = 0 := zct_run (i := 0) (Nat.zero_le _) (fun j a b => zfst_none h j a (by omega))
  exact ⟨h1, by have := zap_ct P m c; omega⟩
theorem fnd_some {P : Nat → Prop} {c m k : Nat} (h : zfst P 0 c = some k) : 0 < zct P c ∧ 0 < (zap P m c).1 := by
  obtain ⟨-, h1, h2, h3⟩ := zfst_some h
  have e : zap P m k = (0, 0) := zap_run (i := 0) (Nat.zero_le _) (fun j a b z => h3 j a b z.2)
  have e2 : (zap P m (k + 1)).1 = 1 := by rw [zap_t ⟨by rw [e]; exact Nat.zero_le _, h2⟩, e]
  have hm : ∀ n, k + 1 ≤ n → 1 ≤ (zap P m n).1 := by
    intro n
    induction n with
    | zero => intro h; omega
    | succ n ih =>
      intro h
      by_cases q : k + 1 = n + 1
      · rw [← q, e2]; exact Nat.le_refl _
      · have := ih (by omega)
        by_cases z : (zap P m n).2 ≤ n ∧ P n
        · rw [zap_t z]; show 1 ≤ (zap P m n).1 + 1; omega
        · rw [zap_f z]; exact this
  have h4 := hm c (by omega)
  exact ⟨by have := zap_ct P m c; omega, h4⟩
theorem CS.setWW {G : zK} {B0 : Nat} {F F' : zM} {σ : Sg} {n n4 : Nat} {t t4 : Nat → Int32} (h : CS G B0 F σ) (hs : ∀ q, q ≠ B0 + 6 → q ≠ B0 + 7 → q ≠ B0 + 4 → q ≠ B0 + 5 → F' q = F q) (hr : RA G 1 F' (B0 + 6) (B0 + 7) 60 n t) (hd : RA G 1 F' (B0 + 4) (B0 + 5) 60 n4 t4) : CS G B0 F' σ ∧ zCf B0 F F' := by
  have h1 : zSm F (fun q => if q = B0 + 4 ∨ q = B0 + 5 then F' q else F q) (B0 + 4) (B0 + 5) := fun q a b => if_neg (by omega)
  have h2 : RA G 1 (fun q => if q = B0 + 4 ∨ q = B0 + 5 then F' q else F q) (B0 + 4) (B0 + 5) 60 n4 t4 := hd.go (if_pos (Or.inl rfl)) (if_pos (Or.inr rfl))
  refine ⟨CS.setW (CS.setW h (Or.inl ⟨rfl, rfl, rfl⟩) h1 h2) (Or.inr (Or.inl ⟨rfl, rfl, rfl⟩)) (fun q a b => ?_) hr, fun q hq => hs q (by omega) (by omega) (by omega) (by omega)⟩
  show F' q = if q = B0 + 4 ∨ q = B0 + 5 then F' q else F q
  by_cases e : q = B0 + 4 ∨ q = B0 + 5
  · rw [if_pos e]
  · rw [if_neg e]; exact hs q a b (by omega) (by omega)
set_option maxHeartbeats 4000000 in
set_option maxRecDepth 100000 in
theorem c_X2_turnsBack (l : Launch) (G : zK) (B0 : Nat) (F : zM) (σ : Sg) (i : Nat) (hC : CS G B0 F σ) (hi : i < 4) : Met l yX2_turnsBack (Cond.code yX2_turnsBack cX2_turnsBack 2 (some FieldType.boolean) :: zW) (zRm 3 65 0 0) (va_Pc [.ref B0, .ref (B0 + 11 + 2 * i)] (zPre G B0 F)) (zQi G B0 (fun r' F' => r' = nI 1 ∧ CS G B0 F' σ ∧ zCf B0 F F')) 0 0 (zA B0) := by
  refine z_of (own := RX2) (by decide) rfl (Nat.le_of_ble_eq_true rfl) ?_
  intro p e s m below meth c ls hx hb hr hml hown hlocks hnm hts hl hI
  have hl : lv_has ls 2 [(0, .ref B0), (1, .ref (B0 + 11 + 2 * i))] := hl
  obtain ⟨y01, ⟨fa1, y11, e11⟩, ⟨fb1, y21, e21⟩, ⟨fc1, y31, e31⟩, ⟨n41, t41, y41⟩, ⟨n61, t61, y61⟩, ⟨n81, t81, y81⟩, ⟨fd1, y101⟩, yT1, yP1⟩ := id hC
  have hx2 := yT1 i hi
  obtain ⟨xnhx2, xrhx2, fhx2, xwhx2, xfhx2⟩ := id hx2
  obtain ⟨xntr, xrtr, ftr, xwtr, xftr⟩ := id y61
  refine lv_aload_n hx hb dX2_turnsBack_0 rfl (lv_at hl 0 rfl) ?_
  refine z_get hx hb hts hown zlX2 rfl 4 (by decide) (hts _ q44) rfl hI y01 rfl dX2_turnsBack_1 ?_
  refine lv_aload_n hx hb dX2_turnsBack_4 rfl (lv_at hl 1 rfl) ?_
  refine z_callv hI (z_V (As := [.ref (B0 + 11 + 2 * i)]) (rest := []) ⟨hx, hb, hml, hown, hts⟩ hI xrtr rfl (c_X1_become l G B0 F (B0 + 6) (B0 + 7) 60 n61 t61 (B0 + 11 + 2 * i) (B0 + 12 + 2 * i) 60 (sn σ i) (st σ i) ⟨xntr, xrtr, ftr, xwtr, xftr⟩ (by omega) ⟨xnhx2, xrhx2, fhx2, xwhx2, xfhx2⟩ (by omega) (by omega) (by omega) (by omega)) (z_cwV vX1_become hts q386 ⟨Nat.le_of_ble_eq_true rfl, Nat.le_of_ble_eq_true rfl⟩) rfl hl.1 rfl (lv_room (Nat.le_of_ble_eq_true rfl)) dX2_turnsBack_5 ⟨Nat.le_of_ble_eq_true rfl, Nat.le_of_ble_eq_true rfl⟩) (fun F3 H locs hp5 hI => ?_)
  obtain ⟨ha6, hs6⟩ := hp5
  have hc7 : F3 B0 = some (zO 2 [.ref (B0 + 1), .ref (B0 + 2), .ref (B0 + 3), .ref (B0 + 4), .ref (B0 + 6), .ref (B0 + 8), .ref (B0 + 10)]) := (hs6 _ (zne y01 xrtr (fun q => by cases q)) (zne y01 xwtr (fun q => by cases q))).trans y01
  have hc8 : F3 (B0 + 1) = some (zA1 G 4 fa1) := (hs6 _ (zne y11 xrtr (fun q => by cases q)) (by omega)).trans y11
  have hc9 : F3 (B0 + 2) = some (zA1 G 2 fb1) := (hs6 _ (zne y21 xrtr (fun q => by cases q)) (by omega)).trans y21
  have hc10 : F3 (B0 + 3) = some (zAI G 100 fc1) := (hs6 _ (zne y31 xrtr (fun q => by cases q)) (by omega)).trans y31
  have hc11 : F3 (B0 + 10) = some (zAI G 61 fd1) := (hs6 _ (zne y101 xrtr (fun q => by cases q)) (by omega)).trans y101
  have hc12 : F3 (B0 + 11 + 2 * i) = some (zO 1 [.ref (B0 + 12 + 2 * i), .int (nI (sn σ i))]) := (hs6 _ (by omega) (zne xrhx2 xwtr (fun q => by cases q))).trans xrhx2
  have hc13 : F3 (B0 + 12 + 2 * i) = some (zAI G 60 fhx2) := (hs6 _ (zne xwhx2 xrtr (fun q => by cases q)) (by omega)).trans xwhx2
  obtain ⟨xn_6, xr_6, f_6, xw_6, xf_6⟩ := id ha6
  refine lv_aload_n hx hb dX2_turnsBack_8 rfl (lv_at hl 0 rfl) ?_
  refine z_get hx hb hts hown zlX2 rfl 4 (by decide) (hts _ q44) rfl hI hc7 rfl dX2_turnsBack_9 ?_
  refine lv_iconst (v := nI 0) hx hb dX2_turnsBack_12 (by decide) ?_
  refine lv_aload_n hx hb dX2_turnsBack_13 rfl (lv_at hl 0 rfl) ?_
  refine z_get hx hb hts hown zlX2 rfl 4 (by decide) (hts _ q44) rfl hI hc7 rfl dX2_turnsBack_14 ?_
  refine z_getN hx hb hts hown zlX1 rfl 1 (by decide) (List.mem_of_getElem? (i := 0) rfl) rfl hI xr_6 rfl dX2_turnsBack_17 ?_
  refine z_callv hI (z_V (As := [.int (nI 0), .int (nI (sn σ i))]) (rest := []) ⟨hx, hb, hml, hown, hts⟩ hI xr_6 rfl (c_X1_turnRound l G B0 F3 (B0 + 6) (B0 + 7) 60 (sn σ i) (st σ i) 0 (sn σ i) ⟨xn_6, xr_6, f_6, xw_6, xf_6⟩ (by omega) (by omega) (by omega)) (z_cwV vX1_turnRound hts q539 ⟨Nat.le_of_ble_eq_true rfl, Nat.le_of_ble_eq_true rfl⟩) rfl hl.1 rfl (lv_room (Nat.le_of_ble_eq_true rfl)) dX2_turnsBack_20 ⟨Nat.le_of_ble_eq_true rfl, Nat.le_of_ble_eq_true rfl⟩) (fun F14 H locs hp16 hI => ?_)
  obtain ⟨ha17, hs17⟩ := hp16
  have hc18 : F14 B0 = some (zO 2 [.ref (B0 + 1), .ref (B0 + 2), .ref (B0 + 3), .ref (B0 + 4), .ref (B0 + 6), .ref (B0 + 8), .ref (B0 + 10)]) := (hs17 _ (zne hc7 xr_6 (fun q => by cases q)) (zne hc7 xw_6 (fun q => by cases q))).trans hc7
  have hc19 : F14 (B0 + 1) = some (zA1 G 4 fa1) := (hs17 _ (zne hc8 xr_6 (fun q => by cases q)) (by omega)).trans hc8
  have hc20 : F14 (B0 + 2) = some (zA1 G 2 fb1) := (hs17 _ (zne hc9 xr_6 (fun q => by cases q)) (by omega)).trans hc9
  have hc21 : F14 (B0 + 3) = some (zAI G 100 fc1) := (hs17 _ (zne hc10 xr_6 (fun q => by cases q)) (by omega)).trans hc10
  have hc22 : F14 (B0 + 10) = some (zAI G 61 fd1) := (hs17 _ (zne hc11 xr_6 (fun q => by cases q)) (by omega)).trans hc11
  have hc23 : F14 (B0 + 11 + 2 * i) = some (zO 1 [.ref (B0 + 12 + 2 * i), .int (nI (sn σ i))]) := (hs17 _ (by omega) (zne hc12 xw_6 (fun q => by cases q))).trans hc12
  have hc24 : F14 (B0 + 12 + 2 * i) = some (zAI G 60 fhx2) := (hs17 _ (zne hc13 xr_6 (fun q => by cases q)) (by omega)).trans hc13
  obtain ⟨xn_17, xr_17, f_17, xw_17, xf_17⟩ := id ha17
  refine lv_aload_n hx hb dX2_turnsBack_23 rfl (lv_at hl 0 rfl) ?_
  refine z_get hx hb hts hown zlX2 rfl 4 (by decide) (hts _ q44) rfl hI hc18 rfl dX2_turnsBack_24 ?_
  refine lv_iconst (v := nI 0) hx hb dX2_turnsBack_27 (by decide) ?_
  refine lv_aload_n hx hb dX2_turnsBack_28 rfl (lv_at hl 0 rfl) ?_
  refine z_get hx hb hts hown zlX2 rfl 4 (by decide) (hts _ q44) rfl hI hc18 rfl dX2_turnsBack_29 ?_
  refine z_getN hx hb hts hown zlX1 rfl 1 (by decide) (List.mem_of_getElem? (i := 0) rfl) rfl hI xr_17 rfl dX2_turnsBack_32 ?_
  refine z_callv hI (z_V (As := [.int (nI 0), .int (nI (sn σ i))]) (rest := []) ⟨hx, hb, hml, hown, hts⟩ hI xr_17 rfl (c_X1_turnRound l G B0 F14 (B0 + 6) (B0 + 7) 60 (sn σ i) (revt (st σ i) 0 (sn σ i)) 0 (sn σ i) ⟨xn_17, xr_17, f_17, xw_17, xf_17⟩ (by omega) (by omega) (by omega)) (z_cwV vX1_turnRound hts q539 ⟨Nat.le_of_ble_eq_true rfl, Nat.le_of_ble_eq_true rfl⟩) rfl hl.1 rfl (lv_room (Nat.le_of_ble_eq_true rfl)) dX2_turnsBack_35 ⟨Nat.le_of_ble_eq_true rfl, Nat.le_of_ble_eq_true rfl⟩) (fun F25 H locs hp27 hI => ?_)
  obtain ⟨ha28, hs28⟩ := hp27
  have hc29 : F25 B0 = some (zO 2 [.ref (B0 + 1), .ref (B0 + 2), .ref (B0 + 3), .ref (B0 + 4), .ref (B0 + 6), .ref (B0 + 8), .ref (B0 + 10)]) := (hs28 _ (zne hc18 xr_17 (fun q => by cases q)) (zne hc18 xw_17 (fun q => by cases q))).trans hc18
  have hc30 : F25 (B0 + 1) = some (zA1 G 4 fa1) := (hs28 _ (zne hc19 xr_17 (fun q => by cases q)) (by omega)).trans hc19
  have hc31 : F25 (B0 + 2) = some (zA1 G 2 fb1) := (hs28 _ (zne hc20 xr_17 (fun q => by cases q)) (by omega)).trans hc20
  have hc32 : F25 (B0 + 3) = some (zAI G 100 fc1) := (hs28 _ (zne hc21 xr_17 (fun q => by cases q)) (by omega)).trans hc21
  have hc33 : F25 (B0 + 10) = some (zAI G 61 fd1) := (hs28 _ (zne hc22 xr_17 (fun q => by cases q)) (by omega)).trans hc22
  have hc34 : F25 (B0 + 11 + 2 * i) = some (zO 1 [.ref (B0 + 12 + 2 * i), .int (nI (sn σ i))]) := (hs28 _ (by omega) (zne hc23 xw_17 (fun q => by cases q))).trans hc23
  have hc35 : F25 (B0 + 12 + 2 * i) = some (zAI G 60 fhx2) := (hs28 _ (zne hc24 xr_17 (fun q => by cases q)) (by omega)).trans hc24
  obtain ⟨xn_28, xr_28, f_28, xw_28, xf_28⟩ := id ha28
  refine lv_aload_n hx hb dX2_turnsBack_38 rfl (lv_at hl 0 rfl) ?_
  refine z_get hx hb hts hown zlX2 rfl 4 (by decide) (hts _ q44) rfl hI hc29 rfl dX2_turnsBack_39 ?_
  refine lv_aload_n hx hb dX2_turnsBack_42 rfl (lv_at hl 1 rfl) ?_
  refine z_calli hI (z_V (As := [.ref (B0 + 11 + 2 * i)]) (rest := []) ⟨hx, hb, hml, hown, hts⟩ hI xr_28 rfl (c_X1_differencesFrom l G B0 F25 (B0 + 6) (B0 + 7) 60 (sn σ i) (revt (revt (st σ i) 0 (sn σ i)) 0 (sn σ i)) (B0 + 11 + 2 * i) (B0 + 12 + 2 * i) 60 (st σ i) ⟨xn_28, xr_28, f_28, xw_28, xf_28⟩ (by omega) ⟨xnhx2, hc34, fhx2, hc35, xfhx2⟩ (by omega)) (z_cwV vX1_differencesFrom hts q509 ⟨Nat.le_of_ble_eq_true rfl, Nat.le_of_ble_eq_true rfl⟩) rfl hl.1 rfl (lv_room (Nat.le_of_ble_eq_true rfl)) dX2_turnsBack_43 ⟨Nat.le_of_ble_eq_true rfl, Nat.le_of_ble_eq_true rfl⟩) (fun r37 F36 H locs hp38 hI => ?_)
  obtain ⟨rfl, rfl⟩ := hp38
  have hdl := dif_le (revt (revt (st σ i) 0 (sn σ i)) 0 (sn σ i)) (st σ i) (sn σ i)
  refine z_if_ne (tgt := 53) (a := dif (revt (revt (st σ i) 0 (sn σ i)) 0 (sn σ i)) (st σ i) (sn σ i)) hx hb dX2_turnsBack_46 (by decide) (by omega) (fun hq39 => ?_) (fun hq39 => ?_)
  · exact absurd (dif_0 (t := revt (revt (st σ i) 0 (sn σ i)) 0 (sn σ i)) (q := st σ i) (fun j hj => rev_rev hj)) (Nat.ne_of_gt hq39)
  · refine lv_iconst (v := nI 1) hx hb dX2_turnsBack_49 (by decide) ?_
    refine lv_goto (tgt := 54) hx hb dX2_turnsBack_50 (by decide) ?_
    refine z_rz hx hb hr hlocks (Or.inr rfl) hI ?_ (Nat.le_of_ble_eq_true rfl) (Nat.le_of_ble_eq_true rfl) dX2_turnsBack_54
    exact ⟨_, rfl, rfl, CS.setW hC (Or.inr (Or.inl ⟨rfl, rfl, rfl⟩)) (zSm.tr (zSm.tr hs6 hs17) hs28) ⟨xn_28, xr_28, f_28, xw_28, xf_28⟩, zCf.sm (a := B0 + 6) (b := B0 + 7) (zSm.tr (zSm.tr hs6 hs17) hs28) (by omega) (by omega)⟩

set_option maxHeartbeats 4000000 in
set_option maxRecDepth 100000 in
theorem c_X2_movesBack (l : Launch) (G : zK) (B0 : Nat) (F : zM) (σ : Sg) (i : Nat) (hC : CS G B0 F σ) (hi : i < 4) : Met l yX2_movesBack (Cond.code yX2_movesBack cX2_movesBack 2 (some FieldType.boolean) :: zW) (zRm 4 92 0 0) (va_Pc [.ref B0, .ref (B0 + 11 + 2 * i)] (zPre G B0 F)) (zQi G B0 (fun r' F' => r' = nI 1 ∧ CS G B0 F' σ ∧ zCf B0 F F')) 0 0 (zA B0) := by
  refine z_of (own := RX2) (by decide) rfl (Nat.le_of_ble_eq_true rfl) ?_
  intro p e s m below meth c ls hx hb hr hml hown hlocks hnm hts hl hI
  have hl : lv_has ls 2 [(0, .ref B0), (1, .ref (B0 + 11 + 2 * i))] := hl
  obtain ⟨y01, ⟨fa1, y11, e11⟩, ⟨fb1, y21, e21⟩, ⟨fc1, y31, e31⟩, ⟨n41, t41, y41⟩, ⟨n61, t61, y61⟩, ⟨n81, t81, y81⟩, ⟨fd1, y101⟩, yT1, yP1⟩ := id hC
  have hx2 := yT1 i hi
  obtain ⟨xnhx2, xrhx2, fhx2, xwhx2, xfhx2⟩ := id hx2
  obtain ⟨xntr, xrtr, ftr, xwtr, xftr⟩ := id y61
  refine lv_aload_n hx hb dX2_movesBack_0 rfl (lv_at hl 0 rfl) ?_
  refine z_get hx hb hts hown zlX2 rfl 4 (by decide) (hts _ q44) rfl hI y01 rfl dX2_movesBack_1 ?_
  refine lv_aload_n hx hb dX2_movesBack_4 rfl (lv_at hl 1 rfl) ?_
  refine z_callv hI (z_V (As := [.ref (B0 + 11 + 2 * i)]) (rest := []) ⟨hx, hb, hml, hown, hts⟩ hI xrtr rfl (c_X1_become l G B0 F (B0 + 6) (B0 + 7) 60 n61 t61 (B0 + 11 + 2 * i) (B0 + 12 + 2 * i) 60 (sn σ i) (st σ i) ⟨xntr, xrtr, ftr, xwtr, xftr⟩ (by omega) ⟨xnhx2, xrhx2, fhx2, xwhx2, xfhx2⟩ (by omega) (by omega) (by omega) (by omega)) (z_cwV vX1_become hts q386 ⟨Nat.le_of_ble_eq_true rfl, Nat.le_of_ble_eq_true rfl⟩) rfl hl.1 rfl (lv_room (Nat.le_of_ble_eq_true rfl)) dX2_movesBack_5 ⟨Nat.le_of_ble_eq_true rfl, Nat.le_of_ble_eq_true rfl⟩) (fun F3 H locs hp5 hI => ?_)
  obtain ⟨ha6, hs6⟩ := hp5
  have hc7 : F3 B0 = some (zO 2 [.ref (B0 + 1), .ref (B0 + 2), .ref (B0 + 3), .ref (B0 + 4), .ref (B0 + 6), .ref (B0 + 8), .ref (B0 + 10)]) := (hs6 _ (zne y01 xrtr (fun q => by cases q)) (zne y01 xwtr (fun q => by cases q))).trans y01
  have hc8 : F3 (B0 + 1) = some (zA1 G 4 fa1) := (hs6 _ (zne y11 xrtr (fun q => by cases q)) (by omega)).trans y11
  have hc9 : F3 (B0 + 2) = some (zA1 G 2 fb1) := (hs6 _ (zne y21 xrtr (fun q => by cases q)) (by omega)).trans y21
  have hc10 : F3 (B0 + 3) = some (zAI G 100 fc1) := (hs6 _ (zne y31 xrtr (fun q => by cases q)) (by omega)).trans y31
  have hc11 : F3 (B0 + 10) = some (zAI G 61 fd1) := (hs6 _ (zne y101 xrtr (fun q => by cases q)) (by omega)).trans y101
  have hc12 : F3 (B0 + 11 + 2 * i) = some (zO 1 [.ref (B0 + 12 + 2 * i), .int (nI (sn σ i))]) := (hs6 _ (by omega) (zne xrhx2 xwtr (fun q => by cases q))).trans xrhx2
  have hc13 : F3 (B0 + 12 + 2 * i) = some (zAI G 60 fhx2) := (hs6 _ (zne xwhx2 xrtr (fun q => by cases q)) (by omega)).trans xwhx2
  obtain ⟨xn_6, xr_6, f_6, xw_6, xf_6⟩ := id ha6
  have hC1 := CS.setW hC (Or.inr (Or.inl ⟨rfl, rfl, rfl⟩)) hs6 ha6
  have hcf1 : zCf B0 F F3 := zCf.sm hs6 (by omega) (by omega)
  obtain ⟨y014, ⟨fa14, y114, e114⟩, ⟨fb14, y214, e214⟩, ⟨fc14, y314, e314⟩, ⟨n414, t414, y414⟩, ⟨n614, t614, y614⟩, ⟨n814, t814, y814⟩, ⟨fd14, y1014⟩, yT14, yP14⟩ := id hC1
  have hx15 := yT14 i hi
  obtain ⟨xnhx15, xrhx15, fhx15, xwhx15, xfhx15⟩ := id hx15
  obtain ⟨xntr, xrtr, ftr, xwtr, xftr⟩ := id ha6
  obtain ⟨xnd, xrd, fd, xwd, xfd⟩ := id y414
  refine lv_aload_n hx hb dX2_movesBack_8 rfl (lv_at hl 0 rfl) ?_
  refine lv_aload_n hx hb dX2_movesBack_9 rfl (lv_at hl 0 rfl) ?_
  refine z_get hx hb hts hown zlX2 rfl 4 (by decide) (hts _ q44) rfl hI y014 rfl dX2_movesBack_10 ?_
  refine lv_iconst (v := nI 0) hx hb dX2_movesBack_13 (by decide) ?_
  refine lv_aload_n hx hb dX2_movesBack_14 rfl (lv_at hl 0 rfl) ?_
  refine z_get hx hb hts hown zlX2 rfl 4 (by decide) (hts _ q44) rfl hI y014 rfl dX2_movesBack_15 ?_
  refine z_getN hx hb hts hown zlX1 rfl 1 (by decide) (List.mem_of_getElem? (i := 0) rfl) rfl hI xrtr rfl dX2_movesBack_18 ?_
  refine lv_iconst (v := nI 1) hx hb dX2_movesBack_21 (by decide) ?_
  refine z_calli hI (z_V (As := [.ref (B0 + 6), .int (nI 0), .int (nI (sn σ i)), .int (nI 1)]) (rest := []) ⟨hx, hb, hml, hown, hts⟩ hI y014 rfl (c_X2_moveRound l G B0 F3 (B0 + 6) (B0 + 7) 60 (sn σ i) (st σ i) _ _ 0 (sn σ i) (nI 1) y014 ⟨xnd, xrd, fd, xwd, xfd⟩ ⟨xntr, xrtr, ftr, xwtr, xftr⟩ (by decide) (by omega) (by omega) (by omega) (by omega) (by omega)) (z_cwV vX2_moveRound hts q554 ⟨Nat.le_of_ble_eq_true rfl, Nat.le_of_ble_eq_true rfl⟩) rfl hl.1 rfl (lv_room (Nat.le_of_ble_eq_true rfl)) dX2_movesBack_22 ⟨Nat.le_of_ble_eq_true rfl, Nat.le_of_ble_eq_true rfl⟩) (fun r17 F16 H locs hp18 hI => ?_)
  obtain ⟨hr2, hb2, ⟨n52, t52, hd2⟩, hs2⟩ := hp18
  obtain ⟨hC2, hcf2⟩ := CS.setWW hC1 hs2 hb2 hd2
  obtain ⟨y019, ⟨fa19, y119, e119⟩, ⟨fb19, y219, e219⟩, ⟨fc19, y319, e319⟩, ⟨n419, t419, y419⟩, ⟨n619, t619, y619⟩, ⟨n819, t819, y819⟩, ⟨fd19, y1019⟩, yT19, yP19⟩ := id hC2
  have hx20 := yT19 i hi
  obtain ⟨xnhx20, xrhx20, fhx20, xwhx20, xfhx20⟩ := id hx20
  obtain ⟨xntr, xrtr, ftr, xwtr, xftr⟩ := id hb2
  obtain ⟨xnd, xrd, fd, xwd, xfd⟩ := id y419
  refine lv_pop hx hb dX2_movesBack_25 rfl ?_
  refine lv_aload_n hx hb dX2_movesBack_26 rfl (lv_at hl 0 rfl) ?_
  refine lv_aload_n hx hb dX2_movesBack_27 rfl (lv_at hl 0 rfl) ?_
  refine z_get hx hb hts hown zlX2 rfl 4 (by decide) (hts _ q44) rfl hI y019 rfl dX2_movesBack_28 ?_
  refine lv_iconst (v := nI 0) hx hb dX2_movesBack_31 (by decide) ?_
  refine lv_aload_n hx hb dX2_movesBack_32 rfl (lv_at hl 0 rfl) ?_
  refine z_get hx hb hts hown zlX2 rfl 4 (by decide) (hts _ q44) rfl hI y019 rfl dX2_movesBack_33 ?_
  refine z_getN hx hb hts hown zlX1 rfl 1 (by decide) (List.mem_of_getElem? (i := 0) rfl) rfl hI xrtr rfl dX2_movesBack_36 ?_
  refine lv_iconst (v := -1) hx hb dX2_movesBack_39 (by decide) ?_
  refine z_calli hI (z_V (As := [.ref (B0 + 6), .int (nI 0), .int (nI (sn σ i)), .int (-1)]) (rest := []) ⟨hx, hb, hml, hown, hts⟩ hI y019 rfl (c_X2_moveRound l G B0 F16 (B0 + 6) (B0 + 7) 60 (sn σ i) (mvt (st σ i) 0 (sn σ i) (mby (nI 1) (sn σ i - 0))) _ _ 0 (sn σ i) (-1) y019 ⟨xnd, xrd, fd, xwd, xfd⟩ ⟨xntr, xrtr, ftr, xwtr, xftr⟩ (by decide) (by omega) (by omega) (by omega) (by omega) (by omega)) (z_cwV vX2_moveRound hts q554 ⟨Nat.le_of_ble_eq_true rfl, Nat.le_of_ble_eq_true rfl⟩) rfl hl.1 rfl (lv_room (Nat.le_of_ble_eq_true rfl)) dX2_movesBack_40 ⟨Nat.le_of_ble_eq_true rfl, Nat.le_of_ble_eq_true rfl⟩) (fun r22 F21 H locs hp23 hI => ?_)
  obtain ⟨hr3, hb3, ⟨n53, t53, hd3⟩, hs3⟩ := hp23
  obtain ⟨hC3, hcf3⟩ := CS.setWW hC2 hs3 hb3 hd3
  obtain ⟨y024, ⟨fa24, y124, e124⟩, ⟨fb24, y224, e224⟩, ⟨fc24, y324, e324⟩, ⟨n424, t424, y424⟩, ⟨n624, t624, y624⟩, ⟨n824, t824, y824⟩, ⟨fd24, y1024⟩, yT24, yP24⟩ := id hC3
  have hx25 := yT24 i hi
  obtain ⟨xnhx25, xrhx25, fhx25, xwhx25, xfhx25⟩ := id hx25
  obtain ⟨xntr, xrtr, ftr, xwtr, xftr⟩ := id hb3
  obtain ⟨xnd, xrd, fd, xwd, xfd⟩ := id y424
  refine lv_pop hx hb dX2_movesBack_43 rfl ?_
  refine lv_aload_n hx hb dX2_movesBack_44 rfl (lv_at hl 0 rfl) ?_
  refine z_get hx hb hts hown zlX2 rfl 4 (by decide) (hts _ q44) rfl hI y024 rfl dX2_movesBack_45 ?_
  refine lv_aload_n hx hb dX2_movesBack_48 rfl (lv_at hl 1 rfl) ?_
  refine z_calli hI (z_V (As := [.ref (B0 + 11 + 2 * i)]) (rest := []) ⟨hx, hb, hml, hown, hts⟩ hI xrtr rfl (c_X1_differencesFrom l G B0 F21 (B0 + 6) (B0 + 7) 60 (sn σ i) (mvt (mvt (st σ i) 0 (sn σ i) (mby (nI 1) (sn σ i - 0))) 0 (sn σ i) (mby (-1) (sn σ i - 0))) (B0 + 11 + 2 * i) (B0 + 12 + 2 * i) 60 (st σ i) ⟨xntr, xrtr, ftr, xwtr, xftr⟩ (by omega) ⟨xnhx25, xrhx25, fhx25, xwhx25, xfhx25⟩ (by omega)) (z_cwV vX1_differencesFrom hts q509 ⟨Nat.le_of_ble_eq_true rfl, Nat.le_of_ble_eq_true rfl⟩) rfl hl.1 rfl (lv_room (Nat.le_of_ble_eq_true rfl)) dX2_movesBack_49 ⟨Nat.le_of_ble_eq_true rfl, Nat.le_of_ble_eq_true rfl⟩) (fun r27 F26 H locs hp28 hI => ?_)
  obtain ⟨rfl, rfl⟩ := hp28
  have hdl := dif_le (mvt (mvt (st σ i) 0 (sn σ i) (mby (nI 1) (sn σ i - 0))) 0 (sn σ i) (mby (-1) (sn σ i - 0))) (st σ i) (sn σ i)
  refine z_if_ne (tgt := 59) (a := dif (mvt (mvt (st σ i) 0 (sn σ i) (mby (nI 1) (sn σ i - 0))) 0 (sn σ i) (mby (-1) (sn σ i - 0))) (st σ i) (sn σ i)) hx hb dX2_movesBack_52 (by decide) (by omega) (fun hq29 => ?_) (fun hq29 => ?_)
  · exact absurd (dif_0 (t := mvt (mvt (st σ i) 0 (sn σ i) (mby (nI 1) (sn σ i - 0))) 0 (sn σ i) (mby (-1) (sn σ i - 0))) (q := st σ i) (fun j hj => mv_mv hj (by omega))) (Nat.ne_of_gt hq29)
  · refine lv_iconst (v := nI 1) hx hb dX2_movesBack_55 (by decide) ?_
    refine lv_goto (tgt := 60) hx hb dX2_movesBack_56 (by decide) ?_
    refine z_rz hx hb hr hlocks (Or.inr rfl) hI ?_ (Nat.le_of_ble_eq_true rfl) (Nat.le_of_ble_eq_true rfl) dX2_movesBack_60
    exact ⟨_, rfl, rfl, CS.setW hC3 (Or.inr (Or.inl ⟨rfl, rfl, rfl⟩)) zSm.rf ⟨xntr, xrtr, ftr, xwtr, xftr⟩, zCf.tr hcf1 (zCf.tr hcf2 (zCf.tr hcf3 (zCf.sm (a := B0 + 6) (b := B0 + 7) zSm.rf (by omega) (by omega))))⟩

set_option maxHeartbeats 4000000 in
set_option maxRecDepth 100000 in
theorem c_X2_sortsItsWords (l : Launch) (G : zK) (B0 : Nat) (F : zM) (σ : Sg) (i : Nat) (hC : CS G B0 F σ) (hi : i < 4) (hK : SgOk σ) : Met l yX2_sortsItsWords (Cond.code yX2_sortsItsWords cX2_sortsItsWords 3 (some FieldType.boolean) :: zW) (zRm 3 74 0 0) (va_Pc [.ref B0, .ref (B0 + 11 + 2 * i)] (zPre G B0 F)) (zQi G B0 (fun r' F' => r' = nI 1 ∧ CS G B0 F' σ ∧ zCf B0 F F')) 0 0 (zA B0) := by
  refine z_of (own := RX2) (by decide) rfl (Nat.le_of_ble_eq_true rfl) ?_
  intro p e s m below meth c ls hx hb hr hml hown hlocks hnm hts hl hI
  have hl : lv_has ls 3 [(0, .ref B0), (1, .ref (B0 + 11 + 2 * i))] := hl
  obtain ⟨y01, ⟨fa1, y11, e11⟩, ⟨fb1, y21, e21⟩, ⟨fc1, y31, e31⟩, ⟨n41, t41, y41⟩, ⟨n61, t61, y61⟩, ⟨n81, t81, y81⟩, ⟨fd1, y101⟩, yT1, yP1⟩ := id hC
  have hx2 := yT1 i hi
  obtain ⟨xnhx2, xrhx2, fhx2, xwhx2, xfhx2⟩ := id hx2
  obtain ⟨xntr, xrtr, ftr, xwtr, xftr⟩ := id y61
  refine lv_aload_n hx hb dX2_sortsItsWords_0 rfl (lv_at hl 0 rfl) ?_
  refine z_get hx hb hts hown zlX2 rfl 4 (by decide) (hts _ q44) rfl hI y01 rfl dX2_sortsItsWords_1 ?_
  refine lv_aload_n hx hb dX2_sortsItsWords_4 rfl (lv_at hl 1 rfl) ?_
  refine z_callv hI (z_V (As := [.ref (B0 + 11 + 2 * i)]) (rest := []) ⟨hx, hb, hml, hown, hts⟩ hI xrtr rfl (c_X1_become l G B0 F (B0 + 6) (B0 + 7) 60 n61 t61 (B0 + 11 + 2 * i) (B0 + 12 + 2 * i) 60 (sn σ i) (st σ i) ⟨xntr, xrtr, ftr, xwtr, xftr⟩ (by omega) ⟨xnhx2, xrhx2, fhx2, xwhx2, xfhx2⟩ (by omega) (by omega) (by omega) (by omega)) (z_cwV vX1_become hts q386 ⟨Nat.le_of_ble_eq_true rfl, Nat.le_of_ble_eq_true rfl⟩) rfl hl.1 rfl (lv_room (Nat.le_of_ble_eq_true rfl)) dX2_sortsItsWords_5 ⟨Nat.le_of_ble_eq_true rfl, Nat.le_of_ble_eq_true rfl⟩) (fun F3 H locs hp5 hI => ?_)
  obtain ⟨ha6, hs6⟩ := hp5
  have hc7 : F3 B0 = some (zO 2 [.ref (B0 + 1), .ref (B0 + 2), .ref (B0 + 3), .ref (B0 + 4), .ref (B0 + 6), .ref (B0 + 8), .ref (B0 + 10)]) := (hs6 _ (zne y01 xrtr (fun q => by cases q)) (zne y01 xwtr (fun q => by cases q))).trans y01
  have hc8 : F3 (B0 + 1) = some (zA1 G 4 fa1) := (hs6 _ (zne y11 xrtr (fun q => by cases q)) (by omega)).trans y11
  have hc9 : F3 (B0 + 2) = some (zA1 G 2 fb1) := (hs6 _ (zne y21 xrtr (fun q => by cases q)) (by omega)).trans y21
  have hc10 : F3 (B0 + 3) = some (zAI G 100 fc1) := (hs6 _ (zne y31 xrtr (fun q => by cases q)) (by omega)).trans y31
  have hc11 : F3 (B0 + 10) = some (zAI G 61 fd1) := (hs6 _ (zne y101 xrtr (fun q => by cases q)) (by omega)).trans y101
  have hc12 : F3 (B0 + 11 + 2 * i) = some (zO 1 [.ref (B0 + 12 + 2 * i), .int (nI (sn σ i))]) := (hs6 _ (by omega) (zne xrhx2 xwtr (fun q => by cases q))).trans xrhx2
  have hc13 : F3 (B0 + 12 + 2 * i) = some (zAI G 60 fhx2) := (hs6 _ (zne xwhx2 xrtr (fun q => by cases q)) (by omega)).trans xwhx2
  obtain ⟨xn_6, xr_6, f_6, xw_6, xf_6⟩ := id ha6
  have hC1 := CS.setW hC (Or.inr (Or.inl ⟨rfl, rfl, rfl⟩)) hs6 ha6
  have hcf1 : zCf B0 F F3 := zCf.sm hs6 (by omega) (by omega)
  obtain ⟨y014, ⟨fa14, y114, e114⟩, ⟨fb14, y214, e214⟩, ⟨fc14, y314, e314⟩, ⟨n414, t414, y414⟩, ⟨n614, t614, y614⟩, ⟨n814, t814, y814⟩, ⟨fd14, y1014⟩, yT14, yP14⟩ := id hC1
  have hx15 := yT14 i hi
  obtain ⟨xnhx15, xrhx15, fhx15, xwhx15, xfhx15⟩ := id hx15
  obtain ⟨xntr, xrtr, ftr, xwtr, xftr⟩ := id ha6
  obtain ⟨xnd, xrd, fd, xwd, xfd⟩ := id y414
  refine lv_aload_n hx hb dX2_sortsItsWords_8 rfl (lv_at hl 0 rfl) ?_
  refine lv_aload_n hx hb dX2_sortsItsWords_9 rfl (lv_at hl 0 rfl) ?_
  refine z_get hx hb hts hown zlX2 rfl 4 (by decide) (hts _ q44) rfl hI y014 rfl dX2_sortsItsWords_10 ?_
  refine lv_iconst (v := nI 0) hx hb dX2_sortsItsWords_13 (by decide) ?_
  refine lv_iconst (v := nI 0) hx hb dX2_sortsItsWords_14 (by decide) ?_
  refine z_callv hI (z_V (As := [.ref (B0 + 6), .int (nI 0), .int (nI 0)]) (rest := []) ⟨hx, hb, hml, hown, hts⟩ hI y014 rfl (c_X2_putInOrder l G B0 F3 (B0 + 6) (B0 + 7) 60 (sn σ i) (st σ i) (nI 0) (nI 0) (rk σ) hC1.K ⟨xntr, xrtr, ftr, xwtr, xftr⟩ (by decide) (hK.w hi) (by omega) (by omega)) (z_cwV vX2_putInOrder hts q501 ⟨Nat.le_of_ble_eq_true rfl, Nat.le_of_ble_eq_true rfl⟩) rfl hl.1 rfl (lv_room (Nat.le_of_ble_eq_true rfl)) dX2_sortsItsWords_15 ⟨Nat.le_of_ble_eq_true rfl, Nat.le_of_ble_eq_true rfl⟩) (fun F16 H locs hp18 hI => ?_)
  obtain ⟨ha19, hs19⟩ := hp18
  have hc20 : F16 B0 = some (zO 2 [.ref (B0 + 1), .ref (B0 + 2), .ref (B0 + 3), .ref (B0 + 4), .ref (B0 + 6), .ref (B0 + 8), .ref (B0 + 10)]) := (hs19 _ (zne y014 xrtr (fun q => by cases q)) (zne y014 xwtr (fun q => by cases q))).trans y014
  have hc21 : F16 (B0 + 1) = some (zA1 G 4 fa14) := (hs19 _ (zne y114 xrtr (fun q => by cases q)) (by omega)).trans y114
  have hc22 : F16 (B0 + 2) = some (zA1 G 2 fb14) := (hs19 _ (zne y214 xrtr (fun q => by cases q)) (by omega)).trans y214
  have hc23 : F16 (B0 + 3) = some (zAI G 100 fc14) := (hs19 _ (zne y314 xrtr (fun q => by cases q)) (by omega)).trans y314
  have hc24 : F16 (B0 + 10) = some (zAI G 61 fd14) := (hs19 _ (zne y1014 xrtr (fun q => by cases q)) (by omega)).trans y1014
  have hc25 : F16 (B0 + 11 + 2 * i) = some (zO 1 [.ref (B0 + 12 + 2 * i), .int (nI (sn σ i))]) := (hs19 _ (by omega) (zne xrhx15 xwtr (fun q => by cases q))).trans xrhx15
  have hc26 : F16 (B0 + 12 + 2 * i) = some (zAI G 60 fhx15) := (hs19 _ (zne xwhx15 xrtr (fun q => by cases q)) (by omega)).trans xwhx15
  have hc27 : F16 (B0 + 4) = some (zO 1 [.ref (B0 + 5), .int (nI n414)]) := (hs19 _ (by omega) (zne xrd xwtr (fun q => by cases q))).trans xrd
  have hc28 : F16 (B0 + 5) = some (zAI G 60 fd) := (hs19 _ (zne xwd xrtr (fun q => by cases q)) (by omega)).trans xwd
  obtain ⟨xn_19, xr_19, f_19, xw_19, xf_19⟩ := id ha19
  have hC2 := CS.setW hC1 (Or.inr (Or.inl ⟨rfl, rfl, rfl⟩)) hs19 ha19
  have hcf2 : zCf B0 F3 F16 := zCf.sm hs19 (by omega) (by omega)
  obtain ⟨y029, ⟨fa29, y129, e129⟩, ⟨fb29, y229, e229⟩, ⟨fc29, y329, e329⟩, ⟨n429, t429, y429⟩, ⟨n629, t629, y629⟩, ⟨n829, t829, y829⟩, ⟨fd29, y1029⟩, yT29, yP29⟩ := id hC2
  have hx30 := yT29 i hi
  obtain ⟨xnhx30, xrhx30, fhx30, xwhx30, xfhx30⟩ := id hx30
  obtain ⟨xntr, xrtr, ftr, xwtr, xftr⟩ := id ha19
  obtain ⟨xnd, xrd, fd, xwd, xfd⟩ := id y429
  refine lv_iconst (v := nI 0) hx hb dX2_sortsItsWords_18 (by decide) ?_
  refine lv_istore_n (lv' := [(2, .int (nI 0)), (0, .ref B0), (1, .ref (B0 + 11 + 2 * i))]) hx hb dX2_sortsItsWords_19 rfl hl (by decide) rfl (fun ls hl => ?_)
  refine z_loop (σ := Nat) (fun k : Nat => [(0, .ref B0), (1, .ref (B0 + 11 + 2 * i)), (2, .int (nI k))]) (fun (k : Nat) (Fx : zM) => F16 = Fx ∧ k ≤ sn σ i) (fun k : Nat => sn σ i - k) 0 (nL := 3) (st := []) ?_ (lv_sub hl [1, 2, 0] rfl) hI ?_
  · exact ⟨rfl, Nat.zero_le _⟩
  · intro k F31 ls H locs hi hl hI ih
    have hl : lv_has ls 3 [(0, .ref B0), (1, .ref (B0 + 11 + 2 * i)), (2, .int (nI k))] := hl
    obtain ⟨hF, hk⟩ := hi
    subst hF
    obtain ⟨y032, ⟨fa32, y132, e132⟩, ⟨fb32, y232, e232⟩, ⟨fc32, y332, e332⟩, ⟨n432, t432, y432⟩, ⟨n632, t632, y632⟩, ⟨n832, t832, y832⟩, ⟨fd32, y1032⟩, yT32, yP32⟩ := id hC2
    have hx33 := yT32 i hi
    obtain ⟨xnhx33, xrhx33, fhx33, xwhx33, xfhx33⟩ := id hx33
    obtain ⟨xntr, xrtr, ftr, xwtr, xftr⟩ := id ha19
    obtain ⟨xnd, xrd, fd, xwd, xfd⟩ := id y432
    have hcs := cnt_srt (P := psd (rk σ) (nI 0) (nI 0)) (t := st σ i) (n := sn σ i) (x := st σ i k) (k := sn σ i - 1)
    have hcn1 := cnt_le (srt (psd (rk σ) (nI 0) (nI 0)) (st σ i) (sn σ i - 1)) (st σ i k) (sn σ i)
    have hcn2 := cnt_le (st σ i) (st σ i k) (sn σ i)
    refine lv_iload_n hx hb dX2_sortsItsWords_20 rfl (lv_at hl 2 rfl) ?_
    refine lv_aload_n hx hb dX2_sortsItsWords_21 rfl (lv_at hl 1 rfl) ?_
    refine z_getN hx hb hts hown zlX1 rfl 1 (by decide) (List.mem_of_getElem? (i := 0) rfl) rfl hI xrhx33 rfl dX2_sortsItsWords_22 ?_
    refine z_icmp_ge (tgt := 62) (a := k) (b := sn σ i) hx hb dX2_sortsItsWords_25 (by decide) (by omega) (fun hq34 => ?_) (fun hq34 => ?_)
    · refine lv_aload_n hx hb dX2_sortsItsWords_62 rfl (lv_at hl 0 rfl) ?_
      refine lv_aload_n hx hb dX2_sortsItsWords_63 rfl (lv_at hl 0 rfl) ?_
      refine z_get hx hb hts hown zlX2 rfl 4 (by decide) (hts _ q44) rfl hI y032 rfl dX2_sortsItsWords_64 ?_
      refine lv_iconst (v := nI 0) hx hb dX2_sortsItsWords_67 (by decide) ?_
      refine z_calli hI (z_V (As := [.ref (B0 + 6), .int (nI 0)]) (rest := []) ⟨hx, hb, hml, hown, hts⟩ hI y032 rfl (c_X2_isInOrder l G B0 F16 (B0 + 6) (B0 + 7) 60 (sn σ i) (srt (psd (rk σ) (nI 0) (nI 0)) (st σ i) (sn σ i - 1)) (nI 0) (rk σ) hC2.K ⟨xntr, xrtr, ftr, xwtr, xftr⟩ (by decide) (fun j hj => srt_wok (hK.w hi) (by omega) j hj)) (z_cwV vX2_isInOrder hts q520 ⟨Nat.le_of_ble_eq_true rfl, Nat.le_of_ble_eq_true rfl⟩) rfl hl.1 rfl (lv_room (Nat.le_of_ble_eq_true rfl)) dX2_sortsItsWords_68 ⟨Nat.le_of_ble_eq_true rfl, Nat.le_of_ble_eq_true rfl⟩) (fun r36 F35 H locs hp37 hI => ?_)
      obtain ⟨rfl, rfl⟩ := hp37
      refine z_rz hx hb hr hlocks pI_or hI ?_ (Nat.le_of_ble_eq_true rfl) (Nat.le_of_ble_eq_true rfl) dX2_sortsItsWords_71
      exact ⟨_, rfl, (pI_t srt_isr).symm, CS.setW hC2 (Or.inr (Or.inl ⟨rfl, rfl, rfl⟩)) zSm.rf ⟨xntr, xrtr, ftr, xwtr, xftr⟩, zCf.tr hcf1 (zCf.tr hcf2 (zCf.sm (a := B0 + 6) (b := B0 + 7) zSm.rf (by omega) (by omega)))⟩
    · refine lv_aload_n hx hb dX2_sortsItsWords_28 rfl (lv_at hl 0 rfl) ?_
      refine z_get hx hb hts hown zlX2 rfl 4 (by decide) (hts _ q44) rfl hI y032 rfl dX2_sortsItsWords_29 ?_
      refine lv_aload_n hx hb dX2_sortsItsWords_32 rfl (lv_at hl 1 rfl) ?_
      refine z_getN hx hb hts hown zlX1 rfl 0 (by decide) (List.mem_of_getElem? (i := 1) rfl) rfl hI xrhx33 rfl dX2_sortsItsWords_33 ?_
      refine lv_iload_n hx hb dX2_sortsItsWords_36 rfl (lv_at hl 2 rfl) ?_
      refine z_ild (k := k) (v := st σ i k) hx hb hI xwhx33 (by omega) (by omega) (xfhx33 k (by omega)) dX2_sortsItsWords_37 ?_
      refine z_calli hI (z_V (As := [.int (st σ i k)]) (rest := []) ⟨hx, hb, hml, hown, hts⟩ hI xrtr rfl (c_X1_timesOf l G B0 F16 (B0 + 6) (B0 + 7) 60 (sn σ i) (srt (psd (rk σ) (nI 0) (nI 0)) (st σ i) (sn σ i - 1)) (st σ i k) ⟨xntr, xrtr, ftr, xwtr, xftr⟩ (by omega)) (z_cwV vX1_timesOf hts q405 ⟨Nat.le_of_ble_eq_true rfl, Nat.le_of_ble_eq_true rfl⟩) rfl hl.1 rfl (lv_room (Nat.le_of_ble_eq_true rfl)) dX2_sortsItsWords_38 ⟨Nat.le_of_ble_eq_true rfl, Nat.le_of_ble_eq_true rfl⟩) (fun r39 F38 H locs hp40 hI => ?_)
      obtain ⟨rfl, rfl⟩ := hp40
      refine lv_aload_n hx hb dX2_sortsItsWords_41 rfl (lv_at hl 1 rfl) ?_
      refine lv_aload_n hx hb dX2_sortsItsWords_42 rfl (lv_at hl 1 rfl) ?_
      refine z_getN hx hb hts hown zlX1 rfl 0 (by decide) (List.mem_of_getElem? (i := 1) rfl) rfl hI xrhx33 rfl dX2_sortsItsWords_43 ?_
      refine lv_iload_n hx hb dX2_sortsItsWords_46 rfl (lv_at hl 2 rfl) ?_
      refine z_ild (k := k) (v := st σ i k) hx hb hI xwhx33 (by omega) (by omega) (xfhx33 k (by omega)) dX2_sortsItsWords_47 ?_
      refine z_calli hI (z_V (As := [.int (st σ i k)]) (rest := [.int (nI (cnt (srt (psd (rk σ) (nI 0) (nI 0)) (st σ i) (sn σ i - 1)) (st σ i k) (sn σ i)))]) ⟨hx, hb, hml, hown, hts⟩ hI xrhx33 rfl (c_X1_timesOf l G B0 F16 (B0 + 11 + 2 * i) (B0 + 12 + 2 * i) 60 (sn σ i) (st σ i) (st σ i k) ⟨xnhx33, xrhx33, fhx33, xwhx33, xfhx33⟩ (by omega)) (z_cwV vX1_timesOf hts q405 ⟨Nat.le_of_ble_eq_true rfl, Nat.le_of_ble_eq_true rfl⟩) rfl hl.1 rfl (lv_room (Nat.le_of_ble_eq_true rfl)) dX2_sortsItsWords_48 ⟨Nat.le_of_ble_eq_true rfl, Nat.le_of_ble_eq_true rfl⟩) (fun r42 F41 H locs hp43 hI => ?_)
      obtain ⟨rfl, rfl⟩ := hp43
      refine z_icmp_eq (tgt := 56) (a := cnt (srt (psd (rk σ) (nI 0) (nI 0)) (st σ i) (sn σ i - 1)) (st σ i k) (sn σ i)) (b := cnt (st σ i) (st σ i k) (sn σ i)) hx hb dX2_sortsItsWords_51 (by decide) (by omega) (fun hq44 => ?_) (fun hq44 => ?_)
      · refine lv_iinc (k := 2) (v := nI (k + 1)) (lv' := [(2, .int (nI (k + 1))), (0, .ref B0), (1, .ref (B0 + 11 + 2 * i))]) hx hb dX2_sortsItsWords_56 hl rfl (nI_add k 1) (by decide) rfl (fun ls hl => ?_)
        refine lv_goto (tgt := 20) hx hb dX2_sortsItsWords_59 (by decide) ?_
        refine ih (k + 1) _ ls H locs (by first | omega | (dsimp only; omega)) ?_ (lv_sub hl [1, 2, 0] rfl) hI
        exact ⟨rfl, by omega⟩
      · exact absurd (hcs (by omega)) hq44

set_option maxHeartbeats 4000000 in
set_option maxRecDepth 100000 in
theorem c_X2_findsWhatItCounts (l : Launch) (G : zK) (B0 : Nat) (F : zM) (σ : Sg) (i : Nat) (hC : CS G B0 F σ) (hi : i < 4) : Met l yX2_findsWhatItCounts (Cond.code yX2_findsWhatItCounts cX2_findsWhatItCounts 6 (some FieldType.boolean) :: zW) (zRm 2 47 0 0) (va_Pc [.ref B0, .ref (B0 + 11 + 2 * i)] (zPre G B0 F)) (zQi G B0 (fun r' F' => r' = nI 1 ∧ CS G B0 F' σ ∧ zCf B0 F F')) 0 0 (zA B0) := by
  refine z_of (own := RX2) (by decide) rfl (Nat.le_of_ble_eq_true rfl) ?_
  intro p e s m below meth c ls hx hb hr hml hown hlocks hnm hts hl hI
  have hl : lv_has ls 6 [(0, .ref B0), (1, .ref (B0 + 11 + 2 * i))] := hl
  obtain ⟨y01, ⟨fa1, y11, e11⟩, ⟨fb1, y21, e21⟩, ⟨fc1, y31, e31⟩, ⟨n41, t41, y41⟩, ⟨n61, t61, y61⟩, ⟨n81, t81, y81⟩, ⟨fd1, y101⟩, yT1, yP1⟩ := id hC
  have hx2 := yT1 i hi
  obtain ⟨xnhx2, xrhx2, fhx2, xwhx2, xfhx2⟩ := id hx2
  have hx3 := yP1 0 (by decide)
  obtain ⟨xnhx3, xrhx3, fhx3, xwhx3, xfhx3⟩ := id hx3
  refine lv_aload_n hx hb dX2_findsWhatItCounts_0 rfl (lv_at hl 0 rfl) ?_
  refine z_get hx hb hts hown zlX2 rfl 1 (by decide) (hts _ q41) rfl hI y01 rfl dX2_findsWhatItCounts_1 ?_
  refine lv_iconst (v := nI 0) hx hb dX2_findsWhatItCounts_4 (by decide) ?_
  refine z_ald1 (k := 0) (v := B0 + 19 + 2 * 0) hx hb hI y21 (by omega) (by omega) (e21 0 (by omega)) dX2_findsWhatItCounts_5 ?_
  refine lv_astore_n (lv' := [(2, .ref (B0 + 19 + 2 * 0)), (0, .ref B0), (1, .ref (B0 + 11 + 2 * i))]) hx hb dX2_findsWhatItCounts_6 rfl hl (by decide) rfl (fun ls hl => ?_)
  refine lv_aload_n hx hb dX2_findsWhatItCounts_7 rfl (lv_at hl 2 rfl) ?_
  refine lv_aload_n hx hb dX2_findsWhatItCounts_8 rfl (lv_at hl 0 rfl) ?_
  refine lv_iconst (v := nI 0) hx hb dX2_findsWhatItCounts_9 (by decide) ?_
  refine lv_aload_n hx hb dX2_findsWhatItCounts_10 rfl (lv_at hl 2 rfl) ?_
  refine z_getN hx hb hts hown zlX1 rfl 1 (by decide) (List.mem_of_getElem? (i := 0) rfl) rfl hI xrhx2 rfl dX2_findsWhatItCounts_11 ?_
  refine z_calli hI (z_V (As := [.ref (B0 + 19 + 2 * 0), .int (nI 0), .int (nI (sn σ i))]) (rest := []) ⟨hx, hb, hml, hown, hts⟩ hI xrhx2 rfl (c_X1_firstPlaceOf l G B0 F (B0 + 11 + 2 * i) (B0 + 12 + 2 * i) 60 (sn σ i) (st σ i) (B0 + 19 + 2 * 0) (B0 + 20 + 2 * 0) 12 (pn σ 0) (pt σ 0) 0 (sn σ i) ⟨xnhx2, xrhx2, fhx2, xwhx2, xfhx2⟩ (by omega) ⟨xnhx3, xrhx3, fhx3, xwhx3, xfhx3⟩ (by omega) (by omega) (by omega)) (z_cwV vX1_firstPlaceOf hts q327 ⟨Nat.le_of_ble_eq_true rfl, Nat.le_of_ble_eq_true rfl⟩) rfl hl.1 rfl (lv_room (Nat.le_of_ble_eq_true rfl)) dX2_findsWhatItCounts_14 ⟨Nat.le_of_ble_eq_true rfl, Nat.le_of_ble_eq_true rfl⟩) (fun r5 F4 H locs hp6 hI => ?_)
  obtain ⟨rfl, rfl⟩ := hp6
  have hca := zap_ct (hld (st σ i) (sn σ i) (pt σ 0) (pn σ 0)) (pn σ 0) (sn σ i + 1 - pn σ 0)
  have hcl := zct_le (hld (st σ i) (sn σ i) (pt σ 0) (pn σ 0)) (sn σ i + 1 - pn σ 0)
  rcases hz : zfst (hld (st σ i) (sn σ i) (pt σ 0) (pn σ 0)) 0 (sn σ i + 1 - pn σ 0 - 0) with _ | k5
  · obtain ⟨hn1, hn2⟩ := fnd_none (m := pn σ 0) hz
    rw [Nat.sub_zero] at hn1 hn2
    refine lv_iconst (v := -1) hx hb dX2_findsWhatItCounts_17 (by decide) ?_
    refine lv_icmp_eq (tgt := 25) hx hb dX2_findsWhatItCounts_18 (by decide) (fun hq7 => ?_) (fun hq7 => ?_)
    · refine lv_iconst (v := nI 0) hx hb dX2_findsWhatItCounts_25 (by decide) ?_
      refine lv_istore_n (lv' := [(3, .int (nI 0)), (2, .ref (B0 + 19 + 2 * 0)), (0, .ref B0), (1, .ref (B0 + 11 + 2 * i))]) hx hb dX2_findsWhatItCounts_26 rfl hl (by decide) rfl (fun ls hl => ?_)
      refine lv_aload_n hx hb dX2_findsWhatItCounts_27 rfl (lv_at hl 3 rfl) ?_
      refine lv_aload_n hx hb dX2_findsWhatItCounts_28 rfl (lv_at hl 1 rfl) ?_
      refine z_calli hI (z_V (As := [.ref (B0 + 19 + 2 * 0)]) (rest := []) ⟨hx, hb, hml, hown, hts⟩ hI xrhx2 rfl (c_X1_timesApart l G B0 F (B0 + 11 + 2 * i) (B0 + 12 + 2 * i) 60 (sn σ i) (st σ i) (B0 + 19 + 2 * 0) (B0 + 20 + 2 * 0) 12 (pn σ 0) (pt σ 0) ⟨xnhx2, xrhx2, fhx2, xwhx2, xfhx2⟩ (by omega) ⟨xnhx3, xrhx3, fhx3, xwhx3, xfhx3⟩ (by omega)) (z_cwV vX1_timesApart hts q360 ⟨Nat.le_of_ble_eq_true rfl, Nat.le_of_ble_eq_true rfl⟩) rfl hl.1 rfl (lv_room (Nat.le_of_ble_eq_true rfl)) dX2_findsWhatItCounts_29 ⟨Nat.le_of_ble_eq_true rfl, Nat.le_of_ble_eq_true rfl⟩) (fun r9 F8 H locs hp10 hI => ?_)
      obtain ⟨rfl, rfl⟩ := hp10
      refine lv_istore (lv' := [(4, .int (nI ((zap (hld (st σ i) (sn σ i) (pt σ 0) (pn σ 0)) (pn σ 0) ((sn σ i) + 1 - (pn σ 0))).1))), (3, .int (nI 0)), (2, .ref (B0 + 19 + 2 * 0)), (0, .ref B0), (1, .ref (B0 + 11 + 2 * i))]) hx hb dX2_findsWhatItCounts_32 hl (by decide) rfl (fun ls hl => ?_)
      refine lv_aload_n hx hb dX2_findsWhatItCounts_34 rfl (lv_at hl 4 rfl) ?_
      refine lv_aload_n hx hb dX2_findsWhatItCounts_35 rfl (lv_at hl 2 rfl) ?_
      refine z_calli hI (z_V (As := [.ref (B0 + 19 + 2 * 0)]) (rest := []) ⟨hx, hb, hml, hown, hts⟩ hI xrhx2 rfl (c_X1_timesAnywhere l G B0 F (B0 + 11 + 2 * i) (B0 + 12 + 2 * i) 60 (sn σ i) (st σ i) (B0 + 19 + 2 * 0) (B0 + 20 + 2 * 0) 12 (pn σ 0) (pt σ 0) ⟨xnhx2, xrhx2, fhx2, xwhx2, xfhx2⟩ (by omega) ⟨xnhx3, xrhx3, fhx3, xwhx3, xfhx3⟩ (by omega)) (z_cwV vX1_timesAnywhere hts q364 ⟨Nat.le_of_ble_eq_true rfl, Nat.le_of_ble_eq_true rfl⟩) rfl hl.1 rfl (lv_room (Nat.le_of_ble_eq_true rfl)) dX2_findsWhatItCounts_36 ⟨Nat.le_of_ble_eq_true rfl, Nat.le_of_ble_eq_true rfl⟩) (fun r12 F11 H locs hp13 hI => ?_)
      obtain ⟨rfl, rfl⟩ := hp13
      refine lv_istore (lv' := [(5, .int (nI (zct (hld (st σ i) (sn σ i) (pt σ 0) (pn σ 0)) ((sn σ i) + 1 - (pn σ 0))))), (4, .int (nI ((zap (hld (st σ i) (sn σ i) (pt σ 0) (pn σ 0)) (pn σ 0) ((sn σ i) + 1 - (pn σ 0))).1))), (3, .int (nI 0)), (2, .ref (B0 + 19 + 2 * 0)), (0, .ref B0), (1, .ref (B0 + 11 + 2 * i))]) hx hb dX2_findsWhatItCounts_39 hl (by decide) rfl (fun ls hl => ?_)
      refine lv_iload hx hb dX2_findsWhatItCounts_41 (lv_at hl 1 rfl) ?_
      refine lv_iload hx hb dX2_findsWhatItCounts_43 (lv_at hl 0 rfl) ?_
      refine z_icmp_gt (tgt := 80) (a := (zap (hld (st σ i) (sn σ i) (pt σ 0) (pn σ 0)) (pn σ 0) ((sn σ i) + 1 - (pn σ 0))).1) (b := zct (hld (st σ i) (sn σ i) (pt σ 0) (pn σ 0)) ((sn σ i) + 1 - (pn σ 0))) hx hb dX2_findsWhatItCounts_45 (by decide) (by omega) (fun hq14 => ?_) (fun hq14 => ?_)
      · refine lv_iconst (v := nI 0) hx hb dX2_findsWhatItCounts_80 (by decide) ?_
        refine z_rz hx hb hr hlocks (Or.inl rfl) hI ?_ (Nat.le_of_ble_eq_true rfl) (Nat.le_of_ble_eq_true rfl) dX2_findsWhatItCounts_81
        exfalso; omega
      · refine lv_iload hx hb dX2_findsWhatItCounts_48 (lv_at hl 1 rfl) ?_
        refine z_if_le (tgt := 57) (a := (zap (hld (st σ i) (sn σ i) (pt σ 0) (pn σ 0)) (pn σ 0) ((sn σ i) + 1 - (pn σ 0))).1) hx hb dX2_findsWhatItCounts_50 (by decide) (by omega) (fun hq15 => ?_) (fun hq15 => ?_)
        · refine lv_iconst (v := nI 0) hx hb dX2_findsWhatItCounts_57 (by decide) ?_
          refine lv_iload_n hx hb dX2_findsWhatItCounts_58 rfl (lv_at hl 2 rfl) ?_
          refine z_icmp_ne (tgt := 80) (a := 0) (b := 0) hx hb dX2_findsWhatItCounts_59 (by decide) (by omega) (fun hq16 => ?_) (fun hq16 => ?_)
          · refine lv_iconst (v := nI 0) hx hb dX2_findsWhatItCounts_80 (by decide) ?_
            refine z_rz hx hb hr hlocks (Or.inl rfl) hI ?_ (Nat.le_of_ble_eq_true rfl) (Nat.le_of_ble_eq_true rfl) dX2_findsWhatItCounts_81
            exfalso; omega
          · refine lv_iload hx hb dX2_findsWhatItCounts_62 (lv_at hl 0 rfl) ?_
            refine z_if_le (tgt := 71) (a := zct (hld (st σ i) (sn σ i) (pt σ 0) (pn σ 0)) ((sn σ i) + 1 - (pn σ 0))) hx hb dX2_findsWhatItCounts_64 (by decide) (by omega) (fun hq17 => ?_) (fun hq17 => ?_)
            · refine lv_iconst (v := nI 0) hx hb dX2_findsWhatItCounts_71 (by decide) ?_
              refine lv_iload_n hx hb dX2_findsWhatItCounts_72 rfl (lv_at hl 2 rfl) ?_
              refine z_icmp_ne (tgt := 80) (a := 0) (b := 0) hx hb dX2_findsWhatItCounts_73 (by decide) (by omega) (fun hq18 => ?_) (fun hq18 => ?_)
              · refine lv_iconst (v := nI 0) hx hb dX2_findsWhatItCounts_80 (by decide) ?_
                refine z_rz hx hb hr hlocks (Or.inl rfl) hI ?_ (Nat.le_of_ble_eq_true rfl) (Nat.le_of_ble_eq_true rfl) dX2_findsWhatItCounts_81
                exfalso; omega
              · refine lv_iconst (v := nI 1) hx hb dX2_findsWhatItCounts_76 (by decide) ?_
                refine lv_goto (tgt := 81) hx hb dX2_findsWhatItCounts_77 (by decide) ?_
                refine z_rz hx hb hr hlocks (Or.inr rfl) hI ?_ (Nat.le_of_ble_eq_true rfl) (Nat.le_of_ble_eq_true rfl) dX2_findsWhatItCounts_81
                exact ⟨_, rfl, rfl, hC, zCf.rf⟩
            · refine lv_iconst (v := nI 1) hx hb dX2_findsWhatItCounts_67 (by decide) ?_
              refine lv_goto (tgt := 72) hx hb dX2_findsWhatItCounts_68 (by decide) ?_
              refine lv_iload_n hx hb dX2_findsWhatItCounts_72 rfl (lv_at hl 2 rfl) ?_
              refine z_icmp_ne (tgt := 80) (a := 1) (b := 0) hx hb dX2_findsWhatItCounts_73 (by decide) (by omega) (fun hq19 => ?_) (fun hq19 => ?_)
              · refine lv_iconst (v := nI 0) hx hb dX2_findsWhatItCounts_80 (by decide) ?_
                refine z_rz hx hb hr hlocks (Or.inl rfl) hI ?_ (Nat.le_of_ble_eq_true rfl) (Nat.le_of_ble_eq_true rfl) dX2_findsWhatItCounts_81
                exfalso; omega
              · refine lv_iconst (v := nI 1) hx hb dX2_findsWhatItCounts_76 (by decide) ?_
                refine lv_goto (tgt := 81) hx hb dX2_findsWhatItCounts_77 (by decide) ?_
                refine z_rz hx hb hr hlocks (Or.inr rfl) hI ?_ (Nat.le_of_ble_eq_true rfl) (Nat.le_of_ble_eq_true rfl) dX2_findsWhatItCounts_81
                exact ⟨_, rfl, rfl, hC, zCf.rf⟩
        · refine lv_iconst (v := nI 1) hx hb dX2_findsWhatItCounts_53 (by decide) ?_
          refine lv_goto (tgt := 58) hx hb dX2_findsWhatItCounts_54 (by decide) ?_
          refine lv_iload_n hx hb dX2_findsWhatItCounts_58 rfl (lv_at hl 2 rfl) ?_
          refine z_icmp_ne (tgt := 80) (a := 1) (b := 0) hx hb dX2_findsWhatItCounts_59 (by decide) (by omega) (fun hq20 => ?_) (fun hq20 => ?_)
          · refine lv_iconst (v := nI 0) hx hb dX2_findsWhatItCounts_80 (by decide) ?_
            refine z_rz hx hb hr hlocks (Or.inl rfl) hI ?_ (Nat.le_of_ble_eq_true rfl) (Nat.le_of_ble_eq_true rfl) dX2_findsWhatItCounts_81
            exfalso; omega
          · refine lv_iload hx hb dX2_findsWhatItCounts_62 (lv_at hl 0 rfl) ?_
            refine z_if_le (tgt := 71) (a := zct (hld (st σ i) (sn σ i) (pt σ 0) (pn σ 0)) ((sn σ i) + 1 - (pn σ 0))) hx hb dX2_findsWhatItCounts_64 (by decide) (by omega) (fun hq21 => ?_) (fun hq21 => ?_)
            · refine lv_iconst (v := nI 0) hx hb dX2_findsWhatItCounts_71 (by decide) ?_
              refine lv_iload_n hx hb dX2_findsWhatItCounts_72 rfl (lv_at hl 2 rfl) ?_
              refine z_icmp_ne (tgt := 80) (a := 0) (b := 0) hx hb dX2_findsWhatItCounts_73 (by decide) (by omega) (fun hq22 => ?_) (fun hq22 => ?_)
              · refine lv_iconst (v := nI 0) hx hb dX2_findsWhatItCounts_80 (by decide) ?_
                refine z_rz hx hb hr hlocks (Or.inl rfl) hI ?_ (Nat.le_of_ble_eq_true rfl) (Nat.le_of_ble_eq_true rfl) dX2_findsWhatItCounts_81
                exfalso; omega
              · refine lv_iconst (v := nI 1) hx hb dX2_findsWhatItCounts_76 (by decide) ?_
                refine lv_goto (tgt := 81) hx hb dX2_findsWhatItCounts_77 (by decide) ?_
                refine z_rz hx hb hr hlocks (Or.inr rfl) hI ?_ (Nat.le_of_ble_eq_true rfl) (Nat.le_of_ble_eq_true rfl) dX2_findsWhatItCounts_81
                exact ⟨_, rfl, rfl, hC, zCf.rf⟩
            · refine lv_iconst (v := nI 1) hx hb dX2_findsWhatItCounts_67 (by decide) ?_
              refine lv_goto (tgt := 72) hx hb dX2_findsWhatItCounts_68 (by decide) ?_
              refine lv_iload_n hx hb dX2_findsWhatItCounts_72 rfl (lv_at hl 2 rfl) ?_
              refine z_icmp_ne (tgt := 80) (a := 1) (b := 0) hx hb dX2_findsWhatItCounts_73 (by decide) (by omega) (fun hq23 => ?_) (fun hq23 => ?_)
              · refine lv_iconst (v := nI 0) hx hb dX2_findsWhatItCounts_80 (by decide) ?_
                refine z_rz hx hb hr hlocks (Or.inl rfl) hI ?_ (Nat.le_of_ble_eq_true rfl) (Nat.le_of_ble_eq_true rfl) dX2_findsWhatItCounts_81
                exfalso; omega
              · refine lv_iconst (v := nI 1) hx hb dX2_findsWhatItCounts_76 (by decide) ?_
                refine lv_goto (tgt := 81) hx hb dX2_findsWhatItCounts_77 (by decide) ?_
                refine z_rz hx hb hr hlocks (Or.inr rfl) hI ?_ (Nat.le_of_ble_eq_true rfl) (Nat.le_of_ble_eq_true rfl) dX2_findsWhatItCounts_81
                exact ⟨_, rfl, rfl, hC, zCf.rf⟩
    · exact absurd rfl hq7
  · obtain ⟨hn1, hn2⟩ := fnd_some (m := pn σ 0) hz
    rw [Nat.sub_zero] at hn1 hn2
    have hk5 := (zfst_some hz).2.1
    refine lv_iconst (v := -1) hx hb dX2_findsWhatItCounts_17 (by decide) ?_
    refine lv_icmp_eq (tgt := 25) hx hb dX2_findsWhatItCounts_18 (by decide) (fun hq24 => ?_) (fun hq24 => ?_)
    · exact absurd hq24 (nI_m1 (by omega))
    · refine lv_iconst (v := nI 1) hx hb dX2_findsWhatItCounts_21 (by decide) ?_
      refine lv_goto (tgt := 26) hx hb dX2_findsWhatItCounts_22 (by decide) ?_
      refine lv_istore_n (lv' := [(3, .int (nI 1)), (2, .ref (B0 + 19 + 2 * 0)), (0, .ref B0), (1, .ref (B0 + 11 + 2 * i))]) hx hb dX2_findsWhatItCounts_26 rfl hl (by decide) rfl (fun ls hl => ?_)
      refine lv_aload_n hx hb dX2_findsWhatItCounts_27 rfl (lv_at hl 3 rfl) ?_
      refine lv_aload_n hx hb dX2_findsWhatItCounts_28 rfl (lv_at hl 1 rfl) ?_
      refine z_calli hI (z_V (As := [.ref (B0 + 19 + 2 * 0)]) (rest := []) ⟨hx, hb, hml, hown, hts⟩ hI xrhx2 rfl (c_X1_timesApart l G B0 F (B0 + 11 + 2 * i) (B0 + 12 + 2 * i) 60 (sn σ i) (st σ i) (B0 + 19 + 2 * 0) (B0 + 20 + 2 * 0) 12 (pn σ 0) (pt σ 0) ⟨xnhx2, xrhx2, fhx2, xwhx2, xfhx2⟩ (by omega) ⟨xnhx3, xrhx3, fhx3, xwhx3, xfhx3⟩ (by omega)) (z_cwV vX1_timesApart hts q360 ⟨Nat.le_of_ble_eq_true rfl, Nat.le_of_ble_eq_true rfl⟩) rfl hl.1 rfl (lv_room (Nat.le_of_ble_eq_true rfl)) dX2_findsWhatItCounts_29 ⟨Nat.le_of_ble_eq_true rfl, Nat.le_of_ble_eq_true rfl⟩) (fun r26 F25 H locs hp27 hI => ?_)
      obtain ⟨rfl, rfl⟩ := hp27
      refine lv_istore (lv' := [(4, .int (nI ((zap (hld (st σ i) (sn σ i) (pt σ 0) (pn σ 0)) (pn σ 0) ((sn σ i) + 1 - (pn σ 0))).1))), (3, .int (nI 1)), (2, .ref (B0 + 19 + 2 * 0)), (0, .ref B0), (1, .ref (B0 + 11 + 2 * i))]) hx hb dX2_findsWhatItCounts_32 hl (by decide) rfl (fun ls hl => ?_)
      refine lv_aload_n hx hb dX2_findsWhatItCounts_34 rfl (lv_at hl 4 rfl) ?_
      refine lv_aload_n hx hb dX2_findsWhatItCounts_35 rfl (lv_at hl 2 rfl) ?_
      refine z_calli hI (z_V (As := [.ref (B0 + 19 + 2 * 0)]) (rest := []) ⟨hx, hb, hml, hown, hts⟩ hI xrhx2 rfl (c_X1_timesAnywhere l G B0 F (B0 + 11 + 2 * i) (B0 + 12 + 2 * i) 60 (sn σ i) (st σ i) (B0 + 19 + 2 * 0) (B0 + 20 + 2 * 0) 12 (pn σ 0) (pt σ 0) ⟨xnhx2, xrhx2, fhx2, xwhx2, xfhx2⟩ (by omega) ⟨xnhx3, xrhx3, fhx3, xwhx3, xfhx3⟩ (by omega)) (z_cwV vX1_timesAnywhere hts q364 ⟨Nat.le_of_ble_eq_true rfl, Nat.le_of_ble_eq_true rfl⟩) rfl hl.1 rfl (lv_room (Nat.le_of_ble_eq_true rfl)) dX2_findsWhatItCounts_36 ⟨Nat.le_of_ble_eq_true rfl, Nat.le_of_ble_eq_true rfl⟩) (fun r29 F28 H locs hp30 hI => ?_)
      obtain ⟨rfl, rfl⟩ := hp30
      refine lv_istore (lv' := [(5, .int (nI (zct (hld (st σ i) (sn σ i) (pt σ 0) (pn σ 0)) ((sn σ i) + 1 - (pn σ 0))))), (4, .int (nI ((zap (hld (st σ i) (sn σ i) (pt σ 0) (pn σ 0)) (pn σ 0) ((sn σ i) + 1 - (pn σ 0))).1))), (3, .int (nI 1)), (2, .ref (B0 + 19 + 2 * 0)), (0, .ref B0), (1, .ref (B0 + 11 + 2 * i))]) hx hb dX2_findsWhatItCounts_39 hl (by decide) rfl (fun ls hl => ?_)
      refine lv_iload hx hb dX2_findsWhatItCounts_41 (lv_at hl 1 rfl) ?_
      refine lv_iload hx hb dX2_findsWhatItCounts_43 (lv_at hl 0 rfl) ?_
      refine z_icmp_gt (tgt := 80) (a := (zap (hld (st σ i) (sn σ i) (pt σ 0) (pn σ 0)) (pn σ 0) ((sn σ i) + 1 - (pn σ 0))).1) (b := zct (hld (st σ i) (sn σ i) (pt σ 0) (pn σ 0)) ((sn σ i) + 1 - (pn σ 0))) hx hb dX2_findsWhatItCounts_45 (by decide) (by omega) (fun hq31 => ?_) (fun hq31 => ?_)
      · refine lv_iconst (v := nI 0) hx hb dX2_findsWhatItCounts_80 (by decide) ?_
        refine z_rz hx hb hr hlocks (Or.inl rfl) hI ?_ (Nat.le_of_ble_eq_true rfl) (Nat.le_of_ble_eq_true rfl) dX2_findsWhatItCounts_81
        exfalso; omega
      · refine lv_iload hx hb dX2_findsWhatItCounts_48 (lv_at hl 1 rfl) ?_
        refine z_if_le (tgt := 57) (a := (zap (hld (st σ i) (sn σ i) (pt σ 0) (pn σ 0)) (pn σ 0) ((sn σ i) + 1 - (pn σ 0))).1) hx hb dX2_findsWhatItCounts_50 (by decide) (by omega) (fun hq32 => ?_) (fun hq32 => ?_)
        · refine lv_iconst (v := nI 0) hx hb dX2_findsWhatItCounts_57 (by decide) ?_
          refine lv_iload_n hx hb dX2_findsWhatItCounts_58 rfl (lv_at hl 2 rfl) ?_
          refine z_icmp_ne (tgt := 80) (a := 0) (b := 1) hx hb dX2_findsWhatItCounts_59 (by decide) (by omega) (fun hq33 => ?_) (fun hq33 => ?_)
          · refine lv_iconst (v := nI 0) hx hb dX2_findsWhatItCounts_80 (by decide) ?_
            refine z_rz hx hb hr hlocks (Or.inl rfl) hI ?_ (Nat.le_of_ble_eq_true rfl) (Nat.le_of_ble_eq_true rfl) dX2_findsWhatItCounts_81
            exfalso; omega
          · refine lv_iload hx hb dX2_findsWhatItCounts_62 (lv_at hl 0 rfl) ?_
            refine z_if_le (tgt := 71) (a := zct (hld (st σ i) (sn σ i) (pt σ 0) (pn σ 0)) ((sn σ i) + 1 - (pn σ 0))) hx hb dX2_findsWhatItCounts_64 (by decide) (by omega) (fun hq34 => ?_) (fun hq34 => ?_)
            · refine lv_iconst (v := nI 0) hx hb dX2_findsWhatItCounts_71 (by decide) ?_
              refine lv_iload_n hx hb dX2_findsWhatItCounts_72 rfl (lv_at hl 2 rfl) ?_
              refine z_icmp_ne (tgt := 80) (a := 0) (b := 1) hx hb dX2_findsWhatItCounts_73 (by decide) (by omega) (fun hq35 => ?_) (fun hq35 => ?_)
              · refine lv_iconst (v := nI 0) hx hb dX2_findsWhatItCounts_80 (by decide) ?_
                refine z_rz hx hb hr hlocks (Or.inl rfl) hI ?_ (Nat.le_of_ble_eq_true rfl) (Nat.le_of_ble_eq_true rfl) dX2_findsWhatItCounts_81
                exfalso; omega
              · refine lv_iconst (v := nI 1) hx hb dX2_findsWhatItCounts_76 (by decide) ?_
                refine lv_goto (tgt := 81) hx hb dX2_findsWhatItCounts_77 (by decide) ?_
                refine z_rz hx hb hr hlocks (Or.inr rfl) hI ?_ (Nat.le_of_ble_eq_true rfl) (Nat.le_of_ble_eq_true rfl) dX2_findsWhatItCounts_81
                exact ⟨_, rfl, rfl, hC, zCf.rf⟩
            · refine lv_iconst (v := nI 1) hx hb dX2_findsWhatItCounts_67 (by decide) ?_
              refine lv_goto (tgt := 72) hx hb dX2_findsWhatItCounts_68 (by decide) ?_
              refine lv_iload_n hx hb dX2_findsWhatItCounts_72 rfl (lv_at hl 2 rfl) ?_
              refine z_icmp_ne (tgt := 80) (a := 1) (b := 1) hx hb dX2_findsWhatItCounts_73 (by decide) (by omega) (fun hq36 => ?_) (fun hq36 => ?_)
              · refine lv_iconst (v := nI 0) hx hb dX2_findsWhatItCounts_80 (by decide) ?_
                refine z_rz hx hb hr hlocks (Or.inl rfl) hI ?_ (Nat.le_of_ble_eq_true rfl) (Nat.le_of_ble_eq_true rfl) dX2_findsWhatItCounts_81
                exfalso; omega
              · refine lv_iconst (v := nI 1) hx hb dX2_findsWhatItCounts_76 (by decide) ?_
                refine lv_goto (tgt := 81) hx hb dX2_findsWhatItCounts_77 (by decide) ?_
                refine z_rz hx hb hr hlocks (Or.inr rfl) hI ?_ (Nat.le_of_ble_eq_true rfl) (Nat.le_of_ble_eq_true rfl) dX2_findsWhatItCounts_81
                exact ⟨_, rfl, rfl, hC, zCf.rf⟩
        · refine lv_iconst (v := nI 1) hx hb dX2_findsWhatItCounts_53 (by decide) ?_
          refine lv_goto (tgt := 58) hx hb dX2_findsWhatItCounts_54 (by decide) ?_
          refine lv_iload_n hx hb dX2_findsWhatItCounts_58 rfl (lv_at hl 2 rfl) ?_
          refine z_icmp_ne (tgt := 80) (a := 1) (b := 1) hx hb dX2_findsWhatItCounts_59 (by decide) (by omega) (fun hq37 => ?_) (fun hq37 => ?_)
          · refine lv_iconst (v := nI 0) hx hb dX2_findsWhatItCounts_80 (by decide) ?_
            refine z_rz hx hb hr hlocks (Or.inl rfl) hI ?_ (Nat.le_of_ble_eq_true rfl) (Nat.le_of_ble_eq_true rfl) dX2_findsWhatItCounts_81
            exfalso; omega
          · refine lv_iload hx hb dX2_findsWhatItCounts_62 (lv_at hl 0 rfl) ?_
            refine z_if_le (tgt := 71) (a := zct (hld (st σ i) (sn σ i) (pt σ 0) (pn σ 0)) ((sn σ i) + 1 - (pn σ 0))) hx hb dX2_findsWhatItCounts_64 (by decide) (by omega) (fun hq38 => ?_) (fun hq38 => ?_)
            · refine lv_iconst (v := nI 0) hx hb dX2_findsWhatItCounts_71 (by decide) ?_
              refine lv_iload_n hx hb dX2_findsWhatItCounts_72 rfl (lv_at hl 2 rfl) ?_
              refine z_icmp_ne (tgt := 80) (a := 0) (b := 1) hx hb dX2_findsWhatItCounts_73 (by decide) (by omega) (fun hq39 => ?_) (fun hq39 => ?_)
              · refine lv_iconst (v := nI 0) hx hb dX2_findsWhatItCounts_80 (by decide) ?_
                refine z_rz hx hb hr hlocks (Or.inl rfl) hI ?_ (Nat.le_of_ble_eq_true rfl) (Nat.le_of_ble_eq_true rfl) dX2_findsWhatItCounts_81
                exfalso; omega
              · refine lv_iconst (v := nI 1) hx hb dX2_findsWhatItCounts_76 (by decide) ?_
                refine lv_goto (tgt := 81) hx hb dX2_findsWhatItCounts_77 (by decide) ?_
                refine z_rz hx hb hr hlocks (Or.inr rfl) hI ?_ (Nat.le_of_ble_eq_true rfl) (Nat.le_of_ble_eq_true rfl) dX2_findsWhatItCounts_81
                exact ⟨_, rfl, rfl, hC, zCf.rf⟩
            · refine lv_iconst (v := nI 1) hx hb dX2_findsWhatItCounts_67 (by decide) ?_
              refine lv_goto (tgt := 72) hx hb dX2_findsWhatItCounts_68 (by decide) ?_
              refine lv_iload_n hx hb dX2_findsWhatItCounts_72 rfl (lv_at hl 2 rfl) ?_
              refine z_icmp_ne (tgt := 80) (a := 1) (b := 1) hx hb dX2_findsWhatItCounts_73 (by decide) (by omega) (fun hq40 => ?_) (fun hq40 => ?_)
              · refine lv_iconst (v := nI 0) hx hb dX2_findsWhatItCounts_80 (by decide) ?_
                refine z_rz hx hb hr hlocks (Or.inl rfl) hI ?_ (Nat.le_of_ble_eq_true rfl) (Nat.le_of_ble_eq_true rfl) dX2_findsWhatItCounts_81
                exfalso; omega
              · refine lv_iconst (v := nI 1) hx hb dX2_findsWhatItCounts_76 (by decide) ?_
                refine lv_goto (tgt := 81) hx hb dX2_findsWhatItCounts_77 (by decide) ?_
                refine z_rz hx hb hr hlocks (Or.inr rfl) hI ?_ (Nat.le_of_ble_eq_true rfl) (Nat.le_of_ble_eq_true rfl) dX2_findsWhatItCounts_81
                exact ⟨_, rfl, rfl, hC, zCf.rf⟩

set_option maxHeartbeats 4000000 in
set_option maxRecDepth 100000 in
theorem c_X2_findsInMirror (l : Launch) (G : zK) (B0 : Nat) (F : zM) (σ : Sg) (i : Nat) (hC : CS G B0 F σ) (hi : i < 4) : Met l yX2_findsInMirror (Cond.code yX2_findsInMirror cX2_findsInMirror 5 (some FieldType.boolean) :: zW) (zRm 3 65 0 0) (va_Pc [.ref B0, .ref (B0 + 11 + 2 * i)] (zPre G B0 F)) (zQi G B0 (fun r' F' => r' = nI 1 ∧ CS G B0 F' σ ∧ zCf B0 F F')) 0 0 (zA B0) := by
  refine z_of (own := RX2) (by decide) rfl (Nat.le_of_ble_eq_true rfl) ?_
  intro p e s m below meth c ls hx hb hr hml hown hlocks hnm hts hl hI
  have hl : lv_has ls 5 [(0, .ref B0), (1, .ref (B0 + 11 + 2 * i))] := hl
  obtain ⟨y01, ⟨fa1, y11, e11⟩, ⟨fb1, y21, e21⟩, ⟨fc1, y31, e31⟩, ⟨n41, t41, y41⟩, ⟨n61, t61, y61⟩, ⟨n81, t81, y81⟩, ⟨fd1, y101⟩, yT1, yP1⟩ := id hC
  have hx2 := yT1 i hi
  obtain ⟨xnhx2, xrhx2, fhx2, xwhx2, xfhx2⟩ := id hx2
  have hx3 := yP1 0 (by decide)
  obtain ⟨xnhx3, xrhx3, fhx3, xwhx3, xfhx3⟩ := id hx3
  obtain ⟨xntr, xrtr, ftr, xwtr, xftr⟩ := id y61
  obtain ⟨xntq, xrtq, ftq, xwtq, xftq⟩ := id y81
  refine lv_aload_n hx hb dX2_findsInMirror_0 rfl (lv_at hl 0 rfl) ?_
  refine z_get hx hb hts hown zlX2 rfl 1 (by decide) (hts _ q41) rfl hI y01 rfl dX2_findsInMirror_1 ?_
  refine lv_iconst (v := nI 0) hx hb dX2_findsInMirror_4 (by decide) ?_
  refine z_ald1 (k := 0) (v := B0 + 19 + 2 * 0) hx hb hI y21 (by omega) (by omega) (e21 0 (by omega)) dX2_findsInMirror_5 ?_
  refine lv_astore_n (lv' := [(2, .ref (B0 + 19 + 2 * 0)), (0, .ref B0), (1, .ref (B0 + 11 + 2 * i))]) hx hb dX2_findsInMirror_6 rfl hl (by decide) rfl (fun ls hl => ?_)
  refine lv_aload_n hx hb dX2_findsInMirror_7 rfl (lv_at hl 1 rfl) ?_
  refine z_get hx hb hts hown zlX2 rfl 4 (by decide) (hts _ q44) rfl hI y01 rfl dX2_findsInMirror_8 ?_
  refine lv_aload_n hx hb dX2_findsInMirror_11 rfl (lv_at hl 2 rfl) ?_
  refine z_callv hI (z_V (As := [.ref (B0 + 11 + 2 * i)]) (rest := []) ⟨hx, hb, hml, hown, hts⟩ hI xrtr rfl (c_X1_become l G B0 F (B0 + 6) (B0 + 7) 60 n61 t61 (B0 + 11 + 2 * i) (B0 + 12 + 2 * i) 60 (sn σ i) (st σ i) ⟨xntr, xrtr, ftr, xwtr, xftr⟩ (by omega) ⟨xnhx2, xrhx2, fhx2, xwhx2, xfhx2⟩ (by omega) (by omega) (by omega) (by omega)) (z_cwV vX1_become hts q386 ⟨Nat.le_of_ble_eq_true rfl, Nat.le_of_ble_eq_true rfl⟩) rfl hl.1 rfl (lv_room (Nat.le_of_ble_eq_true rfl)) dX2_findsInMirror_12 ⟨Nat.le_of_ble_eq_true rfl, Nat.le_of_ble_eq_true rfl⟩) (fun F4 H locs hp6 hI => ?_)
  obtain ⟨ha7, hs7⟩ := hp6
  have hc8 : F4 B0 = some (zO 2 [.ref (B0 + 1), .ref (B0 + 2), .ref (B0 + 3), .ref (B0 + 4), .ref (B0 + 6), .ref (B0 + 8), .ref (B0 + 10)]) := (hs7 _ (zne y01 xrtr (fun q => by cases q)) (zne y01 xwtr (fun q => by cases q))).trans y01
  have hc9 : F4 (B0 + 1) = some (zA1 G 4 fa1) := (hs7 _ (zne y11 xrtr (fun q => by cases q)) (by omega)).trans y11
  have hc10 : F4 (B0 + 2) = some (zA1 G 2 fb1) := (hs7 _ (zne y21 xrtr (fun q => by cases q)) (by omega)).trans y21
  have hc11 : F4 (B0 + 3) = some (zAI G 100 fc1) := (hs7 _ (zne y31 xrtr (fun q => by cases q)) (by omega)).trans y31
  have hc12 : F4 (B0 + 10) = some (zAI G 61 fd1) := (hs7 _ (zne y101 xrtr (fun q => by cases q)) (by omega)).trans y101
  have hc13 : F4 (B0 + 11 + 2 * i) = some (zO 1 [.ref (B0 + 12 + 2 * i), .int (nI (sn σ i))]) := (hs7 _ (by omega) (zne xrhx2 xwtr (fun q => by cases q))).trans xrhx2
  have hc14 : F4 (B0 + 12 + 2 * i) = some (zAI G 60 fhx2) := (hs7 _ (zne xwhx2 xrtr (fun q => by cases q)) (by omega)).trans xwhx2
  have hc15 : F4 (B0 + 19 + 2 * 0) = some (zO 1 [.ref (B0 + 20 + 2 * 0), .int (nI (pn σ 0))]) := (hs7 _ (by omega) (zne xrhx3 xwtr (fun q => by cases q))).trans xrhx3
  have hc16 : F4 (B0 + 20 + 2 * 0) = some (zAI G 12 fhx3) := (hs7 _ (zne xwhx3 xrtr (fun q => by cases q)) (by omega)).trans xwhx3
  have hc17 : F4 (B0 + 8) = some (zO 1 [.ref (B0 + 9), .int (nI n81)]) := (hs7 _ (by omega) (zne xrtq xwtr (fun q => by cases q))).trans xrtq
  have hc18 : F4 (B0 + 9) = some (zAI G 12 ftq) := (hs7 _ (zne xwtq xrtr (fun q => by cases q)) (by omega)).trans xwtq
  obtain ⟨xn_7, xr_7, f_7, xw_7, xf_7⟩ := id ha7
  have hC1 := CS.setW hC (Or.inr (Or.inl ⟨rfl, rfl, rfl⟩)) hs7 ha7
  have hcf1 : zCf B0 F F4 := zCf.sm hs7 (by omega) (by omega)
  obtain ⟨y019, ⟨fa19, y119, e119⟩, ⟨fb19, y219, e219⟩, ⟨fc19, y319, e319⟩, ⟨n419, t419, y419⟩, ⟨n619, t619, y619⟩, ⟨n819, t819, y819⟩, ⟨fd19, y1019⟩, yT19, yP19⟩ := id hC1
  have hx20 := yT19 i hi
  obtain ⟨xnhx20, xrhx20, fhx20, xwhx20, xfhx20⟩ := id hx20
  have hx21 := yP19 0 (by decide)
  obtain ⟨xnhx21, xrhx21, fhx21, xwhx21, xfhx21⟩ := id hx21
  have hz22 : RA G 1 F4 (B0 + 6) (B0 + 7) 60 (sn σ i) (st σ i) := ⟨xn_7, xr_7, f_7, xw_7, xf_7⟩
  obtain ⟨xnz23, xrz23, fz23, xwz23, xfz23⟩ := id hz22
  obtain ⟨xnz24, xrz24, fz24, xwz24, xfz24⟩ := id y819
  refine lv_aload_n hx hb dX2_findsInMirror_15 rfl (lv_at hl 1 rfl) ?_
  refine z_get hx hb hts hown zlX2 rfl 4 (by decide) (hts _ q44) rfl hI y019 rfl dX2_findsInMirror_16 ?_
  refine lv_iconst (v := nI 0) hx hb dX2_findsInMirror_19 (by decide) ?_
  refine lv_aload_n hx hb dX2_findsInMirror_20 rfl (lv_at hl 1 rfl) ?_
  refine z_get hx hb hts hown zlX2 rfl 4 (by decide) (hts _ q44) rfl hI y019 rfl dX2_findsInMirror_21 ?_
  refine z_getN hx hb hts hown zlX1 rfl 1 (by decide) (List.mem_of_getElem? (i := 0) rfl) rfl hI xrz23 rfl dX2_findsInMirror_24 ?_
  refine z_callv hI (z_V (As := [.int (nI 0), .int (nI (sn σ i))]) (rest := []) ⟨hx, hb, hml, hown, hts⟩ hI xrz23 rfl (c_X1_turnRound l G B0 F4 (B0 + 6) (B0 + 7) 60 (sn σ i) (st σ i) 0 (sn σ i) ⟨xnz23, xrz23, fz23, xwz23, xfz23⟩ (by omega) (by omega) (by omega)) (z_cwV vX1_turnRound hts q539 ⟨Nat.le_of_ble_eq_true rfl, Nat.le_of_ble_eq_true rfl⟩) rfl hl.1 rfl (lv_room (Nat.le_of_ble_eq_true rfl)) dX2_findsInMirror_27 ⟨Nat.le_of_ble_eq_true rfl, Nat.le_of_ble_eq_true rfl⟩) (fun F25 H locs hp27 hI => ?_)
  obtain ⟨ha28, hs28⟩ := hp27
  have hc29 : F25 B0 = some (zO 2 [.ref (B0 + 1), .ref (B0 + 2), .ref (B0 + 3), .ref (B0 + 4), .ref (B0 + 6), .ref (B0 + 8), .ref (B0 + 10)]) := (hs28 _ (zne y019 xrz23 (fun q => by cases q)) (zne y019 xwz23 (fun q => by cases q))).trans y019
  have hc30 : F25 (B0 + 1) = some (zA1 G 4 fa19) := (hs28 _ (zne y119 xrz23 (fun q => by cases q)) (by omega)).trans y119
  have hc31 : F25 (B0 + 2) = some (zA1 G 2 fb19) := (hs28 _ (zne y219 xrz23 (fun q => by cases q)) (by omega)).trans y219
  have hc32 : F25 (B0 + 3) = some (zAI G 100 fc19) := (hs28 _ (zne y319 xrz23 (fun q => by cases q)) (by omega)).trans y319
  have hc33 : F25 (B0 + 10) = some (zAI G 61 fd19) := (hs28 _ (zne y1019 xrz23 (fun q => by cases q)) (by omega)).trans y1019
  have hc34 : F25 (B0 + 11 + 2 * i) = some (zO 1 [.ref (B0 + 12 + 2 * i), .int (nI (sn σ i))]) := (hs28 _ (by omega) (zne xrhx20 xwz23 (fun q => by cases q))).trans xrhx20
  have hc35 : F25 (B0 + 12 + 2 * i) = some (zAI G 60 fhx20) := (hs28 _ (zne xwhx20 xrz23 (fun q => by cases q)) (by omega)).trans xwhx20
  have hc36 : F25 (B0 + 19 + 2 * 0) = some (zO 1 [.ref (B0 + 20 + 2 * 0), .int (nI (pn σ 0))]) := (hs28 _ (by omega) (zne xrhx21 xwz23 (fun q => by cases q))).trans xrhx21
  have hc37 : F25 (B0 + 20 + 2 * 0) = some (zAI G 12 fhx21) := (hs28 _ (zne xwhx21 xrz23 (fun q => by cases q)) (by omega)).trans xwhx21
  have hc38 : F25 (B0 + 8) = some (zO 1 [.ref (B0 + 9), .int (nI n819)]) := (hs28 _ (by omega) (zne xrz24 xwz23 (fun q => by cases q))).trans xrz24
  have hc39 : F25 (B0 + 9) = some (zAI G 12 fz24) := (hs28 _ (zne xwz24 xrz23 (fun q => by cases q)) (by omega)).trans xwz24
  obtain ⟨xn_28, xr_28, f_28, xw_28, xf_28⟩ := id ha28
  have hC2 := CS.setW hC1 (Or.inr (Or.inl ⟨rfl, rfl, rfl⟩)) hs28 ha28
  have hcf2 : zCf B0 F4 F25 := zCf.sm hs28 (by omega) (by omega)
  obtain ⟨y040, ⟨fa40, y140, e140⟩, ⟨fb40, y240, e240⟩, ⟨fc40, y340, e340⟩, ⟨n440, t440, y440⟩, ⟨n640, t640, y640⟩, ⟨n840, t840, y840⟩, ⟨fd40, y1040⟩, yT40, yP40⟩ := id hC2
  have hx41 := yT40 i hi
  obtain ⟨xnhx41, xrhx41, fhx41, xwhx41, xfhx41⟩ := id hx41
  have hx42 := yP40 0 (by decide)
  obtain ⟨xnhx42, xrhx42, fhx42, xwhx42, xfhx42⟩ := id hx42
  have hz43 : RA G 1 F25 (B0 + 6) (B0 + 7) 60 (sn σ i) (revt (st σ i) 0 (sn σ i)) := ⟨xn_28, xr_28, f_28, xw_28, xf_28⟩
  obtain ⟨xnz44, xrz44, fz44, xwz44, xfz44⟩ := id hz43
  obtain ⟨xnz45, xrz45, fz45, xwz45, xfz45⟩ := id y840
  refine lv_aload_n hx hb dX2_findsInMirror_30 rfl (lv_at hl 1 rfl) ?_
  refine z_get hx hb hts hown zlX2 rfl 5 (by decide) (hts _ q45) rfl hI y040 rfl dX2_findsInMirror_31 ?_
  refine lv_aload_n hx hb dX2_findsInMirror_34 rfl (lv_at hl 0 rfl) ?_
  refine z_callv hI (z_V (As := [.ref (B0 + 19 + 2 * 0)]) (rest := []) ⟨hx, hb, hml, hown, hts⟩ hI xrz45 rfl (c_X1_become l G B0 F25 (B0 + 8) (B0 + 9) 12 n840 t840 (B0 + 19 + 2 * 0) (B0 + 20 + 2 * 0) 12 (pn σ 0) (pt σ 0) ⟨xnz45, xrz45, fz45, xwz45, xfz45⟩ (by omega) ⟨xnhx42, xrhx42, fhx42, xwhx42, xfhx42⟩ (by omega) (by omega) (by omega) (by omega)) (z_cwV vX1_become hts q386 ⟨Nat.le_of_ble_eq_true rfl, Nat.le_of_ble_eq_true rfl⟩) rfl hl.1 rfl (lv_room (Nat.le_of_ble_eq_true rfl)) dX2_findsInMirror_35 ⟨Nat.le_of_ble_eq_true rfl, Nat.le_of_ble_eq_true rfl⟩) (fun F46 H locs hp48 hI => ?_)
  obtain ⟨ha49, hs49⟩ := hp48
  have hc50 : F46 B0 = some (zO 2 [.ref (B0 + 1), .ref (B0 + 2), .ref (B0 + 3), .ref (B0 + 4), .ref (B0 + 6), .ref (B0 + 8), .ref (B0 + 10)]) := (hs49 _ (zne y040 xrz45 (fun q => by cases q)) (zne y040 xwz45 (fun q => by cases q))).trans y040
  have hc51 : F46 (B0 + 1) = some (zA1 G 4 fa40) := (hs49 _ (zne y140 xrz45 (fun q => by cases q)) (by omega)).trans y140
  have hc52 : F46 (B0 + 2) = some (zA1 G 2 fb40) := (hs49 _ (zne y240 xrz45 (fun q => by cases q)) (by omega)).trans y240
  have hc53 : F46 (B0 + 3) = some (zAI G 100 fc40) := (hs49 _ (zne y340 xrz45 (fun q => by cases q)) (by omega)).trans y340
  have hc54 : F46 (B0 + 10) = some (zAI G 61 fd40) := (hs49 _ (zne y1040 xrz45 (fun q => by cases q)) (by omega)).trans y1040
  have hc55 : F46 (B0 + 11 + 2 * i) = some (zO 1 [.ref (B0 + 12 + 2 * i), .int (nI (sn σ i))]) := (hs49 _ (by omega) (zne xrhx41 xwz45 (fun q => by cases q))).trans xrhx41
  have hc56 : F46 (B0 + 12 + 2 * i) = some (zAI G 60 fhx41) := (hs49 _ (zne xwhx41 xrz45 (fun q => by cases q)) (by omega)).trans xwhx41
  have hc57 : F46 (B0 + 19 + 2 * 0) = some (zO 1 [.ref (B0 + 20 + 2 * 0), .int (nI (pn σ 0))]) := (hs49 _ (by omega) (zne xrhx42 xwz45 (fun q => by cases q))).trans xrhx42
  have hc58 : F46 (B0 + 20 + 2 * 0) = some (zAI G 12 fhx42) := (hs49 _ (zne xwhx42 xrz45 (fun q => by cases q)) (by omega)).trans xwhx42
  have hc59 : F46 (B0 + 6) = some (zO 1 [.ref (B0 + 7), .int (nI (sn σ i))]) := (hs49 _ (by omega) (zne xrz44 xwz45 (fun q => by cases q))).trans xrz44
  have hc60 : F46 (B0 + 7) = some (zAI G 60 fz44) := (hs49 _ (zne xwz44 xrz45 (fun q => by cases q)) (by omega)).trans xwz44
  obtain ⟨xn_49, xr_49, f_49, xw_49, xf_49⟩ := id ha49
  have hC3 := CS.setW hC2 (Or.inr (Or.inr ⟨rfl, rfl, rfl⟩)) hs49 ha49
  have hcf3 : zCf B0 F25 F46 := zCf.sm hs49 (by omega) (by omega)
  obtain ⟨y061, ⟨fa61, y161, e161⟩, ⟨fb61, y261, e261⟩, ⟨fc61, y361, e361⟩, ⟨n461, t461, y461⟩, ⟨n661, t661, y661⟩, ⟨n861, t861, y861⟩, ⟨fd61, y1061⟩, yT61, yP61⟩ := id hC3
  have hx62 := yT61 i hi
  obtain ⟨xnhx62, xrhx62, fhx62, xwhx62, xfhx62⟩ := id hx62
  have hx63 := yP61 0 (by decide)
  obtain ⟨xnhx63, xrhx63, fhx63, xwhx63, xfhx63⟩ := id hx63
  have hz64 : RA G 1 F46 (B0 + 6) (B0 + 7) 60 (sn σ i) (revt (st σ i) 0 (sn σ i)) := ⟨xnz44, hc59, fz44, hc60, xfz44⟩
  obtain ⟨xnz65, xrz65, fz65, xwz65, xfz65⟩ := id hz64
  have hz66 : RA G 1 F46 (B0 + 8) (B0 + 9) 12 (pn σ 0) (pt σ 0) := ⟨xn_49, xr_49, f_49, xw_49, xf_49⟩
  obtain ⟨xnz67, xrz67, fz67, xwz67, xfz67⟩ := id hz66
  refine lv_aload_n hx hb dX2_findsInMirror_38 rfl (lv_at hl 1 rfl) ?_
  refine z_get hx hb hts hown zlX2 rfl 5 (by decide) (hts _ q45) rfl hI y061 rfl dX2_findsInMirror_39 ?_
  refine lv_iconst (v := nI 0) hx hb dX2_findsInMirror_42 (by decide) ?_
  refine lv_aload_n hx hb dX2_findsInMirror_43 rfl (lv_at hl 1 rfl) ?_
  refine z_get hx hb hts hown zlX2 rfl 5 (by decide) (hts _ q45) rfl hI y061 rfl dX2_findsInMirror_44 ?_
  refine z_getN hx hb hts hown zlX1 rfl 1 (by decide) (List.mem_of_getElem? (i := 0) rfl) rfl hI xrz67 rfl dX2_findsInMirror_47 ?_
  refine z_callv hI (z_V (As := [.int (nI 0), .int (nI (pn σ 0))]) (rest := []) ⟨hx, hb, hml, hown, hts⟩ hI xrz67 rfl (c_X1_turnRound l G B0 F46 (B0 + 8) (B0 + 9) 12 (pn σ 0) (pt σ 0) 0 (pn σ 0) ⟨xnz67, xrz67, fz67, xwz67, xfz67⟩ (by omega) (by omega) (by omega)) (z_cwV vX1_turnRound hts q539 ⟨Nat.le_of_ble_eq_true rfl, Nat.le_of_ble_eq_true rfl⟩) rfl hl.1 rfl (lv_room (Nat.le_of_ble_eq_true rfl)) dX2_findsInMirror_50 ⟨Nat.le_of_ble_eq_true rfl, Nat.le_of_ble_eq_true rfl⟩) (fun F68 H locs hp70 hI => ?_)
  obtain ⟨ha71, hs71⟩ := hp70
  have hc72 : F68 B0 = some (zO 2 [.ref (B0 + 1), .ref (B0 + 2), .ref (B0 + 3), .ref (B0 + 4), .ref (B0 + 6), .ref (B0 + 8), .ref (B0 + 10)]) := (hs71 _ (zne y061 xrz67 (fun q => by cases q)) (zne y061 xwz67 (fun q => by cases q))).trans y061
  have hc73 : F68 (B0 + 1) = some (zA1 G 4 fa61) := (hs71 _ (zne y161 xrz67 (fun q => by cases q)) (by omega)).trans y161
  have hc74 : F68 (B0 + 2) = some (zA1 G 2 fb61) := (hs71 _ (zne y261 xrz67 (fun q => by cases q)) (by omega)).trans y261
  have hc75 : F68 (B0 + 3) = some (zAI G 100 fc61) := (hs71 _ (zne y361 xrz67 (fun q => by cases q)) (by omega)).trans y361
  have hc76 : F68 (B0 + 10) = some (zAI G 61 fd61) := (hs71 _ (zne y1061 xrz67 (fun q => by cases q)) (by omega)).trans y1061
  have hc77 : F68 (B0 + 11 + 2 * i) = some (zO 1 [.ref (B0 + 12 + 2 * i), .int (nI (sn σ i))]) := (hs71 _ (by omega) (zne xrhx62 xwz67 (fun q => by cases q))).trans xrhx62
  have hc78 : F68 (B0 + 12 + 2 * i) = some (zAI G 60 fhx62) := (hs71 _ (zne xwhx62 xrz67 (fun q => by cases q)) (by omega)).trans xwhx62
  have hc79 : F68 (B0 + 19 + 2 * 0) = some (zO 1 [.ref (B0 + 20 + 2 * 0), .int (nI (pn σ 0))]) := (hs71 _ (by omega) (zne xrhx63 xwz67 (fun q => by cases q))).trans xrhx63
  have hc80 : F68 (B0 + 20 + 2 * 0) = some (zAI G 12 fhx63) := (hs71 _ (zne xwhx63 xrz67 (fun q => by cases q)) (by omega)).trans xwhx63
  have hc81 : F68 (B0 + 6) = some (zO 1 [.ref (B0 + 7), .int (nI (sn σ i))]) := (hs71 _ (by omega) (zne xrz65 xwz67 (fun q => by cases q))).trans xrz65
  have hc82 : F68 (B0 + 7) = some (zAI G 60 fz65) := (hs71 _ (zne xwz65 xrz67 (fun q => by cases q)) (by omega)).trans xwz65
  obtain ⟨xn_71, xr_71, f_71, xw_71, xf_71⟩ := id ha71
  have hC4 := CS.setW hC3 (Or.inr (Or.inr ⟨rfl, rfl, rfl⟩)) hs71 ha71
  have hcf4 : zCf B0 F46 F68 := zCf.sm hs71 (by omega) (by omega)
  obtain ⟨y083, ⟨fa83, y183, e183⟩, ⟨fb83, y283, e283⟩, ⟨fc83, y383, e383⟩, ⟨n483, t483, y483⟩, ⟨n683, t683, y683⟩, ⟨n883, t883, y883⟩, ⟨fd83, y1083⟩, yT83, yP83⟩ := id hC4
  have hx84 := yT83 i hi
  obtain ⟨xnhx84, xrhx84, fhx84, xwhx84, xfhx84⟩ := id hx84
  have hx85 := yP83 0 (by decide)
  obtain ⟨xnhx85, xrhx85, fhx85, xwhx85, xfhx85⟩ := id hx85
  have hz86 : RA G 1 F68 (B0 + 6) (B0 + 7) 60 (sn σ i) (revt (st σ i) 0 (sn σ i)) := ⟨xnz65, hc81, fz65, hc82, xfz65⟩
  obtain ⟨xnz87, xrz87, fz87, xwz87, xfz87⟩ := id hz86
  have hz88 : RA G 1 F68 (B0 + 8) (B0 + 9) 12 (pn σ 0) (revt (pt σ 0) 0 (pn σ 0)) := ⟨xn_71, xr_71, f_71, xw_71, xf_71⟩
  obtain ⟨xnz89, xrz89, fz89, xwz89, xfz89⟩ := id hz88
  refine lv_aload_n hx hb dX2_findsInMirror_53 rfl (lv_at hl 1 rfl) ?_
  refine z_get hx hb hts hown zlX2 rfl 4 (by decide) (hts _ q44) rfl hI y083 rfl dX2_findsInMirror_54 ?_
  refine lv_aload_n hx hb dX2_findsInMirror_57 rfl (lv_at hl 1 rfl) ?_
  refine z_get hx hb hts hown zlX2 rfl 5 (by decide) (hts _ q45) rfl hI y083 rfl dX2_findsInMirror_58 ?_
  refine lv_iconst (v := nI 0) hx hb dX2_findsInMirror_61 (by decide) ?_
  refine lv_aload_n hx hb dX2_findsInMirror_62 rfl (lv_at hl 1 rfl) ?_
  refine z_get hx hb hts hown zlX2 rfl 4 (by decide) (hts _ q44) rfl hI y083 rfl dX2_findsInMirror_63 ?_
  refine z_getN hx hb hts hown zlX1 rfl 1 (by decide) (List.mem_of_getElem? (i := 0) rfl) rfl hI xrz87 rfl dX2_findsInMirror_66 ?_
  refine z_calli hI (z_V (As := [.ref (B0 + 8), .int (nI 0), .int (nI (sn σ i))]) (rest := []) ⟨hx, hb, hml, hown, hts⟩ hI xrz87 rfl (c_X1_firstPlaceOf l G B0 F68 (B0 + 6) (B0 + 7) 60 (sn σ i) (revt (st σ i) 0 (sn σ i)) (B0 + 8) (B0 + 9) 12 (pn σ 0) (revt (pt σ 0) 0 (pn σ 0)) 0 (sn σ i) ⟨xnz87, xrz87, fz87, xwz87, xfz87⟩ (by omega) ⟨xnz89, xrz89, fz89, xwz89, xfz89⟩ (by omega) (by omega) (by omega)) (z_cwV vX1_firstPlaceOf hts q327 ⟨Nat.le_of_ble_eq_true rfl, Nat.le_of_ble_eq_true rfl⟩) rfl hl.1 rfl (lv_room (Nat.le_of_ble_eq_true rfl)) dX2_findsInMirror_69 ⟨Nat.le_of_ble_eq_true rfl, Nat.le_of_ble_eq_true rfl⟩) (fun r91 F90 H locs hp92 hI => ?_)
  obtain ⟨rfl, rfl⟩ := hp92
  refine lv_istore_n (lv' := [(3, .int (rI (zfst (hld (revt (st σ i) 0 (sn σ i)) (sn σ i) (revt (pt σ 0) 0 (pn σ 0)) (pn σ 0)) 0 (sn σ i + 1 - (pn σ 0) - 0)))), (2, .ref (B0 + 19 + 2 * 0)), (0, .ref B0), (1, .ref (B0 + 11 + 2 * i))]) hx hb dX2_findsInMirror_72 rfl hl (by decide) rfl (fun ls hl => ?_)
  refine lv_aload_n hx hb dX2_findsInMirror_73 rfl (lv_at hl 3 rfl) ?_
  refine lv_aload_n hx hb dX2_findsInMirror_74 rfl (lv_at hl 1 rfl) ?_
  refine z_calli hI (z_V (As := [.ref (B0 + 19 + 2 * 0)]) (rest := []) ⟨hx, hb, hml, hown, hts⟩ hI xrhx84 rfl (c_X1_lastPlaceOf l G B0 F68 (B0 + 11 + 2 * i) (B0 + 12 + 2 * i) 60 (sn σ i) (st σ i) (B0 + 19 + 2 * 0) (B0 + 20 + 2 * 0) 12 (pn σ 0) (pt σ 0) ⟨xnhx84, xrhx84, fhx84, xwhx84, xfhx84⟩ (by omega) ⟨xnhx85, xrhx85, fhx85, xwhx85, xfhx85⟩ (by omega)) (z_cwV vX1_lastPlaceOf hts q342 ⟨Nat.le_of_ble_eq_true rfl, Nat.le_of_ble_eq_true rfl⟩) rfl hl.1 rfl (lv_room (Nat.le_of_ble_eq_true rfl)) dX2_findsInMirror_75 ⟨Nat.le_of_ble_eq_true rfl, Nat.le_of_ble_eq_true rfl⟩) (fun r94 F93 H locs hp95 hI => ?_)
  obtain ⟨rfl, rfl⟩ := hp95
  rcases mir (t := st σ i) (q := pt σ 0) (n := sn σ i) (m := pn σ 0) with ⟨hm1, hm2⟩ | ⟨k5, hm0, hm2, hm1⟩
  · rw [hm1] at hl
    rw [hm2]
    have hl : lv_has ls 5 [(3, .int (-1)), (2, .ref (B0 + 19 + 2 * 0)), (0, .ref B0), (1, .ref (B0 + 11 + 2 * i))] := hl
    refine lv_istore (lv' := [(4, .int (-1)), (3, .int (-1)), (2, .ref (B0 + 19 + 2 * 0)), (0, .ref B0), (1, .ref (B0 + 11 + 2 * i))]) hx hb dX2_findsInMirror_78 hl (by decide) rfl (fun ls hl => ?_)
    refine lv_iload_n hx hb dX2_findsInMirror_80 rfl (lv_at hl 1 rfl) ?_
    refine lv_iconst (v := -1) hx hb dX2_findsInMirror_81 (by decide) ?_
    refine lv_icmp_ne (tgt := 99) hx hb dX2_findsInMirror_82 (by decide) (fun hq96 => ?_) (fun hq96 => ?_)
    · exact absurd rfl hq96
    · refine lv_iload hx hb dX2_findsInMirror_85 (lv_at hl 0 rfl) ?_
      refine lv_iconst (v := -1) hx hb dX2_findsInMirror_87 (by decide) ?_
      refine lv_icmp_ne (tgt := 95) hx hb dX2_findsInMirror_88 (by decide) (fun hq97 => ?_) (fun hq97 => ?_)
      · exact absurd rfl hq97
      · refine lv_iconst (v := nI 1) hx hb dX2_findsInMirror_91 (by decide) ?_
        refine lv_goto (tgt := 120) hx hb dX2_findsInMirror_92 (by decide) ?_
        refine z_rz hx hb hr hlocks (Or.inr rfl) hI ?_ (Nat.le_of_ble_eq_true rfl) (Nat.le_of_ble_eq_true rfl) dX2_findsInMirror_120
        exact ⟨_, rfl, rfl, hC4, (zCf.tr hcf1 (zCf.tr hcf2 (zCf.tr hcf3 hcf4)))⟩
  · rw [hm1] at hl
    rw [hm2]
    have hl : lv_has ls 5 [(3, .int (nI (sn σ i - pn σ 0 - k5))), (2, .ref (B0 + 19 + 2 * 0)), (0, .ref B0), (1, .ref (B0 + 11 + 2 * i))] := hl
    refine lv_istore (lv' := [(4, .int (nI k5)), (3, .int (nI (sn σ i - pn σ 0 - k5))), (2, .ref (B0 + 19 + 2 * 0)), (0, .ref B0), (1, .ref (B0 + 11 + 2 * i))]) hx hb dX2_findsInMirror_78 hl (by decide) rfl (fun ls hl => ?_)
    refine lv_iload_n hx hb dX2_findsInMirror_80 rfl (lv_at hl 1 rfl) ?_
    refine lv_iconst (v := -1) hx hb dX2_findsInMirror_81 (by decide) ?_
    refine lv_icmp_ne (tgt := 99) hx hb dX2_findsInMirror_82 (by decide) (fun hq98 => ?_) (fun hq98 => ?_)
    · refine lv_iload hx hb dX2_findsInMirror_99 (lv_at hl 0 rfl) ?_
      refine lv_aload_n hx hb dX2_findsInMirror_101 rfl (lv_at hl 4 rfl) ?_
      refine z_getN hx hb hts hown zlX1 rfl 1 (by decide) (List.mem_of_getElem? (i := 0) rfl) rfl hI xrhx84 rfl dX2_findsInMirror_102 ?_
      refine lv_aload_n hx hb dX2_findsInMirror_105 rfl (lv_at hl 2 rfl) ?_
      refine z_getN hx hb hts hown zlX1 rfl 1 (by decide) (List.mem_of_getElem? (i := 0) rfl) rfl hI xrhx85 rfl dX2_findsInMirror_106 ?_
      refine lv_isub hx hb dX2_findsInMirror_109 ?_
      refine z_topi (pk_sub (a := sn σ i) (b := pn σ 0) (by omega)) ?_
      refine lv_iload_n hx hb dX2_findsInMirror_110 rfl (lv_at hl 1 rfl) ?_
      refine lv_isub hx hb dX2_findsInMirror_111 ?_
      refine z_topi (pk_sub (a := sn σ i - (pn σ 0)) (b := sn σ i - pn σ 0 - k5) (by omega)) ?_
      refine z_icmp_ne (tgt := 119) (a := k5) (b := sn σ i - (pn σ 0) - (sn σ i - pn σ 0 - k5)) hx hb dX2_findsInMirror_112 (by decide) (by omega) (fun hq99 => ?_) (fun hq99 => ?_)
      · refine lv_iconst (v := nI 0) hx hb dX2_findsInMirror_119 (by decide) ?_
        refine z_rz hx hb hr hlocks (Or.inl rfl) hI ?_ (Nat.le_of_ble_eq_true rfl) (Nat.le_of_ble_eq_true rfl) dX2_findsInMirror_120
        exfalso; omega
      · refine lv_iconst (v := nI 1) hx hb dX2_findsInMirror_115 (by decide) ?_
        refine lv_goto (tgt := 120) hx hb dX2_findsInMirror_116 (by decide) ?_
        refine z_rz hx hb hr hlocks (Or.inr rfl) hI ?_ (Nat.le_of_ble_eq_true rfl) (Nat.le_of_ble_eq_true rfl) dX2_findsInMirror_120
        exact ⟨_, rfl, rfl, hC4, (zCf.tr hcf1 (zCf.tr hcf2 (zCf.tr hcf3 hcf4)))⟩
    · exact absurd hq98 (nI_m1 (by omega))

set_option maxHeartbeats 4000000 in
set_option maxRecDepth 100000 in
theorem c_X2_errors (l : Launch) (hl0 : l.stackTraces = false) (G : zK) (B0 : Nat) (F : zM) (σ : Sg) (zp0 : Int32) (hC : CS G B0 F σ) (hK : SgOk σ) : vx_Met l yX2_errors (Cond.code yX2_errors cX2_errors 4 (some FieldType.int) :: zW) (zRm 7 113 1 6) (va_Pc [.ref B0, .int zp0] (zPre G B0 F)) (zQi G B0 (fun r' F' => oA_errors σ zp0 ∧ oB_errors σ zp0 ∧ oC_errors σ zp0 ∧ r' = rr_errors σ zp0 ∧ CS G B0 F' (ss_errors σ zp0) ∧ zCf B0 F F')) (zXC G B0 F (fun E => zPX zEI "" "" (oA_errors σ zp0) (oB_errors σ zp0) (oC_errors σ zp0) E)) 1 6 (zA B0) := by
  refine z_ofx (own := RX2) (by decide) rfl (Nat.le_of_ble_eq_true rfl) ?_
  intro p e s m below meth c ls hx hb hr hml hown hlocks hout hts hl hI
  have hl : lv_has ls 4 [(0, .ref B0), (1, .int zp0)] := hl
  obtain ⟨y01, ⟨fa1, y11, e11⟩, ⟨fb1, y21, e21⟩, ⟨fc1, y31, e31⟩, ⟨n41, t41, y41⟩, ⟨n61, t61, y61⟩, ⟨n81, t81, y81⟩, ⟨fd1, y101⟩, yT1, yP1⟩ := id hC
  refine lv_aload_n hx hb dX2_errors_0 rfl (lv_at hl 0 rfl) ?_
  refine lv_iload_n hx hb dX2_errors_1 rfl (lv_at hl 1 rfl) ?_
  refine z_xcallr hI (z_xV (As := [.int zp0]) (rest := []) ⟨hx, hb, hml, hown, hts⟩ hI y01 rfl (c_X2_textAt l hl0 G B0 F σ zp0 hC) (z_cwV vX2_textAt hts q71 ⟨Nat.le_of_ble_eq_true rfl, Nat.le_of_ble_eq_true rfl⟩) rfl hl.1 rfl (lv_room (Nat.le_of_ble_eq_true rfl)) dX2_errors_2 ⟨Nat.le_of_ble_eq_true rfl, Nat.le_of_ble_eq_true rfl⟩) (z_out hout hlocks (fun E hE => Or.inl ⟨hE.1, fun q => hE.2 (by first | exact q | (simp only [oA_errors, oB_errors, oC_errors, rr_errors, ss_errors] at q; exact q))⟩) (Nat.le_of_ble_eq_true rfl) (Nat.le_of_ble_eq_true rfl)) (fun r3 F2 H locs hp4 hI => ?_)
  obtain ⟨rfl, i5, hi6, rfl, rfl⟩ := hp4
  have hix7 : ix (nI i5) = i5 := ix_nI (by omega)
  have hl : lv_has ls 4 [(0, .ref B0), (1, .int (nI i5))] := hl
  have hx8 := yT1 i5 hi6
  obtain ⟨xnhx8, xrhx8, fhx8, xwhx8, xfhx8⟩ := id hx8
  refine lv_astore_n (lv' := [(2, .ref (B0 + 11 + 2 * i5)), (0, .ref B0), (1, .int (nI i5))]) hx hb dX2_errors_5 rfl hl (by decide) rfl (fun ls hl => ?_)
  refine lv_iconst (v := nI 0) hx hb dX2_errors_6 (by decide) ?_
  refine lv_istore_n (lv' := [(3, .int (nI 0)), (2, .ref (B0 + 11 + 2 * i5)), (0, .ref B0), (1, .int (nI i5))]) hx hb dX2_errors_7 rfl hl (by decide) rfl (fun ls hl => ?_)
  refine lv_iload_n hx hb dX2_errors_8 rfl (lv_at hl 0 rfl) ?_
  refine lv_aload_n hx hb dX2_errors_9 rfl (lv_at hl 2 rfl) ?_
  refine lv_aload_n hx hb dX2_errors_10 rfl (lv_at hl 1 rfl) ?_
  refine z_calli hI (z_V (As := [.ref (B0 + 11 + 2 * i5)]) (rest := [.int (nI 0)]) ⟨hx, hb, hml, hown, hts⟩ hI y01 rfl (c_X2_turnsBack l G B0 F σ i5 hC hi6) (z_cwV vX2_turnsBack hts q692 ⟨Nat.le_of_ble_eq_true rfl, Nat.le_of_ble_eq_true rfl⟩) rfl hl.1 rfl (lv_room (Nat.le_of_ble_eq_true rfl)) dX2_errors_11 ⟨Nat.le_of_ble_eq_true rfl, Nat.le_of_ble_eq_true rfl⟩) (fun r10 F9 H locs hp11 hI => ?_)
  obtain ⟨rfl, hC12, hcf12⟩ := hp11
  obtain ⟨y013, ⟨fa13, y113, e113⟩, ⟨fb13, y213, e213⟩, ⟨fc13, y313, e313⟩, ⟨n413, t413, y413⟩, ⟨n613, t613, y613⟩, ⟨n813, t813, y813⟩, ⟨fd13, y1013⟩, yT13, yP13⟩ := id hC12
  refine z_if_eq (tgt := 21) (a := 1) hx hb dX2_errors_14 (by decide) (by omega) (fun hq14 => ?_) (fun hq14 => ?_)
  · omega
  · refine lv_iconst (v := nI 0) hx hb dX2_errors_17 (by decide) ?_
    refine lv_goto (tgt := 22) hx hb dX2_errors_18 (by decide) ?_
    refine lv_iadd hx hb dX2_errors_22 ?_
    refine z_topi (nI_add 0 0) ?_
    refine lv_istore_n (lv' := [(3, .int (nI (0 + 0))), (2, .ref (B0 + 11 + 2 * i5)), (0, .ref B0), (1, .int (nI i5))]) hx hb dX2_errors_23 rfl hl (by decide) rfl (fun ls hl => ?_)
    refine lv_iload_n hx hb dX2_errors_24 rfl (lv_at hl 0 rfl) ?_
    refine lv_aload_n hx hb dX2_errors_25 rfl (lv_at hl 2 rfl) ?_
    refine lv_aload_n hx hb dX2_errors_26 rfl (lv_at hl 1 rfl) ?_
    refine z_calli hI (z_V (As := [.ref (B0 + 11 + 2 * i5)]) (rest := [.int (nI (0 + 0))]) ⟨hx, hb, hml, hown, hts⟩ hI y013 rfl (c_X2_movesBack l G B0 F9 σ i5 hC12 hi6) (z_cwV vX2_movesBack hts q696 ⟨Nat.le_of_ble_eq_true rfl, Nat.le_of_ble_eq_true rfl⟩) rfl hl.1 rfl (lv_room (Nat.le_of_ble_eq_true rfl)) dX2_errors_27 ⟨Nat.le_of_ble_eq_true rfl, Nat.le_of_ble_eq_true rfl⟩) (fun r16 F15 H locs hp17 hI => ?_)
    obtain ⟨rfl, hC18, hcf18⟩ := hp17
    obtain ⟨y019, ⟨fa19, y119, e119⟩, ⟨fb19, y219, e219⟩, ⟨fc19, y319, e319⟩, ⟨n419, t419, y419⟩, ⟨n619, t619, y619⟩, ⟨n819, t819, y819⟩, ⟨fd19, y1019⟩, yT19, yP19⟩ := id hC18
    refine z_if_eq (tgt := 37) (a := 1) hx hb dX2_errors_30 (by decide) (by omega) (fun hq20 => ?_) (fun hq20 => ?_)
    · omega
    · refine lv_iconst (v := nI 0) hx hb dX2_errors_33 (by decide) ?_
      refine lv_goto (tgt := 38) hx hb dX2_errors_34 (by decide) ?_
      refine lv_iadd hx hb dX2_errors_38 ?_
      refine z_topi (nI_add (0 + 0) 0) ?_
      refine lv_istore_n (lv' := [(3, .int (nI (0 + 0 + 0))), (2, .ref (B0 + 11 + 2 * i5)), (0, .ref B0), (1, .int (nI i5))]) hx hb dX2_errors_39 rfl hl (by decide) rfl (fun ls hl => ?_)
      refine lv_iload_n hx hb dX2_errors_40 rfl (lv_at hl 0 rfl) ?_
      refine lv_aload_n hx hb dX2_errors_41 rfl (lv_at hl 2 rfl) ?_
      refine lv_aload_n hx hb dX2_errors_42 rfl (lv_at hl 1 rfl) ?_
      refine z_calli hI (z_V (As := [.ref (B0 + 11 + 2 * i5)]) (rest := [.int (nI (0 + 0 + 0))]) ⟨hx, hb, hml, hown, hts⟩ hI y019 rfl (c_X2_sortsItsWords l G B0 F15 σ i5 hC18 hi6 hK) (z_cwV vX2_sortsItsWords hts q700 ⟨Nat.le_of_ble_eq_true rfl, Nat.le_of_ble_eq_true rfl⟩) rfl hl.1 rfl (lv_room (Nat.le_of_ble_eq_true rfl)) dX2_errors_43 ⟨Nat.le_of_ble_eq_true rfl, Nat.le_of_ble_eq_true rfl⟩) (fun r22 F21 H locs hp23 hI => ?_)
      obtain ⟨rfl, hC24, hcf24⟩ := hp23
      obtain ⟨y025, ⟨fa25, y125, e125⟩, ⟨fb25, y225, e225⟩, ⟨fc25, y325, e325⟩, ⟨n425, t425, y425⟩, ⟨n625, t625, y625⟩, ⟨n825, t825, y825⟩, ⟨fd25, y1025⟩, yT25, yP25⟩ := id hC24
      refine z_if_eq (tgt := 53) (a := 1) hx hb dX2_errors_46 (by decide) (by omega) (fun hq26 => ?_) (fun hq26 => ?_)
      · omega
      · refine lv_iconst (v := nI 0) hx hb dX2_errors_49 (by decide) ?_
        refine lv_goto (tgt := 54) hx hb dX2_errors_50 (by decide) ?_
        refine lv_iadd hx hb dX2_errors_54 ?_
        refine z_topi (nI_add (0 + 0 + 0) 0) ?_
        refine lv_istore_n (lv' := [(3, .int (nI (0 + 0 + 0 + 0))), (2, .ref (B0 + 11 + 2 * i5)), (0, .ref B0), (1, .int (nI i5))]) hx hb dX2_errors_55 rfl hl (by decide) rfl (fun ls hl => ?_)
        refine lv_iload_n hx hb dX2_errors_56 rfl (lv_at hl 0 rfl) ?_
        refine lv_aload_n hx hb dX2_errors_57 rfl (lv_at hl 2 rfl) ?_
        refine lv_aload_n hx hb dX2_errors_58 rfl (lv_at hl 1 rfl) ?_
        refine z_calli hI (z_V (As := [.ref (B0 + 11 + 2 * i5)]) (rest := [.int (nI (0 + 0 + 0 + 0))]) ⟨hx, hb, hml, hown, hts⟩ hI y025 rfl (c_X2_findsWhatItCounts l G B0 F21 σ i5 hC24 hi6) (z_cwV vX2_findsWhatItCounts hts q704 ⟨Nat.le_of_ble_eq_true rfl, Nat.le_of_ble_eq_true rfl⟩) rfl hl.1 rfl (lv_room (Nat.le_of_ble_eq_true rfl)) dX2_errors_59 ⟨Nat.le_of_ble_eq_true rfl, Nat.le_of_ble_eq_true rfl⟩) (fun r28 F27 H locs hp29 hI => ?_)
        obtain ⟨rfl, hC30, hcf30⟩ := hp29
        obtain ⟨y031, ⟨fa31, y131, e131⟩, ⟨fb31, y231, e231⟩, ⟨fc31, y331, e331⟩, ⟨n431, t431, y431⟩, ⟨n631, t631, y631⟩, ⟨n831, t831, y831⟩, ⟨fd31, y1031⟩, yT31, yP31⟩ := id hC30
        refine z_if_eq (tgt := 69) (a := 1) hx hb dX2_errors_62 (by decide) (by omega) (fun hq32 => ?_) (fun hq32 => ?_)
        · omega
        · refine lv_iconst (v := nI 0) hx hb dX2_errors_65 (by decide) ?_
          refine lv_goto (tgt := 70) hx hb dX2_errors_66 (by decide) ?_
          refine lv_iadd hx hb dX2_errors_70 ?_
          refine z_topi (nI_add (0 + 0 + 0 + 0) 0) ?_
          refine lv_istore_n (lv' := [(3, .int (nI (0 + 0 + 0 + 0 + 0))), (2, .ref (B0 + 11 + 2 * i5)), (0, .ref B0), (1, .int (nI i5))]) hx hb dX2_errors_71 rfl hl (by decide) rfl (fun ls hl => ?_)
          refine lv_iload_n hx hb dX2_errors_72 rfl (lv_at hl 0 rfl) ?_
          refine lv_aload_n hx hb dX2_errors_73 rfl (lv_at hl 2 rfl) ?_
          refine lv_aload_n hx hb dX2_errors_74 rfl (lv_at hl 1 rfl) ?_
          refine z_calli hI (z_V (As := [.ref (B0 + 11 + 2 * i5)]) (rest := [.int (nI (0 + 0 + 0 + 0 + 0))]) ⟨hx, hb, hml, hown, hts⟩ hI y031 rfl (c_X2_findsInMirror l G B0 F27 σ i5 hC30 hi6) (z_cwV vX2_findsInMirror hts q708 ⟨Nat.le_of_ble_eq_true rfl, Nat.le_of_ble_eq_true rfl⟩) rfl hl.1 rfl (lv_room (Nat.le_of_ble_eq_true rfl)) dX2_errors_75 ⟨Nat.le_of_ble_eq_true rfl, Nat.le_of_ble_eq_true rfl⟩) (fun r34 F33 H locs hp35 hI => ?_)
          obtain ⟨rfl, hC36, hcf36⟩ := hp35
          obtain ⟨y037, ⟨fa37, y137, e137⟩, ⟨fb37, y237, e237⟩, ⟨fc37, y337, e337⟩, ⟨n437, t437, y437⟩, ⟨n637, t637, y637⟩, ⟨n837, t837, y837⟩, ⟨fd37, y1037⟩, yT37, yP37⟩ := id hC36
          refine z_if_eq (tgt := 85) (a := 1) hx hb dX2_errors_78 (by decide) (by omega) (fun hq38 => ?_) (fun hq38 => ?_)
          · omega
          · refine lv_iconst (v := nI 0) hx hb dX2_errors_81 (by decide) ?_
            refine lv_goto (tgt := 86) hx hb dX2_errors_82 (by decide) ?_
            refine lv_iadd hx hb dX2_errors_86 ?_
            refine z_topi (nI_add (0 + 0 + 0 + 0 + 0) 0) ?_
            refine lv_istore_n (lv' := [(3, .int (nI (0 + 0 + 0 + 0 + 0 + 0))), (2, .ref (B0 + 11 + 2 * i5)), (0, .ref B0), (1, .int (nI i5))]) hx hb dX2_errors_87 rfl hl (by decide) rfl (fun ls hl => ?_)
            refine lv_iload_n hx hb dX2_errors_88 rfl (lv_at hl 0 rfl) ?_
            refine vx_ret (z_ri hx hb hr hlocks hI ?_ (Nat.le_of_ble_eq_true rfl) (Nat.le_of_ble_eq_true rfl) dX2_errors_89)
            refine ⟨_, rfl, (by simp only [oA_errors, oB_errors, oC_errors, rr_errors, ss_errors, hix7] <;> exact ⟨i5, hi6, rfl⟩), (by simp only [oA_errors, oB_errors, oC_errors, rr_errors, ss_errors, hix7] <;> exact trivial), (by simp only [oA_errors, oB_errors, oC_errors, rr_errors, ss_errors, hix7] <;> exact trivial), (by simp only [oA_errors, oB_errors, oC_errors, rr_errors, ss_errors, hix7] <;> exact rfl), (by simp only [oA_errors, oB_errors, oC_errors, rr_errors, ss_errors, hix7] <;> exact hC36), (zCf.tr hcf12 (zCf.tr hcf18 (zCf.tr hcf24 (zCf.tr hcf30 hcf36))))⟩

