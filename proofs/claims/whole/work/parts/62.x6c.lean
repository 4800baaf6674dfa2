theorem RA.mono {G : zK} {ci : Nat} {F F' : zM} {r w cap n : Nat} {t : Nat → Int32} (h : RA G ci F r w cap n t) (hm : ∀ b e, F b = some e → F' b = some e) : RA G ci F' r w cap n t := by
  obtain ⟨a, b, f, c, d⟩ := h
  exact ⟨a, hm _ _ b, f, hm _ _ c, d⟩
theorem MS.mono {G : zK} {B0 : Nat} {F F' : zM} {σ : Sg} {th : Int32} (h : MS G B0 F σ th) (ho : ∀ b e, F b = some e → F' b = some e) : MS G B0 F' σ th := by
  obtain ⟨z0, ⟨f1, z1, e1⟩, ⟨f2, z2, e2⟩, ⟨f3, z3, e3⟩, ⟨n4, t4, z4⟩, zT, zP⟩ := h
  exact ⟨ho _ _ z0, ⟨f1, ho _ _ z1, e1⟩, ⟨f2, ho _ _ z2, e2⟩, ⟨f3, ho _ _ z3, e3⟩, ⟨n4, t4, z4.mono ho⟩, fun j hj => (zT j hj).mono ho, fun j hj => (zP j hj).mono ho⟩
theorem lcp_lc {t q : Nat → Int32} {n m : Nat} : ∀ {k p f : Nat}, lcp t n p q m f k → lc t n q m p f = k
  | 0, p, f, h => lc_z h.2.2.2
  | k + 1, p, f, h => by
    obtain ⟨h1, h2, h3, h4⟩ := h
    have h5 : lcp t n (p + 1) q m (f + 1) k := by
      refine ⟨by omega, by omega, fun j hj => ?_, ?_⟩
      · rw [show p + 1 + j = p + (j + 1) by omega, show f + 1 + j = f + (j + 1) by omega]
        exact h3 (j + 1) (by omega)
      · rw [show p + 1 + k = p + (k + 1) by omega, show f + 1 + k = f + (k + 1) by omega]
        exact h4
    rw [lc_y (show p < n by omega) (show f < m by omega) (show t p = q f from h3 0 (by omega)), lcp_lc h5]
/-- as isC, for the places ahead of pl, and pl with those ahead of fr -/
def cRI (t : Nat → Int32) (n : Nat) (q : Nat → Int32) (m pl fr : Nat) (x : Nat × Nat × Nat) : Prop :=
  (∀ p f, f < m → (p < pl ∨ (p = pl ∧ f < fr)) → lc t n q m p f ≤ x.1) ∧ ((x.1 = 0 ∧ x.2.1 = 0 ∧ x.2.2 = 0) ∨ (0 < x.1 ∧ (x.2.1 < pl ∨ (x.2.1 = pl ∧ x.2.2 < fr)) ∧ x.2.2 < m ∧ lc t n q m x.2.1 x.2.2 = x.1 ∧ (∀ p, p < x.2.1 → ∀ f, f < m → lc t n q m p f < x.1) ∧ ∀ f, f < x.2.2 → lc t n q m x.2.1 f < x.1))
theorem cRI_0 {t q : Nat → Int32} {n m : Nat} : cRI t n q m 0 0 (0, 0, 0) := ⟨fun p f _ h => absurd h (by omega), Or.inl ⟨rfl, rfl, rfl⟩⟩
theorem cRI_no {t q : Nat → Int32} {n m pl fr kx : Nat} {x : Nat × Nat × Nat} (h : cRI t n q m pl fr x) (he : lc t n q m pl fr = kx) (hl : kx ≤ x.1) : cRI t n q m pl (fr + 1) x := by
  refine ⟨fun p f hf hd => ?_, ?_⟩
  · by_cases e : p = pl ∧ f = fr
    · obtain ⟨rfl, rfl⟩ := e
      rw [he]; exact hl
    · exact h.1 p f hf (by omega)
  · rcases h.2 with h2 | ⟨a, b, c⟩
    · exact Or.inl h2
    · exact Or.inr ⟨a, by omega, c⟩
theorem cRI_up {t q : Nat → Int32} {n m pl fr kx : Nat} {x : Nat × Nat × Nat} (h : cRI t n q m pl fr x) (he : lc t n q m pl fr = kx) (hl : x.1 < kx) (hfr : fr < m) : cRI t n q m pl (fr + 1) (kx, pl, fr) := by
  refine ⟨fun p f hf hd => ?_, Or.inr ⟨by show 0 < kx; omega, Or.inr ⟨rfl, Nat.lt_succ_self _⟩, hfr, he, fun p hp f hf => ?_, fun f hf => ?_⟩⟩
  · by_cases e : p = pl ∧ f = fr
    · obtain ⟨rfl, rfl⟩ := e
      exact Nat.le_of_eq he
    · exact Nat.le_trans (h.1 p f hf (by omega)) (Nat.le_of_lt hl)
  · exact Nat.lt_of_le_of_lt (h.1 p f hf (Or.inl hp)) hl
  · have hf' : f < fr := hf
    exact Nat.lt_of_le_of_lt (h.1 pl f (by omega) (Or.inr ⟨rfl, hf'⟩)) hl
theorem cRI_row {t q : Nat → Int32} {n m pl fr : Nat} {x : Nat × Nat × Nat} (h : cRI t n q m pl fr x) (hm : m ≤ fr) : cRI t n q m (pl + 1) 0 x := by
  refine ⟨fun p f hf hd => h.1 p f hf (by omega), ?_⟩
  rcases h.2 with h2 | ⟨a, b, c⟩
  · exact Or.inl h2
  · exact Or.inr ⟨a, by omega, c⟩
theorem cRI_e {t q : Nat → Int32} {n m pl : Nat} {x : Nat × Nat × Nat} (h : cRI t n q m pl 0 x) (hn : pl = n) : isC t n q m x := by
  subst hn
  refine ⟨fun p hp f hf => h.1 p f hf (Or.inl hp), ?_⟩
  rcases h.2 with h2 | ⟨a, b, c⟩
  · exact Or.inl h2
  · exact Or.inr ⟨a, by omega, c⟩
theorem com_3 {a L b z x : Int32} {w : Nat} (hw : w < 3) (h0 : w = 0 → a = L) (h1 : w = 1 → a = b) (h2 : w = 2 → a = z) : a = if nI w = 0 then L else if nI w = nI 1 then b else z := by
  match w, hw with
  | 0, _ => rw [if_pos nI_0]; exact h0 rfl
  | 1, _ => rw [if_neg (by decide), if_pos rfl]; exact h1 rfl
  | 2, _ => rw [if_neg (by decide), if_neg (by decide)]; exact h2 rfl
theorem hld_cg {t t' q q' : Nat → Int32} {n m p : Nat} (h : ∀ j, j < n → t j = t' j) (h' : ∀ j, j < m → q j = q' j) : hld t n q m p ↔ hld t' n q' m p := by
  constructor
  · rintro ⟨a, b⟩
    exact ⟨a, fun i hi => by rw [← h (p + i) (by omega), ← h' i hi]; exact b i hi⟩
  · rintro ⟨a, b⟩
    exact ⟨a, fun i hi => by rw [h (p + i) (by omega), h' i hi]; exact b i hi⟩
theorem zfst_cg {P Q : Nat → Prop} (h : ∀ p, P p ↔ Q p) : ∀ {c a : Nat}, zfst P a c = zfst Q a c
  | 0, _ => rfl
  | c + 1, a => by
    by_cases e : P a
    · rw [zfst_t e, zfst_t ((h a).mp e)]
    · rw [zfst_f e, zfst_f (fun z => e ((h a).mpr z)), zfst_cg h]
theorem mirB {t q : Nat → Int32} {n m : Nat} : (zfst (hld t n q m) 0 (n + 1 - m - 0) = none ∧ zlst (hld (revt t 0 n) n (revt q 0 m) m) (n + 1) = none) ∨ ∃ k, k + m ≤ n ∧ zlst (hld (revt t 0 n) n (revt q 0 m) m) (n + 1) = some k ∧ zfst (hld t n q m) 0 (n + 1 - m - 0) = some (n - m - k) := by
  have h1 : zlst (hld (revt t 0 n) n (revt q 0 m) m) (n + 1) = zlst (hld (revt t 0 n) n (revt q 0 m) m) (n + 1 - m) := zlst_run (by omega) (fun j h1 h2 z => by have := z.1; omega)
  have h2 : zfst (hld t n q m) 0 (n + 1 - m - 0) = zfst (hld (revt (revt t 0 n) 0 n) n (revt (revt q 0 m) 0 m) m) 0 (n + 1 - m - 0) := zfst_cg (fun p => hld_cg (fun j hj => (rev_rev hj).symm) (fun j hj => (rev_rev hj).symm))
  rw [h1, h2]
  rcases mir (t := revt t 0 n) (q := revt q 0 m) (n := n) (m := m) with ⟨a, b⟩ | ⟨k, a, b, d⟩
  · exact Or.inl ⟨a, b⟩
  · exact Or.inr ⟨k, a, b, d⟩
def ssm (t : Nat → Int32) (n : Nat) : Nat → Nat
  | 0 => 0
  | v + 1 => ssm t n v + cnt t (nI v) n
theorem ssm_s {t : Nat → Int32} {n u : Nat} (hu : u < 100) (e : t n = nI u) : ∀ {v : Nat}, v ≤ 100 → ssm t (n + 1) v = ssm t n v + (if u < v then 1 else 0)
  | 0, _ => rfl
  | v + 1, h => by
    simp only [ssm, cnt]
    rw [ssm_s hu e (v := v) (by omega), e]
    by_cases q : u = v
    · subst q
      rw [if_neg (Nat.lt_irrefl _), if_pos rfl, if_pos (Nat.lt_succ_self _)]; omega
    · have h1 : ¬ nI u = nI v := fun z => q ((nI_eq (by omega) (by omega)).mp z)
      rw [if_neg h1]
      by_cases q2 : u < v
      · rw [if_pos q2, if_pos (by omega)]; omega
      · rw [if_neg q2, if_neg (by omega)]; omega
theorem ssm_0 {t : Nat → Int32} : ∀ {v : Nat}, ssm t 0 v = 0
  | 0 => rfl
  | v + 1 => by simp only [ssm, cnt]; rw [ssm_0]
theorem ssm_n {t : Nat → Int32} : ∀ {n : Nat}, wok t n → ssm t n 100 = n
  | 0, _ => ssm_0
  | n + 1, h => by
    obtain ⟨u, hu, e⟩ := h n (Nat.lt_succ_self _)
    rw [ssm_s hu e (Nat.le_refl _), if_pos hu, ssm_n (fun j hj => h j (by omega))]
set_option maxHeartbeats 4000000 in
set_option maxRecDepth 100000 in
theorem c_X4_common (l : Launch) (G : zK) (B0 : Nat) (F : zM) (σ : Sg) (th zp0 zp1 zp2 : Int32) (hM : MS G B0 F σ th) (hK : SgOk σ) : Met l yX4_common (Cond.code yX4_common cX4_common 8 (some FieldType.int) :: zW) (zRm 2 45 1 3) (va_Pc [.ref (B0 + 23), .int zp0, .int zp1, .int zp2] (zPre G B0 F)) (zQi G B0 (zRP G B0 F σ (oA_common σ zp0 zp1 zp2) (oB_common σ zp0 zp1 zp2) (oC_common σ zp0 zp1 zp2) (ss_common σ zp0 zp1 zp2) (rr_common σ zp0 zp1 zp2))) 1 3 (zA B0) := by
  refine z_of (own := RX4) (by decide) rfl (Nat.le_of_ble_eq_true rfl) ?_
  intro p e s m below meth c ls hx hb hr hml hown hlocks hnm hts hl hI
  have hl : lv_has ls 8 [(0, .ref (B0 + 23)), (1, .int zp0), (2, .int zp1), (3, .int zp2)] := hl
  obtain ⟨m01, ⟨ma1, m11, me11⟩, ⟨mb1, m21, me21⟩, ⟨mc1, m31, me31⟩, ⟨n91, t91, m41⟩, mT1, mP1⟩ := id hM
  refine lv_aload_n hx hb dX4_common_0 rfl (lv_at hl 0 rfl) ?_
  refine z_join (σ := Int32) (fun xj : Int32 => [(0, .ref (B0 + 23)), (1, .int zp0), (2, .int zp1), (3, .int zp2)]) (fun xj : Int32 => [.int xj, .ref (B0 + 23)]) (fun (xj : Int32) (Fx : zM) => F = Fx ∧ xj = pI (okT zp0 ∧ okT zp1)) 20 8 G B0 ?_ (fun jn20 => ?_)
  · intro xj F2 ls H locs hi hl hI
    have hl : lv_has ls 8 [(0, .ref (B0 + 23)), (1, .int zp0), (2, .int zp1), (3, .int zp2)] := hl
    obtain ⟨hF, hx9⟩ := hi
    subst hF
    subst hx9
    refine lv_iload_n hx hb dX4_common_20 rfl (lv_at hl 3 rfl) ?_
    refine lv_i2l hx hb dX4_common_21 rfl ?_
    refine lv_lconst (v := 0) hx hb dX4_common_22 (by decide) ?_
    refine lv_ldc2 (v := 2) hx hb hown (hts _ q1033) dX4_common_23 ?_
    refine z_calli hI (z_S (As := [.long zp2.toInt64, .long 0, .long 2]) (rest := [.int (pI (okT zp0 ∧ okT zp1)), .ref (B0 + 23)]) ⟨hx, hb, hml, hown, hts⟩ hI (c_X4_in l G B0 F zp2.toInt64 0 2) (z_cwS vX4_in hts q776 ⟨Nat.le_of_ble_eq_true rfl, Nat.le_of_ble_eq_true rfl⟩) rfl hl.1 rfl (lv_room (Nat.le_of_ble_eq_true rfl)) dX4_common_26 ⟨Nat.le_of_ble_eq_true rfl, Nat.le_of_ble_eq_true rfl⟩) (fun r4 F3 H locs hp5 hI => ?_)
    obtain ⟨rfl, rfl⟩ := hp5
    refine lv_iconst (v := nI 1) hx hb dX4_common_29 (by decide) ?_
    refine z_topi (pI_1 (P := True) trivial) ?_
    refine z_calli hI (z_V (As := [.int (pI (okT zp0 ∧ okT zp1)), .int (pI (0 ≤ zp2.toInt64 ∧ zp2.toInt64 ≤ 2)), .int (pI (True))]) (rest := []) ⟨hx, hb, hml, hown, hts⟩ hI m01 rfl (c_X4_passes l G B0 F σ th (okT zp0 ∧ okT zp1) (0 ≤ zp2.toInt64 ∧ zp2.toInt64 ≤ 2) (True) hM) (z_cwV vX4_passes hts q788 ⟨Nat.le_of_ble_eq_true rfl, Nat.le_of_ble_eq_true rfl⟩) rfl hl.1 rfl (lv_room (Nat.le_of_ble_eq_true rfl)) dX4_common_30 ⟨Nat.le_of_ble_eq_true rfl, Nat.le_of_ble_eq_true rfl⟩) (fun r7 F6 H locs hp8 hI => ?_)
    obtain ⟨⟨th1, hM1, hz1⟩, rfl, ho1⟩ := hp8
    have hp1 : (okT zp0 ∧ okT zp1) ↔ oA_common σ zp0 zp1 zp2 := Iff.rfl
    have hp2 : oA_common σ zp0 zp1 zp2 → ((0 ≤ zp2.toInt64 ∧ zp2.toInt64 ≤ 2) ↔ oB_common σ zp0 zp1 zp2) := fun _ => in_c (a := 0) (b := 2) (by decide) (by decide)
    have hp3 : oA_common σ zp0 zp1 zp2 → oB_common σ zp0 zp1 zp2 → ((True) ↔ oC_common σ zp0 zp1 zp2) := fun _ _ => Iff.rfl
    have hz2 := zTh_cg hp1 hp2 hp3 hz1
    refine z_topi (pI_cg (zC_cg hp1 hp2 hp3)) ?_
    have hmf1 : zMf B0 F F6 := fun q hq => ho1 q (by omega)
    obtain ⟨m09, ⟨ma9, m19, me19⟩, ⟨mb9, m29, me29⟩, ⟨mc9, m39, me39⟩, ⟨n99, t99, m49⟩, mT9, mP9⟩ := id hM1
    refine z_ifp_ne (tgt := 38) hx hb dX4_common_33 (by decide) (fun hq10 => ?_) (fun hq10 => ?_)
    · obtain ⟨hA, hB, hC0⟩ := id hq10
      obtain ⟨hc0, hc1⟩ := id hA
      obtain ⟨i11, hi12, rfl⟩ := id hc0
      have hix13 : ix (nI i11) = i11 := ix_nI (by omega)
      have hl : lv_has ls 8 [(0, .ref (B0 + 23)), (1, .int (nI i11)), (2, .int zp1), (3, .int zp2)] := hl
      have hsbi11 := (hK.1 i11 hi12).1
      obtain ⟨i14, hi15, rfl⟩ := id hc1
      have hix16 : ix (nI i14) = i14 := ix_nI (by omega)
      have hl : lv_has ls 8 [(0, .ref (B0 + 23)), (1, .int (nI i11)), (2, .int (nI i14)), (3, .int zp2)] := hl
      have hsbi14 := (hK.1 i14 hi15).1
      have hx17 := mT9 i11 hi12
      obtain ⟨xnhx17, xrhx17, fhx17, xwhx17, xfhx17⟩ := id hx17
      have hx18 := mT9 i14 hi15
      obtain ⟨xnhx18, xrhx18, fhx18, xwhx18, xfhx18⟩ := id hx18
      refine lv_iconst (v := nI 3) hx hb dX4_common_38 (by decide) ?_
      have hI9 := hI
      refine z_newI (N' := 3) hx hb (hts _ q39) hI (by decide) (Nat.le_of_ble_eq_true rfl) (Nat.le_of_ble_eq_true rfl) dX4_common_39 (fun q19 H hq20 hz21 F22 hw23 ho24 hI => ?_)
      have hno_q19 : ∀ e, F6 q19 ≠ some e := fun e9 => hI9.new_no (Nat.le_of_eq hq20.symm) e9
      refine lv_dup hx hb dX4_common_41 rfl ?_
      refine lv_iconst (v := nI 0) hx hb dX4_common_42 (by decide) ?_
      refine lv_iconst (v := nI 0) hx hb dX4_common_43 (by decide) ?_
      refine z_ist (k := 0) hx hb hI hw23 (by omega) (by omega) dX4_common_44 (fun H locs F25 hw26 ho27 hI => ?_)
      refine lv_dup hx hb dX4_common_45 rfl ?_
      refine lv_iconst (v := nI 1) hx hb dX4_common_46 (by decide) ?_
      refine lv_iconst (v := nI 0) hx hb dX4_common_47 (by decide) ?_
      refine z_ist (k := 1) hx hb hI hw26 (by omega) (by omega) dX4_common_48 (fun H locs F28 hw29 ho30 hI => ?_)
      refine lv_dup hx hb dX4_common_49 rfl ?_
      refine lv_iconst (v := nI 2) hx hb dX4_common_50 (by decide) ?_
      refine lv_iconst (v := nI 0) hx hb dX4_common_51 (by decide) ?_
      refine z_ist (k := 2) hx hb hI hw29 (by omega) (by omega) dX4_common_52 (fun H locs F31 hw32 ho33 hI => ?_)
      refine lv_astore (lv' := [(4, .ref q19), (0, .ref (B0 + 23)), (1, .int (nI i11)), (2, .int (nI i14)), (3, .int zp2)]) hx hb dX4_common_53 hl (by decide) rfl (fun ls hl => ?_)
      have hne9 : ∀ b e, F6 b = some e → b ≠ q19 := fun b e hbe e9 => hno_q19 e (e9 ▸ hbe)
      have hmo0 : ∀ b e, F6 b = some e → F31 b = some e := fun b e hbe => (ho33 b (hne9 b e hbe)).trans ((ho30 b (hne9 b e hbe)).trans ((ho27 b (hne9 b e hbe)).trans ((ho24 b (hne9 b e hbe)).trans hbe)))
      refine lv_iconst (v := nI 0) hx hb dX4_common_55 (by decide) ?_
      refine lv_istore (lv' := [(5, .int (nI 0)), (4, .ref q19), (0, .ref (B0 + 23)), (1, .int (nI i11)), (2, .int (nI i14)), (3, .int zp2)]) hx hb dX4_common_56 hl (by decide) rfl (fun ls hl => ?_)
      refine z_loop (σ := Nat × Nat × Nat × Nat) (fun xx : Nat × Nat × Nat × Nat => match xx with | (k, L, b, z) => [(0, .ref (B0 + 23)), (1, .int (nI i11)), (2, .int (nI i14)), (3, .int zp2), (4, .ref q19), (5, .int (nI k))]) (fun (xx : Nat × Nat × Nat × Nat) (Fx : zM) => match xx with | (k, L, b, z) => (∀ b9 e9, F6 b9 = some e9 → Fx b9 = some e9) ∧ (∃ f, Fx q19 = some (zAI G 3 f) ∧ f 0 = nI L ∧ f 1 = nI b ∧ f 2 = nI z) ∧ k ≤ sn σ i11 ∧ L ≤ 60 ∧ b ≤ 60 ∧ z ≤ 60 ∧ cRI (st σ i11) (sn σ i11) (st σ i14) (sn σ i14) k 0 (L, b, z)) (fun xx : Nat × Nat × Nat × Nat => match xx with | (k, L, b, z) => sn σ i11 - k) (0, 0, 0, 0) (nL := 8) (st := []) ?_ (lv_sub hl [2, 3, 4, 5, 1, 0] rfl) hI ?_
      · exact ⟨hmo0, ⟨_, hw32, (pk_un (by decide)).trans ((pk_un (by decide)).trans pk_us), (pk_un (by decide)).trans pk_us, pk_us⟩, Nat.zero_le _, Nat.zero_le _, Nat.zero_le _, Nat.zero_le _, cRI_0⟩
      · intro xx F34 ls H locs hi hl hI ih
        obtain ⟨k, L, b, z⟩ := xx
        have hl : lv_has ls 8 [(0, .ref (B0 + 23)), (1, .int (nI i11)), (2, .int (nI i14)), (3, .int zp2), (4, .ref q19), (5, .int (nI k))] := hl
        obtain ⟨hmo, ⟨f1, hf1, hf10, hf11, hf12⟩, hk, hL, hbb, hzz, hcr⟩ := hi
        have hM35 := hM1.mono hmo
        obtain ⟨m036, ⟨ma36, m136, me136⟩, ⟨mb36, m236, me236⟩, ⟨mc36, m336, me336⟩, ⟨n936, t936, m436⟩, mT36, mP36⟩ := id hM35
        have hx37 := mT36 i11 hi12
        obtain ⟨xnhx37, xrhx37, fhx37, xwhx37, xfhx37⟩ := id hx37
        have hx38 := mT36 i14 hi15
        obtain ⟨xnhx38, xrhx38, fhx38, xwhx38, xfhx38⟩ := id hx38
        refine lv_iload hx hb dX4_common_58 (lv_at hl 5 rfl) ?_
        refine lv_aload_n hx hb dX4_common_60 rfl (lv_at hl 0 rfl) ?_
        refine z_get hx hb hts hown zlX4 rfl 1 (by decide) (hts _ q753) rfl hI m036 rfl dX4_common_61 ?_
        refine lv_iload_n hx hb dX4_common_64 rfl (lv_at hl 1 rfl) ?_
        refine z_ald3 (k := i11) (v := B0 + 25 + 2 * i11) hx hb hI m136 (by omega) (by omega) (me136 i11 (by omega)) dX4_common_65 ?_
        refine z_getN hx hb hts hown zlX3 rfl 1 (by decide) (List.mem_of_getElem? (i := 2) rfl) rfl hI xrhx37 rfl dX4_common_66 ?_
        refine z_icmp_ge (tgt := 149) (a := k) (b := sn σ i11) hx hb dX4_common_69 (by decide) (by omega) (fun hq39 => ?_) (fun hq39 => ?_)
        · obtain ⟨w9, hw9, rfl⟩ : ∃ w9, w9 < 3 ∧ zp2 = nI w9 := by obtain ⟨j, hj, rfl⟩ := nI_of hB.1; exact ⟨j, by have := (nI_leI hj (by decide)).mp hB.2; omega, rfl⟩
          have hl : lv_has ls 8 [(0, .ref (B0 + 23)), (1, .int (nI i11)), (2, .int (nI i14)), (3, .int (nI w9)), (4, .ref q19), (5, .int (nI k))] := hl
          refine lv_aload hx hb dX4_common_149 (lv_at hl 4 rfl) ?_
          refine lv_iload_n hx hb dX4_common_151 rfl (lv_at hl 3 rfl) ?_
          refine z_ild (k := w9) (v := f1 w9) hx hb hI hf1 (by omega) (by omega) rfl dX4_common_152 ?_
          have hI := hI.less hmo
          refine z_ri hx hb hr hlocks hI ?_ (Nat.le_of_ble_eq_true rfl) (Nat.le_of_ble_eq_true rfl) dX4_common_153
          have hco : com (st σ i11) (sn σ i11) (st σ i14) (sn σ i14) = (L, b, z) := com_eq (cRI_e hcr (by omega))
          refine ⟨_, rfl, th1, _, hM1, hz2, fun _ => ⟨(by simp only [oA_common, oB_common, oC_common, rr_common, ss_common, hix13, hix16] <;> exact rfl), (by simp only [oA_common, oB_common, oC_common, rr_common, ss_common, hix13, hix16] <;> (rw [hco]; exact com_3 (x := 0) hw9 (fun e => by subst e; exact hf10) (fun e => by subst e; exact hf11) (fun e => by subst e; exact hf12)))⟩, fun q => absurd ⟨hA, hB, hC0⟩ q, hmf1⟩
        · refine lv_iconst (v := nI 0) hx hb dX4_common_72 (by decide) ?_
          refine lv_istore (lv' := [(6, .int (nI 0)), (0, .ref (B0 + 23)), (1, .int (nI i11)), (2, .int (nI i14)), (3, .int zp2), (4, .ref q19), (5, .int (nI k))]) hx hb dX4_common_73 hl (by decide) rfl (fun ls hl => ?_)
          refine z_loop (σ := Nat × Nat × Nat × Nat) (fun xx : Nat × Nat × Nat × Nat => match xx with | (j, L2, b2, z2) => [(0, .ref (B0 + 23)), (1, .int (nI i11)), (2, .int (nI i14)), (3, .int zp2), (4, .ref q19), (5, .int (nI k)), (6, .int (nI j))]) (fun (xx : Nat × Nat × Nat × Nat) (Fx : zM) => match xx with | (j, L2, b2, z2) => (∀ b9 e9, F6 b9 = some e9 → Fx b9 = some e9) ∧ (∃ f, Fx q19 = some (zAI G 3 f) ∧ f 0 = nI L2 ∧ f 1 = nI b2 ∧ f 2 = nI z2) ∧ j ≤ sn σ i14 ∧ L2 ≤ 60 ∧ b2 ≤ 60 ∧ z2 ≤ 60 ∧ cRI (st σ i11) (sn σ i11) (st σ i14) (sn σ i14) k j (L2, b2, z2)) (fun xx : Nat × Nat × Nat × Nat => match xx with | (j, L2, b2, z2) => sn σ i14 - j) (0, L, b, z) (nL := 8) (st := []) ?_ (lv_sub hl [1, 2, 3, 4, 5, 6, 0] rfl) hI ?_
          · exact ⟨hmo, ⟨_, hf1, hf10, hf11, hf12⟩, Nat.zero_le _, by omega, by omega, by omega, hcr⟩
          · intro xx F40 ls H locs hi hl hI ih75
            obtain ⟨j, L2, b2, z2⟩ := xx
            have hl : lv_has ls 8 [(0, .ref (B0 + 23)), (1, .int (nI i11)), (2, .int (nI i14)), (3, .int zp2), (4, .ref q19), (5, .int (nI k)), (6, .int (nI j))] := hl
            obtain ⟨hmo2, ⟨f2, hf2, hf20, hf21, hf22⟩, hj, hL2, hb2, hz2x, hcr2⟩ := hi
            have hM41 := hM1.mono hmo2
            obtain ⟨m042, ⟨ma42, m142, me142⟩, ⟨mb42, m242, me242⟩, ⟨mc42, m342, me342⟩, ⟨n942, t942, m442⟩, mT42, mP42⟩ := id hM41
            have hx43 := mT42 i11 hi12
            obtain ⟨xnhx43, xrhx43, fhx43, xwhx43, xfhx43⟩ := id hx43
            have hx44 := mT42 i14 hi15
            obtain ⟨xnhx44, xrhx44, fhx44, xwhx44, xfhx44⟩ := id hx44
            refine lv_iload hx hb dX4_common_75 (lv_at hl 6 rfl) ?_
            refine lv_aload_n hx hb dX4_common_77 rfl (lv_at hl 0 rfl) ?_
            refine z_get hx hb hts hown zlX4 rfl 1 (by decide) (hts _ q753) rfl hI m042 rfl dX4_common_78 ?_
            refine lv_iload_n hx hb dX4_common_81 rfl (lv_at hl 2 rfl) ?_
            refine z_ald3 (k := i14) (v := B0 + 25 + 2 * i14) hx hb hI m142 (by omega) (by omega) (me142 i14 (by omega)) dX4_common_82 ?_
            refine z_getN hx hb hts hown zlX3 rfl 1 (by decide) (List.mem_of_getElem? (i := 2) rfl) rfl hI xrhx44 rfl dX4_common_83 ?_
            refine z_icmp_ge (tgt := 143) (a := j) (b := sn σ i14) hx hb dX4_common_86 (by decide) (by omega) (fun hq45 => ?_) (fun hq45 => ?_)
            · refine lv_iinc (k := 5) (v := nI (k + 1)) (lv' := [(5, .int (nI (k + 1))), (0, .ref (B0 + 23)), (1, .int (nI i11)), (2, .int (nI i14)), (3, .int zp2), (4, .ref q19), (6, .int (nI j))]) hx hb dX4_common_143 hl rfl (nI_add k 1) (by decide) rfl (fun ls hl => ?_)
              refine lv_goto (tgt := 58) hx hb dX4_common_146 (by decide) ?_
              refine ih (k + 1, L2, b2, z2) _ ls H locs (by first | omega | (dsimp only; omega)) ?_ (lv_sub hl [1, 2, 3, 4, 5, 0] rfl) hI
              exact ⟨hmo2, ⟨_, hf2, hf20, hf21, hf22⟩, by omega, by omega, by omega, by omega, cRI_row hcr2 (by omega)⟩
            · refine lv_aload_n hx hb dX4_common_89 rfl (lv_at hl 0 rfl) ?_
              refine z_get hx hb hts hown zlX4 rfl 1 (by decide) (hts _ q753) rfl hI m042 rfl dX4_common_90 ?_
              refine lv_iload_n hx hb dX4_common_93 rfl (lv_at hl 1 rfl) ?_
              refine z_ald3 (k := i11) (v := B0 + 25 + 2 * i11) hx hb hI m142 (by omega) (by omega) (me142 i11 (by omega)) dX4_common_94 ?_
              refine lv_iload hx hb dX4_common_95 (lv_at hl 5 rfl) ?_
              refine lv_aload_n hx hb dX4_common_97 rfl (lv_at hl 0 rfl) ?_
              refine z_get hx hb hts hown zlX4 rfl 1 (by decide) (hts _ q753) rfl hI m042 rfl dX4_common_98 ?_
              refine lv_iload_n hx hb dX4_common_101 rfl (lv_at hl 2 rfl) ?_
              refine z_ald3 (k := i14) (v := B0 + 25 + 2 * i14) hx hb hI m142 (by omega) (by omega) (me142 i14 (by omega)) dX4_common_102 ?_
              refine lv_iload hx hb dX4_common_103 (lv_at hl 6 rfl) ?_
              refine z_calli hI (z_V (As := [.int (nI k), .ref (B0 + 25 + 2 * i14), .int (nI j)]) (rest := []) ⟨hx, hb, hml, hown, hts⟩ hI xrhx43 rfl (c_X3_alike l G B0 F40 (B0 + 25 + 2 * i11) (B0 + 26 + 2 * i11) 60 (sn σ i11) (st σ i11) (B0 + 25 + 2 * i14) (B0 + 26 + 2 * i14) 60 (sn σ i14) (st σ i14) k j ⟨xnhx43, xrhx43, fhx43, xwhx43, xfhx43⟩ (by omega) ⟨xnhx44, xrhx44, fhx44, xwhx44, xfhx44⟩ (by omega) (by omega) (by omega)) (z_cwV vX3_alike hts q1034 ⟨Nat.le_of_ble_eq_true rfl, Nat.le_of_ble_eq_true rfl⟩) rfl hl.1 rfl (lv_room (Nat.le_of_ble_eq_true rfl)) dX4_common_105 ⟨Nat.le_of_ble_eq_true rfl, Nat.le_of_ble_eq_true rfl⟩) (fun r47 F46 H locs hp48 hI => ?_)
              obtain ⟨rfl, k49, rfl, hp48⟩ := hp48
              have hkb := hp48.1
              have hlc := lcp_lc hp48
              refine lv_istore (lv' := [(7, .int (nI k49)), (0, .ref (B0 + 23)), (1, .int (nI i11)), (2, .int (nI i14)), (3, .int zp2), (4, .ref q19), (5, .int (nI k)), (6, .int (nI j))]) hx hb dX4_common_108 hl (by decide) rfl (fun ls hl => ?_)
              refine lv_iload hx hb dX4_common_110 (lv_at hl 0 rfl) ?_
              refine lv_aload hx hb dX4_common_112 (lv_at hl 5 rfl) ?_
              refine lv_iconst (v := nI 0) hx hb dX4_common_114 (by decide) ?_
              refine z_ild (k := 0) (v := nI L2) hx hb hI hf2 (by omega) (by omega) hf20 dX4_common_115 ?_
              refine z_icmp_le (tgt := 137) (a := k49) (b := L2) hx hb dX4_common_116 (by decide) (by omega) (fun hq50 => ?_) (fun hq50 => ?_)
              · refine lv_iinc (k := 7) (v := nI (j + 1)) (lv' := [(6, .int (nI (j + 1))), (7, .int (nI k49)), (0, .ref (B0 + 23)), (1, .int (nI i11)), (2, .int (nI i14)), (3, .int zp2), (4, .ref q19), (5, .int (nI k))]) hx hb dX4_common_137 hl rfl (nI_add j 1) (by decide) rfl (fun ls hl => ?_)
                refine lv_goto (tgt := 75) hx hb dX4_common_140 (by decide) ?_
                refine ih75 (j + 1, L2, b2, z2) _ ls H locs (by first | omega | (dsimp only; omega)) ?_ (lv_sub hl [2, 3, 4, 5, 6, 7, 0] rfl) hI
                exact ⟨hmo2, ⟨_, hf2, hf20, hf21, hf22⟩, by omega, by omega, by omega, by omega, cRI_no hcr2 hlc hq50⟩
              · refine lv_aload hx hb dX4_common_119 (lv_at hl 5 rfl) ?_
                refine lv_iconst (v := nI 0) hx hb dX4_common_121 (by decide) ?_
                refine lv_iload hx hb dX4_common_122 (lv_at hl 0 rfl) ?_
                refine z_ist (k := 0) hx hb hI hf2 (by omega) (by omega) dX4_common_124 (fun H locs F51 hw52 ho53 hI => ?_)
                refine lv_aload hx hb dX4_common_125 (lv_at hl 5 rfl) ?_
                refine lv_iconst (v := nI 1) hx hb dX4_common_127 (by decide) ?_
                refine lv_iload hx hb dX4_common_128 (lv_at hl 6 rfl) ?_
                refine z_ist (k := 1) hx hb hI hw52 (by omega) (by omega) dX4_common_130 (fun H locs F54 hw55 ho56 hI => ?_)
                refine lv_aload hx hb dX4_common_131 (lv_at hl 5 rfl) ?_
                refine lv_iconst (v := nI 2) hx hb dX4_common_133 (by decide) ?_
                refine lv_iload hx hb dX4_common_134 (lv_at hl 7 rfl) ?_
                refine z_ist (k := 2) hx hb hI hw55 (by omega) (by omega) dX4_common_136 (fun H locs F57 hw58 ho59 hI => ?_)
                refine lv_iinc (k := 7) (v := nI (j + 1)) (lv' := [(6, .int (nI (j + 1))), (7, .int (nI k49)), (0, .ref (B0 + 23)), (1, .int (nI i11)), (2, .int (nI i14)), (3, .int zp2), (4, .ref q19), (5, .int (nI k))]) hx hb dX4_common_137 hl rfl (nI_add j 1) (by decide) rfl (fun ls hl => ?_)
                refine lv_goto (tgt := 75) hx hb dX4_common_140 (by decide) ?_
                refine ih75 (j + 1, k49, k, j) _ ls H locs (by first | omega | (dsimp only; omega)) ?_ (lv_sub hl [2, 3, 4, 5, 6, 7, 0] rfl) hI
                exact ⟨fun b e hbe => (ho59 b (hne9 b e hbe)).trans ((ho56 b (hne9 b e hbe)).trans ((ho53 b (hne9 b e hbe)).trans (hmo2 b e hbe))), ⟨_, hw58, (pk_un (by decide)).trans ((pk_un (by decide)).trans pk_us), (pk_un (by decide)).trans pk_us, pk_us⟩, by omega, by omega, by omega, by omega, cRI_up hcr2 hlc (by omega) (by omega)⟩
    · refine lv_iconst (v := nI 0) hx hb dX4_common_36 (by decide) ?_
      refine z_ri hx hb hr hlocks hI ?_ (Nat.le_of_ble_eq_true rfl) (Nat.le_of_ble_eq_true rfl) dX4_common_37
      exact ⟨_, rfl, th1, σ, hM1, hz2, fun q => absurd q hq10, fun _ => rfl, hmf1⟩
  · refine lv_iload_n hx hb dX4_common_1 rfl (lv_at hl 1 rfl) ?_
    refine z_calli hI (z_S (As := [.int zp0]) (rest := [.ref (B0 + 23)]) ⟨hx, hb, hml, hown, hts⟩ hI (c_X4_isText l G B0 F zp0) (z_cwS vX4_isText hts q772 ⟨Nat.le_of_ble_eq_true rfl, Nat.le_of_ble_eq_true rfl⟩) rfl hl.1 rfl (lv_room (Nat.le_of_ble_eq_true rfl)) dX4_common_2 ⟨Nat.le_of_ble_eq_true rfl, Nat.le_of_ble_eq_true rfl⟩) (fun r61 F60 H locs hp62 hI => ?_)
    obtain ⟨rfl, rfl⟩ := hp62
    refine z_ifp_eq (tgt := 19) hx hb dX4_common_5 (by decide) (fun hq63 => ?_) (fun hq63 => ?_)
    · refine lv_iconst (v := nI 0) hx hb dX4_common_19 (by decide) ?_
      refine jn20 (nI 0) _ ls H locs ?_ (lv_sub hl [0, 1, 2, 3] rfl) hI
      exact ⟨rfl, pI_f (fun z => by have z2 := z.1; first | exact hq63 z2 | (first | exact hq63 z2 | exact i_le_n.mp z2 hq63 | exact l_le_n.mp z2 (lg_gt.mp hq63) | exact l_le_n.mp z2 (lg_lt.mp hq63) | exact hq63 ((in_pl1 (by omega)).mpr z2) | omega))⟩
    · refine lv_iload_n hx hb dX4_common_8 rfl (lv_at hl 2 rfl) ?_
      refine z_calli hI (z_S (As := [.int zp1]) (rest := [.ref (B0 + 23)]) ⟨hx, hb, hml, hown, hts⟩ hI (c_X4_isText l G B0 F zp1) (z_cwS vX4_isText hts q772 ⟨Nat.le_of_ble_eq_true rfl, Nat.le_of_ble_eq_true rfl⟩) rfl hl.1 rfl (lv_room (Nat.le_of_ble_eq_true rfl)) dX4_common_9 ⟨Nat.le_of_ble_eq_true rfl, Nat.le_of_ble_eq_true rfl⟩) (fun r65 F64 H locs hp66 hI => ?_)
      obtain ⟨rfl, rfl⟩ := hp66
      refine z_ifp_eq (tgt := 19) hx hb dX4_common_12 (by decide) (fun hq67 => ?_) (fun hq67 => ?_)
      · refine lv_iconst (v := nI 0) hx hb dX4_common_19 (by decide) ?_
        refine jn20 (nI 0) _ ls H locs ?_ (lv_sub hl [0, 1, 2, 3] rfl) hI
        exact ⟨rfl, pI_f (fun z => by have z2 := z.2; first | exact hq67 z2 | (first | exact hq67 z2 | exact i_le_n.mp z2 hq67 | exact l_le_n.mp z2 (lg_gt.mp hq67) | exact l_le_n.mp z2 (lg_lt.mp hq67) | exact hq67 ((in_pl1 (by omega)).mpr z2) | omega))⟩
      · refine lv_iconst (v := nI 1) hx hb dX4_common_15 (by decide) ?_
        refine lv_goto (tgt := 20) hx hb dX4_common_16 (by decide) ?_
        refine jn20 (nI 1) _ ls H locs ?_ (lv_sub hl [0, 1, 2, 3] rfl) hI
        exact ⟨rfl, pI_t ⟨(by first | exact hq63 | exact i_le_n.mpr hq63 | exact l_le_n.mpr (fun q => hq63 (lg_gt.mpr q)) | exact l_le_n.mpr (fun q => hq63 (lg_lt.mpr q)) | exact (in_pl1 (by omega)).mp hq63 | omega), (by first | exact hq67 | exact i_le_n.mpr hq67 | exact l_le_n.mpr (fun q => hq67 (lg_gt.mpr q)) | exact l_le_n.mpr (fun q => hq67 (lg_lt.mpr q)) | exact (in_pl1 (by omega)).mp hq67 | omega)⟩⟩

set_option maxHeartbeats 4000000 in
set_option maxRecDepth 100000 in
theorem c_X4_turned (l : Launch) (G : zK) (B0 : Nat) (F : zM) (r w n : Nat) (t : Nat → Int32) (h : RA G 3 F r w 60 n t) : Met l yX4_turned (Cond.code yX4_turned cX4_turned 3 (some (FieldType.object "WordConcordanceModel$Row")) :: zW) (zRm 2 60 2 62) (va_Pc [.ref r] (zPre G B0 F)) (zQr G B0 (fun r' F' => ∃ v, RA G 3 F' r' v 60 n (revt t 0 n) ∧ ∀ b e, F b = some e → F' b = some e)) 2 62 (zA B0) := by
  refine z_of (own := RX4) (by decide) rfl (Nat.le_of_ble_eq_true rfl) ?_
  intro p e s m below meth c ls hx hb hr hml hown hlocks hnm hts hl hI
  have hl : lv_has ls 3 [(0, .ref r)] := hl
  obtain ⟨xn, xr, f, xw, xf⟩ := id h
  have hI9 := hI
  refine z_new (ci := 3) hx hb hts hown zlX3 tyX3 tyX3_ok (hts _ q736) (hts _ q738) (hts _ q4) hI rfl (fs := [.null, .int 0]) (by intro j hj; rcases j with _ | _ | _ | _ | _ | _ | _ | j <;> first | rfl | omega) (Nat.le_of_ble_eq_true rfl) (Nat.le_of_ble_eq_true rfl) dX4_turned_0 (fun q1 H hq2 hz3 F4 hw5 ho6 hI => ?_)
  have hno_q1 : ∀ e, F q1 ≠ some e := fun e9 => hI9.new_no (Nat.le_of_eq hq2.symm) e9
  have hc7 : F4 r = some (zO 3 [.ref w, .int (nI n)]) := (ho6 _ (fun e9 => hno_q1 _ (e9 ▸ xr))).trans xr
  have hc8 : F4 w = some (zAI G 60 f) := (ho6 _ (fun e9 => hno_q1 _ (e9 ▸ xw))).trans xw
  obtain ⟨n9, hn9⟩ : ∃ n9, H.size = n9 := ⟨_, rfl⟩
  have hno9 : ∀ e, F n9 ≠ some e := fun e9 => hI9.new_no (by omega) e9
  have hnq9 : ∀ e, F q1 ≠ some e := hno_q1
  refine lv_dup hx hb dX4_turned_3 rfl ?_
  refine z_callvN hI (z_INN (As := []) (rest := [.ref q1]) ⟨hx, hb, hml, hown, hts⟩ hI hn9 (c_X3_init l G B0 F4 q1 n9 hw5) (z_cwIN vX3_init hts (hI.1.2.1 _ (List.mem_of_getElem? (i := 4) rfl)) ⟨Nat.le_of_ble_eq_true rfl, Nat.le_of_ble_eq_true rfl⟩) rfl hl.1 rfl (lv_room (Nat.le_of_ble_eq_true rfl)) dX4_turned_4 ⟨Nat.le_of_ble_eq_true rfl, Nat.le_of_ble_eq_true rfl⟩) (fun F9 H locs hp10 hI hz11 => ?_)
  obtain ⟨hwq, hwn, hoi⟩ := hp10
  have hne9 : ∀ b e, F b = some e → b ≠ q1 ∧ b ≠ n9 := fun b e hbe => ⟨fun e9 => hnq9 e (e9 ▸ hbe), fun e9 => hno9 e (e9 ▸ hbe)⟩
  have hmo0 : ∀ b e, F b = some e → F9 b = some e := fun b e hbe => (hoi b (hne9 b e hbe).1 (hne9 b e hbe).2).trans ((ho6 b (hne9 b e hbe).1).trans hbe)
  have h0x := h.mono hmo0
  obtain ⟨xn0, xr0, f0, xw0, xf0⟩ := id h0x
  refine lv_astore_n (lv' := [(1, .ref q1), (0, .ref r)]) hx hb dX4_turned_7 rfl hl (by decide) rfl (fun ls hl => ?_)
  refine lv_aload_n hx hb dX4_turned_8 rfl (lv_at hl 1 rfl) ?_
  refine z_getN hx hb hts hown zlX3 rfl 1 (by decide) (List.mem_of_getElem? (i := 2) rfl) rfl hI xr0 rfl dX4_turned_9 ?_
  refine lv_iconst (v := nI 1) hx hb dX4_turned_12 (by decide) ?_
  refine lv_isub hx hb dX4_turned_13 ?_
  refine z_topi (dn_of (n := n) (by omega)) ?_
  refine lv_istore_n (lv' := [(2, .int (dn (n))), (1, .ref q1), (0, .ref r)]) hx hb dX4_turned_14 rfl hl (by decide) rfl (fun ls hl => ?_)
  have hrq := hne9 r _ h.2.1
  have hwq9 : w ≠ q1 ∧ w ≠ n9 := by obtain ⟨-, -, f9, hf9, -⟩ := h; exact hne9 w _ hf9
  refine z_loop (σ := Nat) (fun k : Nat => [(0, .ref r), (1, .ref q1), (2, .int (dn k))]) (fun (k : Nat) (Fx : zM) => RA G 3 Fx q1 n9 60 (n - k) (fun j => t (n - 1 - j)) ∧ zSm F9 Fx q1 n9 ∧ k ≤ n) (fun k : Nat => k) n (nL := 3) (st := []) ?_ (lv_sub hl [2, 1, 0] rfl) hI ?_
  · rw [Nat.sub_self]
    exact ⟨⟨Nat.zero_le _, hwq, _, hwn, fun j hj => absurd hj (Nat.not_lt_zero _)⟩, zSm.rf, Nat.le_refl _⟩
  · intro k F12 ls H locs hi hl hI ih
    have hl : lv_has ls 3 [(0, .ref r), (1, .ref q1), (2, .int (dn k))] := hl
    obtain ⟨ha0, hs0, hk⟩ := hi
    have h1x := h0x.go (hs0 _ hrq.1 hrq.2) (hs0 _ hwq9.1 hwq9.2)
    obtain ⟨xn1, xr1, f1, xw1, xf1⟩ := id h1x
    obtain ⟨xn_, xr_, f_, xw_, xf_⟩ := id ha0
    refine lv_iload_n hx hb dX4_turned_15 rfl (lv_at hl 2 rfl) ?_
    refine lv_if_lt (tgt := 34) hx hb dX4_turned_16 (by decide) (fun hq13 => ?_) (fun hq13 => ?_)
    · have hk0 := (dn_lt (k := k) (by omega)).mp hq13
      refine lv_aload_n hx hb dX4_turned_34 rfl (lv_at hl 1 rfl) ?_
      refine z_rr (Or.inl ⟨_, rfl⟩) hx hb hr hlocks hI ?_ (Nat.le_of_ble_eq_true rfl) (Nat.le_of_ble_eq_true rfl) dX4_turned_35
      subst hk0
      refine ⟨_, rfl, n9, RA.cg ha0 (fun j hj => ?_), fun b e hbe => (hs0 b (hne9 b e hbe).1 (hne9 b e hbe).2).trans (hmo0 b e hbe)⟩
      simp only [revt]
      rw [if_pos (by omega)]; congr 1; omega
    · obtain ⟨k1, rfl⟩ : ∃ k1, k = k1 + 1 := ⟨k - 1, by have := mt (dn_lt (k := k) (by omega)).mpr hq13; omega⟩
      have hl : lv_has ls 3 [(0, .ref r), (1, .ref q1), (2, .int (nI k1))] := hl
      refine lv_aload_n hx hb dX4_turned_19 rfl (lv_at hl 1 rfl) ?_
      refine lv_aload_n hx hb dX4_turned_20 rfl (lv_at hl 0 rfl) ?_
      refine lv_iload_n hx hb dX4_turned_21 rfl (lv_at hl 2 rfl) ?_
      refine z_calli hI (z_V (As := [.int (nI k1)]) (rest := [.ref q1]) ⟨hx, hb, hml, hown, hts⟩ hI xr1 rfl (c_X3_at l G B0 F12 r w 60 n t k1 ⟨xn1, xr1, f1, xw1, xf1⟩ (by omega) (by omega)) (z_cwV vX3_at hts q829 ⟨Nat.le_of_ble_eq_true rfl, Nat.le_of_ble_eq_true rfl⟩) rfl hl.1 rfl (lv_room (Nat.le_of_ble_eq_true rfl)) dX4_turned_22 ⟨Nat.le_of_ble_eq_true rfl, Nat.le_of_ble_eq_true rfl⟩) (fun r15 F14 H locs hp16 hI => ?_)
      obtain ⟨rfl, rfl⟩ := hp16
      refine z_callv hI (z_V (As := [.int (t k1)]) (rest := []) ⟨hx, hb, hml, hown, hts⟩ hI xr_ rfl (c_X3_add l G B0 F12 q1 n9 60 (n - (k1 + 1)) (fun j => t (n - 1 - j)) (t k1) ⟨xn_, xr_, f_, xw_, xf_⟩ (by omega) (by omega)) (z_cwV vX3_add hts q792 ⟨Nat.le_of_ble_eq_true rfl, Nat.le_of_ble_eq_true rfl⟩) rfl hl.1 rfl (lv_room (Nat.le_of_ble_eq_true rfl)) dX4_turned_25 ⟨Nat.le_of_ble_eq_true rfl, Nat.le_of_ble_eq_true rfl⟩) (fun F17 H locs hp19 hI => ?_)
      obtain ⟨ha20, hs20⟩ := hp19
      have hc21 : F17 r = some (zO 3 [.ref w, .int (nI n)]) := (hs20 _ hrq.1 (zne xr1 xw_ (fun q => by cases q))).trans xr1
      have hc22 : F17 w = some (zAI G 60 f1) := (hs20 _ (zne xw1 xr_ (fun q => by cases q)) hwq9.2).trans xw1
      obtain ⟨xn_20, xr_20, f_20, xw_20, xf_20⟩ := id ha20
      refine lv_iinc (k := 2) (v := dn k1) (lv' := [(2, .int (dn k1)), (0, .ref r), (1, .ref q1)]) hx hb dX4_turned_28 hl rfl (dn_m1 k1) (by decide) rfl (fun ls hl => ?_)
      refine lv_goto (tgt := 15) hx hb dX4_turned_31 (by decide) ?_
      refine ih k1 _ ls H locs (by first | omega | (dsimp only; omega)) ?_ (lv_sub hl [1, 2, 0] rfl) hI
      rw [show n - (k1 + 1) + 1 = n - k1 by omega] at ha20
      refine ⟨RA.cg ha20 (fun j hj => ?_), (zSm.tr hs0 hs20), by omega⟩
      by_cases e : j = n - (k1 + 1)
      · subst e; rw [pk_us]; congr 1; omega
      · rw [pk_un e]

set_option maxHeartbeats 4000000 in
set_option maxRecDepth 100000 in
theorem c_X4_errors (l : Launch) (G : zK) (B0 : Nat) (F : zM) (σ : Sg) (th zp0 : Int32) (hM : MS G B0 F σ th) (hK : SgOk σ) : Met l yX4_errors (Cond.code yX4_errors cX4_errors 10 (some FieldType.int) :: zW) (zRm 3 82 4 124) (va_Pc [.ref (B0 + 23), .int zp0] (zPre G B0 F)) (zQi G B0 (zRP G B0 F σ (oA_errors σ zp0) (oB_errors σ zp0) (oC_errors σ zp0) (ss_errors σ zp0) (rr_errors σ zp0))) 4 124 (zA B0) := by
  refine z_of (own := RX4) (by decide) rfl (Nat.le_of_ble_eq_true rfl) ?_
  intro p e s m below meth c ls hx hb hr hml hown hlocks hnm hts hl hI
  have hl : lv_has ls 10 [(0, .ref (B0 + 23)), (1, .int zp0)] := hl
  obtain ⟨m01, ⟨ma1, m11, me11⟩, ⟨mb1, m21, me21⟩, ⟨mc1, m31, me31⟩, ⟨n91, t91, m41⟩, mT1, mP1⟩ := id hM
  refine lv_aload_n hx hb dX4_errors_0 rfl (lv_at hl 0 rfl) ?_
  refine lv_iload_n hx hb dX4_errors_1 rfl (lv_at hl 1 rfl) ?_
  refine z_calli hI (z_S (As := [.int zp0]) (rest := [.ref (B0 + 23)]) ⟨hx, hb, hml, hown, hts⟩ hI (c_X4_isText l G B0 F zp0) (z_cwS vX4_isText hts q772 ⟨Nat.le_of_ble_eq_true rfl, Nat.le_of_ble_eq_true rfl⟩) rfl hl.1 rfl (lv_room (Nat.le_of_ble_eq_true rfl)) dX4_errors_2 ⟨Nat.le_of_ble_eq_true rfl, Nat.le_of_ble_eq_true rfl⟩) (fun r3 F2 H locs hp4 hI => ?_)
  obtain ⟨rfl, rfl⟩ := hp4
  refine lv_iconst (v := nI 1) hx hb dX4_errors_5 (by decide) ?_
  refine z_topi (pI_1 (P := True) trivial) ?_
  refine lv_iconst (v := nI 1) hx hb dX4_errors_6 (by decide) ?_
  refine z_topi (pI_1 (P := True) trivial) ?_
  refine z_calli hI (z_V (As := [.int (pI (okT zp0)), .int (pI (True)), .int (pI (True))]) (rest := []) ⟨hx, hb, hml, hown, hts⟩ hI m01 rfl (c_X4_passes l G B0 F σ th (okT zp0) (True) (True) hM) (z_cwV vX4_passes hts q788 ⟨Nat.le_of_ble_eq_true rfl, Nat.le_of_ble_eq_true rfl⟩) rfl hl.1 rfl (lv_room (Nat.le_of_ble_eq_true rfl)) dX4_errors_7 ⟨Nat.le_of_ble_eq_true rfl, Nat.le_of_ble_eq_true rfl⟩) (fun r6 F5 H locs hp7 hI => ?_)
  obtain ⟨⟨th1, hM1, hz1⟩, rfl, ho1⟩ := hp7
  have hp1 : (okT zp0) ↔ oA_errors σ zp0 := Iff.rfl
  have hp2 : oA_errors σ zp0 → ((True) ↔ oB_errors σ zp0) := fun _ => Iff.rfl
  have hp3 : oA_errors σ zp0 → oB_errors σ zp0 → ((True) ↔ oC_errors σ zp0) := fun _ _ => Iff.rfl
  have hz2 := zTh_cg hp1 hp2 hp3 hz1
  refine z_topi (pI_cg (zC_cg hp1 hp2 hp3)) ?_
  have hmf1 : zMf B0 F F5 := fun q hq => ho1 q (by omega)
  obtain ⟨m08, ⟨ma8, m18, me18⟩, ⟨mb8, m28, me28⟩, ⟨mc8, m38, me38⟩, ⟨n98, t98, m48⟩, mT8, mP8⟩ := id hM1
  refine z_ifp_ne (tgt := 15) hx hb dX4_errors_10 (by decide) (fun hq9 => ?_) (fun hq9 => ?_)
  · obtain ⟨hA, hB, hC0⟩ := id hq9
    have hc0 := hA
    obtain ⟨i10, hi11, rfl⟩ := id hc0
    have hix12 : ix (nI i10) = i10 := ix_nI (by omega)
    have hl : lv_has ls 10 [(0, .ref (B0 + 23)), (1, .int (nI i10))] := hl
    have hsbi10 := (hK.1 i10 hi11).1
    have hx13 := mT8 i10 hi11
    obtain ⟨xnhx13, xrhx13, fhx13, xwhx13, xfhx13⟩ := id hx13
    have hx14 := mP8 0 (by decide)
    obtain ⟨xnhx14, xrhx14, fhx14, xwhx14, xfhx14⟩ := id hx14
    have hbhx14 := hK.2 0 (by decide)
    refine lv_aload_n hx hb dX4_errors_15 rfl (lv_at hl 0 rfl) ?_
    refine z_get hx hb hts hown zlX4 rfl 1 (by decide) (hts _ q753) rfl hI m08 rfl dX4_errors_16 ?_
    refine lv_iload_n hx hb dX4_errors_19 rfl (lv_at hl 1 rfl) ?_
    refine z_ald3 (k := i10) (v := B0 + 25 + 2 * i10) hx hb hI m18 (by omega) (by omega) (me18 i10 (by omega)) dX4_errors_20 ?_
    refine lv_astore_n (lv' := [(2, .ref (B0 + 25 + 2 * i10)), (0, .ref (B0 + 23)), (1, .int (nI i10))]) hx hb dX4_errors_21 rfl hl (by decide) rfl (fun ls hl => ?_)
    refine lv_aload_n hx hb dX4_errors_22 rfl (lv_at hl 1 rfl) ?_
    refine z_get hx hb hts hown zlX4 rfl 2 (by decide) (hts _ q754) rfl hI m08 rfl dX4_errors_23 ?_
    refine lv_iconst (v := nI 0) hx hb dX4_errors_26 (by decide) ?_
    refine z_ald3 (k := 0) (v := B0 + 34 + 2 * 0) hx hb hI m28 (by omega) (by omega) (me28 0 (by omega)) dX4_errors_27 ?_
    refine lv_astore_n (lv' := [(3, .ref (B0 + 34 + 2 * 0)), (2, .ref (B0 + 25 + 2 * i10)), (0, .ref (B0 + 23)), (1, .int (nI i10))]) hx hb dX4_errors_28 rfl hl (by decide) rfl (fun ls hl => ?_)
    refine lv_aload_n hx hb dX4_errors_29 rfl (lv_at hl 1 rfl) ?_
    refine lv_aload_n hx hb dX4_errors_30 rfl (lv_at hl 0 rfl) ?_
    refine lv_iconst (v := nI 0) hx hb dX4_errors_31 (by decide) ?_
    refine z_calli hI (z_V (As := [.ref (B0 + 34 + 2 * 0), .int (nI 0)]) (rest := []) ⟨hx, hb, hml, hown, hts⟩ hI xrhx13 rfl (c_X3_find l G B0 F5 (B0 + 25 + 2 * i10) (B0 + 26 + 2 * i10) 60 (sn σ i10) (st σ i10) (B0 + 34 + 2 * 0) (B0 + 35 + 2 * 0) 60 (pn σ 0) (pt σ 0) 0 ⟨xnhx13, xrhx13, fhx13, xwhx13, xfhx13⟩ (by omega) ⟨xnhx14, xrhx14, fhx14, xwhx14, xfhx14⟩ (by omega) (by omega)) (z_cwV vX3_find hts q887 ⟨Nat.le_of_ble_eq_true rfl, Nat.le_of_ble_eq_true rfl⟩) rfl hl.1 rfl (lv_room (Nat.le_of_ble_eq_true rfl)) dX4_errors_32 ⟨Nat.le_of_ble_eq_true rfl, Nat.le_of_ble_eq_true rfl⟩) (fun r16 F15 H locs hp17 hI => ?_)
    obtain ⟨rfl, rfl⟩ := hp17
    refine lv_istore (lv' := [(4, .int (rI (zfst (hld (st σ i10) (sn σ i10) (pt σ 0) (pn σ 0)) 0 ((sn σ i10) + 1 - (pn σ 0) - 0)))), (3, .ref (B0 + 34 + 2 * 0)), (2, .ref (B0 + 25 + 2 * i10)), (0, .ref (B0 + 23)), (1, .int (nI i10))]) hx hb dX4_errors_35 hl (by decide) rfl (fun ls hl => ?_)
    refine lv_iconst (v := -1) hx hb dX4_errors_37 (by decide) ?_
    refine lv_istore (lv' := [(5, .int (-1)), (4, .int (rI (zfst (hld (st σ i10) (sn σ i10) (pt σ 0) (pn σ 0)) 0 ((sn σ i10) + 1 - (pn σ 0) - 0)))), (3, .ref (B0 + 34 + 2 * 0)), (2, .ref (B0 + 25 + 2 * i10)), (0, .ref (B0 + 23)), (1, .int (nI i10))]) hx hb dX4_errors_38 hl (by decide) rfl (fun ls hl => ?_)
    refine lv_aload_n hx hb dX4_errors_40 rfl (lv_at hl 3 rfl) ?_
    refine z_callr hI (z_S (As := [.ref (B0 + 25 + 2 * i10)]) (rest := []) ⟨hx, hb, hml, hown, hts⟩ hI (c_X4_turned l G B0 F5 (B0 + 25 + 2 * i10) (B0 + 26 + 2 * i10) (sn σ i10) (st σ i10) ⟨xnhx13, xrhx13, fhx13, xwhx13, xfhx13⟩) (z_cwS vX4_turned hts q1044 ⟨Nat.le_of_ble_eq_true rfl, Nat.le_of_ble_eq_true rfl⟩) rfl hl.1 rfl (lv_room (Nat.le_of_ble_eq_true rfl)) dX4_errors_41 ⟨Nat.le_of_ble_eq_true rfl, Nat.le_of_ble_eq_true rfl⟩) (fun r19 F18 H locs hp20 hI => ?_)
    obtain ⟨v0, hra0, hmo0⟩ := hp20
    have hMt0 := hM1.mono hmo0
    obtain ⟨m021, ⟨ma21, m121, me121⟩, ⟨mb21, m221, me221⟩, ⟨mc21, m321, me321⟩, ⟨n921, t921, m421⟩, mT21, mP21⟩ := id hMt0
    have hx22 := mT21 i10 hi11
    obtain ⟨xnhx22, xrhx22, fhx22, xwhx22, xfhx22⟩ := id hx22
    have hx23 := mP21 0 (by decide)
    obtain ⟨xnhx23, xrhx23, fhx23, xwhx23, xfhx23⟩ := id hx23
    have hbhx23 := hK.2 0 (by decide)
    obtain ⟨xnq0_24, xrq0_24, fq0_24, xwq0_24, xfq0_24⟩ := id hra0
    refine lv_astore (lv' := [(6, .ref r19), (5, .int (-1)), (4, .int (rI (zfst (hld (st σ i10) (sn σ i10) (pt σ 0) (pn σ 0)) 0 ((sn σ i10) + 1 - (pn σ 0) - 0)))), (3, .ref (B0 + 34 + 2 * 0)), (2, .ref (B0 + 25 + 2 * i10)), (0, .ref (B0 + 23)), (1, .int (nI i10))]) hx hb dX4_errors_44 hl (by decide) rfl (fun ls hl => ?_)
    refine lv_aload_n hx hb dX4_errors_46 rfl (lv_at hl 3 rfl) ?_
    refine z_callr hI (z_S (As := [.ref (B0 + 34 + 2 * 0)]) (rest := []) ⟨hx, hb, hml, hown, hts⟩ hI (c_X4_turned l G B0 F18 (B0 + 34 + 2 * 0) (B0 + 35 + 2 * 0) (pn σ 0) (pt σ 0) ⟨xnhx23, xrhx23, fhx23, xwhx23, xfhx23⟩) (z_cwS vX4_turned hts q1044 ⟨Nat.le_of_ble_eq_true rfl, Nat.le_of_ble_eq_true rfl⟩) rfl hl.1 rfl (lv_room (Nat.le_of_ble_eq_true rfl)) dX4_errors_47 ⟨Nat.le_of_ble_eq_true rfl, Nat.le_of_ble_eq_true rfl⟩) (fun r26 F25 H locs hp27 hI => ?_)
    obtain ⟨v1, hra1, hmo1⟩ := hp27
    have hMt1 := hMt0.mono hmo1
    obtain ⟨m028, ⟨ma28, m128, me128⟩, ⟨mb28, m228, me228⟩, ⟨mc28, m328, me328⟩, ⟨n928, t928, m428⟩, mT28, mP28⟩ := id hMt1
    have hx29 := mT28 i10 hi11
    obtain ⟨xnhx29, xrhx29, fhx29, xwhx29, xfhx29⟩ := id hx29
    have hx30 := mP28 0 (by decide)
    obtain ⟨xnhx30, xrhx30, fhx30, xwhx30, xfhx30⟩ := id hx30
    have hbhx30 := hK.2 0 (by decide)
    have hra0m := hra0.mono hmo1
    obtain ⟨xnq0_31, xrq0_31, fq0_31, xwq0_31, xfq0_31⟩ := id hra0m
    obtain ⟨xnq1_32, xrq1_32, fq1_32, xwq1_32, xfq1_32⟩ := id hra1
    refine lv_astore (lv' := [(7, .ref r26), (6, .ref r19), (5, .int (-1)), (4, .int (rI (zfst (hld (st σ i10) (sn σ i10) (pt σ 0) (pn σ 0)) 0 ((sn σ i10) + 1 - (pn σ 0) - 0)))), (3, .ref (B0 + 34 + 2 * 0)), (2, .ref (B0 + 25 + 2 * i10)), (0, .ref (B0 + 23)), (1, .int (nI i10))]) hx hb dX4_errors_50 hl (by decide) rfl (fun ls hl => ?_)
    refine lv_iconst (v := nI 0) hx hb dX4_errors_52 (by decide) ?_
    refine lv_istore (lv' := [(8, .int (nI 0)), (7, .ref r26), (6, .ref r19), (5, .int (-1)), (4, .int (rI (zfst (hld (st σ i10) (sn σ i10) (pt σ 0) (pn σ 0)) 0 ((sn σ i10) + 1 - (pn σ 0) - 0)))), (3, .ref (B0 + 34 + 2 * 0)), (2, .ref (B0 + 25 + 2 * i10)), (0, .ref (B0 + 23)), (1, .int (nI i10))]) hx hb dX4_errors_53 hl (by decide) rfl (fun ls hl => ?_)
    refine z_loop (σ := Nat × Int32) (fun xx : Nat × Int32 => match xx with | (k, a) => [(0, .ref (B0 + 23)), (1, .int (nI i10)), (2, .ref (B0 + 25 + 2 * i10)), (3, .ref (B0 + 34 + 2 * 0)), (4, .int (rI (zfst (hld (st σ i10) (sn σ i10) (pt σ 0) (pn σ 0)) 0 ((sn σ i10) + 1 - (pn σ 0) - 0)))), (6, .ref r19), (7, .ref r26), (8, .int (nI k)), (5, .int a)]) (fun (xx : Nat × Int32) (Fx : zM) => match xx with | (k, a) => F25 = Fx ∧ k ≤ sn σ i10 + 1 ∧ a = rI (zlst (hld (revt (st σ i10) 0 (sn σ i10)) (sn σ i10) (revt (pt σ 0) 0 (pn σ 0)) (pn σ 0)) k)) (fun xx : Nat × Int32 => match xx with | (k, a) => sn σ i10 + 1 - k) (0, -1) (nL := 10) (st := []) ?_ (lv_sub hl [7, 8, 6, 5, 4, 2, 1, 0, 3] rfl) hI ?_
    · exact ⟨rfl, Nat.zero_le _, rfl⟩
    · intro xx F33 ls H locs hi hl hI ih
      obtain ⟨k, a⟩ := xx
      have hl : lv_has ls 10 [(0, .ref (B0 + 23)), (1, .int (nI i10)), (2, .ref (B0 + 25 + 2 * i10)), (3, .ref (B0 + 34 + 2 * 0)), (4, .int (rI (zfst (hld (st σ i10) (sn σ i10) (pt σ 0) (pn σ 0)) 0 ((sn σ i10) + 1 - (pn σ 0) - 0)))), (6, .ref r19), (7, .ref r26), (8, .int (nI k)), (5, .int a)] := hl
      obtain ⟨hF, hk, ha⟩ := hi
      subst hF
      refine lv_iload hx hb dX4_errors_55 (lv_at hl 7 rfl) ?_
      refine lv_aload hx hb dX4_errors_57 (lv_at hl 5 rfl) ?_
      refine z_getN hx hb hts hown zlX3 rfl 1 (by decide) (List.mem_of_getElem? (i := 2) rfl) rfl hI xrq0_31 rfl dX4_errors_59 ?_
      refine z_icmp_gt (tgt := 92) (a := k) (b := sn σ i10) hx hb dX4_errors_62 (by decide) (by omega) (fun hq34 => ?_) (fun hq34 => ?_)
      · have hke : k = sn σ i10 + 1 := by omega
        rcases mirB (t := st σ i10) (q := pt σ 0) (n := sn σ i10) (m := pn σ 0) with ⟨hm1, hm2⟩ | ⟨k5, hm0, hm2, hm1⟩
        · rw [hke, hm2] at ha
          subst ha
          rw [hm1] at hl
          have hl : lv_has ls 10 [(0, .ref (B0 + 23)), (1, .int (nI i10)), (2, .ref (B0 + 25 + 2 * i10)), (3, .ref (B0 + 34 + 2 * 0)), (4, .int (-1)), (6, .ref r19), (7, .ref r26), (8, .int (nI k)), (5, .int (-1))] := hl
          refine lv_iconst (v := nI 0) hx hb dX4_errors_92 (by decide) ?_
          refine lv_istore (lv' := [(8, .int (nI 0)), (0, .ref (B0 + 23)), (1, .int (nI i10)), (2, .ref (B0 + 25 + 2 * i10)), (3, .ref (B0 + 34 + 2 * 0)), (4, .int (-1)), (6, .ref r19), (7, .ref r26), (5, .int (-1))]) hx hb dX4_errors_93 hl (by decide) rfl (fun ls hl => ?_)
          refine lv_iconst (v := nI 0) hx hb dX4_errors_95 (by decide) ?_
          refine lv_istore (lv' := [(9, .int (nI 0)), (8, .int (nI 0)), (0, .ref (B0 + 23)), (1, .int (nI i10)), (2, .ref (B0 + 25 + 2 * i10)), (3, .ref (B0 + 34 + 2 * 0)), (4, .int (-1)), (6, .ref r19), (7, .ref r26), (5, .int (-1))]) hx hb dX4_errors_96 hl (by decide) rfl (fun ls hl => ?_)
          refine z_loop (σ := Nat × Nat) (fun xx : Nat × Nat => match xx with | (v, x) => [(0, .ref (B0 + 23)), (1, .int (nI i10)), (2, .ref (B0 + 25 + 2 * i10)), (3, .ref (B0 + 34 + 2 * 0)), (4, .int (-1)), (5, .int (-1)), (6, .ref r19), (7, .ref r26), (9, .int (nI v)), (8, .int (nI x))]) (fun (xx : Nat × Nat) (Fx : zM) => match xx with | (v, x) => F25 = Fx ∧ v ≤ 100 ∧ x = ssm (st σ i10) (sn σ i10) v) (fun xx : Nat × Nat => match xx with | (v, x) => 100 - v) (0, 0) (nL := 10) (st := []) ?_ (lv_sub hl [2, 3, 4, 5, 6, 9, 7, 8, 0, 1] rfl) hI ?_
          · exact ⟨rfl, Nat.zero_le _, rfl⟩
          · intro xx F35 ls H locs hi hl hI ih98
            obtain ⟨v, x⟩ := xx
            have hl : lv_has ls 10 [(0, .ref (B0 + 23)), (1, .int (nI i10)), (2, .ref (B0 + 25 + 2 * i10)), (3, .ref (B0 + 34 + 2 * 0)), (4, .int (-1)), (5, .int (-1)), (6, .ref r19), (7, .ref r26), (9, .int (nI v)), (8, .int (nI x))] := hl
            obtain ⟨hF, hv, hx9⟩ := hi
            subst hF
            refine lv_iload hx hb dX4_errors_98 (lv_at hl 8 rfl) ?_
            refine lv_bipush (v := nI 100) hx hb dX4_errors_100 (by decide) ?_
            refine z_icmp_ge (tgt := 122) (a := v) (b := 100) hx hb dX4_errors_102 (by decide) (by omega) (fun hq36 => ?_) (fun hq36 => ?_)
            · have hsx : x = sn σ i10 := by rw [hx9, show v = 100 by omega]; exact ssm_n (hK.w hi11)
              refine lv_iload hx hb dX4_errors_122 (lv_at hl 4 rfl) ?_
              refine lv_iconst (v := -1) hx hb dX4_errors_124 (by decide) ?_
              refine lv_icmp_ne (tgt := 132) hx hb dX4_errors_125 (by decide) (fun hq37 => ?_) (fun hq37 => ?_)
              · exact absurd rfl hq37
              · refine lv_iconst (v := -1) hx hb dX4_errors_128 (by decide) ?_
                refine lv_goto (tgt := 144) hx hb dX4_errors_129 (by decide) ?_
                refine lv_istore (lv' := [(9, .int (-1)), (0, .ref (B0 + 23)), (1, .int (nI i10)), (2, .ref (B0 + 25 + 2 * i10)), (3, .ref (B0 + 34 + 2 * 0)), (4, .int (-1)), (5, .int (-1)), (6, .ref r19), (7, .ref r26), (8, .int (nI x))]) hx hb dX4_errors_144 hl (by decide) rfl (fun ls hl => ?_)
                refine lv_iload hx hb dX4_errors_146 (lv_at hl 6 rfl) ?_
                refine lv_iload hx hb dX4_errors_148 (lv_at hl 0 rfl) ?_
                refine lv_icmp_ne (tgt := 157) hx hb dX4_errors_150 (by decide) (fun hq38 => ?_) (fun hq38 => ?_)
                · exact absurd rfl hq38
                · refine lv_iconst (v := nI 0) hx hb dX4_errors_153 (by decide) ?_
                  refine lv_goto (tgt := 158) hx hb dX4_errors_154 (by decide) ?_
                  refine lv_iload hx hb dX4_errors_158 (lv_at hl 9 rfl) ?_
                  refine lv_aload_n hx hb dX4_errors_160 rfl (lv_at hl 3 rfl) ?_
                  refine z_getN hx hb hts hown zlX3 rfl 1 (by decide) (List.mem_of_getElem? (i := 2) rfl) rfl hI xrhx29 rfl dX4_errors_161 ?_
                  refine z_icmp_ne (tgt := 171) (a := x) (b := sn σ i10) hx hb dX4_errors_164 (by decide) (by omega) (fun hq39 => ?_) (fun hq39 => ?_)
                  · omega
                  · refine lv_iconst (v := nI 0) hx hb dX4_errors_167 (by decide) ?_
                    refine lv_goto (tgt := 172) hx hb dX4_errors_168 (by decide) ?_
                    refine lv_iadd hx hb dX4_errors_172 ?_
                    refine z_topi (nI_add 0 0) ?_
                    have hI := hI.less (fun b e hbe => hmo1 b e (hmo0 b e hbe))
                    refine z_ri hx hb hr hlocks hI ?_ (Nat.le_of_ble_eq_true rfl) (Nat.le_of_ble_eq_true rfl) dX4_errors_173
                    refine ⟨_, rfl, th1, _, hM1, hz2, fun _ => ⟨(by simp only [oA_errors, oB_errors, oC_errors, rr_errors, ss_errors, hix12] <;> exact rfl), (by simp only [oA_errors, oB_errors, oC_errors, rr_errors, ss_errors, hix12] <;> exact rfl)⟩, fun q => absurd ⟨hA, hB, hC0⟩ q, hmf1⟩
            · refine lv_iload hx hb dX4_errors_105 (lv_at hl 9 rfl) ?_
              refine lv_aload_n hx hb dX4_errors_107 rfl (lv_at hl 2 rfl) ?_
              refine lv_iload hx hb dX4_errors_108 (lv_at hl 8 rfl) ?_
              refine z_calli hI (z_V (As := [.int (nI v)]) (rest := [.int (nI x)]) ⟨hx, hb, hml, hown, hts⟩ hI xrhx29 rfl (c_X3_often l G B0 F25 (B0 + 25 + 2 * i10) (B0 + 26 + 2 * i10) 60 (sn σ i10) (st σ i10) (nI v) ⟨xnhx29, xrhx29, fhx29, xwhx29, xfhx29⟩ (by omega)) (z_cwV vX3_often hts q931 ⟨Nat.le_of_ble_eq_true rfl, Nat.le_of_ble_eq_true rfl⟩) rfl hl.1 rfl (lv_room (Nat.le_of_ble_eq_true rfl)) dX4_errors_110 ⟨Nat.le_of_ble_eq_true rfl, Nat.le_of_ble_eq_true rfl⟩) (fun r41 F40 H locs hp42 hI => ?_)
              obtain ⟨rfl, rfl⟩ := hp42
              refine lv_iadd hx hb dX4_errors_113 ?_
              refine z_topi (nI_add x (cnt (st σ i10) (nI v) (sn σ i10))) ?_
              refine lv_istore (lv' := [(8, .int (nI (x + (cnt (st σ i10) (nI v) (sn σ i10))))), (0, .ref (B0 + 23)), (1, .int (nI i10)), (2, .ref (B0 + 25 + 2 * i10)), (3, .ref (B0 + 34 + 2 * 0)), (4, .int (-1)), (5, .int (-1)), (6, .ref r19), (7, .ref r26), (9, .int (nI v))]) hx hb dX4_errors_114 hl (by decide) rfl (fun ls hl => ?_)
              refine lv_iinc (k := 9) (v := nI (v + 1)) (lv' := [(9, .int (nI (v + 1))), (8, .int (nI (x + (cnt (st σ i10) (nI v) (sn σ i10))))), (0, .ref (B0 + 23)), (1, .int (nI i10)), (2, .ref (B0 + 25 + 2 * i10)), (3, .ref (B0 + 34 + 2 * 0)), (4, .int (-1)), (5, .int (-1)), (6, .ref r19), (7, .ref r26)]) hx hb dX4_errors_116 hl rfl (nI_add v 1) (by decide) rfl (fun ls hl => ?_)
              refine lv_goto (tgt := 98) hx hb dX4_errors_119 (by decide) ?_
              refine ih98 (v + 1, x + (cnt (st σ i10) (nI v) (sn σ i10))) _ ls H locs (by first | omega | (dsimp only; omega)) ?_ (lv_sub hl [2, 3, 4, 5, 6, 7, 8, 9, 0, 1] rfl) hI
              exact ⟨rfl, by omega, by rw [hx9]; rfl⟩
        · rw [hke, hm2] at ha
          subst ha
          rw [hm1] at hl
          have hl : lv_has ls 10 [(0, .ref (B0 + 23)), (1, .int (nI i10)), (2, .ref (B0 + 25 + 2 * i10)), (3, .ref (B0 + 34 + 2 * 0)), (4, .int (nI (sn σ i10 - pn σ 0 - k5))), (6, .ref r19), (7, .ref r26), (8, .int (nI k)), (5, .int (nI k5))] := hl
          refine lv_iconst (v := nI 0) hx hb dX4_errors_92 (by decide) ?_
          refine lv_istore (lv' := [(8, .int (nI 0)), (0, .ref (B0 + 23)), (1, .int (nI i10)), (2, .ref (B0 + 25 + 2 * i10)), (3, .ref (B0 + 34 + 2 * 0)), (4, .int (nI (sn σ i10 - pn σ 0 - k5))), (6, .ref r19), (7, .ref r26), (5, .int (nI k5))]) hx hb dX4_errors_93 hl (by decide) rfl (fun ls hl => ?_)
          refine lv_iconst (v := nI 0) hx hb dX4_errors_95 (by decide) ?_
          refine lv_istore (lv' := [(9, .int (nI 0)), (8, .int (nI 0)), (0, .ref (B0 + 23)), (1, .int (nI i10)), (2, .ref (B0 + 25 + 2 * i10)), (3, .ref (B0 + 34 + 2 * 0)), (4, .int (nI (sn σ i10 - pn σ 0 - k5))), (6, .ref r19), (7, .ref r26), (5, .int (nI k5))]) hx hb dX4_errors_96 hl (by decide) rfl (fun ls hl => ?_)
          refine z_loop (σ := Nat × Nat) (fun xx : Nat × Nat => match xx with | (v, x) => [(0, .ref (B0 + 23)), (1, .int (nI i10)), (2, .ref (B0 + 25 + 2 * i10)), (3, .ref (B0 + 34 + 2 * 0)), (4, .int (nI (sn σ i10 - pn σ 0 - k5))), (5, .int (nI k5)), (6, .ref r19), (7, .ref r26), (9, .int (nI v)), (8, .int (nI x))]) (fun (xx : Nat × Nat) (Fx : zM) => match xx with | (v, x) => F25 = Fx ∧ v ≤ 100 ∧ x = ssm (st σ i10) (sn σ i10) v) (fun xx : Nat × Nat => match xx with | (v, x) => 100 - v) (0, 0) (nL := 10) (st := []) ?_ (lv_sub hl [2, 3, 4, 5, 6, 9, 7, 8, 0, 1] rfl) hI ?_
          · exact ⟨rfl, Nat.zero_le _, rfl⟩
          · intro xx F43 ls H locs hi hl hI ih98
            obtain ⟨v, x⟩ := xx
            have hl : lv_has ls 10 [(0, .ref (B0 + 23)), (1, .int (nI i10)), (2, .ref (B0 + 25 + 2 * i10)), (3, .ref (B0 + 34 + 2 * 0)), (4, .int (nI (sn σ i10 - pn σ 0 - k5))), (5, .int (nI k5)), (6, .ref r19), (7, .ref r26), (9, .int (nI v)), (8, .int (nI x))] := hl
            obtain ⟨hF, hv, hx9⟩ := hi
            subst hF
            refine lv_iload hx hb dX4_errors_98 (lv_at hl 8 rfl) ?_
            refine lv_bipush (v := nI 100) hx hb dX4_errors_100 (by decide) ?_
            refine z_icmp_ge (tgt := 122) (a := v) (b := 100) hx hb dX4_errors_102 (by decide) (by omega) (fun hq44 => ?_) (fun hq44 => ?_)
            · have hsx : x = sn σ i10 := by rw [hx9, show v = 100 by omega]; exact ssm_n (hK.w hi11)
              refine lv_iload hx hb dX4_errors_122 (lv_at hl 4 rfl) ?_
              refine lv_iconst (v := -1) hx hb dX4_errors_124 (by decide) ?_
              refine lv_icmp_ne (tgt := 132) hx hb dX4_errors_125 (by decide) (fun hq45 => ?_) (fun hq45 => ?_)
              · refine lv_aload_n hx hb dX4_errors_132 rfl (lv_at hl 2 rfl) ?_
                refine z_getN hx hb hts hown zlX3 rfl 1 (by decide) (List.mem_of_getElem? (i := 2) rfl) rfl hI xrhx29 rfl dX4_errors_133 ?_
                refine lv_aload_n hx hb dX4_errors_136 rfl (lv_at hl 3 rfl) ?_
                refine z_getN hx hb hts hown zlX3 rfl 1 (by decide) (List.mem_of_getElem? (i := 2) rfl) rfl hI xrhx30 rfl dX4_errors_137 ?_
                refine lv_isub hx hb dX4_errors_140 ?_
                refine z_topi (pk_sub (a := sn σ i10) (b := pn σ 0) (by omega)) ?_
                refine lv_iload hx hb dX4_errors_141 (lv_at hl 4 rfl) ?_
                refine lv_isub hx hb dX4_errors_143 ?_
                refine z_topi (pk_sub (a := sn σ i10 - (pn σ 0)) (b := sn σ i10 - pn σ 0 - k5) (by omega)) ?_
                refine lv_istore (lv' := [(9, .int (nI (sn σ i10 - (pn σ 0) - (sn σ i10 - pn σ 0 - k5)))), (0, .ref (B0 + 23)), (1, .int (nI i10)), (2, .ref (B0 + 25 + 2 * i10)), (3, .ref (B0 + 34 + 2 * 0)), (4, .int (nI (sn σ i10 - pn σ 0 - k5))), (5, .int (nI k5)), (6, .ref r19), (7, .ref r26), (8, .int (nI x))]) hx hb dX4_errors_144 hl (by decide) rfl (fun ls hl => ?_)
                refine lv_iload hx hb dX4_errors_146 (lv_at hl 6 rfl) ?_
                refine lv_iload hx hb dX4_errors_148 (lv_at hl 0 rfl) ?_
                refine z_icmp_ne (tgt := 157) (a := k5) (b := sn σ i10 - (pn σ 0) - (sn σ i10 - pn σ 0 - k5)) hx hb dX4_errors_150 (by decide) (by omega) (fun hq46 => ?_) (fun hq46 => ?_)
                · omega
                · refine lv_iconst (v := nI 0) hx hb dX4_errors_153 (by decide) ?_
                  refine lv_goto (tgt := 158) hx hb dX4_errors_154 (by decide) ?_
                  refine lv_iload hx hb dX4_errors_158 (lv_at hl 9 rfl) ?_
                  refine lv_aload_n hx hb dX4_errors_160 rfl (lv_at hl 3 rfl) ?_
                  refine z_getN hx hb hts hown zlX3 rfl 1 (by decide) (List.mem_of_getElem? (i := 2) rfl) rfl hI xrhx29 rfl dX4_errors_161 ?_
                  refine z_icmp_ne (tgt := 171) (a := x) (b := sn σ i10) hx hb dX4_errors_164 (by decide) (by omega) (fun hq47 => ?_) (fun hq47 => ?_)
                  · omega
                  · refine lv_iconst (v := nI 0) hx hb dX4_errors_167 (by decide) ?_
                    refine lv_goto (tgt := 172) hx hb dX4_errors_168 (by decide) ?_
                    refine lv_iadd hx hb dX4_errors_172 ?_
                    refine z_topi (nI_add 0 0) ?_
                    have hI := hI.less (fun b e hbe => hmo1 b e (hmo0 b e hbe))
                    refine z_ri hx hb hr hlocks hI ?_ (Nat.le_of_ble_eq_true rfl) (Nat.le_of_ble_eq_true rfl) dX4_errors_173
                    refine ⟨_, rfl, th1, _, hM1, hz2, fun _ => ⟨(by simp only [oA_errors, oB_errors, oC_errors, rr_errors, ss_errors, hix12] <;> exact rfl), (by simp only [oA_errors, oB_errors, oC_errors, rr_errors, ss_errors, hix12] <;> exact rfl)⟩, fun q => absurd ⟨hA, hB, hC0⟩ q, hmf1⟩
              · exact absurd hq45 (nI_m1 (by omega))
            · refine lv_iload hx hb dX4_errors_105 (lv_at hl 9 rfl) ?_
              refine lv_aload_n hx hb dX4_errors_107 rfl (lv_at hl 2 rfl) ?_
              refine lv_iload hx hb dX4_errors_108 (lv_at hl 8 rfl) ?_
              refine z_calli hI (z_V (As := [.int (nI v)]) (rest := [.int (nI x)]) ⟨hx, hb, hml, hown, hts⟩ hI xrhx29 rfl (c_X3_often l G B0 F25 (B0 + 25 + 2 * i10) (B0 + 26 + 2 * i10) 60 (sn σ i10) (st σ i10) (nI v) ⟨xnhx29, xrhx29, fhx29, xwhx29, xfhx29⟩ (by omega)) (z_cwV vX3_often hts q931 ⟨Nat.le_of_ble_eq_true rfl, Nat.le_of_ble_eq_true rfl⟩) rfl hl.1 rfl (lv_room (Nat.le_of_ble_eq_true rfl)) dX4_errors_110 ⟨Nat.le_of_ble_eq_true rfl, Nat.le_of_ble_eq_true rfl⟩) (fun r49 F48 H locs hp50 hI => ?_)
              obtain ⟨rfl, rfl⟩ := hp50
              refine lv_iadd hx hb dX4_errors_113 ?_
              refine z_topi (nI_add x (cnt (st σ i10) (nI v) (sn σ i10))) ?_
              refine lv_istore (lv' := [(8, .int (nI (x + (cnt (st σ i10) (nI v) (sn σ i10))))), (0, .ref (B0 + 23)), (1, .int (nI i10)), (2, .ref (B0 + 25 + 2 * i10)), (3, .ref (B0 + 34 + 2 * 0)), (4, .int (nI (sn σ i10 - pn σ 0 - k5))), (5, .int (nI k5)), (6, .ref r19), (7, .ref r26), (9, .int (nI v))]) hx hb dX4_errors_114 hl (by decide) rfl (fun ls hl => ?_)
              refine lv_iinc (k := 9) (v := nI (v + 1)) (lv' := [(9, .int (nI (v + 1))), (8, .int (nI (x + (cnt (st σ i10) (nI v) (sn σ i10))))), (0, .ref (B0 + 23)), (1, .int (nI i10)), (2, .ref (B0 + 25 + 2 * i10)), (3, .ref (B0 + 34 + 2 * 0)), (4, .int (nI (sn σ i10 - pn σ 0 - k5))), (5, .int (nI k5)), (6, .ref r19), (7, .ref r26)]) hx hb dX4_errors_116 hl rfl (nI_add v 1) (by decide) rfl (fun ls hl => ?_)
              refine lv_goto (tgt := 98) hx hb dX4_errors_119 (by decide) ?_
              refine ih98 (v + 1, x + (cnt (st σ i10) (nI v) (sn σ i10))) _ ls H locs (by first | omega | (dsimp only; omega)) ?_ (lv_sub hl [2, 3, 4, 5, 6, 7, 8, 9, 0, 1] rfl) hI
              exact ⟨rfl, by omega, by rw [hx9]; rfl⟩
      · refine lv_aload hx hb dX4_errors_65 (lv_at hl 5 rfl) ?_
        refine lv_aload hx hb dX4_errors_67 (lv_at hl 6 rfl) ?_
        refine lv_iload hx hb dX4_errors_69 (lv_at hl 7 rfl) ?_
        refine z_calli hI (z_V (As := [.ref r26, .int (nI k)]) (rest := []) ⟨hx, hb, hml, hown, hts⟩ hI xrq0_31 rfl (c_X3_has l G B0 F25 r19 v0 60 (sn σ i10) (revt (st σ i10) 0 (sn σ i10)) r26 v1 60 (pn σ 0) (revt (pt σ 0) 0 (pn σ 0)) k ⟨xnq0_31, xrq0_31, fq0_31, xwq0_31, xfq0_31⟩ (by omega) ⟨xnq1_32, xrq1_32, fq1_32, xwq1_32, xfq1_32⟩ (by omega) (by omega)) (z_cwV vX3_has hts q903 ⟨Nat.le_of_ble_eq_true rfl, Nat.le_of_ble_eq_true rfl⟩) rfl hl.1 rfl (lv_room (Nat.le_of_ble_eq_true rfl)) dX4_errors_71 ⟨Nat.le_of_ble_eq_true rfl, Nat.le_of_ble_eq_true rfl⟩) (fun r52 F51 H locs hp53 hI => ?_)
        obtain ⟨rfl, rfl⟩ := hp53
        refine z_ifp_eq (tgt := 82) hx hb dX4_errors_74 (by decide) (fun hq54 => ?_) (fun hq54 => ?_)
        · refine lv_iload hx hb dX4_errors_82 (lv_at hl 8 rfl) ?_
          refine lv_istore (lv' := [(5, .int a), (0, .ref (B0 + 23)), (1, .int (nI i10)), (2, .ref (B0 + 25 + 2 * i10)), (3, .ref (B0 + 34 + 2 * 0)), (4, .int (rI (zfst (hld (st σ i10) (sn σ i10) (pt σ 0) (pn σ 0)) 0 ((sn σ i10) + 1 - (pn σ 0) - 0)))), (6, .ref r19), (7, .ref r26), (8, .int (nI k))]) hx hb dX4_errors_84 hl (by decide) rfl (fun ls hl => ?_)
          refine lv_iinc (k := 8) (v := nI (k + 1)) (lv' := [(8, .int (nI (k + 1))), (5, .int a), (0, .ref (B0 + 23)), (1, .int (nI i10)), (2, .ref (B0 + 25 + 2 * i10)), (3, .ref (B0 + 34 + 2 * 0)), (4, .int (rI (zfst (hld (st σ i10) (sn σ i10) (pt σ 0) (pn σ 0)) 0 ((sn σ i10) + 1 - (pn σ 0) - 0)))), (6, .ref r19), (7, .ref r26)]) hx hb dX4_errors_86 hl rfl (nI_add k 1) (by decide) rfl (fun ls hl => ?_)
          refine lv_goto (tgt := 55) hx hb dX4_errors_89 (by decide) ?_
          refine ih (k + 1, a) _ ls H locs (by first | omega | (dsimp only; omega)) ?_ (lv_sub hl [2, 3, 4, 5, 6, 7, 8, 0, 1] rfl) hI
          exact ⟨rfl, by omega, by rw [zlst_f hq54, ha]⟩
        · refine lv_iload hx hb dX4_errors_77 (lv_at hl 7 rfl) ?_
          refine lv_goto (tgt := 84) hx hb dX4_errors_79 (by decide) ?_
          refine lv_istore (lv' := [(5, .int (nI k)), (0, .ref (B0 + 23)), (1, .int (nI i10)), (2, .ref (B0 + 25 + 2 * i10)), (3, .ref (B0 + 34 + 2 * 0)), (4, .int (rI (zfst (hld (st σ i10) (sn σ i10) (pt σ 0) (pn σ 0)) 0 ((sn σ i10) + 1 - (pn σ 0) - 0)))), (6, .ref r19), (7, .ref r26), (8, .int (nI k))]) hx hb dX4_errors_84 hl (by decide) rfl (fun ls hl => ?_)
          refine lv_iinc (k := 8) (v := nI (k + 1)) (lv' := [(8, .int (nI (k + 1))), (5, .int (nI k)), (0, .ref (B0 + 23)), (1, .int (nI i10)), (2, .ref (B0 + 25 + 2 * i10)), (3, .ref (B0 + 34 + 2 * 0)), (4, .int (rI (zfst (hld (st σ i10) (sn σ i10) (pt σ 0) (pn σ 0)) 0 ((sn σ i10) + 1 - (pn σ 0) - 0)))), (6, .ref r19), (7, .ref r26)]) hx hb dX4_errors_86 hl rfl (nI_add k 1) (by decide) rfl (fun ls hl => ?_)
          refine lv_goto (tgt := 55) hx hb dX4_errors_89 (by decide) ?_
          refine ih (k + 1, nI k) _ ls H locs (by first | omega | (dsimp only; omega)) ?_ (lv_sub hl [2, 3, 4, 5, 6, 7, 8, 0, 1] rfl) hI
          exact ⟨rfl, by omega, by rw [zlst_t hq54]; rfl⟩
  · refine lv_iconst (v := nI 0) hx hb dX4_errors_13 (by decide) ?_
    refine z_ri hx hb hr hlocks hI ?_ (Nat.le_of_ble_eq_true rfl) (Nat.le_of_ble_eq_true rfl) dX4_errors_14
    exact ⟨_, rfl, th1, σ, hM1, hz2, fun q => absurd q hq9, fun _ => rfl, hmf1⟩

