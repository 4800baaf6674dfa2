def dn : Nat → Int32
  | 0 => -1
  | k + 1 => nI k
theorem dn_of {n : Nat} (h : n < 2 ^ 20) : nI n - nI 1 = dn n := by
  cases n with
  | zero => rfl
  | succ k => exact pk_sub (by omega)
theorem dn_m1 (k : Nat) : nI k + (-1) = dn k := by
  cases k with
  | zero => rfl
  | succ c2 => exact pk_m1 c2
theorem dn_lt {k : Nat} (h : k < 2 ^ 20) : dn k < 0 ↔ k = 0 := by
  cases k with
  | zero => exact ⟨fun _ => rfl, fun _ => by decide⟩
  | succ c => exact ⟨fun q => absurd q (nI_pos (by omega)), fun q => by omega⟩
theorem rp_room {T a b n : Nat} (hT : T ≤ 100) (ha : a ≤ 100) (hb : b ≤ 100) (hn : n ≤ 60) : nI T * (nI b - nI a) ≤ nI (60 - n) ↔ n + T * b ≤ 60 + T * a := by
  have h1 : T * a ≤ 100 * 100 := Nat.mul_le_mul hT ha
  have h2 : T * b ≤ 100 * 100 := Nat.mul_le_mul hT hb
  rw [Int32.mul_sub, pk_mul, pk_mul, Int32.le_iff_toInt_le, pk_sub_toInt (by omega) (by omega), nI_toInt (by omega)]
  omega
def lrI (f : Nat → Nat) (k : Nat) (c : Int32) (a : Nat) : Prop := (c = -1 ∧ a = 0 ∧ ∀ j, j < k → f j = 0) ∨ ∃ s, s < k ∧ c = nI s ∧ a = f s ∧ 0 < a ∧ (∀ j, j < k → f j ≤ a) ∧ ∀ j, j < s → f j < a
theorem lrI_up {f : Nat → Nat} {k a x : Nat} {c : Int32} (h : lrI f k c a) (e : f k = x) (q : a < x) : lrI f (k + 1) (nI k) x := by
  refine Or.inr ⟨k, Nat.lt_succ_self _, rfl, e.symm, by omega, fun j hj => ?_, fun j hj => ?_⟩
  · by_cases z : j = k
    · rw [z, e]; exact Nat.le_refl _
    · rcases h with ⟨h1, h2, h3⟩ | ⟨s, h1, h2, h3, h4, h5, h6⟩
      · rw [h3 j (by omega)]; exact Nat.zero_le _
      · have := h5 j (by omega); omega
  · rcases h with ⟨h1, h2, h3⟩ | ⟨s, h1, h2, h3, h4, h5, h6⟩
    · rw [h3 j hj]; omega
    · have := h5 j hj; omega
theorem lrI_no {f : Nat → Nat} {k a x : Nat} {c : Int32} (h : lrI f k c a) (e : f k = x) (q : x ≤ a) : lrI f (k + 1) c a := by
  rcases h with ⟨h1, h2, h3⟩ | ⟨s, h1, h2, h3, h4, h5, h6⟩
  · refine Or.inl ⟨h1, h2, fun j hj => ?_⟩
    by_cases z : j = k
    · rw [z]; omega
    · exact h3 j (by omega)
  · refine Or.inr ⟨s, by omega, h2, h3, h4, fun j hj => ?_, h6⟩
    by_cases z : j = k
    · rw [z]; omega
    · exact h5 j (by omega)
/-- from the back: the longest among the places from p on -/
def cbI (t : Nat → Int32) (n : Nat) (q : Nat → Int32) (m p : Nat) (x : Nat × Nat × Nat) : Prop :=
  (∀ i, p ≤ i → i < n → ∀ f, f < m → lc t n q m i f ≤ x.1) ∧ ((x.1 = 0 ∧ x.2.1 = 0 ∧ x.2.2 = 0) ∨ (0 < x.1 ∧ x.2.1 < n ∧ x.2.2 < m ∧ lc t n q m x.2.1 x.2.2 = x.1 ∧ (∀ i, p ≤ i → i < x.2.1 → ∀ f, f < m → lc t n q m i f < x.1) ∧ ∀ f, f < x.2.2 → lc t n q m x.2.1 f < x.1))
theorem cbI_0 {t q : Nat → Int32} {n m : Nat} {x : Nat × Nat × Nat} (h : cbI t n q m 0 x) : isC t n q m x := ⟨fun p hp f hf => h.1 p (Nat.zero_le _) hp f hf, h.2.elim Or.inl fun z => Or.inr ⟨z.1, z.2.1, z.2.2.1, z.2.2.2.1, fun p hp f hf => z.2.2.2.2.1 p (Nat.zero_le _) hp f hf, z.2.2.2.2.2⟩⟩
theorem cbI_no {t q : Nat → Int32} {n m p : Nat} {L b s : Nat} (h : cbI t n q m (p + 1) (L, b, s)) (z : ∀ f, f < m → lc t n q m p f = 0 ∨ lc t n q m p f < L) : cbI t n q m p (L, b, s) := by
  refine ⟨fun i h1 h2 f hf => ?_, ?_⟩
  · by_cases e : i = p
    · subst e; rcases z f hf with q1 | q1 <;> dsimp only <;> omega
    · exact h.1 i (by omega) h2 f hf
  · rcases h.2 with h3 | ⟨a1, a2, a3, a4, a5, a6⟩
    · exact Or.inl h3
    · refine Or.inr ⟨a1, a2, a3, a4, fun i h1 h2 f hf => ?_, a6⟩
      by_cases e : i = p
      · subst e; rcases z f hf with q1 | q1 <;> dsimp only at * <;> omega
      · exact a5 i (by omega) h2 f hf
theorem cbI_up {t q : Nat → Int32} {n m p : Nat} {L b s s' : Nat} (h : cbI t n q m (p + 1) (L, b, s)) (hp : p < n) (hs : s' < m) (h0 : 0 < lc t n q m p s') (hL : L ≤ lc t n q m p s') (h1 : ∀ f, f < m → lc t n q m p f ≤ lc t n q m p s') (h2 : ∀ f, f < s' → lc t n q m p f < lc t n q m p s') : cbI t n q m p (lc t n q m p s', p, s') := by
  refine ⟨fun i e1 e2 f hf => ?_, Or.inr ⟨h0, hp, hs, rfl, fun i e1 e2 => absurd e1 (by dsimp only at e2; omega), h2⟩⟩
  by_cases e : i = p
  · subst e; exact h1 f hf
  · exact Nat.le_trans (h.1 i (by omega) e2 f hf) hL
theorem cbI_n {t q : Nat → Int32} {n m : Nat} : cbI t n q m n (0, 0, 0) := ⟨fun i h1 h2 => absurd h1 (by omega), Or.inl ⟨rfl, rfl, rfl⟩⟩
set_option maxHeartbeats 4000000 in
set_option maxRecDepth 100000 in
theorem c_X2_draftReplaced (l : Launch) (G : zK) (B0 : Nat) (F : zM) (σ : Sg) (i : Nat) (hC : CS G B0 F σ) (hi : i < 4) (hm : 0 < pn σ 0) (hfit : sn σ i + tms (st σ i) (sn σ i) (pt σ 0) (pn σ 0) * pn σ 1 ≤ 60 + tms (st σ i) (sn σ i) (pt σ 0) (pn σ 0) * pn σ 0) : Met l yX2_draftReplaced (Cond.code yX2_draftReplaced cX2_draftReplaced 7 none :: zW) (zRm 2 44 0 0) (va_Pc [.ref B0, .ref (B0 + 11 + 2 * i)] (zPre G B0 F)) (zQv G B0 (fun F' => RA G 1 F' (B0 + 4) (B0 + 5) 60 (rpl (hld (st σ i) (sn σ i) (pt σ 0) (pn σ 0)) (st σ i) (pn σ 0) (pt σ 1) (pn σ 1) (sn σ i)).1 (rpl (hld (st σ i) (sn σ i) (pt σ 0) (pn σ 0)) (st σ i) (pn σ 0) (pt σ 1) (pn σ 1) (sn σ i)).2 ∧ zSm F F' (B0 + 4) (B0 + 5))) 0 0 (zA B0) := by
  refine z_of (own := RX2) (by decide) rfl (Nat.le_of_ble_eq_true rfl) ?_
  intro p e s m below meth c ls hx hb hr hml hown hlocks hnm hts hl hI
  have hl : lv_has ls 7 [(0, .ref B0), (1, .ref (B0 + 11 + 2 * i))] := hl
  obtain ⟨y01, ⟨fa1, y11, e11⟩, ⟨fb1, y21, e21⟩, ⟨fc1, y31, e31⟩, ⟨n41, t41, y41⟩, ⟨n61, t61, y61⟩, ⟨n81, t81, y81⟩, ⟨fd1, y101⟩, yT1, yP1⟩ := id hC
  have hx2 := yT1 i hi
  obtain ⟨xnhx2, xrhx2, fhx2, xwhx2, xfhx2⟩ := id hx2
  have hx3 := yP1 0 (by decide)
  obtain ⟨xnhx3, xrhx3, fhx3, xwhx3, xfhx3⟩ := id hx3
  have hx4 := yP1 1 (by decide)
  obtain ⟨xnhx4, xrhx4, fhx4, xwhx4, xfhx4⟩ := id hx4
  obtain ⟨xnd, xrd, fd, xwd, xfd⟩ := id y41
  have hN := rpt_n (t := st σ i) (q := pt σ 0) (q' := pt σ 1) (n := sn σ i) (m' := pn σ 1) hm
  refine lv_aload_n hx hb dX2_draftReplaced_0 rfl (lv_at hl 0 rfl) ?_
  refine z_get hx hb hts hown zlX2 rfl 1 (by decide) (hts _ q41) rfl hI y01 rfl dX2_draftReplaced_1 ?_
  refine lv_iconst (v := nI 0) hx hb dX2_draftReplaced_4 (by decide) ?_
  refine z_ald1 (k := 0) (v := B0 + 19 + 2 * 0) hx hb hI y21 (by omega) (by omega) (e21 0 (by omega)) dX2_draftReplaced_5 ?_
  refine lv_astore_n (lv' := [(2, .ref (B0 + 19 + 2 * 0)), (0, .ref B0), (1, .ref (B0 + 11 + 2 * i))]) hx hb dX2_draftReplaced_6 rfl hl (by decide) rfl (fun ls hl => ?_)
  refine lv_aload_n hx hb dX2_draftReplaced_7 rfl (lv_at hl 1 rfl) ?_
  refine z_get hx hb hts hown zlX2 rfl 1 (by decide) (hts _ q41) rfl hI y01 rfl dX2_draftReplaced_8 ?_
  refine lv_iconst (v := nI 1) hx hb dX2_draftReplaced_11 (by decide) ?_
  refine z_ald1 (k := 1) (v := B0 + 19 + 2 * 1) hx hb hI y21 (by omega) (by omega) (e21 1 (by omega)) dX2_draftReplaced_12 ?_
  refine lv_astore_n (lv' := [(3, .ref (B0 + 19 + 2 * 1)), (2, .ref (B0 + 19 + 2 * 0)), (0, .ref B0), (1, .ref (B0 + 11 + 2 * i))]) hx hb dX2_draftReplaced_13 rfl hl (by decide) rfl (fun ls hl => ?_)
  refine lv_aload_n hx hb dX2_draftReplaced_14 rfl (lv_at hl 3 rfl) ?_
  refine z_getN hx hb hts hown zlX1 rfl 1 (by decide) (List.mem_of_getElem? (i := 0) rfl) rfl hI xrhx2 rfl dX2_draftReplaced_15 ?_
  refine lv_istore (lv' := [(4, .int (nI (sn σ i))), (3, .ref (B0 + 19 + 2 * 1)), (2, .ref (B0 + 19 + 2 * 0)), (0, .ref B0), (1, .ref (B0 + 11 + 2 * i))]) hx hb dX2_draftReplaced_18 hl (by decide) rfl (fun ls hl => ?_)
  refine lv_iconst (v := nI 0) hx hb dX2_draftReplaced_20 (by decide) ?_
  refine lv_istore (lv' := [(5, .int (nI 0)), (4, .int (nI (sn σ i))), (3, .ref (B0 + 19 + 2 * 1)), (2, .ref (B0 + 19 + 2 * 0)), (0, .ref B0), (1, .ref (B0 + 11 + 2 * i))]) hx hb dX2_draftReplaced_21 hl (by decide) rfl (fun ls hl => ?_)
  refine lv_aload_n hx hb dX2_draftReplaced_23 rfl (lv_at hl 4 rfl) ?_
  refine z_get hx hb hts hown zlX2 rfl 3 (by decide) (hts _ q43) rfl hI y01 rfl dX2_draftReplaced_24 ?_
  refine lv_iconst (v := nI 0) hx hb dX2_draftReplaced_27 (by decide) ?_
  refine z_putN hx hb hts hown zlX1 tyX1 tyX1_ok nmX1 rfl 1 (by decide) (List.mem_of_getElem? (i := 0) rfl) rfl hI xrd rfl rfl rfl rfl (Nat.le_of_ble_eq_true rfl) dX2_draftReplaced_28 (fun H locs F5 hw6 ho7 hI => ?_)
  have hw6 : F5 (B0 + 4) = some (zO 1 [.ref (B0 + 5), .int (nI 0)]) := hw6
  have hc8 : F5 B0 = some (zO 2 [.ref (B0 + 1), .ref (B0 + 2), .ref (B0 + 3), .ref (B0 + 4), .ref (B0 + 6), .ref (B0 + 8), .ref (B0 + 10)]) := (ho7 _ (zne y01 xrd (fun q => by cases q))).trans y01
  have hc9 : F5 (B0 + 1) = some (zA1 G 4 fa1) := (ho7 _ (zne y11 xrd (fun q => by cases q))).trans y11
  have hc10 : F5 (B0 + 2) = some (zA1 G 2 fb1) := (ho7 _ (zne y21 xrd (fun q => by cases q))).trans y21
  have hc11 : F5 (B0 + 3) = some (zAI G 100 fc1) := (ho7 _ (zne y31 xrd (fun q => by cases q))).trans y31
  have hc12 : F5 (B0 + 10) = some (zAI G 61 fd1) := (ho7 _ (zne y101 xrd (fun q => by cases q))).trans y101
  have hc13 : F5 (B0 + 11 + 2 * i) = some (zO 1 [.ref (B0 + 12 + 2 * i), .int (nI (sn σ i))]) := (ho7 _ (by omega)).trans xrhx2
  have hc14 : F5 (B0 + 12 + 2 * i) = some (zAI G 60 fhx2) := (ho7 _ (zne xwhx2 xrd (fun q => by cases q))).trans xwhx2
  have hc15 : F5 (B0 + 19 + 2 * 0) = some (zO 1 [.ref (B0 + 20 + 2 * 0), .int (nI (pn σ 0))]) := (ho7 _ (by omega)).trans xrhx3
  have hc16 : F5 (B0 + 20 + 2 * 0) = some (zAI G 12 fhx3) := (ho7 _ (zne xwhx3 xrd (fun q => by cases q))).trans xwhx3
  have hc17 : F5 (B0 + 19 + 2 * 1) = some (zO 1 [.ref (B0 + 20 + 2 * 1), .int (nI (pn σ 1))]) := (ho7 _ (by omega)).trans xrhx4
  have hc18 : F5 (B0 + 20 + 2 * 1) = some (zAI G 12 fhx4) := (ho7 _ (zne xwhx4 xrd (fun q => by cases q))).trans xwhx4
  have hc19 : F5 (B0 + 5) = some (zAI G 60 fd) := (ho7 _ (zne xwd xrd (fun q => by cases q))).trans xwd
  refine lv_iconst (v := nI 0) hx hb dX2_draftReplaced_31 (by decide) ?_
  refine lv_istore (lv' := [(6, .int (nI 0)), (5, .int (nI 0)), (4, .int (nI (sn σ i))), (3, .ref (B0 + 19 + 2 * 1)), (2, .ref (B0 + 19 + 2 * 0)), (0, .ref B0), (1, .ref (B0 + 11 + 2 * i))]) hx hb dX2_draftReplaced_32 hl (by decide) rfl (fun ls hl => ?_)
  refine z_loop (σ := Nat × Nat) (fun xx : Nat × Nat => match xx with | (k, x) => [(0, .ref B0), (1, .ref (B0 + 11 + 2 * i)), (2, .ref (B0 + 19 + 2 * 0)), (3, .ref (B0 + 19 + 2 * 1)), (4, .int (nI (sn σ i))), (6, .int (nI k)), (5, .int (nI x))]) (fun (xx : Nat × Nat) (Fx : zM) => match xx with | (k, x) => RA G 1 Fx (B0 + 4) (B0 + 5) 60 (rpl (hld (st σ i) (sn σ i) (pt σ 0) (pn σ 0)) (st σ i) (pn σ 0) (pt σ 1) (pn σ 1) k).1 (rpl (hld (st σ i) (sn σ i) (pt σ 0) (pn σ 0)) (st σ i) (pn σ 0) (pt σ 1) (pn σ 1) k).2 ∧ zSm F Fx (B0 + 4) (B0 + 5) ∧ k ≤ sn σ i ∧ x = (zap (hld (st σ i) (sn σ i) (pt σ 0) (pn σ 0)) (pn σ 0) k).2) (fun xx : Nat × Nat => match xx with | (k, x) => sn σ i - k) (0, 0) (nL := 7) (st := []) ?_ (lv_sub hl [5, 6, 4, 3, 2, 0, 1] rfl) hI ?_
  · exact ⟨⟨Nat.zero_le _, hw6, _, hc19, fun j hj => absurd hj (Nat.not_lt_zero _)⟩, (zSm.l ho7), Nat.zero_le _, rfl⟩
  · intro xx F20 ls H locs hi hl hI ih
    obtain ⟨k, x⟩ := xx
    have hl : lv_has ls 7 [(0, .ref B0), (1, .ref (B0 + 11 + 2 * i)), (2, .ref (B0 + 19 + 2 * 0)), (3, .ref (B0 + 19 + 2 * 1)), (4, .int (nI (sn σ i))), (6, .int (nI k)), (5, .int (nI x))] := hl
    obtain ⟨ha0, hs0, hk, hnx⟩ := hi
    have hC2 := CS.setW hC (Or.inl ⟨rfl, rfl, rfl⟩) hs0 ha0
    obtain ⟨y021, ⟨fa21, y121, e121⟩, ⟨fb21, y221, e221⟩, ⟨fc21, y321, e321⟩, ⟨n421, t421, y421⟩, ⟨n621, t621, y621⟩, ⟨n821, t821, y821⟩, ⟨fd21, y1021⟩, yT21, yP21⟩ := id hC2
    have hx22 := yT21 i hi
    obtain ⟨xnhx22, xrhx22, fhx22, xwhx22, xfhx22⟩ := id hx22
    have hx23 := yP21 0 (by decide)
    obtain ⟨xnhx23, xrhx23, fhx23, xwhx23, xfhx23⟩ := id hx23
    have hx24 := yP21 1 (by decide)
    obtain ⟨xnhx24, xrhx24, fhx24, xwhx24, xfhx24⟩ := id hx24
    obtain ⟨xnd, xrd, fd, xwd, xfd⟩ := id ha0
    have hnx2 := zap_nx (P := hld (st σ i) (sn σ i) (pt σ 0) (pn σ 0)) (m := pn σ 0) (n := sn σ i) (fun j hj => hj.1) k
    refine lv_iload hx hb dX2_draftReplaced_34 (lv_at hl 5 rfl) ?_
    refine lv_iload hx hb dX2_draftReplaced_36 (lv_at hl 4 rfl) ?_
    refine z_icmp_ge (tgt := 101) (a := k) (b := sn σ i) hx hb dX2_draftReplaced_38 (by decide) (by omega) (fun hq25 => ?_) (fun hq25 => ?_)
    · refine z_rv hx hb hr hlocks hI ?_ (Nat.le_of_ble_eq_true rfl) (Nat.le_of_ble_eq_true rfl) dX2_draftReplaced_101
      have hkn : k = sn σ i := by omega
      rw [hkn] at ha0
      exact ⟨rfl, ha0, hs0⟩
    · refine lv_iload hx hb dX2_draftReplaced_41 (lv_at hl 5 rfl) ?_
      refine lv_iload hx hb dX2_draftReplaced_43 (lv_at hl 6 rfl) ?_
      refine z_icmp_ge (tgt := 51) (a := k) (b := x) hx hb dX2_draftReplaced_45 (by decide) (by omega) (fun hq26 => ?_) (fun hq26 => ?_)
      · refine lv_aload_n hx hb dX2_draftReplaced_51 rfl (lv_at hl 1 rfl) ?_
        refine lv_aload_n hx hb dX2_draftReplaced_52 rfl (lv_at hl 2 rfl) ?_
        refine lv_iload hx hb dX2_draftReplaced_53 (lv_at hl 5 rfl) ?_
        refine z_calli hI (z_V (As := [.ref (B0 + 19 + 2 * 0), .int (nI k)]) (rest := []) ⟨hx, hb, hml, hown, hts⟩ hI xrhx22 rfl (c_X1_holds l G B0 F20 (B0 + 11 + 2 * i) (B0 + 12 + 2 * i) 60 (sn σ i) (st σ i) (B0 + 19 + 2 * 0) (B0 + 20 + 2 * 0) 12 (pn σ 0) (pt σ 0) k ⟨xnhx22, xrhx22, fhx22, xwhx22, xfhx22⟩ (by omega) ⟨xnhx23, xrhx23, fhx23, xwhx23, xfhx23⟩ (by omega) (by omega)) (z_cwV vX1_holds hts q380 ⟨Nat.le_of_ble_eq_true rfl, Nat.le_of_ble_eq_true rfl⟩) rfl hl.1 rfl (lv_room (Nat.le_of_ble_eq_true rfl)) dX2_draftReplaced_55 ⟨Nat.le_of_ble_eq_true rfl, Nat.le_of_ble_eq_true rfl⟩) (fun r28 F27 H locs hp29 hI => ?_)
        obtain ⟨rfl, rfl⟩ := hp29
        refine z_ifp_eq (tgt := 81) hx hb dX2_draftReplaced_58 (by decide) (fun hq30 => ?_) (fun hq30 => ?_)
        · have hmo := rpl_mono (P := hld (st σ i) (sn σ i) (pt σ 0) (pn σ 0)) (t := st σ i) (q' := pt σ 1) (m := pn σ 0) (m' := pn σ 1) (show k + 1 ≤ sn σ i by omega)
          rw [rpl_n (show ¬ k < (zap (hld (st σ i) (sn σ i) (pt σ 0) (pn σ 0)) (pn σ 0) k).2 by omega) hq30] at hmo
          dsimp only at hmo
          refine lv_aload_n hx hb dX2_draftReplaced_81 rfl (lv_at hl 0 rfl) ?_
          refine z_get hx hb hts hown zlX2 rfl 3 (by decide) (hts _ q43) rfl hI y021 rfl dX2_draftReplaced_82 ?_
          refine lv_aload_n hx hb dX2_draftReplaced_85 rfl (lv_at hl 1 rfl) ?_
          refine z_getN hx hb hts hown zlX1 rfl 0 (by decide) (List.mem_of_getElem? (i := 1) rfl) rfl hI xrhx22 rfl dX2_draftReplaced_86 ?_
          refine lv_iload hx hb dX2_draftReplaced_89 (lv_at hl 5 rfl) ?_
          refine z_ild (k := k) (v := st σ i k) hx hb hI xwhx22 (by omega) (by omega) (xfhx22 k (by omega)) dX2_draftReplaced_91 ?_
          refine z_callv hI (z_V (As := [.int (st σ i k)]) (rest := []) ⟨hx, hb, hml, hown, hts⟩ hI xrd rfl (c_X1_append l G B0 F20 (B0 + 4) (B0 + 5) 60 ((rpl (hld (st σ i) (sn σ i) (pt σ 0) (pn σ 0)) (st σ i) (pn σ 0) (pt σ 1) (pn σ 1) k).1) ((rpl (hld (st σ i) (sn σ i) (pt σ 0) (pn σ 0)) (st σ i) (pn σ 0) (pt σ 1) (pn σ 1) k).2) (st σ i k) ⟨xnd, xrd, fd, xwd, xfd⟩ (by omega) (by omega)) (z_cwV vX1_append hts q168 ⟨Nat.le_of_ble_eq_true rfl, Nat.le_of_ble_eq_true rfl⟩) rfl hl.1 rfl (lv_room (Nat.le_of_ble_eq_true rfl)) dX2_draftReplaced_92 ⟨Nat.le_of_ble_eq_true rfl, Nat.le_of_ble_eq_true rfl⟩) (fun F31 H locs hp33 hI => ?_)
          obtain ⟨ha34, hs34⟩ := hp33
          have hc35 : F31 B0 = some (zO 2 [.ref (B0 + 1), .ref (B0 + 2), .ref (B0 + 3), .ref (B0 + 4), .ref (B0 + 6), .ref (B0 + 8), .ref (B0 + 10)]) := (hs34 _ (zne y021 xrd (fun q => by cases q)) (zne y021 xwd (fun q => by cases q))).trans y021
          have hc36 : F31 (B0 + 1) = some (zA1 G 4 fa21) := (hs34 _ (zne y121 xrd (fun q => by cases q)) (by omega)).trans y121
          have hc37 : F31 (B0 + 2) = some (zA1 G 2 fb21) := (hs34 _ (zne y221 xrd (fun q => by cases q)) (by omega)).trans y221
          have hc38 : F31 (B0 + 3) = some (zAI G 100 fc21) := (hs34 _ (zne y321 xrd (fun q => by cases q)) (by omega)).trans y321
          have hc39 : F31 (B0 + 10) = some (zAI G 61 fd21) := (hs34 _ (zne y1021 xrd (fun q => by cases q)) (by omega)).trans y1021
          have hc40 : F31 (B0 + 11 + 2 * i) = some (zO 1 [.ref (B0 + 12 + 2 * i), .int (nI (sn σ i))]) := (hs34 _ (by omega) (zne xrhx22 xwd (fun q => by cases q))).trans xrhx22
          have hc41 : F31 (B0 + 12 + 2 * i) = some (zAI G 60 fhx22) := (hs34 _ (zne xwhx22 xrd (fun q => by cases q)) (by omega)).trans xwhx22
          have hc42 : F31 (B0 + 19 + 2 * 0) = some (zO 1 [.ref (B0 + 20 + 2 * 0), .int (nI (pn σ 0))]) := (hs34 _ (by omega) (zne xrhx23 xwd (fun q => by cases q))).trans xrhx23
          have hc43 : F31 (B0 + 20 + 2 * 0) = some (zAI G 12 fhx23) := (hs34 _ (zne xwhx23 xrd (fun q => by cases q)) (by omega)).trans xwhx23
          have hc44 : F31 (B0 + 19 + 2 * 1) = some (zO 1 [.ref (B0 + 20 + 2 * 1), .int (nI (pn σ 1))]) := (hs34 _ (by omega) (zne xrhx24 xwd (fun q => by cases q))).trans xrhx24
          have hc45 : F31 (B0 + 20 + 2 * 1) = some (zAI G 12 fhx24) := (hs34 _ (zne xwhx24 xrd (fun q => by cases q)) (by omega)).trans xwhx24
          obtain ⟨xn_34, xr_34, f_34, xw_34, xf_34⟩ := id ha34
          refine lv_iinc (k := 5) (v := nI (k + 1)) (lv' := [(6, .int (nI (k + 1))), (0, .ref B0), (1, .ref (B0 + 11 + 2 * i)), (2, .ref (B0 + 19 + 2 * 0)), (3, .ref (B0 + 19 + 2 * 1)), (4, .int (nI (sn σ i))), (5, .int (nI x))]) hx hb dX2_draftReplaced_95 hl rfl (nI_add k 1) (by decide) rfl (fun ls hl => ?_)
          refine lv_goto (tgt := 34) hx hb dX2_draftReplaced_98 (by decide) ?_
          refine ih (k + 1, x) _ ls H locs (by first | omega | (dsimp only; omega)) ?_ (lv_sub hl [1, 2, 3, 4, 5, 0, 6] rfl) hI
          refine ⟨by rw [rpl_n (show ¬ k < (zap (hld (st σ i) (sn σ i) (pt σ 0) (pn σ 0)) (pn σ 0) k).2 by omega) hq30]; exact ha34, (zSm.tr hs0 hs34), by omega, ?_⟩
          rw [zap_f (fun z => hq30 z.2)]; exact hnx
        · have hmo := rpl_mono (P := hld (st σ i) (sn σ i) (pt σ 0) (pn σ 0)) (t := st σ i) (q' := pt σ 1) (m := pn σ 0) (m' := pn σ 1) (show k + 1 ≤ sn σ i by omega)
          rw [rpl_y (show ¬ k < (zap (hld (st σ i) (sn σ i) (pt σ 0) (pn σ 0)) (pn σ 0) k).2 by omega) hq30] at hmo
          dsimp only at hmo
          refine lv_aload_n hx hb dX2_draftReplaced_61 rfl (lv_at hl 0 rfl) ?_
          refine z_get hx hb hts hown zlX2 rfl 3 (by decide) (hts _ q43) rfl hI y021 rfl dX2_draftReplaced_62 ?_
          refine lv_aload_n hx hb dX2_draftReplaced_65 rfl (lv_at hl 3 rfl) ?_
          refine z_callv hI (z_V (As := [.ref (B0 + 19 + 2 * 1)]) (rest := []) ⟨hx, hb, hml, hown, hts⟩ hI xrd rfl (c_X1_appendAll l G B0 F20 (B0 + 4) (B0 + 5) 60 ((rpl (hld (st σ i) (sn σ i) (pt σ 0) (pn σ 0)) (st σ i) (pn σ 0) (pt σ 1) (pn σ 1) k).1) ((rpl (hld (st σ i) (sn σ i) (pt σ 0) (pn σ 0)) (st σ i) (pn σ 0) (pt σ 1) (pn σ 1) k).2) (B0 + 19 + 2 * 1) (B0 + 20 + 2 * 1) 12 (pn σ 1) (pt σ 1) ⟨xnd, xrd, fd, xwd, xfd⟩ (by omega) ⟨xnhx24, xrhx24, fhx24, xwhx24, xfhx24⟩ (by omega) (by omega) (by omega) (by omega)) (z_cwV vX1_appendAll hts q381 ⟨Nat.le_of_ble_eq_true rfl, Nat.le_of_ble_eq_true rfl⟩) rfl hl.1 rfl (lv_room (Nat.le_of_ble_eq_true rfl)) dX2_draftReplaced_66 ⟨Nat.le_of_ble_eq_true rfl, Nat.le_of_ble_eq_true rfl⟩) (fun F46 H locs hp48 hI => ?_)
          obtain ⟨ha49, hs49⟩ := hp48
          have hc50 : F46 B0 = some (zO 2 [.ref (B0 + 1), .ref (B0 + 2), .ref (B0 + 3), .ref (B0 + 4), .ref (B0 + 6), .ref (B0 + 8), .ref (B0 + 10)]) := (hs49 _ (zne y021 xrd (fun q => by cases q)) (zne y021 xwd (fun q => by cases q))).trans y021
          have hc51 : F46 (B0 + 1) = some (zA1 G 4 fa21) := (hs49 _ (zne y121 xrd (fun q => by cases q)) (by omega)).trans y121
          have hc52 : F46 (B0 + 2) = some (zA1 G 2 fb21) := (hs49 _ (zne y221 xrd (fun q => by cases q)) (by omega)).trans y221
          have hc53 : F46 (B0 + 3) = some (zAI G 100 fc21) := (hs49 _ (zne y321 xrd (fun q => by cases q)) (by omega)).trans y321
          have hc54 : F46 (B0 + 10) = some (zAI G 61 fd21) := (hs49 _ (zne y1021 xrd (fun q => by cases q)) (by omega)).trans y1021
          have hc55 : F46 (B0 + 11 + 2 * i) = some (zO 1 [.ref (B0 + 12 + 2 * i), .int (nI (sn σ i))]) := (hs49 _ (by omega) (zne xrhx22 xwd (fun q => by cases q))).trans xrhx22
          have hc56 : F46 (B0 + 12 + 2 * i) = some (zAI G 60 fhx22) := (hs49 _ (zne xwhx22 xrd (fun q => by cases q)) (by omega)).trans xwhx22
          have hc57 : F46 (B0 + 19 + 2 * 0) = some (zO 1 [.ref (B0 + 20 + 2 * 0), .int (nI (pn σ 0))]) := (hs49 _ (by omega) (zne xrhx23 xwd (fun q => by cases q))).trans xrhx23
          have hc58 : F46 (B0 + 20 + 2 * 0) = some (zAI G 12 fhx23) := (hs49 _ (zne xwhx23 xrd (fun q => by cases q)) (by omega)).trans xwhx23
          have hc59 : F46 (B0 + 19 + 2 * 1) = some (zO 1 [.ref (B0 + 20 + 2 * 1), .int (nI (pn σ 1))]) := (hs49 _ (by omega) (zne xrhx24 xwd (fun q => by cases q))).trans xrhx24
          have hc60 : F46 (B0 + 20 + 2 * 1) = some (zAI G 12 fhx24) := (hs49 _ (zne xwhx24 xrd (fun q => by cases q)) (by omega)).trans xwhx24
          obtain ⟨xn_49, xr_49, f_49, xw_49, xf_49⟩ := id ha49
          refine lv_iload hx hb dX2_draftReplaced_69 (lv_at hl 5 rfl) ?_
          refine lv_aload_n hx hb dX2_draftReplaced_71 rfl (lv_at hl 2 rfl) ?_
          refine z_getN hx hb hts hown zlX1 rfl 1 (by decide) (List.mem_of_getElem? (i := 0) rfl) rfl hI hc57 rfl dX2_draftReplaced_72 ?_
          refine lv_iadd hx hb dX2_draftReplaced_75 ?_
          refine z_topi (nI_add k (pn σ 0)) ?_
          refine lv_istore (lv' := [(5, .int (nI (k + (pn σ 0)))), (0, .ref B0), (1, .ref (B0 + 11 + 2 * i)), (2, .ref (B0 + 19 + 2 * 0)), (3, .ref (B0 + 19 + 2 * 1)), (4, .int (nI (sn σ i))), (6, .int (nI k))]) hx hb dX2_draftReplaced_76 hl (by decide) rfl (fun ls hl => ?_)
          refine lv_goto (tgt := 95) hx hb dX2_draftReplaced_78 (by decide) ?_
          refine lv_iinc (k := 6) (v := nI (k + 1)) (lv' := [(6, .int (nI (k + 1))), (5, .int (nI (k + (pn σ 0)))), (0, .ref B0), (1, .ref (B0 + 11 + 2 * i)), (2, .ref (B0 + 19 + 2 * 0)), (3, .ref (B0 + 19 + 2 * 1)), (4, .int (nI (sn σ i)))]) hx hb dX2_draftReplaced_95 hl rfl (nI_add k 1) (by decide) rfl (fun ls hl => ?_)
          refine lv_goto (tgt := 34) hx hb dX2_draftReplaced_98 (by decide) ?_
          refine ih (k + 1, k + (pn σ 0)) _ ls H locs (by first | omega | (dsimp only; omega)) ?_ (lv_sub hl [2, 3, 4, 5, 6, 0, 1] rfl) hI
          refine ⟨by rw [rpl_y (show ¬ k < (zap (hld (st σ i) (sn σ i) (pt σ 0) (pn σ 0)) (pn σ 0) k).2 by omega) hq30]; exact ha49, (zSm.tr hs0 hs49), by omega, ?_⟩
          rw [zap_t ⟨by omega, hq30⟩]
      · refine lv_goto (tgt := 95) hx hb dX2_draftReplaced_48 (by decide) ?_
        refine lv_iinc (k := 5) (v := nI (k + 1)) (lv' := [(6, .int (nI (k + 1))), (0, .ref B0), (1, .ref (B0 + 11 + 2 * i)), (2, .ref (B0 + 19 + 2 * 0)), (3, .ref (B0 + 19 + 2 * 1)), (4, .int (nI (sn σ i))), (5, .int (nI x))]) hx hb dX2_draftReplaced_95 hl rfl (nI_add k 1) (by decide) rfl (fun ls hl => ?_)
        refine lv_goto (tgt := 34) hx hb dX2_draftReplaced_98 (by decide) ?_
        refine ih (k + 1, x) _ ls H locs (by first | omega | (dsimp only; omega)) ?_ (lv_sub hl [1, 2, 3, 4, 5, 0, 6] rfl) hI
        refine ⟨by rw [rpl_s (show k < (zap (hld (st σ i) (sn σ i) (pt σ 0) (pn σ 0)) (pn σ 0) k).2 by omega)]; exact ha0, hs0, by omega, ?_⟩
        rw [zap_f (fun z => by omega)]; exact hnx

set_option maxHeartbeats 4000000 in
set_option maxRecDepth 100000 in
theorem c_X2_replace (l : Launch) (hl0 : l.stackTraces = false) (G : zK) (B0 : Nat) (F : zM) (σ : Sg) (zp0 : Int32) (hC : CS G B0 F σ) : vx_Met l yX2_replace (Cond.code yX2_replace cX2_replace 5 (some FieldType.int) :: zW) (zRm 7 111 3 18) (va_Pc [.ref B0, .int zp0] (zPre G B0 F)) (zQi G B0 (fun r' F' => oA_replace σ zp0 ∧ oB_replace σ zp0 ∧ oC_replace σ zp0 ∧ r' = rr_replace σ zp0 ∧ CS G B0 F' (ss_replace σ zp0) ∧ zCf B0 F F')) (zXC G B0 F (fun E => zPX zEI zES "" (oA_replace σ zp0) (oB_replace σ zp0) (oC_replace σ zp0) E)) 3 18 (zA B0) := by
  refine z_ofx (own := RX2) (by decide) rfl (Nat.le_of_ble_eq_true rfl) ?_
  intro p e s m below meth c ls hx hb hr hml hown hlocks hout hts hl hI
  have hl : lv_has ls 5 [(0, .ref B0), (1, .int zp0)] := hl
  obtain ⟨y01, ⟨fa1, y11, e11⟩, ⟨fb1, y21, e21⟩, ⟨fc1, y31, e31⟩, ⟨n41, t41, y41⟩, ⟨n61, t61, y61⟩, ⟨n81, t81, y81⟩, ⟨fd1, y101⟩, yT1, yP1⟩ := id hC
  refine lv_aload_n hx hb dX2_replace_0 rfl (lv_at hl 0 rfl) ?_
  refine lv_iload_n hx hb dX2_replace_1 rfl (lv_at hl 1 rfl) ?_
  refine z_xcallr hI (z_xV (As := [.int zp0]) (rest := []) ⟨hx, hb, hml, hown, hts⟩ hI y01 rfl (c_X2_textAt l hl0 G B0 F σ zp0 hC) (z_cwV vX2_textAt hts q71 ⟨Nat.le_of_ble_eq_true rfl, Nat.le_of_ble_eq_true rfl⟩) rfl hl.1 rfl (lv_room (Nat.le_of_ble_eq_true rfl)) dX2_replace_2 ⟨Nat.le_of_ble_eq_true rfl, Nat.le_of_ble_eq_true rfl⟩) (z_out hout hlocks (fun E hE => Or.inl ⟨hE.1, fun q => hE.2 (by first | exact q | (simp only [oA_replace, oB_replace, oC_replace, rr_replace, ss_replace] at q; exact q))⟩) (Nat.le_of_ble_eq_true rfl) (Nat.le_of_ble_eq_true rfl)) (fun r3 F2 H locs hp4 hI => ?_)
  obtain ⟨rfl, i5, hi6, rfl, rfl⟩ := hp4
  have hix7 : ix (nI i5) = i5 := ix_nI (by omega)
  have hl : lv_has ls 5 [(0, .ref B0), (1, .int (nI i5))] := hl
  have hx8 := yT1 i5 hi6
  obtain ⟨xnhx8, xrhx8, fhx8, xwhx8, xfhx8⟩ := id hx8
  refine lv_astore_n (lv' := [(2, .ref (B0 + 11 + 2 * i5)), (0, .ref B0), (1, .int (nI i5))]) hx hb dX2_replace_5 rfl hl (by decide) rfl (fun ls hl => ?_)
  refine lv_aload_n hx hb dX2_replace_6 rfl (lv_at hl 1 rfl) ?_
  refine z_get hx hb hts hown zlX2 rfl 1 (by decide) (hts _ q41) rfl hI y01 rfl dX2_replace_7 ?_
  refine lv_iconst (v := nI 0) hx hb dX2_replace_10 (by decide) ?_
  refine z_ald1 (k := 0) (v := B0 + 19 + 2 * 0) hx hb hI y21 (by omega) (by omega) (e21 0 (by omega)) dX2_replace_11 ?_
  have hx9 := yP1 0 (by decide)
  obtain ⟨xnhx9, xrhx9, fhx9, xwhx9, xfhx9⟩ := id hx9
  refine lv_astore_n (lv' := [(3, .ref (B0 + 19 + 2 * 0)), (2, .ref (B0 + 11 + 2 * i5)), (0, .ref B0), (1, .int (nI i5))]) hx hb dX2_replace_12 rfl hl (by decide) rfl (fun ls hl => ?_)
  refine lv_aload_n hx hb dX2_replace_13 rfl (lv_at hl 0 rfl) ?_
  refine z_getN hx hb hts hown zlX1 rfl 1 (by decide) (List.mem_of_getElem? (i := 0) rfl) rfl hI xrhx9 rfl dX2_replace_14 ?_
  refine z_if_ne (tgt := 30) (a := pn σ 0) hx hb dX2_replace_17 (by decide) (by omega) (fun hq10 => ?_) (fun hq10 => ?_)
  · refine lv_aload_n hx hb dX2_replace_30 rfl (lv_at hl 1 rfl) ?_
    refine lv_aload_n hx hb dX2_replace_31 rfl (lv_at hl 0 rfl) ?_
    refine z_calli hI (z_V (As := [.ref (B0 + 19 + 2 * 0)]) (rest := []) ⟨hx, hb, hml, hown, hts⟩ hI xrhx8 rfl (c_X1_timesApart l G B0 F (B0 + 11 + 2 * i5) (B0 + 12 + 2 * i5) 60 (sn σ i5) (st σ i5) (B0 + 19 + 2 * 0) (B0 + 20 + 2 * 0) 12 (pn σ 0) (pt σ 0) ⟨xnhx8, xrhx8, fhx8, xwhx8, xfhx8⟩ (by omega) ⟨xnhx9, xrhx9, fhx9, xwhx9, xfhx9⟩ (by omega)) (z_cwV vX1_timesApart hts q360 ⟨Nat.le_of_ble_eq_true rfl, Nat.le_of_ble_eq_true rfl⟩) rfl hl.1 rfl (lv_room (Nat.le_of_ble_eq_true rfl)) dX2_replace_32 ⟨Nat.le_of_ble_eq_true rfl, Nat.le_of_ble_eq_true rfl⟩) (fun r12 F11 H locs hp13 hI => ?_)
    obtain ⟨rfl, rfl⟩ := hp13
    refine lv_istore (lv' := [(4, .int (nI ((zap (hld (st σ i5) (sn σ i5) (pt σ 0) (pn σ 0)) (pn σ 0) ((sn σ i5) + 1 - (pn σ 0))).1))), (3, .ref (B0 + 19 + 2 * 0)), (2, .ref (B0 + 11 + 2 * i5)), (0, .ref B0), (1, .int (nI i5))]) hx hb dX2_replace_35 hl (by decide) rfl (fun ls hl => ?_)
    refine lv_aload_n hx hb dX2_replace_37 rfl (lv_at hl 2 rfl) ?_
    refine lv_iload hx hb dX2_replace_38 (lv_at hl 0 rfl) ?_
    refine lv_aload_n hx hb dX2_replace_40 rfl (lv_at hl 3 rfl) ?_
    refine z_get hx hb hts hown zlX2 rfl 1 (by decide) (hts _ q41) rfl hI y01 rfl dX2_replace_41 ?_
    refine lv_iconst (v := nI 1) hx hb dX2_replace_44 (by decide) ?_
    refine z_ald1 (k := 1) (v := B0 + 19 + 2 * 1) hx hb hI y21 (by omega) (by omega) (e21 1 (by omega)) dX2_replace_45 ?_
    have hx14 := yP1 1 (by decide)
    obtain ⟨xnhx14, xrhx14, fhx14, xwhx14, xfhx14⟩ := id hx14
    refine z_getN hx hb hts hown zlX1 rfl 1 (by decide) (List.mem_of_getElem? (i := 0) rfl) rfl hI xrhx14 rfl dX2_replace_46 ?_
    refine lv_aload_n hx hb dX2_replace_49 rfl (lv_at hl 1 rfl) ?_
    refine z_getN hx hb hts hown zlX1 rfl 1 (by decide) (List.mem_of_getElem? (i := 0) rfl) rfl hI xrhx9 rfl dX2_replace_50 ?_
    refine lv_isub hx hb dX2_replace_53 ?_
    refine lv_imul hx hb dX2_replace_54 ?_
    have hT1 := tms_le (t := st σ i5) (n := sn σ i5) (q := pt σ 0) hq10
    have hT2 : tms (st σ i5) (sn σ i5) (pt σ 0) (pn σ 0) ≤ sn σ i5 := Nat.le_trans (Nat.le_mul_of_pos_right _ hq10) hT1
    refine z_xcallv hI (z_xS (As := [.ref (B0 + 11 + 2 * i5), .int ((nI ((zap (hld (st σ i5) (sn σ i5) (pt σ 0) (pn σ 0)) (pn σ 0) ((sn σ i5) + 1 - (pn σ 0))).1)) * ((nI (pn σ 1)) - (nI (pn σ 0))))]) (rest := []) ⟨hx, hb, hml, hown, hts⟩ hI (c_X2_requireRoom l hl0 G B0 F (B0 + 11 + 2 * i5) (B0 + 12 + 2 * i5) 60 (sn σ i5) (st σ i5) ((nI ((zap (hld (st σ i5) (sn σ i5) (pt σ 0) (pn σ 0)) (pn σ 0) ((sn σ i5) + 1 - (pn σ 0))).1)) * ((nI (pn σ 1)) - (nI (pn σ 0)))) ⟨xnhx8, xrhx8, fhx8, xwhx8, xfhx8⟩ (by decide)) (z_cwS vX2_requireRoom hts q149 ⟨Nat.le_of_ble_eq_true rfl, Nat.le_of_ble_eq_true rfl⟩) rfl hl.1 rfl (lv_room (Nat.le_of_ble_eq_true rfl)) dX2_replace_55 ⟨Nat.le_of_ble_eq_true rfl, Nat.le_of_ble_eq_true rfl⟩) (z_out hout hlocks (fun E hE => Or.inr (Or.inl ⟨hE.1, (by simp only [oA_replace, oB_replace, oC_replace, rr_replace, ss_replace, hix7] <;> exact ⟨i5, hi6, rfl⟩), fun q => hE.2 (by simp only [oA_replace, oB_replace, oC_replace, rr_replace, ss_replace, hix7] at q; exact (rp_room (T := tms (st σ i5) (sn σ i5) (pt σ 0) (pn σ 0)) (a := pn σ 0) (b := pn σ 1) (n := sn σ i5) (by omega) (by omega) (by omega) (by omega)).mpr q.2)⟩)) (Nat.le_of_ble_eq_true rfl) (Nat.le_of_ble_eq_true rfl)) (fun F15 H locs hp17 hI => ?_)
    obtain ⟨rfl, hrm⟩ := hp17
    have hfit := (rp_room (T := tms (st σ i5) (sn σ i5) (pt σ 0) (pn σ 0)) (a := pn σ 0) (b := pn σ 1) (n := sn σ i5) (by omega) (by omega) (by omega) (by omega)).mp hrm
    refine lv_aload_n hx hb dX2_replace_58 rfl (lv_at hl 3 rfl) ?_
    refine lv_aload_n hx hb dX2_replace_59 rfl (lv_at hl 2 rfl) ?_
    refine z_callv hI (z_V (As := [.ref (B0 + 11 + 2 * i5)]) (rest := []) ⟨hx, hb, hml, hown, hts⟩ hI y01 rfl (c_X2_draftReplaced l G B0 F σ i5 hC hi6 hq10 hfit) (z_cwV vX2_draftReplaced hts q376 ⟨Nat.le_of_ble_eq_true rfl, Nat.le_of_ble_eq_true rfl⟩) rfl hl.1 rfl (lv_room (Nat.le_of_ble_eq_true rfl)) dX2_replace_60 ⟨Nat.le_of_ble_eq_true rfl, Nat.le_of_ble_eq_true rfl⟩) (fun F18 H locs hp20 hI => ?_)
    obtain ⟨ha9, hs9⟩ := hp20
    have hC21 := CS.setW hC (Or.inl ⟨rfl, rfl, rfl⟩) hs9 ha9
    have hcf21 : zCf B0 F F18 := zCf.sm hs9 (by omega) (by omega)
    obtain ⟨y022, ⟨fa22, y122, e122⟩, ⟨fb22, y222, e222⟩, ⟨fc22, y322, e322⟩, ⟨n422, t422, y422⟩, ⟨n622, t622, y622⟩, ⟨n822, t822, y822⟩, ⟨fd22, y1022⟩, yT22, yP22⟩ := id hC21
    have hx23 := yT22 i5 hi6
    obtain ⟨xnhx23, xrhx23, fhx23, xwhx23, xfhx23⟩ := id hx23
    obtain ⟨xnd, xrd, fd, xwd, xfd⟩ := id ha9
    have hN := rpt_n (t := st σ i5) (q := pt σ 0) (q' := pt σ 1) (n := sn σ i5) (m' := pn σ 1) hq10
    refine lv_aload_n hx hb dX2_replace_63 rfl (lv_at hl 2 rfl) ?_
    refine lv_aload_n hx hb dX2_replace_64 rfl (lv_at hl 3 rfl) ?_
    refine z_get hx hb hts hown zlX2 rfl 3 (by decide) (hts _ q43) rfl hI y022 rfl dX2_replace_65 ?_
    refine z_callv hI (z_V (As := [.ref (B0 + 4)]) (rest := []) ⟨hx, hb, hml, hown, hts⟩ hI xrhx23 rfl (c_X1_become l G B0 F18 (B0 + 11 + 2 * i5) (B0 + 12 + 2 * i5) 60 (sn σ i5) (st σ i5) (B0 + 4) (B0 + 5) 60 ((rpl (hld (st σ i5) (sn σ i5) (pt σ 0) (pn σ 0)) (st σ i5) (pn σ 0) (pt σ 1) (pn σ 1) (sn σ i5)).1) ((rpl (hld (st σ i5) (sn σ i5) (pt σ 0) (pn σ 0)) (st σ i5) (pn σ 0) (pt σ 1) (pn σ 1) (sn σ i5)).2) ⟨xnhx23, xrhx23, fhx23, xwhx23, xfhx23⟩ (by omega) ⟨xnd, xrd, fd, xwd, xfd⟩ (by omega) (by omega) (by omega) (by omega)) (z_cwV vX1_become hts q386 ⟨Nat.le_of_ble_eq_true rfl, Nat.le_of_ble_eq_true rfl⟩) rfl hl.1 rfl (lv_room (Nat.le_of_ble_eq_true rfl)) dX2_replace_68 ⟨Nat.le_of_ble_eq_true rfl, Nat.le_of_ble_eq_true rfl⟩) (fun F24 H locs hp26 hI => ?_)
    obtain ⟨ha27, hs27⟩ := hp26
    have hc28 : F24 B0 = some (zO 2 [.ref (B0 + 1), .ref (B0 + 2), .ref (B0 + 3), .ref (B0 + 4), .ref (B0 + 6), .ref (B0 + 8), .ref (B0 + 10)]) := (hs27 _ (zne y022 xrhx23 (fun q => by cases q)) (zne y022 xwhx23 (fun q => by cases q))).trans y022
    have hc29 : F24 (B0 + 1) = some (zA1 G 4 fa22) := (hs27 _ (zne y122 xrhx23 (fun q => by cases q)) (by omega)).trans y122
    have hc30 : F24 (B0 + 2) = some (zA1 G 2 fb22) := (hs27 _ (zne y222 xrhx23 (fun q => by cases q)) (by omega)).trans y222
    have hc31 : F24 (B0 + 3) = some (zAI G 100 fc22) := (hs27 _ (zne y322 xrhx23 (fun q => by cases q)) (by omega)).trans y322
    have hc32 : F24 (B0 + 10) = some (zAI G 61 fd22) := (hs27 _ (zne y1022 xrhx23 (fun q => by cases q)) (by omega)).trans y1022
    have hc33 : F24 (B0 + 4) = some (zO 1 [.ref (B0 + 5), .int (nI ((rpl (hld (st σ i5) (sn σ i5) (pt σ 0) (pn σ 0)) (st σ i5) (pn σ 0) (pt σ 1) (pn σ 1) (sn σ i5)).1))]) := (hs27 _ (by omega) (zne xrd xwhx23 (fun q => by cases q))).trans xrd
    have hc34 : F24 (B0 + 5) = some (zAI G 60 fd) := (hs27 _ (zne xwd xrhx23 (fun q => by cases q)) (by omega)).trans xwd
    obtain ⟨xn_27, xr_27, f_27, xw_27, xf_27⟩ := id ha27
    refine lv_iload hx hb dX2_replace_71 (lv_at hl 0 rfl) ?_
    refine vx_ret (z_ri hx hb hr hlocks hI ?_ (Nat.le_of_ble_eq_true rfl) (Nat.le_of_ble_eq_true rfl) dX2_replace_73)
    refine ⟨_, rfl, (by simp only [oA_replace, oB_replace, oC_replace, rr_replace, ss_replace, hix7] <;> exact ⟨i5, hi6, rfl⟩), (by simp only [oA_replace, oB_replace, oC_replace, rr_replace, ss_replace, hix7] <;> exact ⟨hq10, hfit⟩), (by simp only [oA_replace, oB_replace, oC_replace, rr_replace, ss_replace, hix7] <;> exact trivial), (by simp only [oA_replace, oB_replace, oC_replace, rr_replace, ss_replace, hix7] <;> exact rfl), (by simp only [oA_replace, oB_replace, oC_replace, rr_replace, ss_replace, hix7] <;> exact (by have hz9 := CS.setT hC21 hi6 hs27 ⟨xn_27, xr_27, f_27, xw_27, xf_27⟩; rw [show (rpl (hld (st σ i5) (sn σ i5) (pt σ 0) (pn σ 0)) (st σ i5) (pn σ 0) (pt σ 1) (pn σ 1) (sn σ i5)).1 = sn σ i5 + tms (st σ i5) (sn σ i5) (pt σ 0) (pn σ 0) * pn σ 1 - tms (st σ i5) (sn σ i5) (pt σ 0) (pn σ 0) * pn σ 0 by omega] at hz9; exact hz9)), zCf.tr hcf21 (zCf.sm (a := B0 + 11 + 2 * i5) (b := B0 + 12 + 2 * i5) hs27 (by omega) (by omega))⟩
  · refine z_throw (cls := zES) hx hb hl0 hown hlocks hout hts zaX2_96 zbX2_96 q152 q9 (List.mem_of_getElem? (i := 0) rfl) (by decide +kernel) (List.mem_of_getElem? (i := 1) rfl) hI (hl.1.trans hml.symm) dX2_replace_20 dX2_replace_23 dX2_replace_24 dX2_replace_26 dX2_replace_29 ⟨Nat.le_of_ble_eq_true rfl, Nat.le_of_ble_eq_true rfl, Nat.le_of_ble_eq_true rfl, Nat.le_of_ble_eq_true rfl⟩ ?_ (Nat.le_of_ble_eq_true rfl) (Nat.le_of_ble_eq_true rfl)
    exact Or.inr (Or.inl ⟨rfl, (by simp only [oA_replace, oB_replace, oC_replace, rr_replace, ss_replace, hix7] <;> exact ⟨i5, hi6, rfl⟩), fun q => by simp only [oA_replace, oB_replace, oC_replace, rr_replace, ss_replace, hix7] at q; omega⟩)

