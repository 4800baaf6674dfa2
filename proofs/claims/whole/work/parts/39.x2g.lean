theorem zct_mono (P : Nat → Prop) {k : Nat} : ∀ {n : Nat}, k ≤ n → zct P k ≤ zct P n
  | 0, h => by rw [show k = 0 by omega]; exact Nat.le_refl _
  | n + 1, h => by
    by_cases q : k = n + 1
    · rw [q]; exact Nat.le_refl _
    · refine Nat.le_trans (zct_mono P (n := n) (by omega)) ?_
      by_cases e : P n
      · rw [zct_t e]; omega
      · rw [zct_f e]; exact Nat.le_refl _
theorem stV_i {σ : Sg} {w : Int32} {i k : Nat} (hk : k < 100) : stV σ w (100 * i + k) ↔ k < sn σ i ∧ st σ i k = w := by
  unfold stV
  rw [show (100 * i + k) % 100 = k by omega, show (100 * i + k) / 100 = i by omega]
theorem st_next {σ : Sg} {w : Int32} {i : Nat} (h : sn σ i ≤ 60) : zct (stV σ w) (100 * (i + 1)) = zct (stV σ w) (100 * i + sn σ i) :=
  zct_run (by omega) (fun j h1 h2 z => by
    obtain ⟨k, rfl⟩ : ∃ k, j = 100 * i + k := ⟨j - 100 * i, by omega⟩
    have := ((stV_i (by omega)).mp z).1
    omega)
theorem st_found {σ : Sg} {w : Int32} {q p : Nat} (hq : q < 400) (h : stV σ w q) (e : zct (stV σ w) q = p) : zfst (fun q => stV σ w q ∧ zct (stV σ w) q = p) 0 400 = some q ∧ p < zct (stV σ w) 400 := by
  have h1 : zct (stV σ w) (q + 1) = p + 1 := by rw [zct_t h, e]
  have h2 := zct_mono (stV σ w) (k := q + 1) (n := 400) (by omega)
  refine ⟨zfst_eq (P := fun q => stV σ w q ∧ zct (stV σ w) q = p) ⟨h, e⟩ (Nat.zero_le _) (by omega) (fun j _ hj z => ?_), by omega⟩
  have h3 : zct (stV σ w) (j + 1) = p + 1 := by rw [zct_t z.1, z.2]
  have h4 := zct_mono (stV σ w) (k := j + 1) (n := q) (by omega)
  omega
theorem st_none {σ : Sg} {w x : Int32} {a : Nat} (h : ∀ p, p < a → nI p ≠ x) (ha : a = zct (stV σ w) 400) (q : 0 ≤ x ∧ ix x < zct (stV σ w) 400) : False := by
  have hz := zct_le (stV σ w) 400
  obtain ⟨k, hk, rfl⟩ := nI_of (show ¬ x < 0 from fun z => by have h1 := q.1; rw [Int32.le_iff_toInt_le] at h1; rw [Int32.lt_iff_toInt_lt] at z; omega)
  rw [ix_nI hk] at q
  exact h k (by omega) rfl
theorem ne_up {x : Int32} {a : Nat} (h : ∀ p, p < a → nI p ≠ x) (h2 : nI a ≠ x) : ∀ p, p < a + 1 → nI p ≠ x := fun p hp => by
  by_cases e : p = a
  · subst e; exact h2
  · exact h p (by omega)
set_option maxHeartbeats 4000000 in
set_option maxRecDepth 100000 in
theorem c_X2_stands (l : Launch) (hl0 : l.stackTraces = false) (G : zK) (B0 : Nat) (F : zM) (σ : Sg) (zp0 zp1 : Int32) (hC : CS G B0 F σ) : vx_Met l yX2_stands (Cond.code yX2_stands cX2_stands 7 (some FieldType.int) :: zW) (zRm 7 110 2 12) (va_Pc [.ref B0, .int zp0, .int zp1] (zPre G B0 F)) (zQi G B0 (fun r' F' => oA_stands σ zp0 zp1 ∧ oB_stands σ zp0 zp1 ∧ oC_stands σ zp0 zp1 ∧ r' = rr_stands σ zp0 zp1 ∧ CS G B0 F' (ss_stands σ zp0 zp1) ∧ zCf B0 F F')) (zXC G B0 F (fun E => zPX zEI zEN "" (oA_stands σ zp0 zp1) (oB_stands σ zp0 zp1) (oC_stands σ zp0 zp1) E)) 2 12 (zA B0) := by
  refine z_ofx (own := RX2) (by decide) rfl (Nat.le_of_ble_eq_true rfl) ?_
  intro p e s m below meth c ls hx hb hr hml hown hlocks hout hts hl hI
  have hl : lv_has ls 7 [(0, .ref B0), (1, .int zp0), (2, .int zp1)] := hl
  obtain ⟨y01, ⟨fa1, y11, e11⟩, ⟨fb1, y21, e21⟩, ⟨fc1, y31, e31⟩, ⟨n41, t41, y41⟩, ⟨n61, t61, y61⟩, ⟨n81, t81, y81⟩, ⟨fd1, y101⟩, yT1, yP1⟩ := id hC
  refine lv_iload_n hx hb dX2_stands_0 rfl (lv_at hl 1 rfl) ?_
  refine z_xcallv hI (z_xS (As := [.int zp0]) (rest := []) ⟨hx, hb, hml, hown, hts⟩ hI (c_X2_requireWord l hl0 G B0 F zp0) (z_cwS vX2_requireWord hts q145 ⟨Nat.le_of_ble_eq_true rfl, Nat.le_of_ble_eq_true rfl⟩) rfl hl.1 rfl (lv_room (Nat.le_of_ble_eq_true rfl)) dX2_stands_1 ⟨Nat.le_of_ble_eq_true rfl, Nat.le_of_ble_eq_true rfl⟩) (z_out hout hlocks (fun E hE => Or.inl ⟨hE.1, fun q => hE.2 (by first | exact q | (simp only [oA_stands, oB_stands, oC_stands, rr_stands, ss_stands] at q; exact q))⟩) (Nat.le_of_ble_eq_true rfl) (Nat.le_of_ble_eq_true rfl)) (fun F2 H locs hp4 hI => ?_)
  obtain ⟨rfl, hp4⟩ := hp4
  refine lv_iconst (v := nI 0) hx hb dX2_stands_4 (by decide) ?_
  refine lv_istore_n (lv' := [(3, .int (nI 0)), (0, .ref B0), (1, .int zp0), (2, .int zp1)]) hx hb dX2_stands_5 rfl hl (by decide) rfl (fun ls hl => ?_)
  refine lv_iconst (v := nI 0) hx hb dX2_stands_6 (by decide) ?_
  refine lv_istore (lv' := [(4, .int (nI 0)), (3, .int (nI 0)), (0, .ref B0), (1, .int zp0), (2, .int zp1)]) hx hb dX2_stands_7 hl (by decide) rfl (fun ls hl => ?_)
  refine z_loop (σ := Nat × Nat) (fun xx : Nat × Nat => match xx with | (i, a) => [(0, .ref B0), (1, .int zp0), (2, .int zp1), (4, .int (nI i)), (3, .int (nI a))]) (fun (xx : Nat × Nat) (Fx : zM) => match xx with | (i, a) => F = Fx ∧ i ≤ 4 ∧ a = zct (stV σ zp0) (100 * i) ∧ ∀ p, p < a → nI p ≠ zp1) (fun xx : Nat × Nat => match xx with | (i, a) => 4 - i) (0, 0) (nL := 7) (st := []) ?_ (lv_sub hl [2, 3, 4, 0, 1] rfl) hI ?_
  · exact ⟨rfl, Nat.zero_le _, rfl, fun p hp => absurd hp (Nat.not_lt_zero _)⟩
  · intro xx F5 ls H locs hi hl hI ih
    obtain ⟨i, a⟩ := xx
    have hl : lv_has ls 7 [(0, .ref B0), (1, .int zp0), (2, .int zp1), (4, .int (nI i)), (3, .int (nI a))] := hl
    obtain ⟨hF, hi4, ha, hna⟩ := hi
    subst hF
    have hcn := zct_le (stV σ zp0) (100 * i)
    obtain ⟨y06, ⟨fa6, y16, e16⟩, ⟨fb6, y26, e26⟩, ⟨fc6, y36, e36⟩, ⟨n46, t46, y46⟩, ⟨n66, t66, y66⟩, ⟨n86, t86, y86⟩, ⟨fd6, y106⟩, yT6, yP6⟩ := id hC
    refine lv_iload hx hb dX2_stands_9 (lv_at hl 3 rfl) ?_
    refine lv_iconst (v := nI 4) hx hb dX2_stands_11 (by decide) ?_
    refine z_icmp_ge (tgt := 78) (a := i) (b := 4) hx hb dX2_stands_12 (by decide) (by omega) (fun hq7 => ?_) (fun hq7 => ?_)
    · refine z_throwN (cls := zEN) hx hb hl0 hown hlocks hout hts q431 q12 (List.mem_of_getElem? (i := 3) rfl) (by decide +kernel) (List.mem_of_getElem? (i := 3) rfl) hI (hl.1.trans hml.symm) dX2_stands_78 dX2_stands_81 dX2_stands_82 dX2_stands_84 dX2_stands_87 ⟨Nat.le_of_ble_eq_true rfl, Nat.le_of_ble_eq_true rfl, Nat.le_of_ble_eq_true rfl, Nat.le_of_ble_eq_true rfl⟩ ?_ (Nat.le_of_ble_eq_true rfl) (Nat.le_of_ble_eq_true rfl)
      exact Or.inr (Or.inl ⟨rfl, (by simp only [oA_stands, oB_stands, oC_stands, rr_stands, ss_stands] <;> exact hp4), fun q => by simp only [oA_stands, oB_stands, oC_stands, rr_stands, ss_stands] at q; exact st_none hna (show a = zct (stV σ zp0) 400 by rw [ha, show 100 * i = 400 by omega]) q⟩)
    · refine lv_aload_n hx hb dX2_stands_15 rfl (lv_at hl 0 rfl) ?_
      refine z_get hx hb hts hown zlX2 rfl 0 (by decide) (hts _ q40) rfl hI y06 rfl dX2_stands_16 ?_
      refine lv_iload hx hb dX2_stands_19 (lv_at hl 3 rfl) ?_
      refine z_ald1 (k := i) (v := B0 + 11 + 2 * i) hx hb hI y16 (by omega) (by omega) (e16 i (by omega)) dX2_stands_21 ?_
      have hx8 := yT6 i (by omega)
      obtain ⟨xnhx8, xrhx8, fhx8, xwhx8, xfhx8⟩ := id hx8
      refine lv_astore (lv' := [(5, .ref (B0 + 11 + 2 * i)), (0, .ref B0), (1, .int zp0), (2, .int zp1), (4, .int (nI i)), (3, .int (nI a))]) hx hb dX2_stands_22 hl (by decide) rfl (fun ls hl => ?_)
      refine lv_iconst (v := nI 0) hx hb dX2_stands_24 (by decide) ?_
      refine lv_istore (lv' := [(6, .int (nI 0)), (5, .ref (B0 + 11 + 2 * i)), (0, .ref B0), (1, .int zp0), (2, .int zp1), (4, .int (nI i)), (3, .int (nI a))]) hx hb dX2_stands_25 hl (by decide) rfl (fun ls hl => ?_)
      refine z_loop (σ := Nat × Nat) (fun xx : Nat × Nat => match xx with | (k, a) => [(0, .ref B0), (1, .int zp0), (2, .int zp1), (4, .int (nI i)), (5, .ref (B0 + 11 + 2 * i)), (6, .int (nI k)), (3, .int (nI a))]) (fun (xx : Nat × Nat) (Fx : zM) => match xx with | (k, a) => F = Fx ∧ k ≤ sn σ i ∧ a = zct (stV σ zp0) (100 * i + k) ∧ ∀ p, p < a → nI p ≠ zp1) (fun xx : Nat × Nat => match xx with | (k, a) => sn σ i - k) (0, a) (nL := 7) (st := []) ?_ (lv_sub hl [2, 3, 4, 5, 1, 0, 6] rfl) hI ?_
      · exact ⟨rfl, Nat.zero_le _, ha, hna⟩
      · intro xx F9 ls H locs hi hl hI ih27
        obtain ⟨k, a⟩ := xx
        have hl : lv_has ls 7 [(0, .ref B0), (1, .int zp0), (2, .int zp1), (4, .int (nI i)), (5, .ref (B0 + 11 + 2 * i)), (6, .int (nI k)), (3, .int (nI a))] := hl
        obtain ⟨hF, hk, ha2, hna2⟩ := hi
        subst hF
        have hcn2 := zct_le (stV σ zp0) (100 * i + k)
        obtain ⟨y010, ⟨fa10, y110, e110⟩, ⟨fb10, y210, e210⟩, ⟨fc10, y310, e310⟩, ⟨n410, t410, y410⟩, ⟨n610, t610, y610⟩, ⟨n810, t810, y810⟩, ⟨fd10, y1010⟩, yT10, yP10⟩ := id hC
        have hx11 := yT10 i (by omega)
        obtain ⟨xnhx11, xrhx11, fhx11, xwhx11, xfhx11⟩ := id hx11
        refine lv_iload hx hb dX2_stands_27 (lv_at hl 5 rfl) ?_
        refine lv_aload hx hb dX2_stands_29 (lv_at hl 4 rfl) ?_
        refine z_getN hx hb hts hown zlX1 rfl 1 (by decide) (List.mem_of_getElem? (i := 0) rfl) rfl hI xrhx11 rfl dX2_stands_31 ?_
        refine z_icmp_ge (tgt := 72) (a := k) (b := sn σ i) hx hb dX2_stands_34 (by decide) (by omega) (fun hq12 => ?_) (fun hq12 => ?_)
        · refine lv_iinc (k := 3) (v := nI (i + 1)) (lv' := [(4, .int (nI (i + 1))), (0, .ref B0), (1, .int zp0), (2, .int zp1), (5, .ref (B0 + 11 + 2 * i)), (6, .int (nI k)), (3, .int (nI a))]) hx hb dX2_stands_72 hl rfl (nI_add i 1) (by decide) rfl (fun ls hl => ?_)
          refine lv_goto (tgt := 9) hx hb dX2_stands_75 (by decide) ?_
          refine ih (i + 1, a) _ ls H locs (by first | omega | (dsimp only; omega)) ?_ (lv_sub hl [1, 2, 3, 0, 6] rfl) hI
          exact ⟨rfl, by omega, by rw [st_next (by omega), show sn σ i = k by omega]; exact ha2, hna2⟩
        · refine lv_aload hx hb dX2_stands_37 (lv_at hl 4 rfl) ?_
          refine z_getN hx hb hts hown zlX1 rfl 0 (by decide) (List.mem_of_getElem? (i := 1) rfl) rfl hI xrhx11 rfl dX2_stands_39 ?_
          refine lv_iload hx hb dX2_stands_42 (lv_at hl 5 rfl) ?_
          refine z_ild (k := k) (v := st σ i k) hx hb hI xwhx11 (by omega) (by omega) (xfhx11 k (by omega)) dX2_stands_44 ?_
          refine lv_iload_n hx hb dX2_stands_45 rfl (lv_at hl 1 rfl) ?_
          refine lv_icmp_ne (tgt := 66) hx hb dX2_stands_46 (by decide) (fun hq13 => ?_) (fun hq13 => ?_)
          · refine lv_iinc (k := 5) (v := nI (k + 1)) (lv' := [(6, .int (nI (k + 1))), (0, .ref B0), (1, .int zp0), (2, .int zp1), (4, .int (nI i)), (5, .ref (B0 + 11 + 2 * i)), (3, .int (nI a))]) hx hb dX2_stands_66 hl rfl (nI_add k 1) (by decide) rfl (fun ls hl => ?_)
            refine lv_goto (tgt := 27) hx hb dX2_stands_69 (by decide) ?_
            refine ih27 (k + 1, a) _ ls H locs (by first | omega | (dsimp only; omega)) ?_ (lv_sub hl [1, 2, 3, 4, 5, 0, 6] rfl) hI
            exact ⟨rfl, by omega, by rw [show 100 * i + (k + 1) = 100 * i + k + 1 by omega, zct_f (fun z => hq13 ((stV_i (by omega)).mp z).2)]; exact ha2, hna2⟩
          · refine lv_iload_n hx hb dX2_stands_49 rfl (lv_at hl 6 rfl) ?_
            refine lv_iload_n hx hb dX2_stands_50 rfl (lv_at hl 2 rfl) ?_
            refine lv_icmp_ne (tgt := 63) hx hb dX2_stands_51 (by decide) (fun hq14 => ?_) (fun hq14 => ?_)
            · refine lv_iinc (k := 6) (v := nI (a + 1)) (lv' := [(3, .int (nI (a + 1))), (0, .ref B0), (1, .int zp0), (2, .int zp1), (4, .int (nI i)), (5, .ref (B0 + 11 + 2 * i)), (6, .int (nI k))]) hx hb dX2_stands_63 hl rfl (nI_add a 1) (by decide) rfl (fun ls hl => ?_)
              refine lv_iinc (k := 6) (v := nI (k + 1)) (lv' := [(6, .int (nI (k + 1))), (3, .int (nI (a + 1))), (0, .ref B0), (1, .int zp0), (2, .int zp1), (4, .int (nI i)), (5, .ref (B0 + 11 + 2 * i))]) hx hb dX2_stands_66 hl rfl (nI_add k 1) (by decide) rfl (fun ls hl => ?_)
              refine lv_goto (tgt := 27) hx hb dX2_stands_69 (by decide) ?_
              refine ih27 (k + 1, a + 1) _ ls H locs (by first | omega | (dsimp only; omega)) ?_ (lv_sub hl [2, 3, 4, 5, 6, 0, 1] rfl) hI
              exact ⟨rfl, by omega, by rw [show 100 * i + (k + 1) = 100 * i + k + 1 by omega, zct_t ((stV_i (by omega)).mpr ⟨by omega, hq13⟩), ha2], ne_up hna2 hq14⟩
            · refine lv_iload hx hb dX2_stands_54 (lv_at hl 3 rfl) ?_
              refine lv_bipush (v := nI 100) hx hb dX2_stands_56 (by decide) ?_
              refine lv_imul hx hb dX2_stands_58 ?_
              refine z_topi (pk_mul i 100) ?_
              refine lv_iload hx hb dX2_stands_59 (lv_at hl 5 rfl) ?_
              refine lv_iadd hx hb dX2_stands_61 ?_
              refine z_topi (nI_add (i * 100) k) ?_
              refine vx_ret (z_ri hx hb hr hlocks hI ?_ (Nat.le_of_ble_eq_true rfl) (Nat.le_of_ble_eq_true rfl) dX2_stands_62)
              have hxa : ix zp1 = a := by rw [← hq14]; exact ix_nI (by omega)
              obtain ⟨hz1, hz2⟩ := st_found (σ := σ) (w := zp0) (q := 100 * i + k) (p := a) (by omega) ((stV_i (by omega)).mpr ⟨by omega, hq13⟩) ha2.symm
              refine ⟨_, rfl, (by simp only [oA_stands, oB_stands, oC_stands, rr_stands, ss_stands] <;> exact hp4), (by simp only [oA_stands, oB_stands, oC_stands, rr_stands, ss_stands] <;> exact ⟨by rw [← hq14]; exact nI_pos' (by omega), by rw [hxa]; exact hz2⟩), trivial, (by simp only [oA_stands, oB_stands, oC_stands, rr_stands, ss_stands] <;> (rw [hxa, hz1, show (i * 100) + k = 100 * i + k by omega]; rfl)), (by simp only [oA_stands, oB_stands, oC_stands, rr_stands, ss_stands] <;> exact hC), zCf.rf⟩

theorem sc_in {x : Int32} {k : Nat} (hk : k ≤ 100) (h : ¬ x < nI 0) (h2 : x ≤ nI k) : ∃ m, m ≤ k ∧ x = nI m := by
  obtain ⟨j, hj, rfl⟩ := nI_of h
  exact ⟨j, (nI_leI hj (by omega)).mp h2, rfl⟩
theorem sc_in1 {x : Int32} {k : Nat} (hk : k ≤ 100) (h : ¬ x < nI 1) (h2 : x ≤ nI k) : ∃ m, 0 < m ∧ m ≤ k ∧ x = nI m := by
  obtain ⟨j, hj, rfl⟩ := nI_of (show ¬ x < 0 from fun q => h (by
    rw [Int32.lt_iff_toInt_lt] at q ⊢
    have h1 : (0 : Int32).toInt = 0 := rfl
    have h2 : (nI 1).toInt = 1 := rfl
    omega))
  exact ⟨j, Nat.pos_of_ne_zero fun e => h (by subst e; decide), (nI_leI hj (by omega)).mp h2, rfl⟩
theorem sc_nz {r : Nat} (h : 0 < r) (h2 : r < 2 ^ 31) : lN r ≠ 0 := fun e => by
  have := (pk_lEQ (a := r) (b := 0) (by omega) (by decide)).mp e
  omega
set_option maxHeartbeats 4000000 in
set_option maxRecDepth 100000 in
theorem c_X2_scatter (l : Launch) (hl0 : l.stackTraces = false) (G : zK) (B0 : Nat) (F : zM) (σ : Sg) (zp0 zp1 zp2 zp3 : Int32) (hC : CS G B0 F σ) : vx_Met l yX2_scatter (Cond.code yX2_scatter cX2_scatter 9 (some FieldType.int) :: zW) (zRm 7 112 5 30) (va_Pc [.ref B0, .int zp0, .int zp1, .int zp2, .int zp3] (zPre G B0 F)) (zQi G B0 (fun r' F' => oA_scatter σ zp0 zp1 zp2 zp3 ∧ oB_scatter σ zp0 zp1 zp2 zp3 ∧ oC_scatter σ zp0 zp1 zp2 zp3 ∧ r' = rr_scatter σ zp0 zp1 zp2 zp3 ∧ CS G B0 F' (ss_scatter σ zp0 zp1 zp2 zp3) ∧ zCf B0 F F')) (zXC G B0 F (fun E => zPX zEI zEA zES (oA_scatter σ zp0 zp1 zp2 zp3) (oB_scatter σ zp0 zp1 zp2 zp3) (oC_scatter σ zp0 zp1 zp2 zp3) E)) 5 30 (zA B0) := by
  refine z_ofx (own := RX2) (by decide) rfl (Nat.le_of_ble_eq_true rfl) ?_
  intro p e s m below meth c ls hx hb hr hml hown hlocks hout hts hl hI
  have hl : lv_has ls 9 [(0, .ref B0), (1, .int zp0), (2, .int zp1), (3, .int zp2), (4, .int zp3)] := hl
  obtain ⟨y01, ⟨fa1, y11, e11⟩, ⟨fb1, y21, e21⟩, ⟨fc1, y31, e31⟩, ⟨n41, t41, y41⟩, ⟨n61, t61, y61⟩, ⟨n81, t81, y81⟩, ⟨fd1, y101⟩, yT1, yP1⟩ := id hC
  refine lv_aload_n hx hb dX2_scatter_0 rfl (lv_at hl 0 rfl) ?_
  refine lv_iload_n hx hb dX2_scatter_1 rfl (lv_at hl 1 rfl) ?_
  refine z_xcallr hI (z_xV (As := [.int zp0]) (rest := []) ⟨hx, hb, hml, hown, hts⟩ hI y01 rfl (c_X2_textAt l hl0 G B0 F σ zp0 hC) (z_cwV vX2_textAt hts q71 ⟨Nat.le_of_ble_eq_true rfl, Nat.le_of_ble_eq_true rfl⟩) rfl hl.1 rfl (lv_room (Nat.le_of_ble_eq_true rfl)) dX2_scatter_2 ⟨Nat.le_of_ble_eq_true rfl, Nat.le_of_ble_eq_true rfl⟩) (z_out hout hlocks (fun E hE => Or.inl ⟨hE.1, fun q => hE.2 (by first | exact q | (simp only [oA_scatter, oB_scatter, oC_scatter, rr_scatter, ss_scatter] at q; exact q))⟩) (Nat.le_of_ble_eq_true rfl) (Nat.le_of_ble_eq_true rfl)) (fun r3 F2 H locs hp4 hI => ?_)
  obtain ⟨rfl, i5, hi6, rfl, rfl⟩ := hp4
  have hix7 : ix (nI i5) = i5 := ix_nI (by omega)
  have hl : lv_has ls 9 [(0, .ref B0), (1, .int (nI i5)), (2, .int zp1), (3, .int zp2), (4, .int zp3)] := hl
  have hx8 := yT1 i5 hi6
  obtain ⟨xnhx8, xrhx8, fhx8, xwhx8, xfhx8⟩ := id hx8
  refine lv_astore (lv' := [(5, .ref (B0 + 11 + 2 * i5)), (0, .ref B0), (1, .int (nI i5)), (2, .int zp1), (3, .int zp2), (4, .int zp3)]) hx hb dX2_scatter_5 hl (by decide) rfl (fun ls hl => ?_)
  refine lv_iload_n hx hb dX2_scatter_7 rfl (lv_at hl 3 rfl) ?_
  refine lv_iconst (v := nI 0) hx hb dX2_scatter_8 (by decide) ?_
  refine lv_bipush (v := nI 60) hx hb dX2_scatter_9 (by decide) ?_
  refine z_xcallv hI (z_xS (As := [.int zp1, .int (nI 0), .int (nI 60)]) (rest := []) ⟨hx, hb, hml, hown, hts⟩ hI (c_X2_requireWithin l hl0 G B0 F zp1 (nI 0) (nI 60)) (z_cwS vX2_requireWithin hts q206 ⟨Nat.le_of_ble_eq_true rfl, Nat.le_of_ble_eq_true rfl⟩) rfl hl.1 rfl (lv_room (Nat.le_of_ble_eq_true rfl)) dX2_scatter_11 ⟨Nat.le_of_ble_eq_true rfl, Nat.le_of_ble_eq_true rfl⟩) (z_out hout hlocks (fun E hE => Or.inr (Or.inl ⟨hE.1, (by simp only [oA_scatter, oB_scatter, oC_scatter, rr_scatter, ss_scatter, hix7] <;> exact ⟨i5, hi6, rfl⟩), fun q => hE.2 (by simp only [oA_scatter, oB_scatter, oC_scatter, rr_scatter, ss_scatter, hix7] at q; exact q.1)⟩)) (Nat.le_of_ble_eq_true rfl) (Nat.le_of_ble_eq_true rfl)) (fun F9 H locs hp11 hI => ?_)
  obtain ⟨rfl, hp11, hp11b⟩ := hp11
  obtain ⟨mm, hmm, rfl⟩ := sc_in (k := 60) (by decide) hp11 hp11b
  have hw1 := And.intro hp11 hp11b
  have hix12 : ix (nI mm) = mm := ix_nI (by omega)
  have hl : lv_has ls 9 [(5, .ref (B0 + 11 + 2 * i5)), (0, .ref B0), (1, .int (nI i5)), (2, .int (nI mm)), (3, .int zp2), (4, .int zp3)] := hl
  refine lv_iload_n hx hb dX2_scatter_14 rfl (lv_at hl 4 rfl) ?_
  refine lv_iconst (v := nI 1) hx hb dX2_scatter_15 (by decide) ?_
  refine lv_bipush (v := nI 100) hx hb dX2_scatter_16 (by decide) ?_
  refine z_xcallv hI (z_xS (As := [.int zp2, .int (nI 1), .int (nI 100)]) (rest := []) ⟨hx, hb, hml, hown, hts⟩ hI (c_X2_requireWithin l hl0 G B0 F zp2 (nI 1) (nI 100)) (z_cwS vX2_requireWithin hts q206 ⟨Nat.le_of_ble_eq_true rfl, Nat.le_of_ble_eq_true rfl⟩) rfl hl.1 rfl (lv_room (Nat.le_of_ble_eq_true rfl)) dX2_scatter_18 ⟨Nat.le_of_ble_eq_true rfl, Nat.le_of_ble_eq_true rfl⟩) (z_out hout hlocks (fun E hE => Or.inr (Or.inl ⟨hE.1, (by simp only [oA_scatter, oB_scatter, oC_scatter, rr_scatter, ss_scatter, hix7, hix12] <;> exact ⟨i5, hi6, rfl⟩), fun q => hE.2 (by simp only [oA_scatter, oB_scatter, oC_scatter, rr_scatter, ss_scatter, hix7, hix12] at q; exact q.2.1)⟩)) (Nat.le_of_ble_eq_true rfl) (Nat.le_of_ble_eq_true rfl)) (fun F13 H locs hp15 hI => ?_)
  obtain ⟨rfl, hp15, hp15b⟩ := hp15
  have hw2 := And.intro hp15 hp15b
  obtain ⟨rr9, hr1, hr2, rfl⟩ := sc_in1 (k := 100) (by decide) hp15 hp15b
  have hix16 : ix (nI rr9) = rr9 := ix_nI (by omega)
  have hl : lv_has ls 9 [(5, .ref (B0 + 11 + 2 * i5)), (0, .ref B0), (1, .int (nI i5)), (2, .int (nI mm)), (3, .int (nI rr9)), (4, .int zp3)] := hl
  refine lv_iload hx hb dX2_scatter_21 (lv_at hl 5 rfl) ?_
  refine z_xcallv hI (z_xS (As := [.int zp3]) (rest := []) ⟨hx, hb, hml, hown, hts⟩ hI (c_X2_requireNotNegative l hl0 G B0 F zp3) (z_cwS vX2_requireNotNegative hts q180 ⟨Nat.le_of_ble_eq_true rfl, Nat.le_of_ble_eq_true rfl⟩) rfl hl.1 rfl (lv_room (Nat.le_of_ble_eq_true rfl)) dX2_scatter_23 ⟨Nat.le_of_ble_eq_true rfl, Nat.le_of_ble_eq_true rfl⟩) (z_out hout hlocks (fun E hE => Or.inr (Or.inl ⟨hE.1, (by simp only [oA_scatter, oB_scatter, oC_scatter, rr_scatter, ss_scatter, hix7, hix12, hix16] <;> exact ⟨i5, hi6, rfl⟩), fun q => hE.2 (by simp only [oA_scatter, oB_scatter, oC_scatter, rr_scatter, ss_scatter, hix7, hix12, hix16] at q; exact q.2.2)⟩)) (Nat.le_of_ble_eq_true rfl) (Nat.le_of_ble_eq_true rfl)) (fun F17 H locs hp19 hI => ?_)
  obtain ⟨rfl, hp19⟩ := hp19
  have hw3 := hp19
  obtain ⟨ss9, hss, rfl⟩ := nI_of (show ¬ zp3 < 0 from fun q => by rw [Int32.lt_iff_toInt_lt] at q; rw [Int32.le_iff_toInt_le] at hp19; omega)
  have hix20 : ix (nI ss9) = ss9 := ix_nI (by omega)
  have hl : lv_has ls 9 [(5, .ref (B0 + 11 + 2 * i5)), (0, .ref B0), (1, .int (nI i5)), (2, .int (nI mm)), (3, .int (nI rr9)), (4, .int (nI ss9))] := hl
  refine lv_aload hx hb dX2_scatter_26 (lv_at hl 0 rfl) ?_
  refine lv_iload_n hx hb dX2_scatter_28 rfl (lv_at hl 3 rfl) ?_
  refine z_xcallv hI (z_xS (As := [.ref (B0 + 11 + 2 * i5), .int (nI mm)]) (rest := []) ⟨hx, hb, hml, hown, hts⟩ hI (c_X2_requireRoom l hl0 G B0 F (B0 + 11 + 2 * i5) (B0 + 12 + 2 * i5) 60 (sn σ i5) (st σ i5) (nI mm) ⟨xnhx8, xrhx8, fhx8, xwhx8, xfhx8⟩ (by decide)) (z_cwS vX2_requireRoom hts q149 ⟨Nat.le_of_ble_eq_true rfl, Nat.le_of_ble_eq_true rfl⟩) rfl hl.1 rfl (lv_room (Nat.le_of_ble_eq_true rfl)) dX2_scatter_29 ⟨Nat.le_of_ble_eq_true rfl, Nat.le_of_ble_eq_true rfl⟩) (z_out hout hlocks (fun E hE => Or.inr (Or.inr ⟨hE.1, (by simp only [oA_scatter, oB_scatter, oC_scatter, rr_scatter, ss_scatter, hix7, hix12, hix16, hix20] <;> exact ⟨i5, hi6, rfl⟩), (by simp only [oA_scatter, oB_scatter, oC_scatter, rr_scatter, ss_scatter, hix7, hix12, hix16, hix20] <;> exact ⟨hw1, hw2, hw3⟩), fun q => hE.2 (by simp only [oA_scatter, oB_scatter, oC_scatter, rr_scatter, ss_scatter, hix7, hix12, hix16, hix20] at q; exact q)⟩)) (Nat.le_of_ble_eq_true rfl) (Nat.le_of_ble_eq_true rfl)) (fun F21 H locs hp23 hI => ?_)
  obtain ⟨rfl, hrm⟩ := hp23
  have hrn := (nI_leI (by omega) (by omega)).mp hrm
  refine lv_iload hx hb dX2_scatter_32 (lv_at hl 5 rfl) ?_
  refine lv_i2l hx hb dX2_scatter_34 rfl ?_
  refine z_top (congrArg Value.long (nI_l (n := ss9) (by omega))) ?_
  refine lv_lstore (lv' := [(6, .long (lN ss9)), (5, .ref (B0 + 11 + 2 * i5)), (0, .ref B0), (1, .int (nI i5)), (2, .int (nI mm)), (3, .int (nI rr9)), (4, .int (nI ss9))]) hx hb dX2_scatter_35 hl (by decide) rfl (fun ls hl => ?_)
  refine lv_iconst (v := nI 0) hx hb dX2_scatter_37 (by decide) ?_
  refine lv_istore (lv' := [(8, .int (nI 0)), (6, .long (lN ss9)), (5, .ref (B0 + 11 + 2 * i5)), (0, .ref B0), (1, .int (nI i5)), (2, .int (nI mm)), (3, .int (nI rr9)), (4, .int (nI ss9))]) hx hb dX2_scatter_38 hl (by decide) rfl (fun ls hl => ?_)
  refine z_loop (σ := Nat × Int64) (fun xx : Nat × Int64 => match xx with | (k, x) => [(0, .ref B0), (1, .int (nI i5)), (2, .int (nI mm)), (3, .int (nI rr9)), (4, .int (nI ss9)), (5, .ref (B0 + 11 + 2 * i5)), (8, .int (nI k)), (6, .long x)]) (fun (xx : Nat × Int64) (Fx : zM) => match xx with | (k, x) => RA G 1 Fx (B0 + 11 + 2 * i5) (B0 + 12 + 2 * i5) 60 (sn σ i5 + k) (catt (st σ i5) (sn σ i5) (scw rr9 ss9)) ∧ zSm F Fx (B0 + 11 + 2 * i5) (B0 + 12 + 2 * i5) ∧ k ≤ mm ∧ x = lN (lcg ss9 k)) (fun xx : Nat × Int64 => match xx with | (k, x) => mm - k) (0, lN ss9) (nL := 9) (st := []) ?_ (lv_sub hl [3, 4, 5, 6, 7, 2, 0, 1] rfl) hI ?_
  · exact ⟨RA.cg ⟨xnhx8, xrhx8, fhx8, xwhx8, xfhx8⟩ (fun j hj => (catt_lo (by omega)).symm), zSm.rf, Nat.zero_le _, rfl⟩
  · intro xx F24 ls H locs hi hl hI ih
    obtain ⟨k, x⟩ := xx
    have hl : lv_has ls 9 [(0, .ref B0), (1, .int (nI i5)), (2, .int (nI mm)), (3, .int (nI rr9)), (4, .int (nI ss9)), (5, .ref (B0 + 11 + 2 * i5)), (8, .int (nI k)), (6, .long x)] := hl
    obtain ⟨ha0, hs0, hk, hxx⟩ := hi
    obtain ⟨xn_, xr_, f_, xw_, xf_⟩ := id ha0
    have hlc := lcg_lt (s := ss9) (by omega) k
    have hlc1 := lcg_lt (s := ss9) (by omega) (k + 1)
    refine lv_iload hx hb dX2_scatter_40 (lv_at hl 6 rfl) ?_
    refine lv_iload_n hx hb dX2_scatter_42 rfl (lv_at hl 2 rfl) ?_
    refine z_icmp_ge (tgt := 83) (a := k) (b := mm) hx hb dX2_scatter_43 (by decide) (by omega) (fun hq25 => ?_) (fun hq25 => ?_)
    · refine lv_aload hx hb dX2_scatter_83 (lv_at hl 5 rfl) ?_
      refine z_getN hx hb hts hown zlX1 rfl 1 (by decide) (List.mem_of_getElem? (i := 0) rfl) rfl hI xr_ rfl dX2_scatter_85 ?_
      refine vx_ret (z_ri hx hb hr hlocks hI ?_ (Nat.le_of_ble_eq_true rfl) (Nat.le_of_ble_eq_true rfl) dX2_scatter_88)
      have hkn : k = mm := by omega
      refine ⟨_, rfl, (by simp only [oA_scatter, oB_scatter, oC_scatter, rr_scatter, ss_scatter, hix7, hix12, hix16, hix20] <;> exact ⟨i5, hi6, rfl⟩), (by simp only [oA_scatter, oB_scatter, oC_scatter, rr_scatter, ss_scatter, hix7, hix12, hix16, hix20] <;> exact ⟨hw1, hw2, hw3⟩), (by simp only [oA_scatter, oB_scatter, oC_scatter, rr_scatter, ss_scatter, hix7, hix12, hix16, hix20] <;> exact hrm), (by simp only [oA_scatter, oB_scatter, oC_scatter, rr_scatter, ss_scatter, hix7, hix12, hix16, hix20] <;> (rw [hkn])), (by simp only [oA_scatter, oB_scatter, oC_scatter, rr_scatter, ss_scatter, hix7, hix12, hix16, hix20] <;> exact CS.setT hC hi6 hs0 (hkn ▸ ha0)), zCf.sm hs0 (by omega) (by omega)⟩
    · refine lv_lload hx hb dX2_scatter_46 (lv_at hl 7 rfl) ?_
      refine lv_ldc2 (v := 1103515245) hx hb hown (hts _ q210) dX2_scatter_48 ?_
      refine lv_lmul hx hb dX2_scatter_51 ?_
      refine lv_ldc2 (v := 12345) hx hb hown (hts _ q211) dX2_scatter_52 ?_
      refine lv_ladd hx hb dX2_scatter_55 ?_
      refine lv_ldc2 (v := 2147483647) hx hb hown (hts _ q212) dX2_scatter_56 ?_
      refine lv_land hx hb dX2_scatter_59 ?_
      refine z_top (congrArg Value.long (show _ = lN (lcg ss9 (k + 1)) from by rw [hxx]; exact lcg_and hlc)) ?_
      refine lv_lstore (lv' := [(6, .long (lN (lcg ss9 (k + 1)))), (0, .ref B0), (1, .int (nI i5)), (2, .int (nI mm)), (3, .int (nI rr9)), (4, .int (nI ss9)), (5, .ref (B0 + 11 + 2 * i5)), (8, .int (nI k))]) hx hb dX2_scatter_60 hl (by decide) rfl (fun ls hl => ?_)
      refine lv_aload hx hb dX2_scatter_62 (lv_at hl 6 rfl) ?_
      refine lv_lload hx hb dX2_scatter_64 (lv_at hl 0 rfl) ?_
      refine lv_ldc2 (v := 65536) hx hb hown (hts _ q213) dX2_scatter_66 ?_
      refine lv_ldiv hx hb dX2_scatter_69 (by decide) ?_
      refine z_top (congrArg Value.long (show _ = lN (lcg ss9 (k + 1) / 65536) from pk_lDiv (by omega) (by decide) (by decide))) ?_
      refine lv_iload_n hx hb dX2_scatter_70 rfl (lv_at hl 4 rfl) ?_
      refine lv_i2l hx hb dX2_scatter_71 rfl ?_
      refine z_top (congrArg Value.long (nI_l (n := rr9) (by omega))) ?_
      refine lv_lrem hx hb dX2_scatter_72 (sc_nz hr1 (by omega)) ?_
      refine z_top (congrArg Value.long (pk_lRem (a := lcg ss9 (k + 1) / 65536) (b := rr9) (by omega) hr1 (by omega))) ?_
      refine lv_l2i hx hb dX2_scatter_73 rfl ?_
      refine z_topi (show _ = scw rr9 ss9 k from lN_i _) ?_
      refine z_callv hI (z_V (As := [.int (scw rr9 ss9 k)]) (rest := []) ⟨hx, hb, hml, hown, hts⟩ hI xr_ rfl (c_X1_append l G B0 F24 (B0 + 11 + 2 * i5) (B0 + 12 + 2 * i5) 60 (sn σ i5 + k) (catt (st σ i5) (sn σ i5) (scw rr9 ss9)) (scw rr9 ss9 k) ⟨xn_, xr_, f_, xw_, xf_⟩ (by omega) (by omega)) (z_cwV vX1_append hts q168 ⟨Nat.le_of_ble_eq_true rfl, Nat.le_of_ble_eq_true rfl⟩) rfl hl.1 rfl (lv_room (Nat.le_of_ble_eq_true rfl)) dX2_scatter_74 ⟨Nat.le_of_ble_eq_true rfl, Nat.le_of_ble_eq_true rfl⟩) (fun F26 H locs hp28 hI => ?_)
      obtain ⟨ha29, hs29⟩ := hp28
      obtain ⟨xn_29, xr_29, f_29, xw_29, xf_29⟩ := id ha29
      refine lv_iinc (k := 7) (v := nI (k + 1)) (lv' := [(8, .int (nI (k + 1))), (6, .long (lN (lcg ss9 (k + 1)))), (0, .ref B0), (1, .int (nI i5)), (2, .int (nI mm)), (3, .int (nI rr9)), (4, .int (nI ss9)), (5, .ref (B0 + 11 + 2 * i5))]) hx hb dX2_scatter_77 hl rfl (nI_add k 1) (by decide) rfl (fun ls hl => ?_)
      refine lv_goto (tgt := 40) hx hb dX2_scatter_80 (by decide) ?_
      refine ih (k + 1, lN (lcg ss9 (k + 1))) _ ls H locs (by first | omega | (dsimp only; omega)) ?_ (lv_sub hl [2, 3, 4, 5, 6, 7, 0, 1] rfl) hI
      refine ⟨RA.cg ha29 (fun j hj => ?_), (zSm.tr hs0 hs29), by omega, rfl⟩
      by_cases q : j = sn σ i5 + k
      · subst q; rw [pk_us, catt_hi]
      · rw [pk_un q]

