set_option maxHeartbeats 4000000 in
set_option maxRecDepth 100000 in
theorem c_X2_clearRuns (l : Launch) (G : zK) (B0 : Nat) (F : zM) (f : Nat → Int32) (hB : F B0 = some (zO 2 [.ref (B0 + 1), .ref (B0 + 2), .ref (B0 + 3), .ref (B0 + 4), .ref (B0 + 6), .ref (B0 + 8), .ref (B0 + 10)])) (hf : F (B0 + 10) = some (zAI G 61 f)) : Met l yX2_clearRuns (Cond.code yX2_clearRuns cX2_clearRuns 2 none :: zW) (zRm 0 0 0 0) (va_Pc [.ref B0] (zPre G B0 F)) (zQv G B0 (fun F' => (∃ f', F' (B0 + 10) = some (zAI G 61 f') ∧ ∀ j, j < 61 → f' j = nI 0) ∧ ∀ q, q ≠ B0 + 10 → F' q = F q)) 0 0 (zA B0) := by
  refine z_of (own := RX2) (by decide) rfl (Nat.le_of_ble_eq_true rfl) ?_
  intro p e s m below meth c ls hx hb hr hml hown hlocks hnm hts hl hI
  have hl : lv_has ls 2 [(0, .ref B0)] := hl
  refine lv_iconst (v := nI 0) hx hb dX2_clearRuns_0 (by decide) ?_
  refine lv_istore_n (lv' := [(1, .int (nI 0)), (0, .ref B0)]) hx hb dX2_clearRuns_1 rfl hl (by decide) rfl (fun ls hl => ?_)
  refine z_loop (σ := Nat) (fun k : Nat => [(0, .ref B0), (1, .int (nI k))]) (fun (k : Nat) (Fx : zM) => (∃ f, Fx (B0 + 10) = some (zAI G 61 f) ∧ ∀ j, j < k → f j = nI 0) ∧ (∀ q, q ≠ B0 + 10 → Fx q = F q) ∧ k ≤ 61) (fun k : Nat => 61 - k) 0 (nL := 2) (st := []) ?_ (lv_sub hl [1, 0] rfl) hI ?_
  · exact ⟨⟨_, hf, fun j hj => absurd hj (Nat.not_lt_zero _)⟩, fun q _ => rfl, Nat.zero_le _⟩
  · intro k F1 ls H locs hi hl hI ih
    have hl : lv_has ls 2 [(0, .ref B0), (1, .int (nI k))] := hl
    obtain ⟨⟨f1, hf1, hz1⟩, ho1, hk⟩ := hi
    have hB0 := (ho1 _ (by omega)).trans hB
    refine lv_iload_n hx hb dX2_clearRuns_2 rfl (lv_at hl 1 rfl) ?_
    refine lv_aload_n hx hb dX2_clearRuns_3 rfl (lv_at hl 0 rfl) ?_
    refine z_get hx hb hts hown zlX2 rfl 6 (by decide) (hts _ q46) rfl hI hB0 rfl dX2_clearRuns_4 ?_
    refine z_alenI hx hb hI hf1 dX2_clearRuns_7 ?_
    refine z_icmp_ge (tgt := 24) (a := k) (b := 61) hx hb dX2_clearRuns_8 (by decide) (by omega) (fun hq2 => ?_) (fun hq2 => ?_)
    · refine z_rv hx hb hr hlocks hI ?_ (Nat.le_of_ble_eq_true rfl) (Nat.le_of_ble_eq_true rfl) dX2_clearRuns_24
      have hkn : k = 61 := by omega
      subst hkn
      exact ⟨rfl, ⟨_, hf1, hz1⟩, ho1⟩
    · refine lv_aload_n hx hb dX2_clearRuns_11 rfl (lv_at hl 0 rfl) ?_
      refine z_get hx hb hts hown zlX2 rfl 6 (by decide) (hts _ q46) rfl hI hB0 rfl dX2_clearRuns_12 ?_
      refine lv_iload_n hx hb dX2_clearRuns_15 rfl (lv_at hl 1 rfl) ?_
      refine lv_iconst (v := nI 0) hx hb dX2_clearRuns_16 (by decide) ?_
      refine z_ist (k := k) hx hb hI hf1 (by omega) (by omega) dX2_clearRuns_17 (fun H locs F3 hw4 ho5 hI => ?_)
      have hc6 : F3 B0 = some (zO 2 [.ref (B0 + 1), .ref (B0 + 2), .ref (B0 + 3), .ref (B0 + 4), .ref (B0 + 6), .ref (B0 + 8), .ref (B0 + 10)]) := (ho5 _ (zne hB0 hf1 (fun q => by cases q))).trans hB0
      refine lv_iinc (k := 1) (v := nI (k + 1)) (lv' := [(1, .int (nI (k + 1))), (0, .ref B0)]) hx hb dX2_clearRuns_18 hl rfl (nI_add k 1) (by decide) rfl (fun ls hl => ?_)
      refine lv_goto (tgt := 2) hx hb dX2_clearRuns_21 (by decide) ?_
      refine ih (k + 1) _ ls H locs (by first | omega | (dsimp only; omega)) ?_ (lv_sub hl [1, 0] rfl) hI
      refine ⟨⟨_, hw4, fun j hj => ?_⟩, fun q hq => (ho5 q hq).trans (ho1 q hq), by omega⟩
      by_cases e : j = k
      · subst e; exact pk_us
      · rw [pk_un e]; exact hz1 j (by omega)

set_option maxHeartbeats 4000000 in
set_option maxRecDepth 100000 in
theorem c_X2_longestRunFrom (l : Launch) (G : zK) (B0 : Nat) (F : zM) (r w cap n : Nat) (t : Nat → Int32) (r2 w2 cap2 n2 : Nat) (t2 : Nat → Int32) (f : Nat → Int32) (p9 : Nat) (hB : F B0 = some (zO 2 [.ref (B0 + 1), .ref (B0 + 2), .ref (B0 + 3), .ref (B0 + 4), .ref (B0 + 6), .ref (B0 + 8), .ref (B0 + 10)])) (hf : F (B0 + 10) = some (zAI G 61 f)) (h : RA G 1 F r w cap n t) (hcap : cap ≤ 60) (h2 : RA G 1 F r2 w2 cap2 n2 t2) (hcap2 : cap2 ≤ 60) (hr10 : r ≠ B0 + 10) (hw10 : w ≠ B0 + 10) (hr20 : r2 ≠ B0 + 10) (hw20 : w2 ≠ B0 + 10) (hp9 : p9 < n) (hu : ∀ j, j ≤ 60 → f j = nI (lc t n t2 n2 (p9 + 1) j)) : Met l yX2_longestRunFrom (Cond.code yX2_longestRunFrom cX2_longestRunFrom 7 (some FieldType.int) :: zW) (zRm 0 0 0 0) (va_Pc [.ref B0, .ref r, .int (nI p9), .ref r2] (zPre G B0 F)) (zQi G B0 (fun r' F' => (∃ a, a ≤ 100 ∧ lrI (fun j => lc t n t2 n2 p9 j) n2 r' a) ∧ (∃ f', F' (B0 + 10) = some (zAI G 61 f') ∧ ∀ j, j ≤ 60 → f' j = nI (lc t n t2 n2 p9 j)) ∧ ∀ q, q ≠ B0 + 10 → F' q = F q)) 0 0 (zA B0) := by
  refine z_of (own := RX2) (by decide) rfl (Nat.le_of_ble_eq_true rfl) ?_
  intro p e s m below meth c ls hx hb hr hml hown hlocks hnm hts hl hI
  have hl : lv_has ls 7 [(0, .ref B0), (1, .ref r), (2, .int (nI p9)), (3, .ref r2)] := hl
  obtain ⟨xn, xr, f, xw, xf⟩ := id h
  obtain ⟨xn2, xr2, f2, xw2, xf2⟩ := id h2
  refine lv_iconst (v := -1) hx hb dX2_longestRunFrom_0 (by decide) ?_
  refine lv_istore (lv' := [(4, .int (-1)), (0, .ref B0), (1, .ref r), (2, .int (nI p9)), (3, .ref r2)]) hx hb dX2_longestRunFrom_1 hl (by decide) rfl (fun ls hl => ?_)
  refine lv_iconst (v := nI 0) hx hb dX2_longestRunFrom_3 (by decide) ?_
  refine lv_istore (lv' := [(5, .int (nI 0)), (4, .int (-1)), (0, .ref B0), (1, .ref r), (2, .int (nI p9)), (3, .ref r2)]) hx hb dX2_longestRunFrom_4 hl (by decide) rfl (fun ls hl => ?_)
  refine lv_iconst (v := nI 0) hx hb dX2_longestRunFrom_6 (by decide) ?_
  refine lv_istore (lv' := [(6, .int (nI 0)), (5, .int (nI 0)), (4, .int (-1)), (0, .ref B0), (1, .ref r), (2, .int (nI p9)), (3, .ref r2)]) hx hb dX2_longestRunFrom_7 hl (by decide) rfl (fun ls hl => ?_)
  refine z_loop (σ := Nat × Nat × Int32) (fun xx : Nat × Nat × Int32 => match xx with | (k, a, c) => [(0, .ref B0), (1, .ref r), (2, .int (nI p9)), (3, .ref r2), (6, .int (nI k)), (5, .int (nI a)), (4, .int c)]) (fun (xx : Nat × Nat × Int32) (Fx : zM) => match xx with | (k, a, c) => (∃ f, Fx (B0 + 10) = some (zAI G 61 f) ∧ (∀ j, j < k → f j = nI (lc t n t2 n2 p9 j)) ∧ ∀ j, k ≤ j → j ≤ 60 → f j = nI (lc t n t2 n2 (p9 + 1) j)) ∧ (∀ q, q ≠ B0 + 10 → Fx q = F q) ∧ k ≤ n2 ∧ a ≤ 100 ∧ lrI (fun j => lc t n t2 n2 p9 j) k c a) (fun xx : Nat × Nat × Int32 => match xx with | (k, a, c) => n2 - k) (0, 0, -1) (nL := 7) (st := []) ?_ (lv_sub hl [3, 4, 5, 6, 0, 1, 2] rfl) hI ?_
  · exact ⟨⟨_, hf, fun j hj => absurd hj (Nat.not_lt_zero _), fun j _ hj => hu j hj⟩, fun q _ => rfl, Nat.zero_le _, Nat.zero_le _, Or.inl ⟨rfl, rfl, fun j hj => absurd hj (Nat.not_lt_zero _)⟩⟩
  · intro xx F1 ls H locs hi hl hI ih
    obtain ⟨k, a, c⟩ := xx
    have hl : lv_has ls 7 [(0, .ref B0), (1, .ref r), (2, .int (nI p9)), (3, .ref r2), (6, .int (nI k)), (5, .int (nI a)), (4, .int c)] := hl
    obtain ⟨⟨f1, hf1, hu1, hu2⟩, ho1, hk, hla, hlr⟩ := hi
    have hB0 := (ho1 _ (by omega)).trans hB
    have h1x := h.go (ho1 _ hr10) (ho1 _ hw10)
    have h2x := h2.go (ho1 _ hr20) (ho1 _ hw20)
    obtain ⟨xn, xr, f, xw, xf⟩ := id h1x
    obtain ⟨xn2, xr2, f2, xw2, xf2⟩ := id h2x
    have hle1 : lc t n t2 n2 p9 k ≤ n - p9 := lc_le
    have hle2 : lc t n t2 n2 (p9 + 1) (k + 1) ≤ n - (p9 + 1) := lc_le
    refine lv_iload hx hb dX2_longestRunFrom_9 (lv_at hl 4 rfl) ?_
    refine lv_aload_n hx hb dX2_longestRunFrom_11 rfl (lv_at hl 3 rfl) ?_
    refine z_getN hx hb hts hown zlX1 rfl 1 (by decide) (List.mem_of_getElem? (i := 0) rfl) rfl hI xr2 rfl dX2_longestRunFrom_12 ?_
    refine z_icmp_ge (tgt := 87) (a := k) (b := n2) hx hb dX2_longestRunFrom_15 (by decide) (by omega) (fun hq2 => ?_) (fun hq2 => ?_)
    · refine lv_iload hx hb dX2_longestRunFrom_87 (lv_at hl 6 rfl) ?_
      refine z_ri hx hb hr hlocks hI ?_ (Nat.le_of_ble_eq_true rfl) (Nat.le_of_ble_eq_true rfl) dX2_longestRunFrom_89
      have hkn : k = n2 := by omega
      subst hkn
      refine ⟨_, rfl, ⟨a, hla, hlr⟩, ⟨_, hf1, fun j hj => ?_⟩, ho1⟩
      by_cases e : j < k
      · exact hu1 j e
      · rw [hu2 j (by omega) hj, lc_z (fun z => by omega), lc_z (fun z => by omega)]
    · refine lv_aload_n hx hb dX2_longestRunFrom_18 rfl (lv_at hl 0 rfl) ?_
      refine z_get hx hb hts hown zlX2 rfl 6 (by decide) (hts _ q46) rfl hI hB0 rfl dX2_longestRunFrom_19 ?_
      refine lv_iload hx hb dX2_longestRunFrom_22 (lv_at hl 4 rfl) ?_
      refine lv_aload_n hx hb dX2_longestRunFrom_24 rfl (lv_at hl 3 rfl) ?_
      refine z_getN hx hb hts hown zlX1 rfl 0 (by decide) (List.mem_of_getElem? (i := 1) rfl) rfl hI xr2 rfl dX2_longestRunFrom_25 ?_
      refine lv_iload hx hb dX2_longestRunFrom_28 (lv_at hl 4 rfl) ?_
      refine z_ild (k := k) (v := t2 k) hx hb hI xw2 (by omega) (by omega) (xf2 k (by omega)) dX2_longestRunFrom_30 ?_
      refine lv_aload_n hx hb dX2_longestRunFrom_31 rfl (lv_at hl 1 rfl) ?_
      refine z_getN hx hb hts hown zlX1 rfl 0 (by decide) (List.mem_of_getElem? (i := 1) rfl) rfl hI xr rfl dX2_longestRunFrom_32 ?_
      refine lv_iload_n hx hb dX2_longestRunFrom_35 rfl (lv_at hl 2 rfl) ?_
      refine z_ild (k := p9) (v := t p9) hx hb hI xw (by omega) (by omega) (xf p9 (by omega)) dX2_longestRunFrom_36 ?_
      refine lv_icmp_ne (tgt := 54) hx hb dX2_longestRunFrom_37 (by decide) (fun hq3 => ?_) (fun hq3 => ?_)
      · have hlx : lc t n t2 n2 p9 k = 0 := lc_z (fun z => hq3 z.2.2.symm)
        refine lv_iconst (v := nI 0) hx hb dX2_longestRunFrom_54 (by decide) ?_
        refine z_ist (k := k) hx hb hI hf1 (by omega) (by omega) dX2_longestRunFrom_55 (fun H locs F4 hw5 ho6 hI => ?_)
        have hc7 : F4 B0 = some (zO 2 [.ref (B0 + 1), .ref (B0 + 2), .ref (B0 + 3), .ref (B0 + 4), .ref (B0 + 6), .ref (B0 + 8), .ref (B0 + 10)]) := (ho6 _ (zne hB0 hf1 (fun q => by cases q))).trans hB0
        have hc8 : F4 r = some (zO 1 [.ref w, .int (nI n)]) := (ho6 _ (zne xr hf1 (fun q => by cases q))).trans xr
        have hc9 : F4 w = some (zAI G cap f) := (ho6 _ hw10).trans xw
        have hc10 : F4 r2 = some (zO 1 [.ref w2, .int (nI n2)]) := (ho6 _ (zne xr2 hf1 (fun q => by cases q))).trans xr2
        have hc11 : F4 w2 = some (zAI G cap2 f2) := (ho6 _ hw20).trans xw2
        refine lv_aload_n hx hb dX2_longestRunFrom_56 rfl (lv_at hl 0 rfl) ?_
        refine z_get hx hb hts hown zlX2 rfl 6 (by decide) (hts _ q46) rfl hI hc7 rfl dX2_longestRunFrom_57 ?_
        refine lv_iload hx hb dX2_longestRunFrom_60 (lv_at hl 4 rfl) ?_
        refine z_ild (k := k) (v := nI (0)) hx hb hI hw5 (by omega) (by omega) pk_us dX2_longestRunFrom_62 ?_
        refine lv_iload hx hb dX2_longestRunFrom_63 (lv_at hl 5 rfl) ?_
        refine z_icmp_le (tgt := 81) (a := 0) (b := a) hx hb dX2_longestRunFrom_65 (by decide) (by omega) (fun hq12 => ?_) (fun hq12 => ?_)
        · refine lv_iinc (k := 4) (v := nI (k + 1)) (lv' := [(6, .int (nI (k + 1))), (0, .ref B0), (1, .ref r), (2, .int (nI p9)), (3, .ref r2), (5, .int (nI a)), (4, .int c)]) hx hb dX2_longestRunFrom_81 hl rfl (nI_add k 1) (by decide) rfl (fun ls hl => ?_)
          refine lv_goto (tgt := 9) hx hb dX2_longestRunFrom_84 (by decide) ?_
          refine ih (k + 1, a, c) _ ls H locs (by first | omega | (dsimp only; omega)) ?_ (lv_sub hl [1, 2, 3, 4, 0, 5, 6] rfl) hI
          refine ⟨⟨_, hw5, fun j hj => ?_, fun j h1 h2 => ?_⟩, fun q hq => (ho6 q hq).trans (ho1 q hq), by omega, by omega, lrI_no hlr hlx hq12⟩
          · by_cases e : j = k
            · subst e; rw [pk_us, hlx]
            · rw [pk_un e]; exact hu1 j (by omega)
          · rw [pk_un (by omega)]; exact hu2 j (by omega) h2
        · refine lv_aload_n hx hb dX2_longestRunFrom_68 rfl (lv_at hl 0 rfl) ?_
          refine z_get hx hb hts hown zlX2 rfl 6 (by decide) (hts _ q46) rfl hI hc7 rfl dX2_longestRunFrom_69 ?_
          refine lv_iload hx hb dX2_longestRunFrom_72 (lv_at hl 4 rfl) ?_
          refine z_ild (k := k) (v := nI (0)) hx hb hI hw5 (by omega) (by omega) pk_us dX2_longestRunFrom_74 ?_
          refine lv_istore (lv' := [(5, .int (nI 0)), (0, .ref B0), (1, .ref r), (2, .int (nI p9)), (3, .ref r2), (6, .int (nI k)), (4, .int c)]) hx hb dX2_longestRunFrom_75 hl (by decide) rfl (fun ls hl => ?_)
          refine lv_iload hx hb dX2_longestRunFrom_77 (lv_at hl 5 rfl) ?_
          refine lv_istore (lv' := [(4, .int (nI k)), (5, .int (nI 0)), (0, .ref B0), (1, .ref r), (2, .int (nI p9)), (3, .ref r2), (6, .int (nI k))]) hx hb dX2_longestRunFrom_79 hl (by decide) rfl (fun ls hl => ?_)
          refine lv_iinc (k := 6) (v := nI (k + 1)) (lv' := [(6, .int (nI (k + 1))), (4, .int (nI k)), (5, .int (nI 0)), (0, .ref B0), (1, .ref r), (2, .int (nI p9)), (3, .ref r2)]) hx hb dX2_longestRunFrom_81 hl rfl (nI_add k 1) (by decide) rfl (fun ls hl => ?_)
          refine lv_goto (tgt := 9) hx hb dX2_longestRunFrom_84 (by decide) ?_
          refine ih (k + 1, 0, nI k) _ ls H locs (by first | omega | (dsimp only; omega)) ?_ (lv_sub hl [3, 4, 5, 6, 0, 2, 1] rfl) hI
          refine ⟨⟨_, hw5, fun j hj => ?_, fun j h1 h2 => ?_⟩, fun q hq => (ho6 q hq).trans (ho1 q hq), by omega, by omega, lrI_up hlr hlx hq12⟩
          · by_cases e : j = k
            · subst e; rw [pk_us, hlx]
            · rw [pk_un e]; exact hu1 j (by omega)
          · rw [pk_un (by omega)]; exact hu2 j (by omega) h2
      · have hlx : lc t n t2 n2 p9 k = lc t n t2 n2 (p9 + 1) (k + 1) + 1 := lc_y hp9 (by omega) hq3.symm
        refine lv_aload_n hx hb dX2_longestRunFrom_40 rfl (lv_at hl 0 rfl) ?_
        refine z_get hx hb hts hown zlX2 rfl 6 (by decide) (hts _ q46) rfl hI hB0 rfl dX2_longestRunFrom_41 ?_
        refine lv_iload hx hb dX2_longestRunFrom_44 (lv_at hl 4 rfl) ?_
        refine lv_iconst (v := nI 1) hx hb dX2_longestRunFrom_46 (by decide) ?_
        refine lv_iadd hx hb dX2_longestRunFrom_47 ?_
        refine z_topi (nI_add k 1) ?_
        refine z_ild (k := k + 1) (v := nI (lc t n t2 n2 (p9 + 1) (k + 1))) hx hb hI hf1 (by omega) (by omega) (hu2 (k + 1) (by omega) (by omega)) dX2_longestRunFrom_48 ?_
        refine lv_iconst (v := nI 1) hx hb dX2_longestRunFrom_49 (by decide) ?_
        refine lv_iadd hx hb dX2_longestRunFrom_50 ?_
        refine z_topi (nI_add (lc t n t2 n2 (p9 + 1) (k + 1)) 1) ?_
        refine lv_goto (tgt := 55) hx hb dX2_longestRunFrom_51 (by decide) ?_
        refine z_ist (k := k) hx hb hI hf1 (by omega) (by omega) dX2_longestRunFrom_55 (fun H locs F13 hw14 ho15 hI => ?_)
        have hc16 : F13 B0 = some (zO 2 [.ref (B0 + 1), .ref (B0 + 2), .ref (B0 + 3), .ref (B0 + 4), .ref (B0 + 6), .ref (B0 + 8), .ref (B0 + 10)]) := (ho15 _ (zne hB0 hf1 (fun q => by cases q))).trans hB0
        have hc17 : F13 r = some (zO 1 [.ref w, .int (nI n)]) := (ho15 _ (zne xr hf1 (fun q => by cases q))).trans xr
        have hc18 : F13 w = some (zAI G cap f) := (ho15 _ hw10).trans xw
        have hc19 : F13 r2 = some (zO 1 [.ref w2, .int (nI n2)]) := (ho15 _ (zne xr2 hf1 (fun q => by cases q))).trans xr2
        have hc20 : F13 w2 = some (zAI G cap2 f2) := (ho15 _ hw20).trans xw2
        refine lv_aload_n hx hb dX2_longestRunFrom_56 rfl (lv_at hl 0 rfl) ?_
        refine z_get hx hb hts hown zlX2 rfl 6 (by decide) (hts _ q46) rfl hI hc16 rfl dX2_longestRunFrom_57 ?_
        refine lv_iload hx hb dX2_longestRunFrom_60 (lv_at hl 4 rfl) ?_
        refine z_ild (k := k) (v := nI (lc t n t2 n2 (p9 + 1) (k + 1) + 1)) hx hb hI hw14 (by omega) (by omega) pk_us dX2_longestRunFrom_62 ?_
        refine lv_iload hx hb dX2_longestRunFrom_63 (lv_at hl 5 rfl) ?_
        refine z_icmp_le (tgt := 81) (a := lc t n t2 n2 (p9 + 1) (k + 1) + 1) (b := a) hx hb dX2_longestRunFrom_65 (by decide) (by omega) (fun hq21 => ?_) (fun hq21 => ?_)
        · refine lv_iinc (k := 4) (v := nI (k + 1)) (lv' := [(6, .int (nI (k + 1))), (0, .ref B0), (1, .ref r), (2, .int (nI p9)), (3, .ref r2), (5, .int (nI a)), (4, .int c)]) hx hb dX2_longestRunFrom_81 hl rfl (nI_add k 1) (by decide) rfl (fun ls hl => ?_)
          refine lv_goto (tgt := 9) hx hb dX2_longestRunFrom_84 (by decide) ?_
          refine ih (k + 1, a, c) _ ls H locs (by first | omega | (dsimp only; omega)) ?_ (lv_sub hl [1, 2, 3, 4, 0, 5, 6] rfl) hI
          refine ⟨⟨_, hw14, fun j hj => ?_, fun j h1 h2 => ?_⟩, fun q hq => (ho15 q hq).trans (ho1 q hq), by omega, by omega, lrI_no hlr hlx hq21⟩
          · by_cases e : j = k
            · subst e; rw [pk_us, hlx]
            · rw [pk_un e]; exact hu1 j (by omega)
          · rw [pk_un (by omega)]; exact hu2 j (by omega) h2
        · refine lv_aload_n hx hb dX2_longestRunFrom_68 rfl (lv_at hl 0 rfl) ?_
          refine z_get hx hb hts hown zlX2 rfl 6 (by decide) (hts _ q46) rfl hI hc16 rfl dX2_longestRunFrom_69 ?_
          refine lv_iload hx hb dX2_longestRunFrom_72 (lv_at hl 4 rfl) ?_
          refine z_ild (k := k) (v := nI (lc t n t2 n2 (p9 + 1) (k + 1) + 1)) hx hb hI hw14 (by omega) (by omega) pk_us dX2_longestRunFrom_74 ?_
          refine lv_istore (lv' := [(5, .int (nI (lc t n t2 n2 (p9 + 1) (k + 1) + 1))), (0, .ref B0), (1, .ref r), (2, .int (nI p9)), (3, .ref r2), (6, .int (nI k)), (4, .int c)]) hx hb dX2_longestRunFrom_75 hl (by decide) rfl (fun ls hl => ?_)
          refine lv_iload hx hb dX2_longestRunFrom_77 (lv_at hl 5 rfl) ?_
          refine lv_istore (lv' := [(4, .int (nI k)), (5, .int (nI (lc t n t2 n2 (p9 + 1) (k + 1) + 1))), (0, .ref B0), (1, .ref r), (2, .int (nI p9)), (3, .ref r2), (6, .int (nI k))]) hx hb dX2_longestRunFrom_79 hl (by decide) rfl (fun ls hl => ?_)
          refine lv_iinc (k := 6) (v := nI (k + 1)) (lv' := [(6, .int (nI (k + 1))), (4, .int (nI k)), (5, .int (nI (lc t n t2 n2 (p9 + 1) (k + 1) + 1))), (0, .ref B0), (1, .ref r), (2, .int (nI p9)), (3, .ref r2)]) hx hb dX2_longestRunFrom_81 hl rfl (nI_add k 1) (by decide) rfl (fun ls hl => ?_)
          refine lv_goto (tgt := 9) hx hb dX2_longestRunFrom_84 (by decide) ?_
          refine ih (k + 1, lc t n t2 n2 (p9 + 1) (k + 1) + 1, nI k) _ ls H locs (by first | omega | (dsimp only; omega)) ?_ (lv_sub hl [3, 4, 5, 6, 0, 2, 1] rfl) hI
          refine ⟨⟨_, hw14, fun j hj => ?_, fun j h1 h2 => ?_⟩, fun q hq => (ho15 q hq).trans (ho1 q hq), by omega, by omega, lrI_up hlr hlx hq21⟩
          · by_cases e : j = k
            · subst e; rw [pk_us, hlx]
            · rw [pk_un e]; exact hu1 j (by omega)
          · rw [pk_un (by omega)]; exact hu2 j (by omega) h2

set_option maxHeartbeats 4000000 in
set_option maxRecDepth 100000 in
theorem c_X2_common (l : Launch) (hl0 : l.stackTraces = false) (G : zK) (B0 : Nat) (F : zM) (σ : Sg) (zp0 zp1 zp2 : Int32) (hC : CS G B0 F σ) : vx_Met l yX2_common (Cond.code yX2_common cX2_common 11 (some FieldType.int) :: zW) (zRm 7 112 3 18) (va_Pc [.ref B0, .int zp0, .int zp1, .int zp2] (zPre G B0 F)) (zQi G B0 (fun r' F' => oA_common σ zp0 zp1 zp2 ∧ oB_common σ zp0 zp1 zp2 ∧ oC_common σ zp0 zp1 zp2 ∧ r' = rr_common σ zp0 zp1 zp2 ∧ CS G B0 F' (ss_common σ zp0 zp1 zp2) ∧ zCf B0 F F')) (zXC G B0 F (fun E => zPX zEI zEA "" (oA_common σ zp0 zp1 zp2) (oB_common σ zp0 zp1 zp2) (oC_common σ zp0 zp1 zp2) E)) 3 18 (zA B0) := by
  refine z_ofx (own := RX2) (by decide) rfl (Nat.le_of_ble_eq_true rfl) ?_
  intro p e s m below meth c ls hx hb hr hml hown hlocks hout hts hl hI
  have hl : lv_has ls 11 [(0, .ref B0), (1, .int zp0), (2, .int zp1), (3, .int zp2)] := hl
  obtain ⟨y01, ⟨fa1, y11, e11⟩, ⟨fb1, y21, e21⟩, ⟨fc1, y31, e31⟩, ⟨n41, t41, y41⟩, ⟨n61, t61, y61⟩, ⟨n81, t81, y81⟩, ⟨fd1, y101⟩, yT1, yP1⟩ := id hC
  refine lv_aload_n hx hb dX2_common_0 rfl (lv_at hl 0 rfl) ?_
  refine lv_iload_n hx hb dX2_common_1 rfl (lv_at hl 1 rfl) ?_
  refine z_xcallr hI (z_xV (As := [.int zp0]) (rest := []) ⟨hx, hb, hml, hown, hts⟩ hI y01 rfl (c_X2_textAt l hl0 G B0 F σ zp0 hC) (z_cwV vX2_textAt hts q71 ⟨Nat.le_of_ble_eq_true rfl, Nat.le_of_ble_eq_true rfl⟩) rfl hl.1 rfl (lv_room (Nat.le_of_ble_eq_true rfl)) dX2_common_2 ⟨Nat.le_of_ble_eq_true rfl, Nat.le_of_ble_eq_true rfl⟩) (z_out hout hlocks (fun E hE => Or.inl ⟨hE.1, fun q => hE.2 (by first | exact q.1 | (simp only [oA_common, oB_common, oC_common, rr_common, ss_common] at q; exact q.1))⟩) (Nat.le_of_ble_eq_true rfl) (Nat.le_of_ble_eq_true rfl)) (fun r3 F2 H locs hp4 hI => ?_)
  obtain ⟨rfl, i5, hi6, rfl, rfl⟩ := hp4
  have hix7 : ix (nI i5) = i5 := ix_nI (by omega)
  have hl : lv_has ls 11 [(0, .ref B0), (1, .int (nI i5)), (2, .int zp1), (3, .int zp2)] := hl
  have hx8 := yT1 i5 hi6
  obtain ⟨xnhx8, xrhx8, fhx8, xwhx8, xfhx8⟩ := id hx8
  refine lv_astore (lv' := [(4, .ref (B0 + 11 + 2 * i5)), (0, .ref B0), (1, .int (nI i5)), (2, .int zp1), (3, .int zp2)]) hx hb dX2_common_5 hl (by decide) rfl (fun ls hl => ?_)
  refine lv_aload_n hx hb dX2_common_7 rfl (lv_at hl 1 rfl) ?_
  refine lv_iload_n hx hb dX2_common_8 rfl (lv_at hl 3 rfl) ?_
  refine z_xcallr hI (z_xV (As := [.int zp1]) (rest := []) ⟨hx, hb, hml, hown, hts⟩ hI y01 rfl (c_X2_textAt l hl0 G B0 F σ zp1 hC) (z_cwV vX2_textAt hts q71 ⟨Nat.le_of_ble_eq_true rfl, Nat.le_of_ble_eq_true rfl⟩) rfl hl.1 rfl (lv_room (Nat.le_of_ble_eq_true rfl)) dX2_common_9 ⟨Nat.le_of_ble_eq_true rfl, Nat.le_of_ble_eq_true rfl⟩) (z_out hout hlocks (fun E hE => Or.inl ⟨hE.1, fun q => hE.2 (by first | exact q.2 | (simp only [oA_common, oB_common, oC_common, rr_common, ss_common, hix7] at q; exact q.2))⟩) (Nat.le_of_ble_eq_true rfl) (Nat.le_of_ble_eq_true rfl)) (fun r10 F9 H locs hp11 hI => ?_)
  obtain ⟨rfl, i12, hi13, rfl, rfl⟩ := hp11
  have hix14 : ix (nI i12) = i12 := ix_nI (by omega)
  have hl : lv_has ls 11 [(4, .ref (B0 + 11 + 2 * i5)), (0, .ref B0), (1, .int (nI i5)), (2, .int (nI i12)), (3, .int zp2)] := hl
  have hx15 := yT1 i12 hi13
  obtain ⟨xnhx15, xrhx15, fhx15, xwhx15, xfhx15⟩ := id hx15
  refine lv_astore (lv' := [(5, .ref (B0 + 11 + 2 * i12)), (4, .ref (B0 + 11 + 2 * i5)), (0, .ref B0), (1, .int (nI i5)), (2, .int (nI i12)), (3, .int zp2)]) hx hb dX2_common_12 hl (by decide) rfl (fun ls hl => ?_)
  refine lv_iload_n hx hb dX2_common_14 rfl (lv_at hl 5 rfl) ?_
  refine lv_iconst (v := nI 0) hx hb dX2_common_15 (by decide) ?_
  refine lv_iconst (v := nI 2) hx hb dX2_common_16 (by decide) ?_
  refine z_xcallv hI (z_xS (As := [.int zp2, .int (nI 0), .int (nI 2)]) (rest := []) ⟨hx, hb, hml, hown, hts⟩ hI (c_X2_requireWithin l hl0 G B0 F zp2 (nI 0) (nI 2)) (z_cwS vX2_requireWithin hts q206 ⟨Nat.le_of_ble_eq_true rfl, Nat.le_of_ble_eq_true rfl⟩) rfl hl.1 rfl (lv_room (Nat.le_of_ble_eq_true rfl)) dX2_common_17 ⟨Nat.le_of_ble_eq_true rfl, Nat.le_of_ble_eq_true rfl⟩) (z_out hout hlocks (fun E hE => Or.inr (Or.inl ⟨hE.1, (by simp only [oA_common, oB_common, oC_common, rr_common, ss_common, hix7, hix14] <;> exact ⟨⟨i5, hi6, rfl⟩, ⟨i12, hi13, rfl⟩⟩), fun q => hE.2 (by simp only [oA_common, oB_common, oC_common, rr_common, ss_common, hix7, hix14] at q; exact q)⟩)) (Nat.le_of_ble_eq_true rfl) (Nat.le_of_ble_eq_true rfl)) (fun F16 H locs hp18 hI => ?_)
  obtain ⟨rfl, hp18, hp18b⟩ := hp18
  refine lv_aload_n hx hb dX2_common_20 rfl (lv_at hl 2 rfl) ?_
  refine z_callv hI (z_V (As := []) (rest := []) ⟨hx, hb, hml, hown, hts⟩ hI y01 rfl (c_X2_clearRuns l G B0 F fd1 y01 y101) (z_cwV vX2_clearRuns hts q609 ⟨Nat.le_of_ble_eq_true rfl, Nat.le_of_ble_eq_true rfl⟩) rfl hl.1 rfl (lv_room (Nat.le_of_ble_eq_true rfl)) dX2_common_21 ⟨Nat.le_of_ble_eq_true rfl, Nat.le_of_ble_eq_true rfl⟩) (fun F19 H locs hp21 hI => ?_)
  obtain ⟨⟨fr9, hfr9, hzr9⟩, hor9⟩ := hp21
  have hC2 := CS.setN hC hor9 hfr9
  have hcf2 : zCf B0 F F19 := fun q hq => hor9 q (by omega)
  refine lv_iconst (v := nI 0) hx hb dX2_common_24 (by decide) ?_
  refine lv_istore (lv' := [(6, .int (nI 0)), (5, .ref (B0 + 11 + 2 * i12)), (4, .ref (B0 + 11 + 2 * i5)), (0, .ref B0), (1, .int (nI i5)), (2, .int (nI i12)), (3, .int zp2)]) hx hb dX2_common_25 hl (by decide) rfl (fun ls hl => ?_)
  refine lv_iconst (v := nI 0) hx hb dX2_common_27 (by decide) ?_
  refine lv_istore (lv' := [(7, .int (nI 0)), (6, .int (nI 0)), (5, .ref (B0 + 11 + 2 * i12)), (4, .ref (B0 + 11 + 2 * i5)), (0, .ref B0), (1, .int (nI i5)), (2, .int (nI i12)), (3, .int zp2)]) hx hb dX2_common_28 hl (by decide) rfl (fun ls hl => ?_)
  refine lv_iconst (v := nI 0) hx hb dX2_common_30 (by decide) ?_
  refine lv_istore (lv' := [(8, .int (nI 0)), (7, .int (nI 0)), (6, .int (nI 0)), (5, .ref (B0 + 11 + 2 * i12)), (4, .ref (B0 + 11 + 2 * i5)), (0, .ref B0), (1, .int (nI i5)), (2, .int (nI i12)), (3, .int zp2)]) hx hb dX2_common_31 hl (by decide) rfl (fun ls hl => ?_)
  obtain ⟨y022, ⟨fa22, y122, e122⟩, ⟨fb22, y222, e222⟩, ⟨fc22, y322, e322⟩, ⟨n422, t422, y422⟩, ⟨n622, t622, y622⟩, ⟨n822, t822, y822⟩, ⟨fd22, y1022⟩, yT22, yP22⟩ := id hC2
  have hx23 := yT22 i5 hi6
  obtain ⟨xnhx23, xrhx23, fhx23, xwhx23, xfhx23⟩ := id hx23
  have hx24 := yT22 i12 hi13
  obtain ⟨xnhx24, xrhx24, fhx24, xwhx24, xfhx24⟩ := id hx24
  refine lv_aload hx hb dX2_common_33 (lv_at hl 4 rfl) ?_
  refine z_getN hx hb hts hown zlX1 rfl 1 (by decide) (List.mem_of_getElem? (i := 0) rfl) rfl hI xrhx23 rfl dX2_common_35 ?_
  refine lv_iconst (v := nI 1) hx hb dX2_common_38 (by decide) ?_
  refine lv_isub hx hb dX2_common_39 ?_
  refine z_topi (dn_of (n := sn σ i5) (by omega)) ?_
  refine lv_istore (lv' := [(9, .int (dn (sn σ i5))), (8, .int (nI 0)), (7, .int (nI 0)), (6, .int (nI 0)), (5, .ref (B0 + 11 + 2 * i12)), (4, .ref (B0 + 11 + 2 * i5)), (0, .ref B0), (1, .int (nI i5)), (2, .int (nI i12)), (3, .int zp2)]) hx hb dX2_common_40 hl (by decide) rfl (fun ls hl => ?_)
  refine z_loop (σ := Nat × Nat × Nat × Nat) (fun xx : Nat × Nat × Nat × Nat => match xx with | (k, L, b, z) => [(0, .ref B0), (1, .int (nI i5)), (2, .int (nI i12)), (3, .int zp2), (4, .ref (B0 + 11 + 2 * i5)), (5, .ref (B0 + 11 + 2 * i12)), (9, .int (dn k)), (6, .int (nI L)), (7, .int (nI b)), (8, .int (nI z))]) (fun (xx : Nat × Nat × Nat × Nat) (Fx : zM) => match xx with | (k, L, b, z) => CS G B0 Fx σ ∧ zCf B0 F Fx ∧ (∃ f, Fx (B0 + 10) = some (zAI G 61 f) ∧ ∀ j, j ≤ 60 → f j = nI (lc (st σ i5) (sn σ i5) (st σ i12) (sn σ i12) k j)) ∧ k ≤ sn σ i5 ∧ L ≤ 100 ∧ cbI (st σ i5) (sn σ i5) (st σ i12) (sn σ i12) k (L, b, z)) (fun xx : Nat × Nat × Nat × Nat => match xx with | (k, L, b, z) => k) (sn σ i5, 0, 0, 0) (nL := 11) (st := []) ?_ (lv_sub hl [6, 7, 8, 9, 5, 4, 0, 3, 2, 1] rfl) hI ?_
  · refine ⟨hC2, hcf2, ⟨fr9, hfr9, fun j hj => ?_⟩, Nat.le_refl _, Nat.zero_le _, cbI_n⟩
    rw [hzr9 j (by omega), lc_z (fun z => by omega)]
  · intro xx F25 ls H locs hi hl hI ih
    obtain ⟨k, L, b, z⟩ := xx
    have hl : lv_has ls 11 [(0, .ref B0), (1, .int (nI i5)), (2, .int (nI i12)), (3, .int zp2), (4, .ref (B0 + 11 + 2 * i5)), (5, .ref (B0 + 11 + 2 * i12)), (9, .int (dn k)), (6, .int (nI L)), (7, .int (nI b)), (8, .int (nI z))] := hl
    obtain ⟨hc0, hf0, ⟨f1, hf1, hu1⟩, hk, hL, hcb⟩ := hi
    obtain ⟨y026, ⟨fa26, y126, e126⟩, ⟨fb26, y226, e226⟩, ⟨fc26, y326, e326⟩, ⟨n426, t426, y426⟩, ⟨n626, t626, y626⟩, ⟨n826, t826, y826⟩, ⟨fd26, y1026⟩, yT26, yP26⟩ := id hc0
    have hx27 := yT26 i5 hi6
    obtain ⟨xnhx27, xrhx27, fhx27, xwhx27, xfhx27⟩ := id hx27
    have hx28 := yT26 i12 hi13
    obtain ⟨xnhx28, xrhx28, fhx28, xwhx28, xfhx28⟩ := id hx28
    refine lv_iload hx hb dX2_common_42 (lv_at hl 6 rfl) ?_
    refine lv_if_lt (tgt := 100) hx hb dX2_common_44 (by decide) (fun hq29 => ?_) (fun hq29 => ?_)
    · have hk0 := (dn_lt (k := k) (by omega)).mp hq29
      refine lv_iload_n hx hb dX2_common_100 rfl (lv_at hl 3 rfl) ?_
      refine lv_if_ne (tgt := 109) hx hb dX2_common_101 (by decide) (fun hq30 => ?_) (fun hq30 => ?_)
      · refine lv_iload_n hx hb dX2_common_109 rfl (lv_at hl 3 rfl) ?_
        refine lv_iconst (v := nI 1) hx hb dX2_common_110 (by decide) ?_
        refine lv_icmp_ne (tgt := 119) hx hb dX2_common_111 (by decide) (fun hq31 => ?_) (fun hq31 => ?_)
        · refine lv_iload hx hb dX2_common_119 (lv_at hl 9 rfl) ?_
          refine vx_ret (z_ri hx hb hr hlocks hI ?_ (Nat.le_of_ble_eq_true rfl) (Nat.le_of_ble_eq_true rfl) dX2_common_121)
          rw [hk0] at hcb
          have hco : com (st σ i5) (sn σ i5) (st σ i12) (sn σ i12) = (L, b, z) := com_eq (cbI_0 hcb)
          refine ⟨_, rfl, (by simp only [oA_common, oB_common, oC_common, rr_common, ss_common, hix7, hix14] <;> exact ⟨⟨i5, hi6, rfl⟩, ⟨i12, hi13, rfl⟩⟩), (by simp only [oA_common, oB_common, oC_common, rr_common, ss_common, hix7, hix14] <;> exact ⟨hp18, hp18b⟩), (by simp only [oA_common, oB_common, oC_common, rr_common, ss_common, hix7, hix14] <;> exact trivial), (by simp only [oA_common, oB_common, oC_common, rr_common, ss_common, hix7, hix14] <;> (rw [if_neg hq30, if_neg hq31, hco])), (by simp only [oA_common, oB_common, oC_common, rr_common, ss_common, hix7, hix14] <;> exact hc0), hf0⟩
        · refine lv_iload hx hb dX2_common_114 (lv_at hl 8 rfl) ?_
          refine lv_goto (tgt := 121) hx hb dX2_common_116 (by decide) ?_
          refine vx_ret (z_ri hx hb hr hlocks hI ?_ (Nat.le_of_ble_eq_true rfl) (Nat.le_of_ble_eq_true rfl) dX2_common_121)
          rw [hk0] at hcb
          have hco : com (st σ i5) (sn σ i5) (st σ i12) (sn σ i12) = (L, b, z) := com_eq (cbI_0 hcb)
          refine ⟨_, rfl, (by simp only [oA_common, oB_common, oC_common, rr_common, ss_common, hix7, hix14] <;> exact ⟨⟨i5, hi6, rfl⟩, ⟨i12, hi13, rfl⟩⟩), (by simp only [oA_common, oB_common, oC_common, rr_common, ss_common, hix7, hix14] <;> exact ⟨hp18, hp18b⟩), (by simp only [oA_common, oB_common, oC_common, rr_common, ss_common, hix7, hix14] <;> exact trivial), (by simp only [oA_common, oB_common, oC_common, rr_common, ss_common, hix7, hix14] <;> (rw [if_neg hq30, if_pos hq31, hco])), (by simp only [oA_common, oB_common, oC_common, rr_common, ss_common, hix7, hix14] <;> exact hc0), hf0⟩
      · refine lv_iload hx hb dX2_common_104 (lv_at hl 7 rfl) ?_
        refine lv_goto (tgt := 121) hx hb dX2_common_106 (by decide) ?_
        refine vx_ret (z_ri hx hb hr hlocks hI ?_ (Nat.le_of_ble_eq_true rfl) (Nat.le_of_ble_eq_true rfl) dX2_common_121)
        rw [hk0] at hcb
        have hco : com (st σ i5) (sn σ i5) (st σ i12) (sn σ i12) = (L, b, z) := com_eq (cbI_0 hcb)
        refine ⟨_, rfl, (by simp only [oA_common, oB_common, oC_common, rr_common, ss_common, hix7, hix14] <;> exact ⟨⟨i5, hi6, rfl⟩, ⟨i12, hi13, rfl⟩⟩), (by simp only [oA_common, oB_common, oC_common, rr_common, ss_common, hix7, hix14] <;> exact ⟨hp18, hp18b⟩), (by simp only [oA_common, oB_common, oC_common, rr_common, ss_common, hix7, hix14] <;> exact trivial), (by simp only [oA_common, oB_common, oC_common, rr_common, ss_common, hix7, hix14] <;> (rw [if_pos hq30, hco])), (by simp only [oA_common, oB_common, oC_common, rr_common, ss_common, hix7, hix14] <;> exact hc0), hf0⟩
    · obtain ⟨k1, rfl⟩ : ∃ k1, k = k1 + 1 := ⟨k - 1, by have := mt (dn_lt (k := k) (by omega)).mpr hq29; omega⟩
      have hl : lv_has ls 11 [(0, .ref B0), (1, .int (nI i5)), (2, .int (nI i12)), (3, .int zp2), (4, .ref (B0 + 11 + 2 * i5)), (5, .ref (B0 + 11 + 2 * i12)), (9, .int (nI k1)), (6, .int (nI L)), (7, .int (nI b)), (8, .int (nI z))] := hl
      refine lv_aload_n hx hb dX2_common_47 rfl (lv_at hl 0 rfl) ?_
      refine lv_aload hx hb dX2_common_48 (lv_at hl 4 rfl) ?_
      refine lv_iload hx hb dX2_common_50 (lv_at hl 6 rfl) ?_
      refine lv_aload hx hb dX2_common_52 (lv_at hl 5 rfl) ?_
      refine z_calli hI (z_V (As := [.ref (B0 + 11 + 2 * i5), .int (nI k1), .ref (B0 + 11 + 2 * i12)]) (rest := []) ⟨hx, hb, hml, hown, hts⟩ hI y026 rfl (c_X2_longestRunFrom l G B0 F25 (B0 + 11 + 2 * i5) (B0 + 12 + 2 * i5) 60 (sn σ i5) (st σ i5) (B0 + 11 + 2 * i12) (B0 + 12 + 2 * i12) 60 (sn σ i12) (st σ i12) f1 k1 y026 hf1 ⟨xnhx27, xrhx27, fhx27, xwhx27, xfhx27⟩ (by decide) ⟨xnhx28, xrhx28, fhx28, xwhx28, xfhx28⟩ (by decide) (by omega) (by omega) (by omega) (by omega) (by omega) hu1) (z_cwV vX2_longestRunFrom hts q613 ⟨Nat.le_of_ble_eq_true rfl, Nat.le_of_ble_eq_true rfl⟩) rfl hl.1 rfl (lv_room (Nat.le_of_ble_eq_true rfl)) dX2_common_54 ⟨Nat.le_of_ble_eq_true rfl, Nat.le_of_ble_eq_true rfl⟩) (fun r33 F32 H locs hp34 hI => ?_)
      obtain ⟨⟨a5, ha5, hl5⟩, ⟨f5, hf5, hu5⟩, ho5⟩ := hp34
      have hB5 := (ho5 _ (by omega)).trans y026
      rcases hl5 with ⟨rfl, hl4, hl5⟩ | ⟨s5, hs1, rfl, hs2, hs3, hs4, hs5⟩
      · refine lv_istore (lv' := [(10, .int (-1)), (0, .ref B0), (1, .int (nI i5)), (2, .int (nI i12)), (3, .int zp2), (4, .ref (B0 + 11 + 2 * i5)), (5, .ref (B0 + 11 + 2 * i12)), (9, .int (nI k1)), (6, .int (nI L)), (7, .int (nI b)), (8, .int (nI z))]) hx hb dX2_common_57 hl (by decide) rfl (fun ls hl => ?_)
        refine lv_iload hx hb dX2_common_59 (lv_at hl 0 rfl) ?_
        refine lv_iconst (v := -1) hx hb dX2_common_61 (by decide) ?_
        refine lv_icmp_eq (tgt := 94) hx hb dX2_common_62 (by decide) (fun hq35 => ?_) (fun hq35 => ?_)
        · refine lv_iinc (k := 7) (v := dn k1) (lv' := [(9, .int (dn k1)), (10, .int (-1)), (0, .ref B0), (1, .int (nI i5)), (2, .int (nI i12)), (3, .int zp2), (4, .ref (B0 + 11 + 2 * i5)), (5, .ref (B0 + 11 + 2 * i12)), (6, .int (nI L)), (7, .int (nI b)), (8, .int (nI z))]) hx hb dX2_common_94 hl rfl (dn_m1 k1) (by decide) rfl (fun ls hl => ?_)
          refine lv_goto (tgt := 42) hx hb dX2_common_97 (by decide) ?_
          refine ih (k1, L, b, z) _ ls H locs (by first | omega | (dsimp only; omega)) ?_ (lv_sub hl [2, 3, 4, 5, 6, 7, 0, 8, 9, 10] rfl) hI
          exact ⟨CS.setN hc0 ho5 hf5, zCf.tr hf0 (fun q hq => ho5 q (by omega)), ⟨_, hf5, hu5⟩, by omega, by omega, cbI_no hcb (fun f hf => Or.inl (hl5 f hf))⟩
        · exact absurd rfl hq35
      · dsimp only at hs2
        refine lv_istore (lv' := [(10, .int (nI s5)), (0, .ref B0), (1, .int (nI i5)), (2, .int (nI i12)), (3, .int zp2), (4, .ref (B0 + 11 + 2 * i5)), (5, .ref (B0 + 11 + 2 * i12)), (9, .int (nI k1)), (6, .int (nI L)), (7, .int (nI b)), (8, .int (nI z))]) hx hb dX2_common_57 hl (by decide) rfl (fun ls hl => ?_)
        refine lv_iload hx hb dX2_common_59 (lv_at hl 0 rfl) ?_
        refine lv_iconst (v := -1) hx hb dX2_common_61 (by decide) ?_
        refine lv_icmp_eq (tgt := 94) hx hb dX2_common_62 (by decide) (fun hq36 => ?_) (fun hq36 => ?_)
        · exact absurd hq36 (nI_m1 (by omega))
        · refine lv_aload_n hx hb dX2_common_65 rfl (lv_at hl 1 rfl) ?_
          refine z_get hx hb hts hown zlX2 rfl 6 (by decide) (hts _ q46) rfl hI hB5 rfl dX2_common_66 ?_
          refine lv_iload hx hb dX2_common_69 (lv_at hl 0 rfl) ?_
          refine z_ild (k := s5) (v := nI (lc (st σ i5) (sn σ i5) (st σ i12) (sn σ i12) k1 s5)) hx hb hI hf5 (by omega) (by omega) (hu5 s5 (by omega)) dX2_common_71 ?_
          refine lv_iload hx hb dX2_common_72 (lv_at hl 8 rfl) ?_
          refine z_icmp_lt (tgt := 94) (a := lc (st σ i5) (sn σ i5) (st σ i12) (sn σ i12) k1 s5) (b := L) hx hb dX2_common_74 (by decide) (by omega) (fun hq37 => ?_) (fun hq37 => ?_)
          · refine lv_iinc (k := 7) (v := dn k1) (lv' := [(9, .int (dn k1)), (10, .int (nI s5)), (0, .ref B0), (1, .int (nI i5)), (2, .int (nI i12)), (3, .int zp2), (4, .ref (B0 + 11 + 2 * i5)), (5, .ref (B0 + 11 + 2 * i12)), (6, .int (nI L)), (7, .int (nI b)), (8, .int (nI z))]) hx hb dX2_common_94 hl rfl (dn_m1 k1) (by decide) rfl (fun ls hl => ?_)
            refine lv_goto (tgt := 42) hx hb dX2_common_97 (by decide) ?_
            refine ih (k1, L, b, z) _ ls H locs (by first | omega | (dsimp only; omega)) ?_ (lv_sub hl [2, 3, 4, 5, 6, 7, 0, 8, 9, 10] rfl) hI
            exact ⟨CS.setN hc0 ho5 hf5, zCf.tr hf0 (fun q hq => ho5 q (by omega)), ⟨_, hf5, hu5⟩, by omega, by omega, cbI_no hcb (fun f hf => Or.inr (Nat.lt_of_le_of_lt (hs4 f hf) (by omega)))⟩
          · refine lv_aload_n hx hb dX2_common_77 rfl (lv_at hl 1 rfl) ?_
            refine z_get hx hb hts hown zlX2 rfl 6 (by decide) (hts _ q46) rfl hI hB5 rfl dX2_common_78 ?_
            refine lv_iload hx hb dX2_common_81 (lv_at hl 0 rfl) ?_
            refine z_ild (k := s5) (v := nI (lc (st σ i5) (sn σ i5) (st σ i12) (sn σ i12) k1 s5)) hx hb hI hf5 (by omega) (by omega) (hu5 s5 (by omega)) dX2_common_83 ?_
            refine lv_istore (lv' := [(6, .int (nI (lc (st σ i5) (sn σ i5) (st σ i12) (sn σ i12) k1 s5))), (10, .int (nI s5)), (0, .ref B0), (1, .int (nI i5)), (2, .int (nI i12)), (3, .int zp2), (4, .ref (B0 + 11 + 2 * i5)), (5, .ref (B0 + 11 + 2 * i12)), (9, .int (nI k1)), (7, .int (nI b)), (8, .int (nI z))]) hx hb dX2_common_84 hl (by decide) rfl (fun ls hl => ?_)
            refine lv_iload hx hb dX2_common_86 (lv_at hl 8 rfl) ?_
            refine lv_istore (lv' := [(7, .int (nI k1)), (6, .int (nI (lc (st σ i5) (sn σ i5) (st σ i12) (sn σ i12) k1 s5))), (10, .int (nI s5)), (0, .ref B0), (1, .int (nI i5)), (2, .int (nI i12)), (3, .int zp2), (4, .ref (B0 + 11 + 2 * i5)), (5, .ref (B0 + 11 + 2 * i12)), (9, .int (nI k1)), (8, .int (nI z))]) hx hb dX2_common_88 hl (by decide) rfl (fun ls hl => ?_)
            refine lv_iload hx hb dX2_common_90 (lv_at hl 2 rfl) ?_
            refine lv_istore (lv' := [(8, .int (nI s5)), (7, .int (nI k1)), (6, .int (nI (lc (st σ i5) (sn σ i5) (st σ i12) (sn σ i12) k1 s5))), (10, .int (nI s5)), (0, .ref B0), (1, .int (nI i5)), (2, .int (nI i12)), (3, .int zp2), (4, .ref (B0 + 11 + 2 * i5)), (5, .ref (B0 + 11 + 2 * i12)), (9, .int (nI k1))]) hx hb dX2_common_92 hl (by decide) rfl (fun ls hl => ?_)
            refine lv_iinc (k := 10) (v := dn k1) (lv' := [(9, .int (dn k1)), (8, .int (nI s5)), (7, .int (nI k1)), (6, .int (nI (lc (st σ i5) (sn σ i5) (st σ i12) (sn σ i12) k1 s5))), (10, .int (nI s5)), (0, .ref B0), (1, .int (nI i5)), (2, .int (nI i12)), (3, .int zp2), (4, .ref (B0 + 11 + 2 * i5)), (5, .ref (B0 + 11 + 2 * i12))]) hx hb dX2_common_94 hl rfl (dn_m1 k1) (by decide) rfl (fun ls hl => ?_)
            refine lv_goto (tgt := 42) hx hb dX2_common_97 (by decide) ?_
            refine ih (k1, lc (st σ i5) (sn σ i5) (st σ i12) (sn σ i12) k1 s5, k1, s5) _ ls H locs (by first | omega | (dsimp only; omega)) ?_ (lv_sub hl [5, 6, 7, 8, 9, 10, 0, 3, 2, 1] rfl) hI
            exact ⟨CS.setN hc0 ho5 hf5, zCf.tr hf0 (fun q hq => ho5 q (by omega)), ⟨_, hf5, hu5⟩, by omega, by omega, cbI_up hcb (by omega) hs1 (by omega) (by omega) (fun f hf => by rw [← hs2]; exact hs4 f hf) (fun f hf => by rw [← hs2]; exact hs5 f hf)⟩

