/-! the law's own methods: the answer of the class in 'out', which exception by number -/
abbrev zLP (G : zK) (B0 : Nat) (F : zM) (σ : Sg) (o1 o2 o3 : Prop) (s1 : Sg) (v1 : Int64) (r' : Int32) (F' : zM) : Prop := zTh o1 o2 o3 r' ∧ (∃ σ' fo', CS G B0 F' σ' ∧ F' (B0 + 41) = some (zAL G 1 fo') ∧ (o1 ∧ o2 ∧ o3 → σ' = s1 ∧ fo' 0 = v1) ∧ (¬ (o1 ∧ o2 ∧ o3) → σ' = σ)) ∧ ∀ q, B0 + 23 ≤ q → q ≠ B0 + 41 → F' q = F q
abbrev zLD (G : zK) (B0 : Nat) (F : zM) (σ : Sg) (o1 o2 o3 : Prop) (s1 : Sg) (v1 : UInt64) (r' : Int32) (F' : zM) : Prop := zTh o1 o2 o3 r' ∧ (∃ σ' fo', CS G B0 F' σ' ∧ F' (B0 + 42) = some (zAD G 1 fo') ∧ (o1 ∧ o2 ∧ o3 → σ' = s1 ∧ fo' 0 = v1) ∧ (¬ (o1 ∧ o2 ∧ o3) → σ' = σ)) ∧ ∀ q, B0 + 23 ≤ q → q ≠ B0 + 42 → F' q = F q
theorem vpl_s {f : Nat → Int64} {k : Nat} {x : Int64} : vp_updL f k x k = x := by simp [vp_updL]
theorem vpd_s {f : Nat → UInt64} {k : Nat} {x : UInt64} : vf_upd f k x k = x := by simp [vf_upd]
set_option maxHeartbeats 4000000 in
set_option maxRecDepth 100000 in
theorem c_L_add (l : Launch) (hl0 : l.stackTraces = false) (G : zK) (B0 : Nat) (F : zM) (σ : Sg) (zp0 zp1 : Int32) (fo : Nat → Int64) (hC : CS G B0 F σ) (hK : SgOk σ) (hO : F (B0 + 41) = some (zAL G 1 fo)) : Met l yL_add (Cond.codeWith yL_add cL_add 5 (some FieldType.int) [(0, 10, 13, 13), (0, 10, 17, 15)] :: zW) (zRm 8 134 3 18) (va_Pc [.ref B0, .int zp0, .int zp1, .ref (B0 + 41)] (zPre G B0 F)) (zQi G B0 (zLP G B0 F σ (oA_add σ zp0 zp1) (oB_add σ zp0 zp1) (oC_add σ zp0 zp1) (ss_add σ zp0 zp1) (rr_add σ zp0 zp1).toInt64)) 3 18 (zA B0) := by
  refine z_ofH (own := RL) (by decide) rfl (Nat.le_of_ble_eq_true rfl) ?_
  intro p e s m below meth c ls hx hb hr hml hown hlocks htab hts hl hI
  have hl : lv_has ls 5 [(0, .ref B0), (1, .int zp0), (2, .int zp1), (3, .ref (B0 + 41))] := hl
  refine lv_aload_n hx hb dL_add_0 rfl (lv_at hl 3 rfl) ?_
  refine lv_iconst (v := nI 0) hx hb dL_add_1 (by decide) ?_
  refine lv_aload_n hx hb dL_add_2 rfl (lv_at hl 0 rfl) ?_
  refine lv_iload_n hx hb dL_add_3 rfl (lv_at hl 1 rfl) ?_
  refine lv_iload_n hx hb dL_add_4 rfl (lv_at hl 2 rfl) ?_
  refine z_xcalli hI (z_xV (As := [.int zp0, .int zp1]) (rest := [.int (nI 0), .ref (B0 + 41)]) ⟨hx, hb, hml, hown, hts⟩ hI hC.1 rfl (c_X2_add l hl0 G B0 F σ zp0 zp1 hC) (z_cwV vX2_add hts q67 ⟨Nat.le_of_ble_eq_true rfl, Nat.le_of_ble_eq_true rfl⟩) rfl hl.1 rfl (lv_room (Nat.le_of_ble_eq_true rfl)) dL_add_5 ⟨Nat.le_of_ble_eq_true rfl, Nat.le_of_ble_eq_true rfl⟩) ?_ (fun r2 F1 H locs hp3 hI => ?_)
  · intro E ce q9 H locs hpx4 hI hce hcv hcl
    rcases hpx4 with ⟨rfl, hn1⟩ | ⟨rfl, hh1, hn2⟩ | ⟨hE9, hh1, hh2, hn3⟩
    · refine z_catch (E := zEI) hown hI [] ⟨0, 10, 13, 13⟩ [⟨0, 10, 17, 15⟩] (htab.trans rfl) (fun z hz => nomatch hz) rfl (by decide) (hts _ q65) (List.mem_of_getElem? (i := 0) rfl) hce hcv hcl ?_
      refine lv_astore (lv' := [(4, .ref q9), (0, .ref B0), (1, .int zp0), (2, .int zp1), (3, .ref (B0 + 41))]) hx hb dL_add_13 hl (by decide) rfl (fun ls hl => ?_)
      refine lv_iconst (v := nI 1) hx hb dL_add_15 (by decide) ?_
      refine z_ri hx hb hr hlocks hI ?_ (Nat.le_of_ble_eq_true rfl) (Nat.le_of_ble_eq_true rfl) dL_add_16
      exact ⟨_, rfl, Or.inr (Or.inl ⟨rfl, hn1⟩), ⟨σ, _, hC, hO, fun q => absurd q.1 hn1, fun _ => rfl⟩, fun q _ _ => rfl⟩
    · refine z_catch (E := zES) hown hI [⟨0, 10, 13, 13⟩] ⟨0, 10, 17, 15⟩ [] (htab.trans rfl) (List.forall_mem_cons.mpr ⟨⟨by decide, zEI, hts _ q65, List.mem_of_getElem? (i := 0) rfl⟩, fun z hz => nomatch hz⟩) rfl (by decide) (hts _ q66) (List.mem_of_getElem? (i := 1) rfl) hce hcv hcl ?_
      refine lv_astore (lv' := [(4, .ref q9), (0, .ref B0), (1, .int zp0), (2, .int zp1), (3, .ref (B0 + 41))]) hx hb dL_add_17 hl (by decide) rfl (fun ls hl => ?_)
      refine lv_iconst (v := nI 2) hx hb dL_add_19 (by decide) ?_
      refine z_ri hx hb hr hlocks hI ?_ (Nat.le_of_ble_eq_true rfl) (Nat.le_of_ble_eq_true rfl) dL_add_20
      exact ⟨_, rfl, Or.inr (Or.inr (Or.inl ⟨rfl, hh1, hn2⟩)), ⟨σ, _, hC, hO, fun q => absurd q.2.1 hn2, fun _ => rfl⟩, fun q _ _ => rfl⟩
    · exact (hn3 trivial).elim
  obtain ⟨hA, hB, hC3, rfl, hC1, hcf⟩ := hp3
  have hO1 := (hcf _ (by omega)).trans hO
  refine lv_i2l hx hb dL_add_8 rfl ?_
  refine z_lst (k := 0) hx hb hI hO1 (by decide) (by decide) dL_add_9 (fun H locs F5 hw6 ho7 hI => ?_)
  refine lv_goto (tgt := 21) hx hb dL_add_10 (by decide) ?_
  refine lv_iconst (v := nI 0) hx hb dL_add_21 (by decide) ?_
  refine z_ri hx hb hr hlocks hI ?_ (Nat.le_of_ble_eq_true rfl) (Nat.le_of_ble_eq_true rfl) dL_add_22
  exact ⟨_, rfl, Or.inl ⟨rfl, hA, hB, hC3⟩, ⟨_, _, CS.go hC1 (fun q hq => ho7 q (by omega)), hw6, fun _ => ⟨rfl, vpl_s⟩, fun q => absurd ⟨hA, hB, hC3⟩ q⟩, fun q h1 h2 => (ho7 q h2).trans (hcf q h1)⟩

set_option maxHeartbeats 4000000 in
set_option maxRecDepth 100000 in
theorem c_L_addMany (l : Launch) (hl0 : l.stackTraces = false) (G : zK) (B0 : Nat) (F : zM) (σ : Sg) (zp0 zp1 zp2 : Int32) (fo : Nat → Int64) (hC : CS G B0 F σ) (hK : SgOk σ) (hO : F (B0 + 41) = some (zAL G 1 fo)) : Met l yL_addMany (Cond.codeWith yL_addMany cL_addMany 6 (some FieldType.int) [(0, 12, 15, 13), (0, 12, 19, 21), (0, 12, 23, 15)] :: zW) (zRm 8 136 4 24) (va_Pc [.ref B0, .int zp0, .int zp1, .int zp2, .ref (B0 + 41)] (zPre G B0 F)) (zQi G B0 (zLP G B0 F σ (oA_addMany σ zp0 zp1 zp2) (oB_addMany σ zp0 zp1 zp2) (oC_addMany σ zp0 zp1 zp2) (ss_addMany σ zp0 zp1 zp2) (rr_addMany σ zp0 zp1 zp2).toInt64)) 4 24 (zA B0) := by
  refine z_ofH (own := RL) (by decide) rfl (Nat.le_of_ble_eq_true rfl) ?_
  intro p e s m below meth c ls hx hb hr hml hown hlocks htab hts hl hI
  have hl : lv_has ls 6 [(0, .ref B0), (1, .int zp0), (2, .int zp1), (3, .int zp2), (4, .ref (B0 + 41))] := hl
  refine lv_aload hx hb dL_addMany_0 (lv_at hl 4 rfl) ?_
  refine lv_iconst (v := nI 0) hx hb dL_addMany_2 (by decide) ?_
  refine lv_aload_n hx hb dL_addMany_3 rfl (lv_at hl 0 rfl) ?_
  refine lv_iload_n hx hb dL_addMany_4 rfl (lv_at hl 1 rfl) ?_
  refine lv_iload_n hx hb dL_addMany_5 rfl (lv_at hl 2 rfl) ?_
  refine lv_iload_n hx hb dL_addMany_6 rfl (lv_at hl 3 rfl) ?_
  refine z_xcalli hI (z_xV (As := [.int zp0, .int zp1, .int zp2]) (rest := [.int (nI 0), .ref (B0 + 41)]) ⟨hx, hb, hml, hown, hts⟩ hI hC.1 rfl (c_X2_addMany l hl0 G B0 F σ zp0 zp1 zp2 hC) (z_cwV vX2_addMany hts q176 ⟨Nat.le_of_ble_eq_true rfl, Nat.le_of_ble_eq_true rfl⟩) rfl hl.1 rfl (lv_room (Nat.le_of_ble_eq_true rfl)) dL_addMany_7 ⟨Nat.le_of_ble_eq_true rfl, Nat.le_of_ble_eq_true rfl⟩) ?_ (fun r2 F1 H locs hp3 hI => ?_)
  · intro E ce q9 H locs hpx4 hI hce hcv hcl
    rcases hpx4 with ⟨rfl, hn1⟩ | ⟨rfl, hh1, hn2⟩ | ⟨rfl, hh1, hh2, hn3⟩
    · refine z_catch (E := zEI) hown hI [] ⟨0, 12, 15, 13⟩ [⟨0, 12, 19, 21⟩, ⟨0, 12, 23, 15⟩] (htab.trans rfl) (fun z hz => nomatch hz) rfl (by decide) (hts _ q65) (List.mem_of_getElem? (i := 0) rfl) hce hcv hcl ?_
      refine lv_astore (lv' := [(5, .ref q9), (0, .ref B0), (1, .int zp0), (2, .int zp1), (3, .int zp2), (4, .ref (B0 + 41))]) hx hb dL_addMany_15 hl (by decide) rfl (fun ls hl => ?_)
      refine lv_iconst (v := nI 1) hx hb dL_addMany_17 (by decide) ?_
      refine z_ri hx hb hr hlocks hI ?_ (Nat.le_of_ble_eq_true rfl) (Nat.le_of_ble_eq_true rfl) dL_addMany_18
      exact ⟨_, rfl, Or.inr (Or.inl ⟨rfl, hn1⟩), ⟨σ, _, hC, hO, fun q => absurd q.1 hn1, fun _ => rfl⟩, fun q _ _ => rfl⟩
    · refine z_catch (E := zEA) hown hI [⟨0, 12, 15, 13⟩] ⟨0, 12, 19, 21⟩ [⟨0, 12, 23, 15⟩] (htab.trans rfl) (List.forall_mem_cons.mpr ⟨⟨by decide, zEI, hts _ q65, List.mem_of_getElem? (i := 1) rfl⟩, fun z hz => nomatch hz⟩) rfl (by decide) (hts _ q175) (List.mem_of_getElem? (i := 2) rfl) hce hcv hcl ?_
      refine lv_astore (lv' := [(5, .ref q9), (0, .ref B0), (1, .int zp0), (2, .int zp1), (3, .int zp2), (4, .ref (B0 + 41))]) hx hb dL_addMany_19 hl (by decide) rfl (fun ls hl => ?_)
      refine lv_iconst (v := nI 2) hx hb dL_addMany_21 (by decide) ?_
      refine z_ri hx hb hr hlocks hI ?_ (Nat.le_of_ble_eq_true rfl) (Nat.le_of_ble_eq_true rfl) dL_addMany_22
      exact ⟨_, rfl, Or.inr (Or.inr (Or.inl ⟨rfl, hh1, hn2⟩)), ⟨σ, _, hC, hO, fun q => absurd q.2.1 hn2, fun _ => rfl⟩, fun q _ _ => rfl⟩
    · refine z_catch (E := zES) hown hI [⟨0, 12, 15, 13⟩, ⟨0, 12, 19, 21⟩] ⟨0, 12, 23, 15⟩ [] (htab.trans rfl) (List.forall_mem_cons.mpr ⟨⟨by decide, zEI, hts _ q65, List.mem_of_getElem? (i := 0) rfl⟩, List.forall_mem_cons.mpr ⟨⟨by decide, zEA, hts _ q175, List.mem_of_getElem? (i := 9) rfl⟩, fun z hz => nomatch hz⟩⟩) rfl (by decide) (hts _ q66) (List.mem_of_getElem? (i := 1) rfl) hce hcv hcl ?_
      refine lv_astore (lv' := [(5, .ref q9), (0, .ref B0), (1, .int zp0), (2, .int zp1), (3, .int zp2), (4, .ref (B0 + 41))]) hx hb dL_addMany_23 hl (by decide) rfl (fun ls hl => ?_)
      refine lv_iconst (v := nI 3) hx hb dL_addMany_25 (by decide) ?_
      refine z_ri hx hb hr hlocks hI ?_ (Nat.le_of_ble_eq_true rfl) (Nat.le_of_ble_eq_true rfl) dL_addMany_26
      exact ⟨_, rfl, Or.inr (Or.inr (Or.inr ⟨rfl, hh1, hh2, hn3⟩)), ⟨σ, _, hC, hO, fun q => absurd q.2.2 hn3, fun _ => rfl⟩, fun q _ _ => rfl⟩
  obtain ⟨hA, hB, hC3, rfl, hC1, hcf⟩ := hp3
  have hO1 := (hcf _ (by omega)).trans hO
  refine lv_i2l hx hb dL_addMany_10 rfl ?_
  refine z_lst (k := 0) hx hb hI hO1 (by decide) (by decide) dL_addMany_11 (fun H locs F5 hw6 ho7 hI => ?_)
  refine lv_goto (tgt := 27) hx hb dL_addMany_12 (by decide) ?_
  refine lv_iconst (v := nI 0) hx hb dL_addMany_27 (by decide) ?_
  refine z_ri hx hb hr hlocks hI ?_ (Nat.le_of_ble_eq_true rfl) (Nat.le_of_ble_eq_true rfl) dL_addMany_28
  exact ⟨_, rfl, Or.inl ⟨rfl, hA, hB, hC3⟩, ⟨_, _, CS.go hC1 (fun q hq => ho7 q (by omega)), hw6, fun _ => ⟨rfl, vpl_s⟩, fun q => absurd ⟨hA, hB, hC3⟩ q⟩, fun q h1 h2 => (ho7 q h2).trans (hcf q h1)⟩

set_option maxHeartbeats 4000000 in
set_option maxRecDepth 100000 in
theorem c_L_scatter (l : Launch) (hl0 : l.stackTraces = false) (G : zK) (B0 : Nat) (F : zM) (σ : Sg) (zp0 zp1 zp2 zp3 : Int32) (fo : Nat → Int64) (hC : CS G B0 F σ) (hK : SgOk σ) (hO : F (B0 + 41) = some (zAL G 1 fo)) : Met l yL_scatter (Cond.codeWith yL_scatter cL_scatter 7 (some FieldType.int) [(0, 14, 17, 13), (0, 14, 21, 21), (0, 14, 25, 15)] :: zW) (zRm 8 140 5 30) (va_Pc [.ref B0, .int zp0, .int zp1, .int zp2, .int zp3, .ref (B0 + 41)] (zPre G B0 F)) (zQi G B0 (zLP G B0 F σ (oA_scatter σ zp0 zp1 zp2 zp3) (oB_scatter σ zp0 zp1 zp2 zp3) (oC_scatter σ zp0 zp1 zp2 zp3) (ss_scatter σ zp0 zp1 zp2 zp3) (rr_scatter σ zp0 zp1 zp2 zp3).toInt64)) 5 30 (zA B0) := by
  refine z_ofH (own := RL) (by decide) rfl (Nat.le_of_ble_eq_true rfl) ?_
  intro p e s m below meth c ls hx hb hr hml hown hlocks htab hts hl hI
  have hl : lv_has ls 7 [(0, .ref B0), (1, .int zp0), (2, .int zp1), (3, .int zp2), (4, .int zp3), (5, .ref (B0 + 41))] := hl
  refine lv_aload hx hb dL_scatter_0 (lv_at hl 5 rfl) ?_
  refine lv_iconst (v := nI 0) hx hb dL_scatter_2 (by decide) ?_
  refine lv_aload_n hx hb dL_scatter_3 rfl (lv_at hl 0 rfl) ?_
  refine lv_iload_n hx hb dL_scatter_4 rfl (lv_at hl 1 rfl) ?_
  refine lv_iload_n hx hb dL_scatter_5 rfl (lv_at hl 2 rfl) ?_
  refine lv_iload_n hx hb dL_scatter_6 rfl (lv_at hl 3 rfl) ?_
  refine lv_iload hx hb dL_scatter_7 (lv_at hl 4 rfl) ?_
  refine z_xcalli hI (z_xV (As := [.int zp0, .int zp1, .int zp2, .int zp3]) (rest := [.int (nI 0), .ref (B0 + 41)]) ⟨hx, hb, hml, hown, hts⟩ hI hC.1 rfl (c_X2_scatter l hl0 G B0 F σ zp0 zp1 zp2 zp3 hC) (z_cwV vX2_scatter hts q202 ⟨Nat.le_of_ble_eq_true rfl, Nat.le_of_ble_eq_true rfl⟩) rfl hl.1 rfl (lv_room (Nat.le_of_ble_eq_true rfl)) dL_scatter_9 ⟨Nat.le_of_ble_eq_true rfl, Nat.le_of_ble_eq_true rfl⟩) ?_ (fun r2 F1 H locs hp3 hI => ?_)
  · intro E ce q9 H locs hpx4 hI hce hcv hcl
    rcases hpx4 with ⟨rfl, hn1⟩ | ⟨rfl, hh1, hn2⟩ | ⟨rfl, hh1, hh2, hn3⟩
    · refine z_catch (E := zEI) hown hI [] ⟨0, 14, 17, 13⟩ [⟨0, 14, 21, 21⟩, ⟨0, 14, 25, 15⟩] (htab.trans rfl) (fun z hz => nomatch hz) rfl (by decide) (hts _ q65) (List.mem_of_getElem? (i := 0) rfl) hce hcv hcl ?_
      refine lv_astore (lv' := [(6, .ref q9), (0, .ref B0), (1, .int zp0), (2, .int zp1), (3, .int zp2), (4, .int zp3), (5, .ref (B0 + 41))]) hx hb dL_scatter_17 hl (by decide) rfl (fun ls hl => ?_)
      refine lv_iconst (v := nI 1) hx hb dL_scatter_19 (by decide) ?_
      refine z_ri hx hb hr hlocks hI ?_ (Nat.le_of_ble_eq_true rfl) (Nat.le_of_ble_eq_true rfl) dL_scatter_20
      exact ⟨_, rfl, Or.inr (Or.inl ⟨rfl, hn1⟩), ⟨σ, _, hC, hO, fun q => absurd q.1 hn1, fun _ => rfl⟩, fun q _ _ => rfl⟩
    · refine z_catch (E := zEA) hown hI [⟨0, 14, 17, 13⟩] ⟨0, 14, 21, 21⟩ [⟨0, 14, 25, 15⟩] (htab.trans rfl) (List.forall_mem_cons.mpr ⟨⟨by decide, zEI, hts _ q65, List.mem_of_getElem? (i := 1) rfl⟩, fun z hz => nomatch hz⟩) rfl (by decide) (hts _ q175) (List.mem_of_getElem? (i := 2) rfl) hce hcv hcl ?_
      refine lv_astore (lv' := [(6, .ref q9), (0, .ref B0), (1, .int zp0), (2, .int zp1), (3, .int zp2), (4, .int zp3), (5, .ref (B0 + 41))]) hx hb dL_scatter_21 hl (by decide) rfl (fun ls hl => ?_)
      refine lv_iconst (v := nI 2) hx hb dL_scatter_23 (by decide) ?_
      refine z_ri hx hb hr hlocks hI ?_ (Nat.le_of_ble_eq_true rfl) (Nat.le_of_ble_eq_true rfl) dL_scatter_24
      exact ⟨_, rfl, Or.inr (Or.inr (Or.inl ⟨rfl, hh1, hn2⟩)), ⟨σ, _, hC, hO, fun q => absurd q.2.1 hn2, fun _ => rfl⟩, fun q _ _ => rfl⟩
    · refine z_catch (E := zES) hown hI [⟨0, 14, 17, 13⟩, ⟨0, 14, 21, 21⟩] ⟨0, 14, 25, 15⟩ [] (htab.trans rfl) (List.forall_mem_cons.mpr ⟨⟨by decide, zEI, hts _ q65, List.mem_of_getElem? (i := 0) rfl⟩, List.forall_mem_cons.mpr ⟨⟨by decide, zEA, hts _ q175, List.mem_of_getElem? (i := 9) rfl⟩, fun z hz => nomatch hz⟩⟩) rfl (by decide) (hts _ q66) (List.mem_of_getElem? (i := 1) rfl) hce hcv hcl ?_
      refine lv_astore (lv' := [(6, .ref q9), (0, .ref B0), (1, .int zp0), (2, .int zp1), (3, .int zp2), (4, .int zp3), (5, .ref (B0 + 41))]) hx hb dL_scatter_25 hl (by decide) rfl (fun ls hl => ?_)
      refine lv_iconst (v := nI 3) hx hb dL_scatter_27 (by decide) ?_
      refine z_ri hx hb hr hlocks hI ?_ (Nat.le_of_ble_eq_true rfl) (Nat.le_of_ble_eq_true rfl) dL_scatter_28
      exact ⟨_, rfl, Or.inr (Or.inr (Or.inr ⟨rfl, hh1, hh2, hn3⟩)), ⟨σ, _, hC, hO, fun q => absurd q.2.2 hn3, fun _ => rfl⟩, fun q _ _ => rfl⟩
  obtain ⟨hA, hB, hC3, rfl, hC1, hcf⟩ := hp3
  have hO1 := (hcf _ (by omega)).trans hO
  refine lv_i2l hx hb dL_scatter_12 rfl ?_
  refine z_lst (k := 0) hx hb hI hO1 (by decide) (by decide) dL_scatter_13 (fun H locs F5 hw6 ho7 hI => ?_)
  refine lv_goto (tgt := 29) hx hb dL_scatter_14 (by decide) ?_
  refine lv_iconst (v := nI 0) hx hb dL_scatter_29 (by decide) ?_
  refine z_ri hx hb hr hlocks hI ?_ (Nat.le_of_ble_eq_true rfl) (Nat.le_of_ble_eq_true rfl) dL_scatter_30
  exact ⟨_, rfl, Or.inl ⟨rfl, hA, hB, hC3⟩, ⟨_, _, CS.go hC1 (fun q hq => ho7 q (by omega)), hw6, fun _ => ⟨rfl, vpl_s⟩, fun q => absurd ⟨hA, hB, hC3⟩ q⟩, fun q h1 h2 => (ho7 q h2).trans (hcf q h1)⟩

set_option maxHeartbeats 4000000 in
set_option maxRecDepth 100000 in
theorem c_L_insert (l : Launch) (hl0 : l.stackTraces = false) (G : zK) (B0 : Nat) (F : zM) (σ : Sg) (zp0 zp1 zp2 : Int32) (fo : Nat → Int64) (hC : CS G B0 F σ) (hK : SgOk σ) (hO : F (B0 + 41) = some (zAL G 1 fo)) : Met l yL_insert (Cond.codeWith yL_insert cL_insert 6 (some FieldType.int) [(0, 12, 15, 13), (0, 12, 19, 15)] :: zW) (zRm 8 136 4 24) (va_Pc [.ref B0, .int zp0, .int zp1, .int zp2, .ref (B0 + 41)] (zPre G B0 F)) (zQi G B0 (zLP G B0 F σ (oA_insert σ zp0 zp1 zp2) (oB_insert σ zp0 zp1 zp2) (oC_insert σ zp0 zp1 zp2) (ss_insert σ zp0 zp1 zp2) (rr_insert σ zp0 zp1 zp2).toInt64)) 4 24 (zA B0) := by
  refine z_ofH (own := RL) (by decide) rfl (Nat.le_of_ble_eq_true rfl) ?_
  intro p e s m below meth c ls hx hb hr hml hown hlocks htab hts hl hI
  have hl : lv_has ls 6 [(0, .ref B0), (1, .int zp0), (2, .int zp1), (3, .int zp2), (4, .ref (B0 + 41))] := hl
  refine lv_aload hx hb dL_insert_0 (lv_at hl 4 rfl) ?_
  refine lv_iconst (v := nI 0) hx hb dL_insert_2 (by decide) ?_
  refine lv_aload_n hx hb dL_insert_3 rfl (lv_at hl 0 rfl) ?_
  refine lv_iload_n hx hb dL_insert_4 rfl (lv_at hl 1 rfl) ?_
  refine lv_iload_n hx hb dL_insert_5 rfl (lv_at hl 2 rfl) ?_
  refine lv_iload_n hx hb dL_insert_6 rfl (lv_at hl 3 rfl) ?_
  refine z_xcalli hI (z_xV (As := [.int zp0, .int zp1, .int zp2]) (rest := [.int (nI 0), .ref (B0 + 41)]) ⟨hx, hb, hml, hown, hts⟩ hI hC.1 rfl (c_X2_insert l hl0 G B0 F σ zp0 zp1 zp2 hC) (z_cwV vX2_insert hts q217 ⟨Nat.le_of_ble_eq_true rfl, Nat.le_of_ble_eq_true rfl⟩) rfl hl.1 rfl (lv_room (Nat.le_of_ble_eq_true rfl)) dL_insert_7 ⟨Nat.le_of_ble_eq_true rfl, Nat.le_of_ble_eq_true rfl⟩) ?_ (fun r2 F1 H locs hp3 hI => ?_)
  · intro E ce q9 H locs hpx4 hI hce hcv hcl
    rcases hpx4 with ⟨rfl, hn1⟩ | ⟨rfl, hh1, hn2⟩ | ⟨hE9, hh1, hh2, hn3⟩
    · refine z_catch (E := zEI) hown hI [] ⟨0, 12, 15, 13⟩ [⟨0, 12, 19, 15⟩] (htab.trans rfl) (fun z hz => nomatch hz) rfl (by decide) (hts _ q65) (List.mem_of_getElem? (i := 0) rfl) hce hcv hcl ?_
      refine lv_astore (lv' := [(5, .ref q9), (0, .ref B0), (1, .int zp0), (2, .int zp1), (3, .int zp2), (4, .ref (B0 + 41))]) hx hb dL_insert_15 hl (by decide) rfl (fun ls hl => ?_)
      refine lv_iconst (v := nI 1) hx hb dL_insert_17 (by decide) ?_
      refine z_ri hx hb hr hlocks hI ?_ (Nat.le_of_ble_eq_true rfl) (Nat.le_of_ble_eq_true rfl) dL_insert_18
      exact ⟨_, rfl, Or.inr (Or.inl ⟨rfl, hn1⟩), ⟨σ, _, hC, hO, fun q => absurd q.1 hn1, fun _ => rfl⟩, fun q _ _ => rfl⟩
    · refine z_catch (E := zES) hown hI [⟨0, 12, 15, 13⟩] ⟨0, 12, 19, 15⟩ [] (htab.trans rfl) (List.forall_mem_cons.mpr ⟨⟨by decide, zEI, hts _ q65, List.mem_of_getElem? (i := 0) rfl⟩, fun z hz => nomatch hz⟩) rfl (by decide) (hts _ q66) (List.mem_of_getElem? (i := 1) rfl) hce hcv hcl ?_
      refine lv_astore (lv' := [(5, .ref q9), (0, .ref B0), (1, .int zp0), (2, .int zp1), (3, .int zp2), (4, .ref (B0 + 41))]) hx hb dL_insert_19 hl (by decide) rfl (fun ls hl => ?_)
      refine lv_iconst (v := nI 2) hx hb dL_insert_21 (by decide) ?_
      refine z_ri hx hb hr hlocks hI ?_ (Nat.le_of_ble_eq_true rfl) (Nat.le_of_ble_eq_true rfl) dL_insert_22
      exact ⟨_, rfl, Or.inr (Or.inr (Or.inl ⟨rfl, hh1, hn2⟩)), ⟨σ, _, hC, hO, fun q => absurd q.2.1 hn2, fun _ => rfl⟩, fun q _ _ => rfl⟩
    · exact (hn3 trivial).elim
  obtain ⟨hA, hB, hC3, rfl, hC1, hcf⟩ := hp3
  have hO1 := (hcf _ (by omega)).trans hO
  refine lv_i2l hx hb dL_insert_10 rfl ?_
  refine z_lst (k := 0) hx hb hI hO1 (by decide) (by decide) dL_insert_11 (fun H locs F5 hw6 ho7 hI => ?_)
  refine lv_goto (tgt := 23) hx hb dL_insert_12 (by decide) ?_
  refine lv_iconst (v := nI 0) hx hb dL_insert_23 (by decide) ?_
  refine z_ri hx hb hr hlocks hI ?_ (Nat.le_of_ble_eq_true rfl) (Nat.le_of_ble_eq_true rfl) dL_insert_24
  exact ⟨_, rfl, Or.inl ⟨rfl, hA, hB, hC3⟩, ⟨_, _, CS.go hC1 (fun q hq => ho7 q (by omega)), hw6, fun _ => ⟨rfl, vpl_s⟩, fun q => absurd ⟨hA, hB, hC3⟩ q⟩, fun q h1 h2 => (ho7 q h2).trans (hcf q h1)⟩

set_option maxHeartbeats 4000000 in
set_option maxRecDepth 100000 in
theorem c_L_set (l : Launch) (hl0 : l.stackTraces = false) (G : zK) (B0 : Nat) (F : zM) (σ : Sg) (zp0 zp1 zp2 : Int32) (fo : Nat → Int64) (hC : CS G B0 F σ) (hK : SgOk σ) (hO : F (B0 + 41) = some (zAL G 1 fo)) : Met l yL_set (Cond.codeWith yL_set cL_set 6 (some FieldType.int) [(0, 12, 15, 13)] :: zW) (zRm 8 136 3 18) (va_Pc [.ref B0, .int zp0, .int zp1, .int zp2, .ref (B0 + 41)] (zPre G B0 F)) (zQi G B0 (zLP G B0 F σ (oA_set σ zp0 zp1 zp2) (oB_set σ zp0 zp1 zp2) (oC_set σ zp0 zp1 zp2) (ss_set σ zp0 zp1 zp2) (rr_set σ zp0 zp1 zp2).toInt64)) 3 18 (zA B0) := by
  refine z_ofH (own := RL) (by decide) rfl (Nat.le_of_ble_eq_true rfl) ?_
  intro p e s m below meth c ls hx hb hr hml hown hlocks htab hts hl hI
  have hl : lv_has ls 6 [(0, .ref B0), (1, .int zp0), (2, .int zp1), (3, .int zp2), (4, .ref (B0 + 41))] := hl
  refine lv_aload hx hb dL_set_0 (lv_at hl 4 rfl) ?_
  refine lv_iconst (v := nI 0) hx hb dL_set_2 (by decide) ?_
  refine lv_aload_n hx hb dL_set_3 rfl (lv_at hl 0 rfl) ?_
  refine lv_iload_n hx hb dL_set_4 rfl (lv_at hl 1 rfl) ?_
  refine lv_iload_n hx hb dL_set_5 rfl (lv_at hl 2 rfl) ?_
  refine lv_iload_n hx hb dL_set_6 rfl (lv_at hl 3 rfl) ?_
  refine z_xcalli hI (z_xV (As := [.int zp0, .int zp1, .int zp2]) (rest := [.int (nI 0), .ref (B0 + 41)]) ⟨hx, hb, hml, hown, hts⟩ hI hC.1 rfl (c_X2_set l hl0 G B0 F σ zp0 zp1 zp2 hC) (z_cwV vX2_set hts q232 ⟨Nat.le_of_ble_eq_true rfl, Nat.le_of_ble_eq_true rfl⟩) rfl hl.1 rfl (lv_room (Nat.le_of_ble_eq_true rfl)) dL_set_7 ⟨Nat.le_of_ble_eq_true rfl, Nat.le_of_ble_eq_true rfl⟩) ?_ (fun r2 F1 H locs hp3 hI => ?_)
  · intro E ce q9 H locs hpx4 hI hce hcv hcl
    rcases hpx4 with ⟨rfl, hn1⟩ | ⟨hE9, hh1, hn2⟩ | ⟨hE9, hh1, hh2, hn3⟩
    · refine z_catch (E := zEI) hown hI [] ⟨0, 12, 15, 13⟩ [] (htab.trans rfl) (fun z hz => nomatch hz) rfl (by decide) (hts _ q65) (List.mem_of_getElem? (i := 0) rfl) hce hcv hcl ?_
      refine lv_astore (lv' := [(5, .ref q9), (0, .ref B0), (1, .int zp0), (2, .int zp1), (3, .int zp2), (4, .ref (B0 + 41))]) hx hb dL_set_15 hl (by decide) rfl (fun ls hl => ?_)
      refine lv_iconst (v := nI 1) hx hb dL_set_17 (by decide) ?_
      refine z_ri hx hb hr hlocks hI ?_ (Nat.le_of_ble_eq_true rfl) (Nat.le_of_ble_eq_true rfl) dL_set_18
      exact ⟨_, rfl, Or.inr (Or.inl ⟨rfl, hn1⟩), ⟨σ, _, hC, hO, fun q => absurd q.1 hn1, fun _ => rfl⟩, fun q _ _ => rfl⟩
    · exact (hn2 trivial).elim
    · exact (hn3 trivial).elim
  obtain ⟨hA, hB, hC3, rfl, hC1, hcf⟩ := hp3
  have hO1 := (hcf _ (by omega)).trans hO
  refine lv_i2l hx hb dL_set_10 rfl ?_
  refine z_lst (k := 0) hx hb hI hO1 (by decide) (by decide) dL_set_11 (fun H locs F5 hw6 ho7 hI => ?_)
  refine lv_goto (tgt := 19) hx hb dL_set_12 (by decide) ?_
  refine lv_iconst (v := nI 0) hx hb dL_set_19 (by decide) ?_
  refine z_ri hx hb hr hlocks hI ?_ (Nat.le_of_ble_eq_true rfl) (Nat.le_of_ble_eq_true rfl) dL_set_20
  exact ⟨_, rfl, Or.inl ⟨rfl, hA, hB, hC3⟩, ⟨_, _, CS.go hC1 (fun q hq => ho7 q (by omega)), hw6, fun _ => ⟨rfl, vpl_s⟩, fun q => absurd ⟨hA, hB, hC3⟩ q⟩, fun q h1 h2 => (ho7 q h2).trans (hcf q h1)⟩

set_option maxHeartbeats 4000000 in
set_option maxRecDepth 100000 in
theorem c_L_remove (l : Launch) (hl0 : l.stackTraces = false) (G : zK) (B0 : Nat) (F : zM) (σ : Sg) (zp0 zp1 : Int32) (fo : Nat → Int64) (hC : CS G B0 F σ) (hK : SgOk σ) (hO : F (B0 + 41) = some (zAL G 1 fo)) : Met l yL_remove (Cond.codeWith yL_remove cL_remove 5 (some FieldType.int) [(0, 10, 13, 13)] :: zW) (zRm 8 135 2 12) (va_Pc [.ref B0, .int zp0, .int zp1, .ref (B0 + 41)] (zPre G B0 F)) (zQi G B0 (zLP G B0 F σ (oA_remove σ zp0 zp1) (oB_remove σ zp0 zp1) (oC_remove σ zp0 zp1) (ss_remove σ zp0 zp1) (rr_remove σ zp0 zp1).toInt64)) 2 12 (zA B0) := by
  refine z_ofH (own := RL) (by decide) rfl (Nat.le_of_ble_eq_true rfl) ?_
  intro p e s m below meth c ls hx hb hr hml hown hlocks htab hts hl hI
  have hl : lv_has ls 5 [(0, .ref B0), (1, .int zp0), (2, .int zp1), (3, .ref (B0 + 41))] := hl
  refine lv_aload_n hx hb dL_remove_0 rfl (lv_at hl 3 rfl) ?_
  refine lv_iconst (v := nI 0) hx hb dL_remove_1 (by decide) ?_
  refine lv_aload_n hx hb dL_remove_2 rfl (lv_at hl 0 rfl) ?_
  refine lv_iload_n hx hb dL_remove_3 rfl (lv_at hl 1 rfl) ?_
  refine lv_iload_n hx hb dL_remove_4 rfl (lv_at hl 2 rfl) ?_
  refine z_xcalli hI (z_xV (As := [.int zp0, .int zp1]) (rest := [.int (nI 0), .ref (B0 + 41)]) ⟨hx, hb, hml, hown, hts⟩ hI hC.1 rfl (c_X2_remove l hl0 G B0 F σ zp0 zp1 hC) (z_cwV vX2_remove hts q243 ⟨Nat.le_of_ble_eq_true rfl, Nat.le_of_ble_eq_true rfl⟩) rfl hl.1 rfl (lv_room (Nat.le_of_ble_eq_true rfl)) dL_remove_5 ⟨Nat.le_of_ble_eq_true rfl, Nat.le_of_ble_eq_true rfl⟩) ?_ (fun r2 F1 H locs hp3 hI => ?_)
  · intro E ce q9 H locs hpx4 hI hce hcv hcl
    rcases hpx4 with ⟨rfl, hn1⟩ | ⟨hE9, hh1, hn2⟩ | ⟨hE9, hh1, hh2, hn3⟩
    · refine z_catch (E := zEI) hown hI [] ⟨0, 10, 13, 13⟩ [] (htab.trans rfl) (fun z hz => nomatch hz) rfl (by decide) (hts _ q65) (List.mem_of_getElem? (i := 0) rfl) hce hcv hcl ?_
      refine lv_astore (lv' := [(4, .ref q9), (0, .ref B0), (1, .int zp0), (2, .int zp1), (3, .ref (B0 + 41))]) hx hb dL_remove_13 hl (by decide) rfl (fun ls hl => ?_)
      refine lv_iconst (v := nI 1) hx hb dL_remove_15 (by decide) ?_
      refine z_ri hx hb hr hlocks hI ?_ (Nat.le_of_ble_eq_true rfl) (Nat.le_of_ble_eq_true rfl) dL_remove_16
      exact ⟨_, rfl, Or.inr (Or.inl ⟨rfl, hn1⟩), ⟨σ, _, hC, hO, fun q => absurd q.1 hn1, fun _ => rfl⟩, fun q _ _ => rfl⟩
    · exact (hn2 trivial).elim
    · exact (hn3 trivial).elim
  obtain ⟨hA, hB, hC3, rfl, hC1, hcf⟩ := hp3
  have hO1 := (hcf _ (by omega)).trans hO
  refine lv_i2l hx hb dL_remove_8 rfl ?_
  refine z_lst (k := 0) hx hb hI hO1 (by decide) (by decide) dL_remove_9 (fun H locs F5 hw6 ho7 hI => ?_)
  refine lv_goto (tgt := 17) hx hb dL_remove_10 (by decide) ?_
  refine lv_iconst (v := nI 0) hx hb dL_remove_17 (by decide) ?_
  refine z_ri hx hb hr hlocks hI ?_ (Nat.le_of_ble_eq_true rfl) (Nat.le_of_ble_eq_true rfl) dL_remove_18
  exact ⟨_, rfl, Or.inl ⟨rfl, hA, hB, hC3⟩, ⟨_, _, CS.go hC1 (fun q hq => ho7 q (by omega)), hw6, fun _ => ⟨rfl, vpl_s⟩, fun q => absurd ⟨hA, hB, hC3⟩ q⟩, fun q h1 h2 => (ho7 q h2).trans (hcf q h1)⟩

set_option maxHeartbeats 4000000 in
set_option maxRecDepth 100000 in
theorem c_L_cut (l : Launch) (hl0 : l.stackTraces = false) (G : zK) (B0 : Nat) (F : zM) (σ : Sg) (zp0 zp1 zp2 : Int32) (fo : Nat → Int64) (hC : CS G B0 F σ) (hK : SgOk σ) (hO : F (B0 + 41) = some (zAL G 1 fo)) : Met l yL_cut (Cond.codeWith yL_cut cL_cut 6 (some FieldType.int) [(0, 12, 15, 13)] :: zW) (zRm 8 136 2 12) (va_Pc [.ref B0, .int zp0, .int zp1, .int zp2, .ref (B0 + 41)] (zPre G B0 F)) (zQi G B0 (zLP G B0 F σ (oA_cut σ zp0 zp1 zp2) (oB_cut σ zp0 zp1 zp2) (oC_cut σ zp0 zp1 zp2) (ss_cut σ zp0 zp1 zp2) (rr_cut σ zp0 zp1 zp2).toInt64)) 2 12 (zA B0) := by
  refine z_ofH (own := RL) (by decide) rfl (Nat.le_of_ble_eq_true rfl) ?_
  intro p e s m below meth c ls hx hb hr hml hown hlocks htab hts hl hI
  have hl : lv_has ls 6 [(0, .ref B0), (1, .int zp0), (2, .int zp1), (3, .int zp2), (4, .ref (B0 + 41))] := hl
  refine lv_aload hx hb dL_cut_0 (lv_at hl 4 rfl) ?_
  refine lv_iconst (v := nI 0) hx hb dL_cut_2 (by decide) ?_
  refine lv_aload_n hx hb dL_cut_3 rfl (lv_at hl 0 rfl) ?_
  refine lv_iload_n hx hb dL_cut_4 rfl (lv_at hl 1 rfl) ?_
  refine lv_iload_n hx hb dL_cut_5 rfl (lv_at hl 2 rfl) ?_
  refine lv_iload_n hx hb dL_cut_6 rfl (lv_at hl 3 rfl) ?_
  refine z_xcalli hI (z_xV (As := [.int zp0, .int zp1, .int zp2]) (rest := [.int (nI 0), .ref (B0 + 41)]) ⟨hx, hb, hml, hown, hts⟩ hI hC.1 rfl (c_X2_cut l hl0 G B0 F σ zp0 zp1 zp2 hC) (z_cwV vX2_cut hts q254 ⟨Nat.le_of_ble_eq_true rfl, Nat.le_of_ble_eq_true rfl⟩) rfl hl.1 rfl (lv_room (Nat.le_of_ble_eq_true rfl)) dL_cut_7 ⟨Nat.le_of_ble_eq_true rfl, Nat.le_of_ble_eq_true rfl⟩) ?_ (fun r2 F1 H locs hp3 hI => ?_)
  · intro E ce q9 H locs hpx4 hI hce hcv hcl
    rcases hpx4 with ⟨rfl, hn1⟩ | ⟨hE9, hh1, hn2⟩ | ⟨hE9, hh1, hh2, hn3⟩
    · refine z_catch (E := zEI) hown hI [] ⟨0, 12, 15, 13⟩ [] (htab.trans rfl) (fun z hz => nomatch hz) rfl (by decide) (hts _ q65) (List.mem_of_getElem? (i := 0) rfl) hce hcv hcl ?_
      refine lv_astore (lv' := [(5, .ref q9), (0, .ref B0), (1, .int zp0), (2, .int zp1), (3, .int zp2), (4, .ref (B0 + 41))]) hx hb dL_cut_15 hl (by decide) rfl (fun ls hl => ?_)
      refine lv_iconst (v := nI 1) hx hb dL_cut_17 (by decide) ?_
      refine z_ri hx hb hr hlocks hI ?_ (Nat.le_of_ble_eq_true rfl) (Nat.le_of_ble_eq_true rfl) dL_cut_18
      exact ⟨_, rfl, Or.inr (Or.inl ⟨rfl, hn1⟩), ⟨σ, _, hC, hO, fun q => absurd q.1 hn1, fun _ => rfl⟩, fun q _ _ => rfl⟩
    · exact (hn2 trivial).elim
    · exact (hn3 trivial).elim
  obtain ⟨hA, hB, hC3, rfl, hC1, hcf⟩ := hp3
  have hO1 := (hcf _ (by omega)).trans hO
  refine lv_i2l hx hb dL_cut_10 rfl ?_
  refine z_lst (k := 0) hx hb hI hO1 (by decide) (by decide) dL_cut_11 (fun H locs F5 hw6 ho7 hI => ?_)
  refine lv_goto (tgt := 19) hx hb dL_cut_12 (by decide) ?_
  refine lv_iconst (v := nI 0) hx hb dL_cut_19 (by decide) ?_
  refine z_ri hx hb hr hlocks hI ?_ (Nat.le_of_ble_eq_true rfl) (Nat.le_of_ble_eq_true rfl) dL_cut_20
  exact ⟨_, rfl, Or.inl ⟨rfl, hA, hB, hC3⟩, ⟨_, _, CS.go hC1 (fun q hq => ho7 q (by omega)), hw6, fun _ => ⟨rfl, vpl_s⟩, fun q => absurd ⟨hA, hB, hC3⟩ q⟩, fun q h1 h2 => (ho7 q h2).trans (hcf q h1)⟩

set_option maxHeartbeats 4000000 in
set_option maxRecDepth 100000 in
theorem c_L_size (l : Launch) (hl0 : l.stackTraces = false) (G : zK) (B0 : Nat) (F : zM) (σ : Sg) (zp0 : Int32) (fo : Nat → Int64) (hC : CS G B0 F σ) (hK : SgOk σ) (hO : F (B0 + 41) = some (zAL G 1 fo)) : Met l yL_size (Cond.codeWith yL_size cL_size 4 (some FieldType.int) [(0, 9, 12, 13)] :: zW) (zRm 8 132 1 6) (va_Pc [.ref B0, .int zp0, .ref (B0 + 41)] (zPre G B0 F)) (zQi G B0 (zLP G B0 F σ (oA_size σ zp0) (oB_size σ zp0) (oC_size σ zp0) (ss_size σ zp0) (rr_size σ zp0).toInt64)) 1 6 (zA B0) := by
  refine z_ofH (own := RL) (by decide) rfl (Nat.le_of_ble_eq_true rfl) ?_
  intro p e s m below meth c ls hx hb hr hml hown hlocks htab hts hl hI
  have hl : lv_has ls 4 [(0, .ref B0), (1, .int zp0), (2, .ref (B0 + 41))] := hl
  refine lv_aload_n hx hb dL_size_0 rfl (lv_at hl 2 rfl) ?_
  refine lv_iconst (v := nI 0) hx hb dL_size_1 (by decide) ?_
  refine lv_aload_n hx hb dL_size_2 rfl (lv_at hl 0 rfl) ?_
  refine lv_iload_n hx hb dL_size_3 rfl (lv_at hl 1 rfl) ?_
  refine z_xcalli hI (z_xV (As := [.int zp0]) (rest := [.int (nI 0), .ref (B0 + 41)]) ⟨hx, hb, hml, hown, hts⟩ hI hC.1 rfl (c_X2_size l hl0 G B0 F σ zp0 hC) (z_cwV vX2_size hts q261 ⟨Nat.le_of_ble_eq_true rfl, Nat.le_of_ble_eq_true rfl⟩) rfl hl.1 rfl (lv_room (Nat.le_of_ble_eq_true rfl)) dL_size_4 ⟨Nat.le_of_ble_eq_true rfl, Nat.le_of_ble_eq_true rfl⟩) ?_ (fun r2 F1 H locs hp3 hI => ?_)
  · intro E ce q9 H locs hpx4 hI hce hcv hcl
    rcases hpx4 with ⟨rfl, hn1⟩ | ⟨hE9, hh1, hn2⟩ | ⟨hE9, hh1, hh2, hn3⟩
    · refine z_catch (E := zEI) hown hI [] ⟨0, 9, 12, 13⟩ [] (htab.trans rfl) (fun z hz => nomatch hz) rfl (by decide) (hts _ q65) (List.mem_of_getElem? (i := 0) rfl) hce hcv hcl ?_
      refine lv_astore_n (lv' := [(3, .ref q9), (0, .ref B0), (1, .int zp0), (2, .ref (B0 + 41))]) hx hb dL_size_12 rfl hl (by decide) rfl (fun ls hl => ?_)
      refine lv_iconst (v := nI 1) hx hb dL_size_13 (by decide) ?_
      refine z_ri hx hb hr hlocks hI ?_ (Nat.le_of_ble_eq_true rfl) (Nat.le_of_ble_eq_true rfl) dL_size_14
      exact ⟨_, rfl, Or.inr (Or.inl ⟨rfl, hn1⟩), ⟨σ, _, hC, hO, fun q => absurd q.1 hn1, fun _ => rfl⟩, fun q _ _ => rfl⟩
    · exact (hn2 trivial).elim
    · exact (hn3 trivial).elim
  obtain ⟨hA, hB, hC3, rfl, hC1, hcf⟩ := hp3
  have hO1 := (hcf _ (by omega)).trans hO
  refine lv_i2l hx hb dL_size_7 rfl ?_
  refine z_lst (k := 0) hx hb hI hO1 (by decide) (by decide) dL_size_8 (fun H locs F5 hw6 ho7 hI => ?_)
  refine lv_goto (tgt := 15) hx hb dL_size_9 (by decide) ?_
  refine lv_iconst (v := nI 0) hx hb dL_size_15 (by decide) ?_
  refine z_ri hx hb hr hlocks hI ?_ (Nat.le_of_ble_eq_true rfl) (Nat.le_of_ble_eq_true rfl) dL_size_16
  exact ⟨_, rfl, Or.inl ⟨rfl, hA, hB, hC3⟩, ⟨_, _, CS.go hC1 (fun q hq => ho7 q (by omega)), hw6, fun _ => ⟨rfl, vpl_s⟩, fun q => absurd ⟨hA, hB, hC3⟩ q⟩, fun q h1 h2 => (ho7 q h2).trans (hcf q h1)⟩

set_option maxHeartbeats 4000000 in
set_option maxRecDepth 100000 in
theorem c_L_at (l : Launch) (hl0 : l.stackTraces = false) (G : zK) (B0 : Nat) (F : zM) (σ : Sg) (zp0 zp1 : Int32) (fo : Nat → Int64) (hC : CS G B0 F σ) (hK : SgOk σ) (hO : F (B0 + 41) = some (zAL G 1 fo)) : Met l yL_at (Cond.codeWith yL_at cL_at 5 (some FieldType.int) [(0, 10, 13, 13)] :: zW) (zRm 8 134 2 12) (va_Pc [.ref B0, .int zp0, .int zp1, .ref (B0 + 41)] (zPre G B0 F)) (zQi G B0 (zLP G B0 F σ (oA_at σ zp0 zp1) (oB_at σ zp0 zp1) (oC_at σ zp0 zp1) (ss_at σ zp0 zp1) (rr_at σ zp0 zp1).toInt64)) 2 12 (zA B0) := by
  refine z_ofH (own := RL) (by decide) rfl (Nat.le_of_ble_eq_true rfl) ?_
  intro p e s m below meth c ls hx hb hr hml hown hlocks htab hts hl hI
  have hl : lv_has ls 5 [(0, .ref B0), (1, .int zp0), (2, .int zp1), (3, .ref (B0 + 41))] := hl
  refine lv_aload_n hx hb dL_at_0 rfl (lv_at hl 3 rfl) ?_
  refine lv_iconst (v := nI 0) hx hb dL_at_1 (by decide) ?_
  refine lv_aload_n hx hb dL_at_2 rfl (lv_at hl 0 rfl) ?_
  refine lv_iload_n hx hb dL_at_3 rfl (lv_at hl 1 rfl) ?_
  refine lv_iload_n hx hb dL_at_4 rfl (lv_at hl 2 rfl) ?_
  refine z_xcalli hI (z_xV (As := [.int zp0, .int zp1]) (rest := [.int (nI 0), .ref (B0 + 41)]) ⟨hx, hb, hml, hown, hts⟩ hI hC.1 rfl (c_X2_at l hl0 G B0 F σ zp0 zp1 hC) (z_cwV vX2_at hts q268 ⟨Nat.le_of_ble_eq_true rfl, Nat.le_of_ble_eq_true rfl⟩) rfl hl.1 rfl (lv_room (Nat.le_of_ble_eq_true rfl)) dL_at_5 ⟨Nat.le_of_ble_eq_true rfl, Nat.le_of_ble_eq_true rfl⟩) ?_ (fun r2 F1 H locs hp3 hI => ?_)
  · intro E ce q9 H locs hpx4 hI hce hcv hcl
    rcases hpx4 with ⟨rfl, hn1⟩ | ⟨hE9, hh1, hn2⟩ | ⟨hE9, hh1, hh2, hn3⟩
    · refine z_catch (E := zEI) hown hI [] ⟨0, 10, 13, 13⟩ [] (htab.trans rfl) (fun z hz => nomatch hz) rfl (by decide) (hts _ q65) (List.mem_of_getElem? (i := 0) rfl) hce hcv hcl ?_
      refine lv_astore (lv' := [(4, .ref q9), (0, .ref B0), (1, .int zp0), (2, .int zp1), (3, .ref (B0 + 41))]) hx hb dL_at_13 hl (by decide) rfl (fun ls hl => ?_)
      refine lv_iconst (v := nI 1) hx hb dL_at_15 (by decide) ?_
      refine z_ri hx hb hr hlocks hI ?_ (Nat.le_of_ble_eq_true rfl) (Nat.le_of_ble_eq_true rfl) dL_at_16
      exact ⟨_, rfl, Or.inr (Or.inl ⟨rfl, hn1⟩), ⟨σ, _, hC, hO, fun q => absurd q.1 hn1, fun _ => rfl⟩, fun q _ _ => rfl⟩
    · exact (hn2 trivial).elim
    · exact (hn3 trivial).elim
  obtain ⟨hA, hB, hC3, rfl, hC1, hcf⟩ := hp3
  have hO1 := (hcf _ (by omega)).trans hO
  refine lv_i2l hx hb dL_at_8 rfl ?_
  refine z_lst (k := 0) hx hb hI hO1 (by decide) (by decide) dL_at_9 (fun H locs F5 hw6 ho7 hI => ?_)
  refine lv_goto (tgt := 17) hx hb dL_at_10 (by decide) ?_
  refine lv_iconst (v := nI 0) hx hb dL_at_17 (by decide) ?_
  refine z_ri hx hb hr hlocks hI ?_ (Nat.le_of_ble_eq_true rfl) (Nat.le_of_ble_eq_true rfl) dL_at_18
  exact ⟨_, rfl, Or.inl ⟨rfl, hA, hB, hC3⟩, ⟨_, _, CS.go hC1 (fun q hq => ho7 q (by omega)), hw6, fun _ => ⟨rfl, vpl_s⟩, fun q => absurd ⟨hA, hB, hC3⟩ q⟩, fun q h1 h2 => (ho7 q h2).trans (hcf q h1)⟩

set_option maxHeartbeats 4000000 in
set_option maxRecDepth 100000 in
theorem c_L_digest (l : Launch) (hl0 : l.stackTraces = false) (G : zK) (B0 : Nat) (F : zM) (σ : Sg) (zp0 : Int32) (fo : Nat → Int64) (hC : CS G B0 F σ) (hK : SgOk σ) (hO : F (B0 + 41) = some (zAL G 1 fo)) : Met l yL_digest (Cond.codeWith yL_digest cL_digest 4 (some FieldType.int) [(0, 9, 12, 13)] :: zW) (zRm 8 135 1 6) (va_Pc [.ref B0, .int zp0, .ref (B0 + 41)] (zPre G B0 F)) (zQi G B0 (zLP G B0 F σ (oA_digest σ zp0) (oB_digest σ zp0) (oC_digest σ zp0) (ss_digest σ zp0) (rr_digest σ zp0).toInt64)) 1 6 (zA B0) := by
  refine z_ofH (own := RL) (by decide) rfl (Nat.le_of_ble_eq_true rfl) ?_
  intro p e s m below meth c ls hx hb hr hml hown hlocks htab hts hl hI
  have hl : lv_has ls 4 [(0, .ref B0), (1, .int zp0), (2, .ref (B0 + 41))] := hl
  refine lv_aload_n hx hb dL_digest_0 rfl (lv_at hl 2 rfl) ?_
  refine lv_iconst (v := nI 0) hx hb dL_digest_1 (by decide) ?_
  refine lv_aload_n hx hb dL_digest_2 rfl (lv_at hl 0 rfl) ?_
  refine lv_iload_n hx hb dL_digest_3 rfl (lv_at hl 1 rfl) ?_
  refine z_xcalli hI (z_xV (As := [.int zp0]) (rest := [.int (nI 0), .ref (B0 + 41)]) ⟨hx, hb, hml, hown, hts⟩ hI hC.1 rfl (c_X2_digest l hl0 G B0 F σ zp0 hC) (z_cwV vX2_digest hts q275 ⟨Nat.le_of_ble_eq_true rfl, Nat.le_of_ble_eq_true rfl⟩) rfl hl.1 rfl (lv_room (Nat.le_of_ble_eq_true rfl)) dL_digest_4 ⟨Nat.le_of_ble_eq_true rfl, Nat.le_of_ble_eq_true rfl⟩) ?_ (fun r2 F1 H locs hp3 hI => ?_)
  · intro E ce q9 H locs hpx4 hI hce hcv hcl
    rcases hpx4 with ⟨rfl, hn1⟩ | ⟨hE9, hh1, hn2⟩ | ⟨hE9, hh1, hh2, hn3⟩
    · refine z_catch (E := zEI) hown hI [] ⟨0, 9, 12, 13⟩ [] (htab.trans rfl) (fun z hz => nomatch hz) rfl (by decide) (hts _ q65) (List.mem_of_getElem? (i := 0) rfl) hce hcv hcl ?_
      refine lv_astore_n (lv' := [(3, .ref q9), (0, .ref B0), (1, .int zp0), (2, .ref (B0 + 41))]) hx hb dL_digest_12 rfl hl (by decide) rfl (fun ls hl => ?_)
      refine lv_iconst (v := nI 1) hx hb dL_digest_13 (by decide) ?_
      refine z_ri hx hb hr hlocks hI ?_ (Nat.le_of_ble_eq_true rfl) (Nat.le_of_ble_eq_true rfl) dL_digest_14
      exact ⟨_, rfl, Or.inr (Or.inl ⟨rfl, hn1⟩), ⟨σ, _, hC, hO, fun q => absurd q.1 hn1, fun _ => rfl⟩, fun q _ _ => rfl⟩
    · exact (hn2 trivial).elim
    · exact (hn3 trivial).elim
  obtain ⟨hA, hB, hC3, rfl, hC1, hcf⟩ := hp3
  have hO1 := (hcf _ (by omega)).trans hO
  refine lv_i2l hx hb dL_digest_7 rfl ?_
  refine z_lst (k := 0) hx hb hI hO1 (by decide) (by decide) dL_digest_8 (fun H locs F5 hw6 ho7 hI => ?_)
  refine lv_goto (tgt := 15) hx hb dL_digest_9 (by decide) ?_
  refine lv_iconst (v := nI 0) hx hb dL_digest_15 (by decide) ?_
  refine z_ri hx hb hr hlocks hI ?_ (Nat.le_of_ble_eq_true rfl) (Nat.le_of_ble_eq_true rfl) dL_digest_16
  exact ⟨_, rfl, Or.inl ⟨rfl, hA, hB, hC3⟩, ⟨_, _, CS.go hC1 (fun q hq => ho7 q (by omega)), hw6, fun _ => ⟨rfl, vpl_s⟩, fun q => absurd ⟨hA, hB, hC3⟩ q⟩, fun q h1 h2 => (ho7 q h2).trans (hcf q h1)⟩

set_option maxHeartbeats 4000000 in
set_option maxRecDepth 100000 in
theorem c_L_setRank (l : Launch) (hl0 : l.stackTraces = false) (G : zK) (B0 : Nat) (F : zM) (σ : Sg) (zp0 zp1 : Int32) (fo : Nat → Int64) (hC : CS G B0 F σ) (hK : SgOk σ) (hO : F (B0 + 41) = some (zAL G 1 fo)) : Met l yL_setRank (Cond.codeWith yL_setRank cL_setRank 5 (some FieldType.int) [(0, 10, 13, 13), (0, 10, 17, 21)] :: zW) (zRm 8 135 2 12) (va_Pc [.ref B0, .int zp0, .int zp1, .ref (B0 + 41)] (zPre G B0 F)) (zQi G B0 (zLP G B0 F σ (oA_setRank σ zp0 zp1) (oB_setRank σ zp0 zp1) (oC_setRank σ zp0 zp1) (ss_setRank σ zp0 zp1) (rr_setRank σ zp0 zp1).toInt64)) 2 12 (zA B0) := by
  refine z_ofH (own := RL) (by decide) rfl (Nat.le_of_ble_eq_true rfl) ?_
  intro p e s m below meth c ls hx hb hr hml hown hlocks htab hts hl hI
  have hl : lv_has ls 5 [(0, .ref B0), (1, .int zp0), (2, .int zp1), (3, .ref (B0 + 41))] := hl
  refine lv_aload_n hx hb dL_setRank_0 rfl (lv_at hl 3 rfl) ?_
  refine lv_iconst (v := nI 0) hx hb dL_setRank_1 (by decide) ?_
  refine lv_aload_n hx hb dL_setRank_2 rfl (lv_at hl 0 rfl) ?_
  refine lv_iload_n hx hb dL_setRank_3 rfl (lv_at hl 1 rfl) ?_
  refine lv_iload_n hx hb dL_setRank_4 rfl (lv_at hl 2 rfl) ?_
  refine z_xcalli hI (z_xV (As := [.int zp0, .int zp1]) (rest := [.int (nI 0), .ref (B0 + 41)]) ⟨hx, hb, hml, hown, hts⟩ hI hC.1 rfl (c_X2_setRank l hl0 G B0 F σ zp0 zp1 hC) (z_cwV vX2_setRank hts q282 ⟨Nat.le_of_ble_eq_true rfl, Nat.le_of_ble_eq_true rfl⟩) rfl hl.1 rfl (lv_room (Nat.le_of_ble_eq_true rfl)) dL_setRank_5 ⟨Nat.le_of_ble_eq_true rfl, Nat.le_of_ble_eq_true rfl⟩) ?_ (fun r2 F1 H locs hp3 hI => ?_)
  · intro E ce q9 H locs hpx4 hI hce hcv hcl
    rcases hpx4 with ⟨rfl, hn1⟩ | ⟨rfl, hh1, hn2⟩ | ⟨hE9, hh1, hh2, hn3⟩
    · refine z_catch (E := zEI) hown hI [] ⟨0, 10, 13, 13⟩ [⟨0, 10, 17, 21⟩] (htab.trans rfl) (fun z hz => nomatch hz) rfl (by decide) (hts _ q65) (List.mem_of_getElem? (i := 0) rfl) hce hcv hcl ?_
      refine lv_astore (lv' := [(4, .ref q9), (0, .ref B0), (1, .int zp0), (2, .int zp1), (3, .ref (B0 + 41))]) hx hb dL_setRank_13 hl (by decide) rfl (fun ls hl => ?_)
      refine lv_iconst (v := nI 1) hx hb dL_setRank_15 (by decide) ?_
      refine z_ri hx hb hr hlocks hI ?_ (Nat.le_of_ble_eq_true rfl) (Nat.le_of_ble_eq_true rfl) dL_setRank_16
      exact ⟨_, rfl, Or.inr (Or.inl ⟨rfl, hn1⟩), ⟨σ, _, hC, hO, fun q => absurd q.1 hn1, fun _ => rfl⟩, fun q _ _ => rfl⟩
    · refine z_catch (E := zEA) hown hI [⟨0, 10, 13, 13⟩] ⟨0, 10, 17, 21⟩ [] (htab.trans rfl) (List.forall_mem_cons.mpr ⟨⟨by decide, zEI, hts _ q65, List.mem_of_getElem? (i := 1) rfl⟩, fun z hz => nomatch hz⟩) rfl (by decide) (hts _ q175) (List.mem_of_getElem? (i := 2) rfl) hce hcv hcl ?_
      refine lv_astore (lv' := [(4, .ref q9), (0, .ref B0), (1, .int zp0), (2, .int zp1), (3, .ref (B0 + 41))]) hx hb dL_setRank_17 hl (by decide) rfl (fun ls hl => ?_)
      refine lv_iconst (v := nI 2) hx hb dL_setRank_19 (by decide) ?_
      refine z_ri hx hb hr hlocks hI ?_ (Nat.le_of_ble_eq_true rfl) (Nat.le_of_ble_eq_true rfl) dL_setRank_20
      exact ⟨_, rfl, Or.inr (Or.inr (Or.inl ⟨rfl, hh1, hn2⟩)), ⟨σ, _, hC, hO, fun q => absurd q.2.1 hn2, fun _ => rfl⟩, fun q _ _ => rfl⟩
    · exact (hn3 trivial).elim
  obtain ⟨hA, hB, hC3, rfl, hC1, hcf⟩ := hp3
  have hO1 := (hcf _ (by omega)).trans hO
  refine lv_i2l hx hb dL_setRank_8 rfl ?_
  refine z_lst (k := 0) hx hb hI hO1 (by decide) (by decide) dL_setRank_9 (fun H locs F5 hw6 ho7 hI => ?_)
  refine lv_goto (tgt := 21) hx hb dL_setRank_10 (by decide) ?_
  refine lv_iconst (v := nI 0) hx hb dL_setRank_21 (by decide) ?_
  refine z_ri hx hb hr hlocks hI ?_ (Nat.le_of_ble_eq_true rfl) (Nat.le_of_ble_eq_true rfl) dL_setRank_22
  exact ⟨_, rfl, Or.inl ⟨rfl, hA, hB, hC3⟩, ⟨_, _, CS.go hC1 (fun q hq => ho7 q (by omega)), hw6, fun _ => ⟨rfl, vpl_s⟩, fun q => absurd ⟨hA, hB, hC3⟩ q⟩, fun q h1 h2 => (ho7 q h2).trans (hcf q h1)⟩

set_option maxHeartbeats 4000000 in
set_option maxRecDepth 100000 in
theorem c_L_say (l : Launch) (hl0 : l.stackTraces = false) (G : zK) (B0 : Nat) (F : zM) (σ : Sg) (zp0 zp1 : Int32) (fo : Nat → Int64) (hC : CS G B0 F σ) (hK : SgOk σ) (hO : F (B0 + 41) = some (zAL G 1 fo)) : Met l yL_say (Cond.codeWith yL_say cL_say 5 (some FieldType.int) [(0, 10, 13, 13), (0, 10, 17, 15)] :: zW) (zRm 8 134 3 18) (va_Pc [.ref B0, .int zp0, .int zp1, .ref (B0 + 41)] (zPre G B0 F)) (zQi G B0 (zLP G B0 F σ (oA_say σ zp0 zp1) (oB_say σ zp0 zp1) (oC_say σ zp0 zp1) (ss_say σ zp0 zp1) (rr_say σ zp0 zp1).toInt64)) 3 18 (zA B0) := by
  refine z_ofH (own := RL) (by decide) rfl (Nat.le_of_ble_eq_true rfl) ?_
  intro p e s m below meth c ls hx hb hr hml hown hlocks htab hts hl hI
  have hl : lv_has ls 5 [(0, .ref B0), (1, .int zp0), (2, .int zp1), (3, .ref (B0 + 41))] := hl
  refine lv_aload_n hx hb dL_say_0 rfl (lv_at hl 3 rfl) ?_
  refine lv_iconst (v := nI 0) hx hb dL_say_1 (by decide) ?_
  refine lv_aload_n hx hb dL_say_2 rfl (lv_at hl 0 rfl) ?_
  refine lv_iload_n hx hb dL_say_3 rfl (lv_at hl 1 rfl) ?_
  refine lv_iload_n hx hb dL_say_4 rfl (lv_at hl 2 rfl) ?_
  refine z_xcalli hI (z_xV (As := [.int zp0, .int zp1]) (rest := [.int (nI 0), .ref (B0 + 41)]) ⟨hx, hb, hml, hown, hts⟩ hI hC.1 rfl (c_X2_say l hl0 G B0 F σ zp0 zp1 hC) (z_cwV vX2_say hts q289 ⟨Nat.le_of_ble_eq_true rfl, Nat.le_of_ble_eq_true rfl⟩) rfl hl.1 rfl (lv_room (Nat.le_of_ble_eq_true rfl)) dL_say_5 ⟨Nat.le_of_ble_eq_true rfl, Nat.le_of_ble_eq_true rfl⟩) ?_ (fun r2 F1 H locs hp3 hI => ?_)
  · intro E ce q9 H locs hpx4 hI hce hcv hcl
    rcases hpx4 with ⟨rfl, hn1⟩ | ⟨rfl, hh1, hn2⟩ | ⟨hE9, hh1, hh2, hn3⟩
    · refine z_catch (E := zEI) hown hI [] ⟨0, 10, 13, 13⟩ [⟨0, 10, 17, 15⟩] (htab.trans rfl) (fun z hz => nomatch hz) rfl (by decide) (hts _ q65) (List.mem_of_getElem? (i := 0) rfl) hce hcv hcl ?_
      refine lv_astore (lv' := [(4, .ref q9), (0, .ref B0), (1, .int zp0), (2, .int zp1), (3, .ref (B0 + 41))]) hx hb dL_say_13 hl (by decide) rfl (fun ls hl => ?_)
      refine lv_iconst (v := nI 1) hx hb dL_say_15 (by decide) ?_
      refine z_ri hx hb hr hlocks hI ?_ (Nat.le_of_ble_eq_true rfl) (Nat.le_of_ble_eq_true rfl) dL_say_16
      exact ⟨_, rfl, Or.inr (Or.inl ⟨rfl, hn1⟩), ⟨σ, _, hC, hO, fun q => absurd q.1 hn1, fun _ => rfl⟩, fun q _ _ => rfl⟩
    · refine z_catch (E := zES) hown hI [⟨0, 10, 13, 13⟩] ⟨0, 10, 17, 15⟩ [] (htab.trans rfl) (List.forall_mem_cons.mpr ⟨⟨by decide, zEI, hts _ q65, List.mem_of_getElem? (i := 0) rfl⟩, fun z hz => nomatch hz⟩) rfl (by decide) (hts _ q66) (List.mem_of_getElem? (i := 1) rfl) hce hcv hcl ?_
      refine lv_astore (lv' := [(4, .ref q9), (0, .ref B0), (1, .int zp0), (2, .int zp1), (3, .ref (B0 + 41))]) hx hb dL_say_17 hl (by decide) rfl (fun ls hl => ?_)
      refine lv_iconst (v := nI 2) hx hb dL_say_19 (by decide) ?_
      refine z_ri hx hb hr hlocks hI ?_ (Nat.le_of_ble_eq_true rfl) (Nat.le_of_ble_eq_true rfl) dL_say_20
      exact ⟨_, rfl, Or.inr (Or.inr (Or.inl ⟨rfl, hh1, hn2⟩)), ⟨σ, _, hC, hO, fun q => absurd q.2.1 hn2, fun _ => rfl⟩, fun q _ _ => rfl⟩
    · exact (hn3 trivial).elim
  obtain ⟨hA, hB, hC3, rfl, hC1, hcf⟩ := hp3
  have hO1 := (hcf _ (by omega)).trans hO
  refine lv_i2l hx hb dL_say_8 rfl ?_
  refine z_lst (k := 0) hx hb hI hO1 (by decide) (by decide) dL_say_9 (fun H locs F5 hw6 ho7 hI => ?_)
  refine lv_goto (tgt := 21) hx hb dL_say_10 (by decide) ?_
  refine lv_iconst (v := nI 0) hx hb dL_say_21 (by decide) ?_
  refine z_ri hx hb hr hlocks hI ?_ (Nat.le_of_ble_eq_true rfl) (Nat.le_of_ble_eq_true rfl) dL_say_22
  exact ⟨_, rfl, Or.inl ⟨rfl, hA, hB, hC3⟩, ⟨_, _, CS.go hC1 (fun q hq => ho7 q (by omega)), hw6, fun _ => ⟨rfl, vpl_s⟩, fun q => absurd ⟨hA, hB, hC3⟩ q⟩, fun q h1 h2 => (ho7 q h2).trans (hcf q h1)⟩

set_option maxHeartbeats 4000000 in
set_option maxRecDepth 100000 in
theorem c_L_quote (l : Launch) (hl0 : l.stackTraces = false) (G : zK) (B0 : Nat) (F : zM) (σ : Sg) (zp0 zp1 zp2 zp3 : Int32) (fo : Nat → Int64) (hC : CS G B0 F σ) (hK : SgOk σ) (hO : F (B0 + 41) = some (zAL G 1 fo)) : Met l yL_quote (Cond.codeWith yL_quote cL_quote 7 (some FieldType.int) [(0, 14, 17, 13), (0, 14, 21, 15)] :: zW) (zRm 8 139 4 24) (va_Pc [.ref B0, .int zp0, .int zp1, .int zp2, .int zp3, .ref (B0 + 41)] (zPre G B0 F)) (zQi G B0 (zLP G B0 F σ (oA_quote σ zp0 zp1 zp2 zp3) (oB_quote σ zp0 zp1 zp2 zp3) (oC_quote σ zp0 zp1 zp2 zp3) (ss_quote σ zp0 zp1 zp2 zp3) (rr_quote σ zp0 zp1 zp2 zp3).toInt64)) 4 24 (zA B0) := by
  refine z_ofH (own := RL) (by decide) rfl (Nat.le_of_ble_eq_true rfl) ?_
  intro p e s m below meth c ls hx hb hr hml hown hlocks htab hts hl hI
  have hl : lv_has ls 7 [(0, .ref B0), (1, .int zp0), (2, .int zp1), (3, .int zp2), (4, .int zp3), (5, .ref (B0 + 41))] := hl
  refine lv_aload hx hb dL_quote_0 (lv_at hl 5 rfl) ?_
  refine lv_iconst (v := nI 0) hx hb dL_quote_2 (by decide) ?_
  refine lv_aload_n hx hb dL_quote_3 rfl (lv_at hl 0 rfl) ?_
  refine lv_iload_n hx hb dL_quote_4 rfl (lv_at hl 1 rfl) ?_
  refine lv_iload_n hx hb dL_quote_5 rfl (lv_at hl 2 rfl) ?_
  refine lv_iload_n hx hb dL_quote_6 rfl (lv_at hl 3 rfl) ?_
  refine lv_iload hx hb dL_quote_7 (lv_at hl 4 rfl) ?_
  refine z_xcalli hI (z_xV (As := [.int zp0, .int zp1, .int zp2, .int zp3]) (rest := [.int (nI 0), .ref (B0 + 41)]) ⟨hx, hb, hml, hown, hts⟩ hI hC.1 rfl (c_X2_quote l hl0 G B0 F σ zp0 zp1 zp2 zp3 hC) (z_cwV vX2_quote hts q301 ⟨Nat.le_of_ble_eq_true rfl, Nat.le_of_ble_eq_true rfl⟩) rfl hl.1 rfl (lv_room (Nat.le_of_ble_eq_true rfl)) dL_quote_9 ⟨Nat.le_of_ble_eq_true rfl, Nat.le_of_ble_eq_true rfl⟩) ?_ (fun r2 F1 H locs hp3 hI => ?_)
  · intro E ce q9 H locs hpx4 hI hce hcv hcl
    rcases hpx4 with ⟨rfl, hn1⟩ | ⟨rfl, hh1, hn2⟩ | ⟨hE9, hh1, hh2, hn3⟩
    · refine z_catch (E := zEI) hown hI [] ⟨0, 14, 17, 13⟩ [⟨0, 14, 21, 15⟩] (htab.trans rfl) (fun z hz => nomatch hz) rfl (by decide) (hts _ q65) (List.mem_of_getElem? (i := 0) rfl) hce hcv hcl ?_
      refine lv_astore (lv' := [(6, .ref q9), (0, .ref B0), (1, .int zp0), (2, .int zp1), (3, .int zp2), (4, .int zp3), (5, .ref (B0 + 41))]) hx hb dL_quote_17 hl (by decide) rfl (fun ls hl => ?_)
      refine lv_iconst (v := nI 1) hx hb dL_quote_19 (by decide) ?_
      refine z_ri hx hb hr hlocks hI ?_ (Nat.le_of_ble_eq_true rfl) (Nat.le_of_ble_eq_true rfl) dL_quote_20
      exact ⟨_, rfl, Or.inr (Or.inl ⟨rfl, hn1⟩), ⟨σ, _, hC, hO, fun q => absurd q.1 hn1, fun _ => rfl⟩, fun q _ _ => rfl⟩
    · refine z_catch (E := zES) hown hI [⟨0, 14, 17, 13⟩] ⟨0, 14, 21, 15⟩ [] (htab.trans rfl) (List.forall_mem_cons.mpr ⟨⟨by decide, zEI, hts _ q65, List.mem_of_getElem? (i := 0) rfl⟩, fun z hz => nomatch hz⟩) rfl (by decide) (hts _ q66) (List.mem_of_getElem? (i := 1) rfl) hce hcv hcl ?_
      refine lv_astore (lv' := [(6, .ref q9), (0, .ref B0), (1, .int zp0), (2, .int zp1), (3, .int zp2), (4, .int zp3), (5, .ref (B0 + 41))]) hx hb dL_quote_21 hl (by decide) rfl (fun ls hl => ?_)
      refine lv_iconst (v := nI 2) hx hb dL_quote_23 (by decide) ?_
      refine z_ri hx hb hr hlocks hI ?_ (Nat.le_of_ble_eq_true rfl) (Nat.le_of_ble_eq_true rfl) dL_quote_24
      exact ⟨_, rfl, Or.inr (Or.inr (Or.inl ⟨rfl, hh1, hn2⟩)), ⟨σ, _, hC, hO, fun q => absurd q.2.1 hn2, fun _ => rfl⟩, fun q _ _ => rfl⟩
    · exact (hn3 trivial).elim
  obtain ⟨hA, hB, hC3, rfl, hC1, hcf⟩ := hp3
  have hO1 := (hcf _ (by omega)).trans hO
  refine lv_i2l hx hb dL_quote_12 rfl ?_
  refine z_lst (k := 0) hx hb hI hO1 (by decide) (by decide) dL_quote_13 (fun H locs F5 hw6 ho7 hI => ?_)
  refine lv_goto (tgt := 25) hx hb dL_quote_14 (by decide) ?_
  refine lv_iconst (v := nI 0) hx hb dL_quote_25 (by decide) ?_
  refine z_ri hx hb hr hlocks hI ?_ (Nat.le_of_ble_eq_true rfl) (Nat.le_of_ble_eq_true rfl) dL_quote_26
  exact ⟨_, rfl, Or.inl ⟨rfl, hA, hB, hC3⟩, ⟨_, _, CS.go hC1 (fun q hq => ho7 q (by omega)), hw6, fun _ => ⟨rfl, vpl_s⟩, fun q => absurd ⟨hA, hB, hC3⟩ q⟩, fun q h1 h2 => (ho7 q h2).trans (hcf q h1)⟩

set_option maxHeartbeats 4000000 in
set_option maxRecDepth 100000 in
theorem c_L_hush (l : Launch) (hl0 : l.stackTraces = false) (G : zK) (B0 : Nat) (F : zM) (σ : Sg) (zp0 : Int32) (fo : Nat → Int64) (hC : CS G B0 F σ) (hK : SgOk σ) (hO : F (B0 + 41) = some (zAL G 1 fo)) : Met l yL_hush (Cond.codeWith yL_hush cL_hush 4 (some FieldType.int) [(0, 9, 12, 13)] :: zW) (zRm 8 134 1 6) (va_Pc [.ref B0, .int zp0, .ref (B0 + 41)] (zPre G B0 F)) (zQi G B0 (zLP G B0 F σ (oA_hush σ zp0) (oB_hush σ zp0) (oC_hush σ zp0) (ss_hush σ zp0) (rr_hush σ zp0).toInt64)) 1 6 (zA B0) := by
  refine z_ofH (own := RL) (by decide) rfl (Nat.le_of_ble_eq_true rfl) ?_
  intro p e s m below meth c ls hx hb hr hml hown hlocks htab hts hl hI
  have hl : lv_has ls 4 [(0, .ref B0), (1, .int zp0), (2, .ref (B0 + 41))] := hl
  refine lv_aload_n hx hb dL_hush_0 rfl (lv_at hl 2 rfl) ?_
  refine lv_iconst (v := nI 0) hx hb dL_hush_1 (by decide) ?_
  refine lv_aload_n hx hb dL_hush_2 rfl (lv_at hl 0 rfl) ?_
  refine lv_iload_n hx hb dL_hush_3 rfl (lv_at hl 1 rfl) ?_
  refine z_xcalli hI (z_xV (As := [.int zp0]) (rest := [.int (nI 0), .ref (B0 + 41)]) ⟨hx, hb, hml, hown, hts⟩ hI hC.1 rfl (c_X2_hush l hl0 G B0 F σ zp0 hC) (z_cwV vX2_hush hts q309 ⟨Nat.le_of_ble_eq_true rfl, Nat.le_of_ble_eq_true rfl⟩) rfl hl.1 rfl (lv_room (Nat.le_of_ble_eq_true rfl)) dL_hush_4 ⟨Nat.le_of_ble_eq_true rfl, Nat.le_of_ble_eq_true rfl⟩) ?_ (fun r2 F1 H locs hp3 hI => ?_)
  · intro E ce q9 H locs hpx4 hI hce hcv hcl
    rcases hpx4 with ⟨rfl, hn1⟩ | ⟨hE9, hh1, hn2⟩ | ⟨hE9, hh1, hh2, hn3⟩
    · refine z_catch (E := zEI) hown hI [] ⟨0, 9, 12, 13⟩ [] (htab.trans rfl) (fun z hz => nomatch hz) rfl (by decide) (hts _ q65) (List.mem_of_getElem? (i := 0) rfl) hce hcv hcl ?_
      refine lv_astore_n (lv' := [(3, .ref q9), (0, .ref B0), (1, .int zp0), (2, .ref (B0 + 41))]) hx hb dL_hush_12 rfl hl (by decide) rfl (fun ls hl => ?_)
      refine lv_iconst (v := nI 1) hx hb dL_hush_13 (by decide) ?_
      refine z_ri hx hb hr hlocks hI ?_ (Nat.le_of_ble_eq_true rfl) (Nat.le_of_ble_eq_true rfl) dL_hush_14
      exact ⟨_, rfl, Or.inr (Or.inl ⟨rfl, hn1⟩), ⟨σ, _, hC, hO, fun q => absurd q.1 hn1, fun _ => rfl⟩, fun q _ _ => rfl⟩
    · exact (hn2 trivial).elim
    · exact (hn3 trivial).elim
  obtain ⟨hA, hB, hC3, rfl, hC1, hcf⟩ := hp3
  have hO1 := (hcf _ (by omega)).trans hO
  refine lv_i2l hx hb dL_hush_7 rfl ?_
  refine z_lst (k := 0) hx hb hI hO1 (by decide) (by decide) dL_hush_8 (fun H locs F5 hw6 ho7 hI => ?_)
  refine lv_goto (tgt := 15) hx hb dL_hush_9 (by decide) ?_
  refine lv_iconst (v := nI 0) hx hb dL_hush_15 (by decide) ?_
  refine z_ri hx hb hr hlocks hI ?_ (Nat.le_of_ble_eq_true rfl) (Nat.le_of_ble_eq_true rfl) dL_hush_16
  exact ⟨_, rfl, Or.inl ⟨rfl, hA, hB, hC3⟩, ⟨_, _, CS.go hC1 (fun q hq => ho7 q (by omega)), hw6, fun _ => ⟨rfl, vpl_s⟩, fun q => absurd ⟨hA, hB, hC3⟩ q⟩, fun q h1 h2 => (ho7 q h2).trans (hcf q h1)⟩

set_option maxHeartbeats 4000000 in
set_option maxRecDepth 100000 in
theorem c_L_wordOf (l : Launch) (hl0 : l.stackTraces = false) (G : zK) (B0 : Nat) (F : zM) (σ : Sg) (zp0 zp1 : Int32) (fo : Nat → Int64) (hC : CS G B0 F σ) (hK : SgOk σ) (hO : F (B0 + 41) = some (zAL G 1 fo)) : Met l yL_wordOf (Cond.codeWith yL_wordOf cL_wordOf 5 (some FieldType.int) [(0, 10, 13, 13)] :: zW) (zRm 8 134 2 12) (va_Pc [.ref B0, .int zp0, .int zp1, .ref (B0 + 41)] (zPre G B0 F)) (zQi G B0 (zLP G B0 F σ (oA_wordOf σ zp0 zp1) (oB_wordOf σ zp0 zp1) (oC_wordOf σ zp0 zp1) (ss_wordOf σ zp0 zp1) (rr_wordOf σ zp0 zp1).toInt64)) 2 12 (zA B0) := by
  refine z_ofH (own := RL) (by decide) rfl (Nat.le_of_ble_eq_true rfl) ?_
  intro p e s m below meth c ls hx hb hr hml hown hlocks htab hts hl hI
  have hl : lv_has ls 5 [(0, .ref B0), (1, .int zp0), (2, .int zp1), (3, .ref (B0 + 41))] := hl
  refine lv_aload_n hx hb dL_wordOf_0 rfl (lv_at hl 3 rfl) ?_
  refine lv_iconst (v := nI 0) hx hb dL_wordOf_1 (by decide) ?_
  refine lv_aload_n hx hb dL_wordOf_2 rfl (lv_at hl 0 rfl) ?_
  refine lv_iload_n hx hb dL_wordOf_3 rfl (lv_at hl 1 rfl) ?_
  refine lv_iload_n hx hb dL_wordOf_4 rfl (lv_at hl 2 rfl) ?_
  refine z_xcalli hI (z_xV (As := [.int zp0, .int zp1]) (rest := [.int (nI 0), .ref (B0 + 41)]) ⟨hx, hb, hml, hown, hts⟩ hI hC.1 rfl (c_X2_wordOf l hl0 G B0 F σ zp0 zp1 hC) (z_cwV vX2_wordOf hts q316 ⟨Nat.le_of_ble_eq_true rfl, Nat.le_of_ble_eq_true rfl⟩) rfl hl.1 rfl (lv_room (Nat.le_of_ble_eq_true rfl)) dL_wordOf_5 ⟨Nat.le_of_ble_eq_true rfl, Nat.le_of_ble_eq_true rfl⟩) ?_ (fun r2 F1 H locs hp3 hI => ?_)
  · intro E ce q9 H locs hpx4 hI hce hcv hcl
    rcases hpx4 with ⟨rfl, hn1⟩ | ⟨hE9, hh1, hn2⟩ | ⟨hE9, hh1, hh2, hn3⟩
    · refine z_catch (E := zEI) hown hI [] ⟨0, 10, 13, 13⟩ [] (htab.trans rfl) (fun z hz => nomatch hz) rfl (by decide) (hts _ q65) (List.mem_of_getElem? (i := 0) rfl) hce hcv hcl ?_
      refine lv_astore (lv' := [(4, .ref q9), (0, .ref B0), (1, .int zp0), (2, .int zp1), (3, .ref (B0 + 41))]) hx hb dL_wordOf_13 hl (by decide) rfl (fun ls hl => ?_)
      refine lv_iconst (v := nI 1) hx hb dL_wordOf_15 (by decide) ?_
      refine z_ri hx hb hr hlocks hI ?_ (Nat.le_of_ble_eq_true rfl) (Nat.le_of_ble_eq_true rfl) dL_wordOf_16
      exact ⟨_, rfl, Or.inr (Or.inl ⟨rfl, hn1⟩), ⟨σ, _, hC, hO, fun q => absurd q.1 hn1, fun _ => rfl⟩, fun q _ _ => rfl⟩
    · exact (hn2 trivial).elim
    · exact (hn3 trivial).elim
  obtain ⟨hA, hB, hC3, rfl, hC1, hcf⟩ := hp3
  have hO1 := (hcf _ (by omega)).trans hO
  refine lv_i2l hx hb dL_wordOf_8 rfl ?_
  refine z_lst (k := 0) hx hb hI hO1 (by decide) (by decide) dL_wordOf_9 (fun H locs F5 hw6 ho7 hI => ?_)
  refine lv_goto (tgt := 17) hx hb dL_wordOf_10 (by decide) ?_
  refine lv_iconst (v := nI 0) hx hb dL_wordOf_17 (by decide) ?_
  refine z_ri hx hb hr hlocks hI ?_ (Nat.le_of_ble_eq_true rfl) (Nat.le_of_ble_eq_true rfl) dL_wordOf_18
  exact ⟨_, rfl, Or.inl ⟨rfl, hA, hB, hC3⟩, ⟨_, _, CS.go hC1 (fun q hq => ho7 q (by omega)), hw6, fun _ => ⟨rfl, vpl_s⟩, fun q => absurd ⟨hA, hB, hC3⟩ q⟩, fun q h1 h2 => (ho7 q h2).trans (hcf q h1)⟩

set_option maxHeartbeats 4000000 in
set_option maxRecDepth 100000 in
theorem c_L_find (l : Launch) (hl0 : l.stackTraces = false) (G : zK) (B0 : Nat) (F : zM) (σ : Sg) (zp0 : Int32) (fo : Nat → Int64) (hC : CS G B0 F σ) (hK : SgOk σ) (hO : F (B0 + 41) = some (zAL G 1 fo)) : Met l yL_find (Cond.codeWith yL_find cL_find 4 (some FieldType.int) [(0, 9, 12, 13)] :: zW) (zRm 8 133 1 6) (va_Pc [.ref B0, .int zp0, .ref (B0 + 41)] (zPre G B0 F)) (zQi G B0 (zLP G B0 F σ (oA_find σ zp0) (oB_find σ zp0) (oC_find σ zp0) (ss_find σ zp0) (rr_find σ zp0).toInt64)) 1 6 (zA B0) := by
  refine z_ofH (own := RL) (by decide) rfl (Nat.le_of_ble_eq_true rfl) ?_
  intro p e s m below meth c ls hx hb hr hml hown hlocks htab hts hl hI
  have hl : lv_has ls 4 [(0, .ref B0), (1, .int zp0), (2, .ref (B0 + 41))] := hl
  refine lv_aload_n hx hb dL_find_0 rfl (lv_at hl 2 rfl) ?_
  refine lv_iconst (v := nI 0) hx hb dL_find_1 (by decide) ?_
  refine lv_aload_n hx hb dL_find_2 rfl (lv_at hl 0 rfl) ?_
  refine lv_iload_n hx hb dL_find_3 rfl (lv_at hl 1 rfl) ?_
  refine z_xcalli hI (z_xV (As := [.int zp0]) (rest := [.int (nI 0), .ref (B0 + 41)]) ⟨hx, hb, hml, hown, hts⟩ hI hC.1 rfl (c_X2_find l hl0 G B0 F σ zp0 hC) (z_cwV vX2_find hts q323 ⟨Nat.le_of_ble_eq_true rfl, Nat.le_of_ble_eq_true rfl⟩) rfl hl.1 rfl (lv_room (Nat.le_of_ble_eq_true rfl)) dL_find_4 ⟨Nat.le_of_ble_eq_true rfl, Nat.le_of_ble_eq_true rfl⟩) ?_ (fun r2 F1 H locs hp3 hI => ?_)
  · intro E ce q9 H locs hpx4 hI hce hcv hcl
    rcases hpx4 with ⟨rfl, hn1⟩ | ⟨hE9, hh1, hn2⟩ | ⟨hE9, hh1, hh2, hn3⟩
    · refine z_catch (E := zEI) hown hI [] ⟨0, 9, 12, 13⟩ [] (htab.trans rfl) (fun z hz => nomatch hz) rfl (by decide) (hts _ q65) (List.mem_of_getElem? (i := 0) rfl) hce hcv hcl ?_
      refine lv_astore_n (lv' := [(3, .ref q9), (0, .ref B0), (1, .int zp0), (2, .ref (B0 + 41))]) hx hb dL_find_12 rfl hl (by decide) rfl (fun ls hl => ?_)
      refine lv_iconst (v := nI 1) hx hb dL_find_13 (by decide) ?_
      refine z_ri hx hb hr hlocks hI ?_ (Nat.le_of_ble_eq_true rfl) (Nat.le_of_ble_eq_true rfl) dL_find_14
      exact ⟨_, rfl, Or.inr (Or.inl ⟨rfl, hn1⟩), ⟨σ, _, hC, hO, fun q => absurd q.1 hn1, fun _ => rfl⟩, fun q _ _ => rfl⟩
    · exact (hn2 trivial).elim
    · exact (hn3 trivial).elim
  obtain ⟨hA, hB, hC3, rfl, hC1, hcf⟩ := hp3
  have hO1 := (hcf _ (by omega)).trans hO
  refine lv_i2l hx hb dL_find_7 rfl ?_
  refine z_lst (k := 0) hx hb hI hO1 (by decide) (by decide) dL_find_8 (fun H locs F5 hw6 ho7 hI => ?_)
  refine lv_goto (tgt := 15) hx hb dL_find_9 (by decide) ?_
  refine lv_iconst (v := nI 0) hx hb dL_find_15 (by decide) ?_
  refine z_ri hx hb hr hlocks hI ?_ (Nat.le_of_ble_eq_true rfl) (Nat.le_of_ble_eq_true rfl) dL_find_16
  exact ⟨_, rfl, Or.inl ⟨rfl, hA, hB, hC3⟩, ⟨_, _, CS.go hC1 (fun q hq => ho7 q (by omega)), hw6, fun _ => ⟨rfl, vpl_s⟩, fun q => absurd ⟨hA, hB, hC3⟩ q⟩, fun q h1 h2 => (ho7 q h2).trans (hcf q h1)⟩

set_option maxHeartbeats 4000000 in
set_option maxRecDepth 100000 in
theorem c_L_findLast (l : Launch) (hl0 : l.stackTraces = false) (G : zK) (B0 : Nat) (F : zM) (σ : Sg) (zp0 : Int32) (fo : Nat → Int64) (hC : CS G B0 F σ) (hK : SgOk σ) (hO : F (B0 + 41) = some (zAL G 1 fo)) : Met l yL_findLast (Cond.codeWith yL_findLast cL_findLast 4 (some FieldType.int) [(0, 9, 12, 13)] :: zW) (zRm 8 132 1 6) (va_Pc [.ref B0, .int zp0, .ref (B0 + 41)] (zPre G B0 F)) (zQi G B0 (zLP G B0 F σ (oA_findLast σ zp0) (oB_findLast σ zp0) (oC_findLast σ zp0) (ss_findLast σ zp0) (rr_findLast σ zp0).toInt64)) 1 6 (zA B0) := by
  refine z_ofH (own := RL) (by decide) rfl (Nat.le_of_ble_eq_true rfl) ?_
  intro p e s m below meth c ls hx hb hr hml hown hlocks htab hts hl hI
  have hl : lv_has ls 4 [(0, .ref B0), (1, .int zp0), (2, .ref (B0 + 41))] := hl
  refine lv_aload_n hx hb dL_findLast_0 rfl (lv_at hl 2 rfl) ?_
  refine lv_iconst (v := nI 0) hx hb dL_findLast_1 (by decide) ?_
  refine lv_aload_n hx hb dL_findLast_2 rfl (lv_at hl 0 rfl) ?_
  refine lv_iload_n hx hb dL_findLast_3 rfl (lv_at hl 1 rfl) ?_
  refine z_xcalli hI (z_xV (As := [.int zp0]) (rest := [.int (nI 0), .ref (B0 + 41)]) ⟨hx, hb, hml, hown, hts⟩ hI hC.1 rfl (c_X2_findLast l hl0 G B0 F σ zp0 hC) (z_cwV vX2_findLast hts q338 ⟨Nat.le_of_ble_eq_true rfl, Nat.le_of_ble_eq_true rfl⟩) rfl hl.1 rfl (lv_room (Nat.le_of_ble_eq_true rfl)) dL_findLast_4 ⟨Nat.le_of_ble_eq_true rfl, Nat.le_of_ble_eq_true rfl⟩) ?_ (fun r2 F1 H locs hp3 hI => ?_)
  · intro E ce q9 H locs hpx4 hI hce hcv hcl
    rcases hpx4 with ⟨rfl, hn1⟩ | ⟨hE9, hh1, hn2⟩ | ⟨hE9, hh1, hh2, hn3⟩
    · refine z_catch (E := zEI) hown hI [] ⟨0, 9, 12, 13⟩ [] (htab.trans rfl) (fun z hz => nomatch hz) rfl (by decide) (hts _ q65) (List.mem_of_getElem? (i := 0) rfl) hce hcv hcl ?_
      refine lv_astore_n (lv' := [(3, .ref q9), (0, .ref B0), (1, .int zp0), (2, .ref (B0 + 41))]) hx hb dL_findLast_12 rfl hl (by decide) rfl (fun ls hl => ?_)
      refine lv_iconst (v := nI 1) hx hb dL_findLast_13 (by decide) ?_
      refine z_ri hx hb hr hlocks hI ?_ (Nat.le_of_ble_eq_true rfl) (Nat.le_of_ble_eq_true rfl) dL_findLast_14
      exact ⟨_, rfl, Or.inr (Or.inl ⟨rfl, hn1⟩), ⟨σ, _, hC, hO, fun q => absurd q.1 hn1, fun _ => rfl⟩, fun q _ _ => rfl⟩
    · exact (hn2 trivial).elim
    · exact (hn3 trivial).elim
  obtain ⟨hA, hB, hC3, rfl, hC1, hcf⟩ := hp3
  have hO1 := (hcf _ (by omega)).trans hO
  refine lv_i2l hx hb dL_findLast_7 rfl ?_
  refine z_lst (k := 0) hx hb hI hO1 (by decide) (by decide) dL_findLast_8 (fun H locs F5 hw6 ho7 hI => ?_)
  refine lv_goto (tgt := 15) hx hb dL_findLast_9 (by decide) ?_
  refine lv_iconst (v := nI 0) hx hb dL_findLast_15 (by decide) ?_
  refine z_ri hx hb hr hlocks hI ?_ (Nat.le_of_ble_eq_true rfl) (Nat.le_of_ble_eq_true rfl) dL_findLast_16
  exact ⟨_, rfl, Or.inl ⟨rfl, hA, hB, hC3⟩, ⟨_, _, CS.go hC1 (fun q hq => ho7 q (by omega)), hw6, fun _ => ⟨rfl, vpl_s⟩, fun q => absurd ⟨hA, hB, hC3⟩ q⟩, fun q h1 h2 => (ho7 q h2).trans (hcf q h1)⟩

set_option maxHeartbeats 4000000 in
set_option maxRecDepth 100000 in
theorem c_L_findIn (l : Launch) (hl0 : l.stackTraces = false) (G : zK) (B0 : Nat) (F : zM) (σ : Sg) (zp0 zp1 zp2 : Int32) (fo : Nat → Int64) (hC : CS G B0 F σ) (hK : SgOk σ) (hO : F (B0 + 41) = some (zAL G 1 fo)) : Met l yL_findIn (Cond.codeWith yL_findIn cL_findIn 6 (some FieldType.int) [(0, 12, 15, 13)] :: zW) (zRm 8 136 2 12) (va_Pc [.ref B0, .int zp0, .int zp1, .int zp2, .ref (B0 + 41)] (zPre G B0 F)) (zQi G B0 (zLP G B0 F σ (oA_findIn σ zp0 zp1 zp2) (oB_findIn σ zp0 zp1 zp2) (oC_findIn σ zp0 zp1 zp2) (ss_findIn σ zp0 zp1 zp2) (rr_findIn σ zp0 zp1 zp2).toInt64)) 2 12 (zA B0) := by
  refine z_ofH (own := RL) (by decide) rfl (Nat.le_of_ble_eq_true rfl) ?_
  intro p e s m below meth c ls hx hb hr hml hown hlocks htab hts hl hI
  have hl : lv_has ls 6 [(0, .ref B0), (1, .int zp0), (2, .int zp1), (3, .int zp2), (4, .ref (B0 + 41))] := hl
  refine lv_aload hx hb dL_findIn_0 (lv_at hl 4 rfl) ?_
  refine lv_iconst (v := nI 0) hx hb dL_findIn_2 (by decide) ?_
  refine lv_aload_n hx hb dL_findIn_3 rfl (lv_at hl 0 rfl) ?_
  refine lv_iload_n hx hb dL_findIn_4 rfl (lv_at hl 1 rfl) ?_
  refine lv_iload_n hx hb dL_findIn_5 rfl (lv_at hl 2 rfl) ?_
  refine lv_iload_n hx hb dL_findIn_6 rfl (lv_at hl 3 rfl) ?_
  refine z_xcalli hI (z_xV (As := [.int zp0, .int zp1, .int zp2]) (rest := [.int (nI 0), .ref (B0 + 41)]) ⟨hx, hb, hml, hown, hts⟩ hI hC.1 rfl (c_X2_findIn l hl0 G B0 F σ zp0 zp1 zp2 hC) (z_cwV vX2_findIn hts q349 ⟨Nat.le_of_ble_eq_true rfl, Nat.le_of_ble_eq_true rfl⟩) rfl hl.1 rfl (lv_room (Nat.le_of_ble_eq_true rfl)) dL_findIn_7 ⟨Nat.le_of_ble_eq_true rfl, Nat.le_of_ble_eq_true rfl⟩) ?_ (fun r2 F1 H locs hp3 hI => ?_)
  · intro E ce q9 H locs hpx4 hI hce hcv hcl
    rcases hpx4 with ⟨rfl, hn1⟩ | ⟨hE9, hh1, hn2⟩ | ⟨hE9, hh1, hh2, hn3⟩
    · refine z_catch (E := zEI) hown hI [] ⟨0, 12, 15, 13⟩ [] (htab.trans rfl) (fun z hz => nomatch hz) rfl (by decide) (hts _ q65) (List.mem_of_getElem? (i := 0) rfl) hce hcv hcl ?_
      refine lv_astore (lv' := [(5, .ref q9), (0, .ref B0), (1, .int zp0), (2, .int zp1), (3, .int zp2), (4, .ref (B0 + 41))]) hx hb dL_findIn_15 hl (by decide) rfl (fun ls hl => ?_)
      refine lv_iconst (v := nI 1) hx hb dL_findIn_17 (by decide) ?_
      refine z_ri hx hb hr hlocks hI ?_ (Nat.le_of_ble_eq_true rfl) (Nat.le_of_ble_eq_true rfl) dL_findIn_18
      exact ⟨_, rfl, Or.inr (Or.inl ⟨rfl, hn1⟩), ⟨σ, _, hC, hO, fun q => absurd q.1 hn1, fun _ => rfl⟩, fun q _ _ => rfl⟩
    · exact (hn2 trivial).elim
    · exact (hn3 trivial).elim
  obtain ⟨hA, hB, hC3, rfl, hC1, hcf⟩ := hp3
  have hO1 := (hcf _ (by omega)).trans hO
  refine lv_i2l hx hb dL_findIn_10 rfl ?_
  refine z_lst (k := 0) hx hb hI hO1 (by decide) (by decide) dL_findIn_11 (fun H locs F5 hw6 ho7 hI => ?_)
  refine lv_goto (tgt := 19) hx hb dL_findIn_12 (by decide) ?_
  refine lv_iconst (v := nI 0) hx hb dL_findIn_19 (by decide) ?_
  refine z_ri hx hb hr hlocks hI ?_ (Nat.le_of_ble_eq_true rfl) (Nat.le_of_ble_eq_true rfl) dL_findIn_20
  exact ⟨_, rfl, Or.inl ⟨rfl, hA, hB, hC3⟩, ⟨_, _, CS.go hC1 (fun q hq => ho7 q (by omega)), hw6, fun _ => ⟨rfl, vpl_s⟩, fun q => absurd ⟨hA, hB, hC3⟩ q⟩, fun q h1 h2 => (ho7 q h2).trans (hcf q h1)⟩

set_option maxHeartbeats 4000000 in
set_option maxRecDepth 100000 in
theorem c_L_count (l : Launch) (hl0 : l.stackTraces = false) (G : zK) (B0 : Nat) (F : zM) (σ : Sg) (zp0 zp1 : Int32) (fo : Nat → Int64) (hC : CS G B0 F σ) (hK : SgOk σ) (hO : F (B0 + 41) = some (zAL G 1 fo)) : Met l yL_count (Cond.codeWith yL_count cL_count 5 (some FieldType.int) [(0, 10, 13, 13)] :: zW) (zRm 8 135 1 6) (va_Pc [.ref B0, .int zp0, .int zp1, .ref (B0 + 41)] (zPre G B0 F)) (zQi G B0 (zLP G B0 F σ (oA_count σ zp0 zp1) (oB_count σ zp0 zp1) (oC_count σ zp0 zp1) (ss_count σ zp0 zp1) (rr_count σ zp0 zp1).toInt64)) 1 6 (zA B0) := by
  refine z_ofH (own := RL) (by decide) rfl (Nat.le_of_ble_eq_true rfl) ?_
  intro p e s m below meth c ls hx hb hr hml hown hlocks htab hts hl hI
  have hl : lv_has ls 5 [(0, .ref B0), (1, .int zp0), (2, .int zp1), (3, .ref (B0 + 41))] := hl
  refine lv_aload_n hx hb dL_count_0 rfl (lv_at hl 3 rfl) ?_
  refine lv_iconst (v := nI 0) hx hb dL_count_1 (by decide) ?_
  refine lv_aload_n hx hb dL_count_2 rfl (lv_at hl 0 rfl) ?_
  refine lv_iload_n hx hb dL_count_3 rfl (lv_at hl 1 rfl) ?_
  refine lv_iload_n hx hb dL_count_4 rfl (lv_at hl 2 rfl) ?_
  refine z_xcalli hI (z_xV (As := [.int zp0, .int zp1]) (rest := [.int (nI 0), .ref (B0 + 41)]) ⟨hx, hb, hml, hown, hts⟩ hI hC.1 rfl (c_X2_count l hl0 G B0 F σ zp0 zp1 hC) (z_cwV vX2_count hts q356 ⟨Nat.le_of_ble_eq_true rfl, Nat.le_of_ble_eq_true rfl⟩) rfl hl.1 rfl (lv_room (Nat.le_of_ble_eq_true rfl)) dL_count_5 ⟨Nat.le_of_ble_eq_true rfl, Nat.le_of_ble_eq_true rfl⟩) ?_ (fun r2 F1 H locs hp3 hI => ?_)
  · intro E ce q9 H locs hpx4 hI hce hcv hcl
    rcases hpx4 with ⟨rfl, hn1⟩ | ⟨hE9, hh1, hn2⟩ | ⟨hE9, hh1, hh2, hn3⟩
    · refine z_catch (E := zEI) hown hI [] ⟨0, 10, 13, 13⟩ [] (htab.trans rfl) (fun z hz => nomatch hz) rfl (by decide) (hts _ q65) (List.mem_of_getElem? (i := 0) rfl) hce hcv hcl ?_
      refine lv_astore (lv' := [(4, .ref q9), (0, .ref B0), (1, .int zp0), (2, .int zp1), (3, .ref (B0 + 41))]) hx hb dL_count_13 hl (by decide) rfl (fun ls hl => ?_)
      refine lv_iconst (v := nI 1) hx hb dL_count_15 (by decide) ?_
      refine z_ri hx hb hr hlocks hI ?_ (Nat.le_of_ble_eq_true rfl) (Nat.le_of_ble_eq_true rfl) dL_count_16
      exact ⟨_, rfl, Or.inr (Or.inl ⟨rfl, hn1⟩), ⟨σ, _, hC, hO, fun q => absurd q.1 hn1, fun _ => rfl⟩, fun q _ _ => rfl⟩
    · exact (hn2 trivial).elim
    · exact (hn3 trivial).elim
  obtain ⟨hA, hB, hC3, rfl, hC1, hcf⟩ := hp3
  have hO1 := (hcf _ (by omega)).trans hO
  refine lv_i2l hx hb dL_count_8 rfl ?_
  refine z_lst (k := 0) hx hb hI hO1 (by decide) (by decide) dL_count_9 (fun H locs F5 hw6 ho7 hI => ?_)
  refine lv_goto (tgt := 17) hx hb dL_count_10 (by decide) ?_
  refine lv_iconst (v := nI 0) hx hb dL_count_17 (by decide) ?_
  refine z_ri hx hb hr hlocks hI ?_ (Nat.le_of_ble_eq_true rfl) (Nat.le_of_ble_eq_true rfl) dL_count_18
  exact ⟨_, rfl, Or.inl ⟨rfl, hA, hB, hC3⟩, ⟨_, _, CS.go hC1 (fun q hq => ho7 q (by omega)), hw6, fun _ => ⟨rfl, vpl_s⟩, fun q => absurd ⟨hA, hB, hC3⟩ q⟩, fun q h1 h2 => (ho7 q h2).trans (hcf q h1)⟩

set_option maxHeartbeats 4000000 in
set_option maxRecDepth 100000 in
theorem c_L_replace (l : Launch) (hl0 : l.stackTraces = false) (G : zK) (B0 : Nat) (F : zM) (σ : Sg) (zp0 : Int32) (fo : Nat → Int64) (hC : CS G B0 F σ) (hK : SgOk σ) (hO : F (B0 + 41) = some (zAL G 1 fo)) : Met l yL_replace (Cond.codeWith yL_replace cL_replace 4 (some FieldType.int) [(0, 9, 12, 13), (0, 9, 15, 15)] :: zW) (zRm 8 135 3 18) (va_Pc [.ref B0, .int zp0, .ref (B0 + 41)] (zPre G B0 F)) (zQi G B0 (zLP G B0 F σ (oA_replace σ zp0) (oB_replace σ zp0) (oC_replace σ zp0) (ss_replace σ zp0) (rr_replace σ zp0).toInt64)) 3 18 (zA B0) := by
  refine z_ofH (own := RL) (by decide) rfl (Nat.le_of_ble_eq_true rfl) ?_
  intro p e s m below meth c ls hx hb hr hml hown hlocks htab hts hl hI
  have hl : lv_has ls 4 [(0, .ref B0), (1, .int zp0), (2, .ref (B0 + 41))] := hl
  refine lv_aload_n hx hb dL_replace_0 rfl (lv_at hl 2 rfl) ?_
  refine lv_iconst (v := nI 0) hx hb dL_replace_1 (by decide) ?_
  refine lv_aload_n hx hb dL_replace_2 rfl (lv_at hl 0 rfl) ?_
  refine lv_iload_n hx hb dL_replace_3 rfl (lv_at hl 1 rfl) ?_
  refine z_xcalli hI (z_xV (As := [.int zp0]) (rest := [.int (nI 0), .ref (B0 + 41)]) ⟨hx, hb, hml, hown, hts⟩ hI hC.1 rfl (c_X2_replace l hl0 G B0 F σ zp0 hC) (z_cwV vX2_replace hts q371 ⟨Nat.le_of_ble_eq_true rfl, Nat.le_of_ble_eq_true rfl⟩) rfl hl.1 rfl (lv_room (Nat.le_of_ble_eq_true rfl)) dL_replace_4 ⟨Nat.le_of_ble_eq_true rfl, Nat.le_of_ble_eq_true rfl⟩) ?_ (fun r2 F1 H locs hp3 hI => ?_)
  · intro E ce q9 H locs hpx4 hI hce hcv hcl
    rcases hpx4 with ⟨rfl, hn1⟩ | ⟨rfl, hh1, hn2⟩ | ⟨hE9, hh1, hh2, hn3⟩
    · refine z_catch (E := zEI) hown hI [] ⟨0, 9, 12, 13⟩ [⟨0, 9, 15, 15⟩] (htab.trans rfl) (fun z hz => nomatch hz) rfl (by decide) (hts _ q65) (List.mem_of_getElem? (i := 0) rfl) hce hcv hcl ?_
      refine lv_astore_n (lv' := [(3, .ref q9), (0, .ref B0), (1, .int zp0), (2, .ref (B0 + 41))]) hx hb dL_replace_12 rfl hl (by decide) rfl (fun ls hl => ?_)
      refine lv_iconst (v := nI 1) hx hb dL_replace_13 (by decide) ?_
      refine z_ri hx hb hr hlocks hI ?_ (Nat.le_of_ble_eq_true rfl) (Nat.le_of_ble_eq_true rfl) dL_replace_14
      exact ⟨_, rfl, Or.inr (Or.inl ⟨rfl, hn1⟩), ⟨σ, _, hC, hO, fun q => absurd q.1 hn1, fun _ => rfl⟩, fun q _ _ => rfl⟩
    · refine z_catch (E := zES) hown hI [⟨0, 9, 12, 13⟩] ⟨0, 9, 15, 15⟩ [] (htab.trans rfl) (List.forall_mem_cons.mpr ⟨⟨by decide, zEI, hts _ q65, List.mem_of_getElem? (i := 0) rfl⟩, fun z hz => nomatch hz⟩) rfl (by decide) (hts _ q66) (List.mem_of_getElem? (i := 1) rfl) hce hcv hcl ?_
      refine lv_astore_n (lv' := [(3, .ref q9), (0, .ref B0), (1, .int zp0), (2, .ref (B0 + 41))]) hx hb dL_replace_15 rfl hl (by decide) rfl (fun ls hl => ?_)
      refine lv_iconst (v := nI 2) hx hb dL_replace_16 (by decide) ?_
      refine z_ri hx hb hr hlocks hI ?_ (Nat.le_of_ble_eq_true rfl) (Nat.le_of_ble_eq_true rfl) dL_replace_17
      exact ⟨_, rfl, Or.inr (Or.inr (Or.inl ⟨rfl, hh1, hn2⟩)), ⟨σ, _, hC, hO, fun q => absurd q.2.1 hn2, fun _ => rfl⟩, fun q _ _ => rfl⟩
    · exact (hn3 trivial).elim
  obtain ⟨hA, hB, hC3, rfl, hC1, hcf⟩ := hp3
  have hO1 := (hcf _ (by omega)).trans hO
  refine lv_i2l hx hb dL_replace_7 rfl ?_
  refine z_lst (k := 0) hx hb hI hO1 (by decide) (by decide) dL_replace_8 (fun H locs F5 hw6 ho7 hI => ?_)
  refine lv_goto (tgt := 18) hx hb dL_replace_9 (by decide) ?_
  refine lv_iconst (v := nI 0) hx hb dL_replace_18 (by decide) ?_
  refine z_ri hx hb hr hlocks hI ?_ (Nat.le_of_ble_eq_true rfl) (Nat.le_of_ble_eq_true rfl) dL_replace_19
  exact ⟨_, rfl, Or.inl ⟨rfl, hA, hB, hC3⟩, ⟨_, _, CS.go hC1 (fun q hq => ho7 q (by omega)), hw6, fun _ => ⟨rfl, vpl_s⟩, fun q => absurd ⟨hA, hB, hC3⟩ q⟩, fun q h1 h2 => (ho7 q h2).trans (hcf q h1)⟩

set_option maxHeartbeats 4000000 in
set_option maxRecDepth 100000 in
theorem c_L_replaceWord (l : Launch) (hl0 : l.stackTraces = false) (G : zK) (B0 : Nat) (F : zM) (σ : Sg) (zp0 zp1 zp2 : Int32) (fo : Nat → Int64) (hC : CS G B0 F σ) (hK : SgOk σ) (hO : F (B0 + 41) = some (zAL G 1 fo)) : Met l yL_replaceWord (Cond.codeWith yL_replaceWord cL_replaceWord 6 (some FieldType.int) [(0, 19, 22, 13)] :: zW) (zRm 8 137 3 18) (va_Pc [.ref B0, .int zp0, .int zp1, .int zp2, .ref (B0 + 41)] (zPre G B0 F)) (zQi G B0 (zLP G B0 F σ (oA_replaceWord σ zp0 zp1 zp2) (oB_replaceWord σ zp0 zp1 zp2) (oC_replaceWord σ zp0 zp1 zp2) (ss_replaceWord σ zp0 zp1 zp2) (rr_replaceWord σ zp0 zp1 zp2).toInt64)) 3 18 (zA B0) := by
  refine z_ofH (own := RL) (by decide) rfl (Nat.le_of_ble_eq_true rfl) ?_
  intro p e s m below meth c ls hx hb hr hml hown hlocks htab hts hl hI
  have hl : lv_has ls 6 [(0, .ref B0), (1, .int zp0), (2, .int zp1), (3, .int zp2), (4, .ref (B0 + 41))] := hl
  refine lv_aload hx hb dL_replaceWord_0 (lv_at hl 4 rfl) ?_
  refine lv_iconst (v := nI 0) hx hb dL_replaceWord_2 (by decide) ?_
  refine lv_aload_n hx hb dL_replaceWord_3 rfl (lv_at hl 0 rfl) ?_
  refine lv_iload_n hx hb dL_replaceWord_4 rfl (lv_at hl 1 rfl) ?_
  refine lv_iload_n hx hb dL_replaceWord_5 rfl (lv_at hl 2 rfl) ?_
  refine lv_iload_n hx hb dL_replaceWord_6 rfl (lv_at hl 3 rfl) ?_
  refine z_xcalli hI (z_xV (As := [.int zp0, .int zp1, .int zp2]) (rest := [.int (nI 0), .ref (B0 + 41)]) ⟨hx, hb, hml, hown, hts⟩ hI hC.1 rfl (c_X2_replaceWord l hl0 G B0 F σ zp0 zp1 zp2 hC) (z_cwV vX2_replaceWord hts q394 ⟨Nat.le_of_ble_eq_true rfl, Nat.le_of_ble_eq_true rfl⟩) rfl hl.1 rfl (lv_room (Nat.le_of_ble_eq_true rfl)) dL_replaceWord_7 ⟨Nat.le_of_ble_eq_true rfl, Nat.le_of_ble_eq_true rfl⟩) ?_ (fun r2 F1 H locs hp3 hI => ?_)
  · intro E ce q9 H locs hpx4 hI hce hcv hcl
    rcases hpx4 with ⟨rfl, hn1⟩ | ⟨hE9, hh1, hn2⟩ | ⟨hE9, hh1, hh2, hn3⟩
    · refine z_catch (E := zEI) hown hI [] ⟨0, 19, 22, 13⟩ [] (htab.trans rfl) (fun z hz => nomatch hz) rfl (by decide) (hts _ q65) (List.mem_of_getElem? (i := 0) rfl) hce hcv hcl ?_
      refine lv_astore (lv' := [(5, .ref q9), (0, .ref B0), (1, .int zp0), (2, .int zp1), (3, .int zp2), (4, .ref (B0 + 41))]) hx hb dL_replaceWord_22 hl (by decide) rfl (fun ls hl => ?_)
      refine lv_iconst (v := nI 1) hx hb dL_replaceWord_24 (by decide) ?_
      refine z_ri hx hb hr hlocks hI ?_ (Nat.le_of_ble_eq_true rfl) (Nat.le_of_ble_eq_true rfl) dL_replaceWord_25
      exact ⟨_, rfl, Or.inr (Or.inl ⟨rfl, hn1⟩), ⟨σ, _, hC, hO, fun q => absurd q.1 hn1, fun _ => rfl⟩, fun q _ _ => rfl⟩
    · exact (hn2 trivial).elim
    · exact (hn3 trivial).elim
  obtain ⟨hA, hB, hC3, rfl, hC1, hcf⟩ := hp3
  have hO1 := (hcf _ (by omega)).trans hO
  have hz01 : rr_replaceWord σ zp0 zp1 zp2 = 0 ∨ rr_replaceWord σ zp0 zp1 zp2 = 1 := (by unfold rr_replaceWord; exact pI_or)
  refine lv_if_eq (tgt := 17) hx hb dL_replaceWord_10 (by decide) (fun hq5 => ?_) (fun hq5 => ?_)
  · refine lv_lconst (v := 0) hx hb dL_replaceWord_17 (by decide) ?_
    refine z_lst (k := 0) hx hb hI hO1 (by decide) (by decide) dL_replaceWord_18 (fun H locs F6 hw7 ho8 hI => ?_)
    refine lv_goto (tgt := 26) hx hb dL_replaceWord_19 (by decide) ?_
    refine lv_iconst (v := nI 0) hx hb dL_replaceWord_26 (by decide) ?_
    refine z_ri hx hb hr hlocks hI ?_ (Nat.le_of_ble_eq_true rfl) (Nat.le_of_ble_eq_true rfl) dL_replaceWord_27
    exact ⟨_, rfl, Or.inl ⟨rfl, hA, hB, hC3⟩, ⟨_, _, CS.go hC1 (fun q hq => ho8 q (by omega)), hw7, fun _ => ⟨rfl, vpl_s.trans (by rw [hq5]; rfl)⟩, fun q => absurd ⟨hA, hB, hC3⟩ q⟩, fun q h1 h2 => (ho8 q h2).trans (hcf q h1)⟩
  · refine lv_lconst (v := 1) hx hb dL_replaceWord_13 (by decide) ?_
    refine lv_goto (tgt := 18) hx hb dL_replaceWord_14 (by decide) ?_
    refine z_lst (k := 0) hx hb hI hO1 (by decide) (by decide) dL_replaceWord_18 (fun H locs F9 hw10 ho11 hI => ?_)
    refine lv_goto (tgt := 26) hx hb dL_replaceWord_19 (by decide) ?_
    refine lv_iconst (v := nI 0) hx hb dL_replaceWord_26 (by decide) ?_
    refine z_ri hx hb hr hlocks hI ?_ (Nat.le_of_ble_eq_true rfl) (Nat.le_of_ble_eq_true rfl) dL_replaceWord_27
    exact ⟨_, rfl, Or.inl ⟨rfl, hA, hB, hC3⟩, ⟨_, _, CS.go hC1 (fun q hq => ho11 q (by omega)), hw10, fun _ => ⟨rfl, vpl_s.trans (by rw [hz01.resolve_left hq5]; rfl)⟩, fun q => absurd ⟨hA, hB, hC3⟩ q⟩, fun q h1 h2 => (ho11 q h2).trans (hcf q h1)⟩

set_option maxHeartbeats 4000000 in
set_option maxRecDepth 100000 in
theorem c_L_frequency (l : Launch) (hl0 : l.stackTraces = false) (G : zK) (B0 : Nat) (F : zM) (σ : Sg) (zp0 zp1 : Int32) (fo : Nat → Int64) (hC : CS G B0 F σ) (hK : SgOk σ) (hO : F (B0 + 41) = some (zAL G 1 fo)) : Met l yL_frequency (Cond.codeWith yL_frequency cL_frequency 5 (some FieldType.int) [(0, 10, 13, 13)] :: zW) (zRm 8 134 2 12) (va_Pc [.ref B0, .int zp0, .int zp1, .ref (B0 + 41)] (zPre G B0 F)) (zQi G B0 (zLP G B0 F σ (oA_frequency σ zp0 zp1) (oB_frequency σ zp0 zp1) (oC_frequency σ zp0 zp1) (ss_frequency σ zp0 zp1) (rr_frequency σ zp0 zp1).toInt64)) 2 12 (zA B0) := by
  refine z_ofH (own := RL) (by decide) rfl (Nat.le_of_ble_eq_true rfl) ?_
  intro p e s m below meth c ls hx hb hr hml hown hlocks htab hts hl hI
  have hl : lv_has ls 5 [(0, .ref B0), (1, .int zp0), (2, .int zp1), (3, .ref (B0 + 41))] := hl
  refine lv_aload_n hx hb dL_frequency_0 rfl (lv_at hl 3 rfl) ?_
  refine lv_iconst (v := nI 0) hx hb dL_frequency_1 (by decide) ?_
  refine lv_aload_n hx hb dL_frequency_2 rfl (lv_at hl 0 rfl) ?_
  refine lv_iload_n hx hb dL_frequency_3 rfl (lv_at hl 1 rfl) ?_
  refine lv_iload_n hx hb dL_frequency_4 rfl (lv_at hl 2 rfl) ?_
  refine z_xcalli hI (z_xV (As := [.int zp0, .int zp1]) (rest := [.int (nI 0), .ref (B0 + 41)]) ⟨hx, hb, hml, hown, hts⟩ hI hC.1 rfl (c_X2_frequency l hl0 G B0 F σ zp0 zp1 hC) (z_cwV vX2_frequency hts q401 ⟨Nat.le_of_ble_eq_true rfl, Nat.le_of_ble_eq_true rfl⟩) rfl hl.1 rfl (lv_room (Nat.le_of_ble_eq_true rfl)) dL_frequency_5 ⟨Nat.le_of_ble_eq_true rfl, Nat.le_of_ble_eq_true rfl⟩) ?_ (fun r2 F1 H locs hp3 hI => ?_)
  · intro E ce q9 H locs hpx4 hI hce hcv hcl
    rcases hpx4 with ⟨rfl, hn1⟩ | ⟨hE9, hh1, hn2⟩ | ⟨hE9, hh1, hh2, hn3⟩
    · refine z_catch (E := zEI) hown hI [] ⟨0, 10, 13, 13⟩ [] (htab.trans rfl) (fun z hz => nomatch hz) rfl (by decide) (hts _ q65) (List.mem_of_getElem? (i := 0) rfl) hce hcv hcl ?_
      refine lv_astore (lv' := [(4, .ref q9), (0, .ref B0), (1, .int zp0), (2, .int zp1), (3, .ref (B0 + 41))]) hx hb dL_frequency_13 hl (by decide) rfl (fun ls hl => ?_)
      refine lv_iconst (v := nI 1) hx hb dL_frequency_15 (by decide) ?_
      refine z_ri hx hb hr hlocks hI ?_ (Nat.le_of_ble_eq_true rfl) (Nat.le_of_ble_eq_true rfl) dL_frequency_16
      exact ⟨_, rfl, Or.inr (Or.inl ⟨rfl, hn1⟩), ⟨σ, _, hC, hO, fun q => absurd q.1 hn1, fun _ => rfl⟩, fun q _ _ => rfl⟩
    · exact (hn2 trivial).elim
    · exact (hn3 trivial).elim
  obtain ⟨hA, hB, hC3, rfl, hC1, hcf⟩ := hp3
  have hO1 := (hcf _ (by omega)).trans hO
  refine lv_i2l hx hb dL_frequency_8 rfl ?_
  refine z_lst (k := 0) hx hb hI hO1 (by decide) (by decide) dL_frequency_9 (fun H locs F5 hw6 ho7 hI => ?_)
  refine lv_goto (tgt := 17) hx hb dL_frequency_10 (by decide) ?_
  refine lv_iconst (v := nI 0) hx hb dL_frequency_17 (by decide) ?_
  refine z_ri hx hb hr hlocks hI ?_ (Nat.le_of_ble_eq_true rfl) (Nat.le_of_ble_eq_true rfl) dL_frequency_18
  exact ⟨_, rfl, Or.inl ⟨rfl, hA, hB, hC3⟩, ⟨_, _, CS.go hC1 (fun q hq => ho7 q (by omega)), hw6, fun _ => ⟨rfl, vpl_s⟩, fun q => absurd ⟨hA, hB, hC3⟩ q⟩, fun q h1 h2 => (ho7 q h2).trans (hcf q h1)⟩

set_option maxHeartbeats 4000000 in
set_option maxRecDepth 100000 in
theorem c_L_different (l : Launch) (hl0 : l.stackTraces = false) (G : zK) (B0 : Nat) (F : zM) (σ : Sg) (zp0 : Int32) (fo : Nat → Int64) (hC : CS G B0 F σ) (hK : SgOk σ) (hO : F (B0 + 41) = some (zAL G 1 fo)) : Met l yL_different (Cond.codeWith yL_different cL_different 4 (some FieldType.int) [(0, 9, 12, 13)] :: zW) (zRm 8 135 1 6) (va_Pc [.ref B0, .int zp0, .ref (B0 + 41)] (zPre G B0 F)) (zQi G B0 (zLP G B0 F σ (oA_different σ zp0) (oB_different σ zp0) (oC_different σ zp0) (ss_different σ zp0) (rr_different σ zp0).toInt64)) 1 6 (zA B0) := by
  refine z_ofH (own := RL) (by decide) rfl (Nat.le_of_ble_eq_true rfl) ?_
  intro p e s m below meth c ls hx hb hr hml hown hlocks htab hts hl hI
  have hl : lv_has ls 4 [(0, .ref B0), (1, .int zp0), (2, .ref (B0 + 41))] := hl
  refine lv_aload_n hx hb dL_different_0 rfl (lv_at hl 2 rfl) ?_
  refine lv_iconst (v := nI 0) hx hb dL_different_1 (by decide) ?_
  refine lv_aload_n hx hb dL_different_2 rfl (lv_at hl 0 rfl) ?_
  refine lv_iload_n hx hb dL_different_3 rfl (lv_at hl 1 rfl) ?_
  refine z_xcalli hI (z_xV (As := [.int zp0]) (rest := [.int (nI 0), .ref (B0 + 41)]) ⟨hx, hb, hml, hown, hts⟩ hI hC.1 rfl (c_X2_different l hl0 G B0 F σ zp0 hC) (z_cwV vX2_different hts q412 ⟨Nat.le_of_ble_eq_true rfl, Nat.le_of_ble_eq_true rfl⟩) rfl hl.1 rfl (lv_room (Nat.le_of_ble_eq_true rfl)) dL_different_4 ⟨Nat.le_of_ble_eq_true rfl, Nat.le_of_ble_eq_true rfl⟩) ?_ (fun r2 F1 H locs hp3 hI => ?_)
  · intro E ce q9 H locs hpx4 hI hce hcv hcl
    rcases hpx4 with ⟨rfl, hn1⟩ | ⟨hE9, hh1, hn2⟩ | ⟨hE9, hh1, hh2, hn3⟩
    · refine z_catch (E := zEI) hown hI [] ⟨0, 9, 12, 13⟩ [] (htab.trans rfl) (fun z hz => nomatch hz) rfl (by decide) (hts _ q65) (List.mem_of_getElem? (i := 0) rfl) hce hcv hcl ?_
      refine lv_astore_n (lv' := [(3, .ref q9), (0, .ref B0), (1, .int zp0), (2, .ref (B0 + 41))]) hx hb dL_different_12 rfl hl (by decide) rfl (fun ls hl => ?_)
      refine lv_iconst (v := nI 1) hx hb dL_different_13 (by decide) ?_
      refine z_ri hx hb hr hlocks hI ?_ (Nat.le_of_ble_eq_true rfl) (Nat.le_of_ble_eq_true rfl) dL_different_14
      exact ⟨_, rfl, Or.inr (Or.inl ⟨rfl, hn1⟩), ⟨σ, _, hC, hO, fun q => absurd q.1 hn1, fun _ => rfl⟩, fun q _ _ => rfl⟩
    · exact (hn2 trivial).elim
    · exact (hn3 trivial).elim
  obtain ⟨hA, hB, hC3, rfl, hC1, hcf⟩ := hp3
  have hO1 := (hcf _ (by omega)).trans hO
  refine lv_i2l hx hb dL_different_7 rfl ?_
  refine z_lst (k := 0) hx hb hI hO1 (by decide) (by decide) dL_different_8 (fun H locs F5 hw6 ho7 hI => ?_)
  refine lv_goto (tgt := 15) hx hb dL_different_9 (by decide) ?_
  refine lv_iconst (v := nI 0) hx hb dL_different_15 (by decide) ?_
  refine z_ri hx hb hr hlocks hI ?_ (Nat.le_of_ble_eq_true rfl) (Nat.le_of_ble_eq_true rfl) dL_different_16
  exact ⟨_, rfl, Or.inl ⟨rfl, hA, hB, hC3⟩, ⟨_, _, CS.go hC1 (fun q hq => ho7 q (by omega)), hw6, fun _ => ⟨rfl, vpl_s⟩, fun q => absurd ⟨hA, hB, hC3⟩ q⟩, fun q h1 h2 => (ho7 q h2).trans (hcf q h1)⟩

set_option maxHeartbeats 4000000 in
set_option maxRecDepth 100000 in
theorem c_L_most (l : Launch) (hl0 : l.stackTraces = false) (G : zK) (B0 : Nat) (F : zM) (σ : Sg) (zp0 : Int32) (fo : Nat → Int64) (hC : CS G B0 F σ) (hK : SgOk σ) (hO : F (B0 + 41) = some (zAL G 1 fo)) : Met l yL_most (Cond.codeWith yL_most cL_most 4 (some FieldType.int) [(0, 9, 12, 13), (0, 9, 15, 93)] :: zW) (zRm 8 138 2 12) (va_Pc [.ref B0, .int zp0, .ref (B0 + 41)] (zPre G B0 F)) (zQi G B0 (zLP G B0 F σ (oA_most σ zp0) (oB_most σ zp0) (oC_most σ zp0) (ss_most σ zp0) (rr_most σ zp0).toInt64)) 2 12 (zA B0) := by
  refine z_ofH (own := RL) (by decide) rfl (Nat.le_of_ble_eq_true rfl) ?_
  intro p e s m below meth c ls hx hb hr hml hown hlocks htab hts hl hI
  have hl : lv_has ls 4 [(0, .ref B0), (1, .int zp0), (2, .ref (B0 + 41))] := hl
  refine lv_aload_n hx hb dL_most_0 rfl (lv_at hl 2 rfl) ?_
  refine lv_iconst (v := nI 0) hx hb dL_most_1 (by decide) ?_
  refine lv_aload_n hx hb dL_most_2 rfl (lv_at hl 0 rfl) ?_
  refine lv_iload_n hx hb dL_most_3 rfl (lv_at hl 1 rfl) ?_
  refine z_xcalli hI (z_xV (As := [.int zp0]) (rest := [.int (nI 0), .ref (B0 + 41)]) ⟨hx, hb, hml, hown, hts⟩ hI hC.1 rfl (c_X2_most l hl0 G B0 F σ zp0 hC hK) (z_cwV vX2_most hts q424 ⟨Nat.le_of_ble_eq_true rfl, Nat.le_of_ble_eq_true rfl⟩) rfl hl.1 rfl (lv_room (Nat.le_of_ble_eq_true rfl)) dL_most_4 ⟨Nat.le_of_ble_eq_true rfl, Nat.le_of_ble_eq_true rfl⟩) ?_ (fun r2 F1 H locs hp3 hI => ?_)
  · intro E ce q9 H locs hpx4 hI hce hcv hcl
    rcases hpx4 with ⟨rfl, hn1⟩ | ⟨rfl, hh1, hn2⟩ | ⟨hE9, hh1, hh2, hn3⟩
    · refine z_catch (E := zEI) hown hI [] ⟨0, 9, 12, 13⟩ [⟨0, 9, 15, 93⟩] (htab.trans rfl) (fun z hz => nomatch hz) rfl (by decide) (hts _ q65) (List.mem_of_getElem? (i := 0) rfl) hce hcv hcl ?_
      refine lv_astore_n (lv' := [(3, .ref q9), (0, .ref B0), (1, .int zp0), (2, .ref (B0 + 41))]) hx hb dL_most_12 rfl hl (by decide) rfl (fun ls hl => ?_)
      refine lv_iconst (v := nI 1) hx hb dL_most_13 (by decide) ?_
      refine z_ri hx hb hr hlocks hI ?_ (Nat.le_of_ble_eq_true rfl) (Nat.le_of_ble_eq_true rfl) dL_most_14
      exact ⟨_, rfl, Or.inr (Or.inl ⟨rfl, hn1⟩), ⟨σ, _, hC, hO, fun q => absurd q.1 hn1, fun _ => rfl⟩, fun q _ _ => rfl⟩
    · refine z_catch (E := zEN) hown hI [⟨0, 9, 12, 13⟩] ⟨0, 9, 15, 93⟩ [] (htab.trans rfl) (List.forall_mem_cons.mpr ⟨⟨by decide, zEI, hts _ q65, List.mem_of_getElem? (i := 2) rfl⟩, fun z hz => nomatch hz⟩) rfl (by decide) (hts _ q423) (List.mem_of_getElem? (i := 3) rfl) hce hcv hcl ?_
      refine lv_astore_n (lv' := [(3, .ref q9), (0, .ref B0), (1, .int zp0), (2, .ref (B0 + 41))]) hx hb dL_most_15 rfl hl (by decide) rfl (fun ls hl => ?_)
      refine lv_iconst (v := nI 2) hx hb dL_most_16 (by decide) ?_
      refine z_ri hx hb hr hlocks hI ?_ (Nat.le_of_ble_eq_true rfl) (Nat.le_of_ble_eq_true rfl) dL_most_17
      exact ⟨_, rfl, Or.inr (Or.inr (Or.inl ⟨rfl, hh1, hn2⟩)), ⟨σ, _, hC, hO, fun q => absurd q.2.1 hn2, fun _ => rfl⟩, fun q _ _ => rfl⟩
    · exact (hn3 trivial).elim
  obtain ⟨hA, hB, hC3, rfl, hC1, hcf⟩ := hp3
  have hO1 := (hcf _ (by omega)).trans hO
  refine lv_i2l hx hb dL_most_7 rfl ?_
  refine z_lst (k := 0) hx hb hI hO1 (by decide) (by decide) dL_most_8 (fun H locs F5 hw6 ho7 hI => ?_)
  refine lv_goto (tgt := 18) hx hb dL_most_9 (by decide) ?_
  refine lv_iconst (v := nI 0) hx hb dL_most_18 (by decide) ?_
  refine z_ri hx hb hr hlocks hI ?_ (Nat.le_of_ble_eq_true rfl) (Nat.le_of_ble_eq_true rfl) dL_most_19
  exact ⟨_, rfl, Or.inl ⟨rfl, hA, hB, hC3⟩, ⟨_, _, CS.go hC1 (fun q hq => ho7 q (by omega)), hw6, fun _ => ⟨rfl, vpl_s⟩, fun q => absurd ⟨hA, hB, hC3⟩ q⟩, fun q h1 h2 => (ho7 q h2).trans (hcf q h1)⟩

set_option maxHeartbeats 4000000 in
set_option maxRecDepth 100000 in
theorem c_L_isApart (l : Launch) (hl0 : l.stackTraces = false) (G : zK) (B0 : Nat) (F : zM) (σ : Sg) (zp0 zp1 : Int32) (fo : Nat → Int64) (hC : CS G B0 F σ) (hK : SgOk σ) (hO : F (B0 + 41) = some (zAL G 1 fo)) : Met l yL_isApart (Cond.codeWith yL_isApart cL_isApart 5 (some FieldType.int) [(0, 17, 20, 13)] :: zW) (zRm 8 136 2 12) (va_Pc [.ref B0, .int zp0, .int zp1, .ref (B0 + 41)] (zPre G B0 F)) (zQi G B0 (zLP G B0 F σ (oA_isApart σ zp0 zp1) (oB_isApart σ zp0 zp1) (oC_isApart σ zp0 zp1) (ss_isApart σ zp0 zp1) (rr_isApart σ zp0 zp1).toInt64)) 2 12 (zA B0) := by
  refine z_ofH (own := RL) (by decide) rfl (Nat.le_of_ble_eq_true rfl) ?_
  intro p e s m below meth c ls hx hb hr hml hown hlocks htab hts hl hI
  have hl : lv_has ls 5 [(0, .ref B0), (1, .int zp0), (2, .int zp1), (3, .ref (B0 + 41))] := hl
  refine lv_aload_n hx hb dL_isApart_0 rfl (lv_at hl 3 rfl) ?_
  refine lv_iconst (v := nI 0) hx hb dL_isApart_1 (by decide) ?_
  refine lv_aload_n hx hb dL_isApart_2 rfl (lv_at hl 0 rfl) ?_
  refine lv_iload_n hx hb dL_isApart_3 rfl (lv_at hl 1 rfl) ?_
  refine lv_iload_n hx hb dL_isApart_4 rfl (lv_at hl 2 rfl) ?_
  refine z_xcalli hI (z_xV (As := [.int zp0, .int zp1]) (rest := [.int (nI 0), .ref (B0 + 41)]) ⟨hx, hb, hml, hown, hts⟩ hI hC.1 rfl (c_X2_isApart l hl0 G B0 F σ zp0 zp1 hC) (z_cwV vX2_isApart hts q450 ⟨Nat.le_of_ble_eq_true rfl, Nat.le_of_ble_eq_true rfl⟩) rfl hl.1 rfl (lv_room (Nat.le_of_ble_eq_true rfl)) dL_isApart_5 ⟨Nat.le_of_ble_eq_true rfl, Nat.le_of_ble_eq_true rfl⟩) ?_ (fun r2 F1 H locs hp3 hI => ?_)
  · intro E ce q9 H locs hpx4 hI hce hcv hcl
    rcases hpx4 with ⟨rfl, hn1⟩ | ⟨hE9, hh1, hn2⟩ | ⟨hE9, hh1, hh2, hn3⟩
    · refine z_catch (E := zEI) hown hI [] ⟨0, 17, 20, 13⟩ [] (htab.trans rfl) (fun z hz => nomatch hz) rfl (by decide) (hts _ q65) (List.mem_of_getElem? (i := 0) rfl) hce hcv hcl ?_
      refine lv_astore (lv' := [(4, .ref q9), (0, .ref B0), (1, .int zp0), (2, .int zp1), (3, .ref (B0 + 41))]) hx hb dL_isApart_20 hl (by decide) rfl (fun ls hl => ?_)
      refine lv_iconst (v := nI 1) hx hb dL_isApart_22 (by decide) ?_
      refine z_ri hx hb hr hlocks hI ?_ (Nat.le_of_ble_eq_true rfl) (Nat.le_of_ble_eq_true rfl) dL_isApart_23
      exact ⟨_, rfl, Or.inr (Or.inl ⟨rfl, hn1⟩), ⟨σ, _, hC, hO, fun q => absurd q.1 hn1, fun _ => rfl⟩, fun q _ _ => rfl⟩
    · exact (hn2 trivial).elim
    · exact (hn3 trivial).elim
  obtain ⟨hA, hB, hC3, rfl, hC1, hcf⟩ := hp3
  have hO1 := (hcf _ (by omega)).trans hO
  have hz01 : rr_isApart σ zp0 zp1 = 0 ∨ rr_isApart σ zp0 zp1 = 1 := (by unfold rr_isApart; exact pI_or)
  refine lv_if_eq (tgt := 15) hx hb dL_isApart_8 (by decide) (fun hq5 => ?_) (fun hq5 => ?_)
  · refine lv_lconst (v := 0) hx hb dL_isApart_15 (by decide) ?_
    refine z_lst (k := 0) hx hb hI hO1 (by decide) (by decide) dL_isApart_16 (fun H locs F6 hw7 ho8 hI => ?_)
    refine lv_goto (tgt := 24) hx hb dL_isApart_17 (by decide) ?_
    refine lv_iconst (v := nI 0) hx hb dL_isApart_24 (by decide) ?_
    refine z_ri hx hb hr hlocks hI ?_ (Nat.le_of_ble_eq_true rfl) (Nat.le_of_ble_eq_true rfl) dL_isApart_25
    exact ⟨_, rfl, Or.inl ⟨rfl, hA, hB, hC3⟩, ⟨_, _, CS.go hC1 (fun q hq => ho8 q (by omega)), hw7, fun _ => ⟨rfl, vpl_s.trans (by rw [hq5]; rfl)⟩, fun q => absurd ⟨hA, hB, hC3⟩ q⟩, fun q h1 h2 => (ho8 q h2).trans (hcf q h1)⟩
  · refine lv_lconst (v := 1) hx hb dL_isApart_11 (by decide) ?_
    refine lv_goto (tgt := 16) hx hb dL_isApart_12 (by decide) ?_
    refine z_lst (k := 0) hx hb hI hO1 (by decide) (by decide) dL_isApart_16 (fun H locs F9 hw10 ho11 hI => ?_)
    refine lv_goto (tgt := 24) hx hb dL_isApart_17 (by decide) ?_
    refine lv_iconst (v := nI 0) hx hb dL_isApart_24 (by decide) ?_
    refine z_ri hx hb hr hlocks hI ?_ (Nat.le_of_ble_eq_true rfl) (Nat.le_of_ble_eq_true rfl) dL_isApart_25
    exact ⟨_, rfl, Or.inl ⟨rfl, hA, hB, hC3⟩, ⟨_, _, CS.go hC1 (fun q hq => ho11 q (by omega)), hw10, fun _ => ⟨rfl, vpl_s.trans (by rw [hz01.resolve_left hq5]; rfl)⟩, fun q => absurd ⟨hA, hB, hC3⟩ q⟩, fun q h1 h2 => (ho11 q h2).trans (hcf q h1)⟩

set_option maxHeartbeats 4000000 in
set_option maxRecDepth 100000 in
theorem c_L_alone (l : Launch) (hl0 : l.stackTraces = false) (G : zK) (B0 : Nat) (F : zM) (σ : Sg) (zp0 zp1 : Int32) (fo : Nat → Int64) (hC : CS G B0 F σ) (hK : SgOk σ) (hO : F (B0 + 41) = some (zAL G 1 fo)) : Met l yL_alone (Cond.codeWith yL_alone cL_alone 5 (some FieldType.int) [(0, 10, 13, 13)] :: zW) (zRm 8 137 2 12) (va_Pc [.ref B0, .int zp0, .int zp1, .ref (B0 + 41)] (zPre G B0 F)) (zQi G B0 (zLP G B0 F σ (oA_alone σ zp0 zp1) (oB_alone σ zp0 zp1) (oC_alone σ zp0 zp1) (ss_alone σ zp0 zp1) (rr_alone σ zp0 zp1).toInt64)) 2 12 (zA B0) := by
  refine z_ofH (own := RL) (by decide) rfl (Nat.le_of_ble_eq_true rfl) ?_
  intro p e s m below meth c ls hx hb hr hml hown hlocks htab hts hl hI
  have hl : lv_has ls 5 [(0, .ref B0), (1, .int zp0), (2, .int zp1), (3, .ref (B0 + 41))] := hl
  refine lv_aload_n hx hb dL_alone_0 rfl (lv_at hl 3 rfl) ?_
  refine lv_iconst (v := nI 0) hx hb dL_alone_1 (by decide) ?_
  refine lv_aload_n hx hb dL_alone_2 rfl (lv_at hl 0 rfl) ?_
  refine lv_iload_n hx hb dL_alone_3 rfl (lv_at hl 1 rfl) ?_
  refine lv_iload_n hx hb dL_alone_4 rfl (lv_at hl 2 rfl) ?_
  refine z_xcalli hI (z_xV (As := [.int zp0, .int zp1]) (rest := [.int (nI 0), .ref (B0 + 41)]) ⟨hx, hb, hml, hown, hts⟩ hI hC.1 rfl (c_X2_alone l hl0 G B0 F σ zp0 zp1 hC) (z_cwV vX2_alone hts q462 ⟨Nat.le_of_ble_eq_true rfl, Nat.le_of_ble_eq_true rfl⟩) rfl hl.1 rfl (lv_room (Nat.le_of_ble_eq_true rfl)) dL_alone_5 ⟨Nat.le_of_ble_eq_true rfl, Nat.le_of_ble_eq_true rfl⟩) ?_ (fun r2 F1 H locs hp3 hI => ?_)
  · intro E ce q9 H locs hpx4 hI hce hcv hcl
    rcases hpx4 with ⟨rfl, hn1⟩ | ⟨hE9, hh1, hn2⟩ | ⟨hE9, hh1, hh2, hn3⟩
    · refine z_catch (E := zEI) hown hI [] ⟨0, 10, 13, 13⟩ [] (htab.trans rfl) (fun z hz => nomatch hz) rfl (by decide) (hts _ q65) (List.mem_of_getElem? (i := 0) rfl) hce hcv hcl ?_
      refine lv_astore (lv' := [(4, .ref q9), (0, .ref B0), (1, .int zp0), (2, .int zp1), (3, .ref (B0 + 41))]) hx hb dL_alone_13 hl (by decide) rfl (fun ls hl => ?_)
      refine lv_iconst (v := nI 1) hx hb dL_alone_15 (by decide) ?_
      refine z_ri hx hb hr hlocks hI ?_ (Nat.le_of_ble_eq_true rfl) (Nat.le_of_ble_eq_true rfl) dL_alone_16
      exact ⟨_, rfl, Or.inr (Or.inl ⟨rfl, hn1⟩), ⟨σ, _, hC, hO, fun q => absurd q.1 hn1, fun _ => rfl⟩, fun q _ _ => rfl⟩
    · exact (hn2 trivial).elim
    · exact (hn3 trivial).elim
  obtain ⟨hA, hB, hC3, rfl, hC1, hcf⟩ := hp3
  have hO1 := (hcf _ (by omega)).trans hO
  refine lv_i2l hx hb dL_alone_8 rfl ?_
  refine z_lst (k := 0) hx hb hI hO1 (by decide) (by decide) dL_alone_9 (fun H locs F5 hw6 ho7 hI => ?_)
  refine lv_goto (tgt := 17) hx hb dL_alone_10 (by decide) ?_
  refine lv_iconst (v := nI 0) hx hb dL_alone_17 (by decide) ?_
  refine z_ri hx hb hr hlocks hI ?_ (Nat.le_of_ble_eq_true rfl) (Nat.le_of_ble_eq_true rfl) dL_alone_18
  exact ⟨_, rfl, Or.inl ⟨rfl, hA, hB, hC3⟩, ⟨_, _, CS.go hC1 (fun q hq => ho7 q (by omega)), hw6, fun _ => ⟨rfl, vpl_s⟩, fun q => absurd ⟨hA, hB, hC3⟩ q⟩, fun q h1 h2 => (ho7 q h2).trans (hcf q h1)⟩

set_option maxHeartbeats 4000000 in
set_option maxRecDepth 100000 in
theorem c_L_greatest (l : Launch) (hl0 : l.stackTraces = false) (G : zK) (B0 : Nat) (F : zM) (σ : Sg) (zp0 zp1 : Int32) (fo : Nat → Int64) (hC : CS G B0 F σ) (hK : SgOk σ) (hO : F (B0 + 41) = some (zAL G 1 fo)) : Met l yL_greatest (Cond.codeWith yL_greatest cL_greatest 5 (some FieldType.int) [(0, 10, 13, 13), (0, 10, 17, 21), (0, 10, 21, 93)] :: zW) (zRm 8 136 3 18) (va_Pc [.ref B0, .int zp0, .int zp1, .ref (B0 + 41)] (zPre G B0 F)) (zQi G B0 (zLP G B0 F σ (oA_greatest σ zp0 zp1) (oB_greatest σ zp0 zp1) (oC_greatest σ zp0 zp1) (ss_greatest σ zp0 zp1) (rr_greatest σ zp0 zp1).toInt64)) 3 18 (zA B0) := by
  refine z_ofH (own := RL) (by decide) rfl (Nat.le_of_ble_eq_true rfl) ?_
  intro p e s m below meth c ls hx hb hr hml hown hlocks htab hts hl hI
  have hl : lv_has ls 5 [(0, .ref B0), (1, .int zp0), (2, .int zp1), (3, .ref (B0 + 41))] := hl
  refine lv_aload_n hx hb dL_greatest_0 rfl (lv_at hl 3 rfl) ?_
  refine lv_iconst (v := nI 0) hx hb dL_greatest_1 (by decide) ?_
  refine lv_aload_n hx hb dL_greatest_2 rfl (lv_at hl 0 rfl) ?_
  refine lv_iload_n hx hb dL_greatest_3 rfl (lv_at hl 1 rfl) ?_
  refine lv_iload_n hx hb dL_greatest_4 rfl (lv_at hl 2 rfl) ?_
  refine z_xcalli hI (z_xV (As := [.int zp0, .int zp1]) (rest := [.int (nI 0), .ref (B0 + 41)]) ⟨hx, hb, hml, hown, hts⟩ hI hC.1 rfl (c_X2_greatest l hl0 G B0 F σ zp0 zp1 hC hK) (z_cwV vX2_greatest hts q469 ⟨Nat.le_of_ble_eq_true rfl, Nat.le_of_ble_eq_true rfl⟩) rfl hl.1 rfl (lv_room (Nat.le_of_ble_eq_true rfl)) dL_greatest_5 ⟨Nat.le_of_ble_eq_true rfl, Nat.le_of_ble_eq_true rfl⟩) ?_ (fun r2 F1 H locs hp3 hI => ?_)
  · intro E ce q9 H locs hpx4 hI hce hcv hcl
    rcases hpx4 with ⟨rfl, hn1⟩ | ⟨rfl, hh1, hn2⟩ | ⟨rfl, hh1, hh2, hn3⟩
    · refine z_catch (E := zEI) hown hI [] ⟨0, 10, 13, 13⟩ [⟨0, 10, 17, 21⟩, ⟨0, 10, 21, 93⟩] (htab.trans rfl) (fun z hz => nomatch hz) rfl (by decide) (hts _ q65) (List.mem_of_getElem? (i := 0) rfl) hce hcv hcl ?_
      refine lv_astore (lv' := [(4, .ref q9), (0, .ref B0), (1, .int zp0), (2, .int zp1), (3, .ref (B0 + 41))]) hx hb dL_greatest_13 hl (by decide) rfl (fun ls hl => ?_)
      refine lv_iconst (v := nI 1) hx hb dL_greatest_15 (by decide) ?_
      refine z_ri hx hb hr hlocks hI ?_ (Nat.le_of_ble_eq_true rfl) (Nat.le_of_ble_eq_true rfl) dL_greatest_16
      exact ⟨_, rfl, Or.inr (Or.inl ⟨rfl, hn1⟩), ⟨σ, _, hC, hO, fun q => absurd q.1 hn1, fun _ => rfl⟩, fun q _ _ => rfl⟩
    · refine z_catch (E := zEA) hown hI [⟨0, 10, 13, 13⟩] ⟨0, 10, 17, 21⟩ [⟨0, 10, 21, 93⟩] (htab.trans rfl) (List.forall_mem_cons.mpr ⟨⟨by decide, zEI, hts _ q65, List.mem_of_getElem? (i := 1) rfl⟩, fun z hz => nomatch hz⟩) rfl (by decide) (hts _ q175) (List.mem_of_getElem? (i := 2) rfl) hce hcv hcl ?_
      refine lv_astore (lv' := [(4, .ref q9), (0, .ref B0), (1, .int zp0), (2, .int zp1), (3, .ref (B0 + 41))]) hx hb dL_greatest_17 hl (by decide) rfl (fun ls hl => ?_)
      refine lv_iconst (v := nI 2) hx hb dL_greatest_19 (by decide) ?_
      refine z_ri hx hb hr hlocks hI ?_ (Nat.le_of_ble_eq_true rfl) (Nat.le_of_ble_eq_true rfl) dL_greatest_20
      exact ⟨_, rfl, Or.inr (Or.inr (Or.inl ⟨rfl, hh1, hn2⟩)), ⟨σ, _, hC, hO, fun q => absurd q.2.1 hn2, fun _ => rfl⟩, fun q _ _ => rfl⟩
    · refine z_catch (E := zEN) hown hI [⟨0, 10, 13, 13⟩, ⟨0, 10, 17, 21⟩] ⟨0, 10, 21, 93⟩ [] (htab.trans rfl) (List.forall_mem_cons.mpr ⟨⟨by decide, zEI, hts _ q65, List.mem_of_getElem? (i := 2) rfl⟩, List.forall_mem_cons.mpr ⟨⟨by decide, zEA, hts _ q175, List.mem_of_getElem? (i := 10) rfl⟩, fun z hz => nomatch hz⟩⟩) rfl (by decide) (hts _ q423) (List.mem_of_getElem? (i := 3) rfl) hce hcv hcl ?_
      refine lv_astore (lv' := [(4, .ref q9), (0, .ref B0), (1, .int zp0), (2, .int zp1), (3, .ref (B0 + 41))]) hx hb dL_greatest_21 hl (by decide) rfl (fun ls hl => ?_)
      refine lv_iconst (v := nI 3) hx hb dL_greatest_23 (by decide) ?_
      refine z_ri hx hb hr hlocks hI ?_ (Nat.le_of_ble_eq_true rfl) (Nat.le_of_ble_eq_true rfl) dL_greatest_24
      exact ⟨_, rfl, Or.inr (Or.inr (Or.inr ⟨rfl, hh1, hh2, hn3⟩)), ⟨σ, _, hC, hO, fun q => absurd q.2.2 hn3, fun _ => rfl⟩, fun q _ _ => rfl⟩
  obtain ⟨hA, hB, hC3, rfl, hC1, hcf⟩ := hp3
  have hO1 := (hcf _ (by omega)).trans hO
  refine lv_i2l hx hb dL_greatest_8 rfl ?_
  refine z_lst (k := 0) hx hb hI hO1 (by decide) (by decide) dL_greatest_9 (fun H locs F5 hw6 ho7 hI => ?_)
  refine lv_goto (tgt := 25) hx hb dL_greatest_10 (by decide) ?_
  refine lv_iconst (v := nI 0) hx hb dL_greatest_25 (by decide) ?_
  refine z_ri hx hb hr hlocks hI ?_ (Nat.le_of_ble_eq_true rfl) (Nat.le_of_ble_eq_true rfl) dL_greatest_26
  exact ⟨_, rfl, Or.inl ⟨rfl, hA, hB, hC3⟩, ⟨_, _, CS.go hC1 (fun q hq => ho7 q (by omega)), hw6, fun _ => ⟨rfl, vpl_s⟩, fun q => absurd ⟨hA, hB, hC3⟩ q⟩, fun q h1 h2 => (ho7 q h2).trans (hcf q h1)⟩

set_option maxHeartbeats 4000000 in
set_option maxRecDepth 100000 in
theorem c_L_least (l : Launch) (hl0 : l.stackTraces = false) (G : zK) (B0 : Nat) (F : zM) (σ : Sg) (zp0 zp1 : Int32) (fo : Nat → Int64) (hC : CS G B0 F σ) (hK : SgOk σ) (hO : F (B0 + 41) = some (zAL G 1 fo)) : Met l yL_least (Cond.codeWith yL_least cL_least 5 (some FieldType.int) [(0, 10, 13, 13), (0, 10, 17, 21), (0, 10, 21, 93)] :: zW) (zRm 8 136 3 18) (va_Pc [.ref B0, .int zp0, .int zp1, .ref (B0 + 41)] (zPre G B0 F)) (zQi G B0 (zLP G B0 F σ (oA_least σ zp0 zp1) (oB_least σ zp0 zp1) (oC_least σ zp0 zp1) (ss_least σ zp0 zp1) (rr_least σ zp0 zp1).toInt64)) 3 18 (zA B0) := by
  refine z_ofH (own := RL) (by decide) rfl (Nat.le_of_ble_eq_true rfl) ?_
  intro p e s m below meth c ls hx hb hr hml hown hlocks htab hts hl hI
  have hl : lv_has ls 5 [(0, .ref B0), (1, .int zp0), (2, .int zp1), (3, .ref (B0 + 41))] := hl
  refine lv_aload_n hx hb dL_least_0 rfl (lv_at hl 3 rfl) ?_
  refine lv_iconst (v := nI 0) hx hb dL_least_1 (by decide) ?_
  refine lv_aload_n hx hb dL_least_2 rfl (lv_at hl 0 rfl) ?_
  refine lv_iload_n hx hb dL_least_3 rfl (lv_at hl 1 rfl) ?_
  refine lv_iload_n hx hb dL_least_4 rfl (lv_at hl 2 rfl) ?_
  refine z_xcalli hI (z_xV (As := [.int zp0, .int zp1]) (rest := [.int (nI 0), .ref (B0 + 41)]) ⟨hx, hb, hml, hown, hts⟩ hI hC.1 rfl (c_X2_least l hl0 G B0 F σ zp0 zp1 hC hK) (z_cwV vX2_least hts q487 ⟨Nat.le_of_ble_eq_true rfl, Nat.le_of_ble_eq_true rfl⟩) rfl hl.1 rfl (lv_room (Nat.le_of_ble_eq_true rfl)) dL_least_5 ⟨Nat.le_of_ble_eq_true rfl, Nat.le_of_ble_eq_true rfl⟩) ?_ (fun r2 F1 H locs hp3 hI => ?_)
  · intro E ce q9 H locs hpx4 hI hce hcv hcl
    rcases hpx4 with ⟨rfl, hn1⟩ | ⟨rfl, hh1, hn2⟩ | ⟨rfl, hh1, hh2, hn3⟩
    · refine z_catch (E := zEI) hown hI [] ⟨0, 10, 13, 13⟩ [⟨0, 10, 17, 21⟩, ⟨0, 10, 21, 93⟩] (htab.trans rfl) (fun z hz => nomatch hz) rfl (by decide) (hts _ q65) (List.mem_of_getElem? (i := 0) rfl) hce hcv hcl ?_
      refine lv_astore (lv' := [(4, .ref q9), (0, .ref B0), (1, .int zp0), (2, .int zp1), (3, .ref (B0 + 41))]) hx hb dL_least_13 hl (by decide) rfl (fun ls hl => ?_)
      refine lv_iconst (v := nI 1) hx hb dL_least_15 (by decide) ?_
      refine z_ri hx hb hr hlocks hI ?_ (Nat.le_of_ble_eq_true rfl) (Nat.le_of_ble_eq_true rfl) dL_least_16
      exact ⟨_, rfl, Or.inr (Or.inl ⟨rfl, hn1⟩), ⟨σ, _, hC, hO, fun q => absurd q.1 hn1, fun _ => rfl⟩, fun q _ _ => rfl⟩
    · refine z_catch (E := zEA) hown hI [⟨0, 10, 13, 13⟩] ⟨0, 10, 17, 21⟩ [⟨0, 10, 21, 93⟩] (htab.trans rfl) (List.forall_mem_cons.mpr ⟨⟨by decide, zEI, hts _ q65, List.mem_of_getElem? (i := 1) rfl⟩, fun z hz => nomatch hz⟩) rfl (by decide) (hts _ q175) (List.mem_of_getElem? (i := 2) rfl) hce hcv hcl ?_
      refine lv_astore (lv' := [(4, .ref q9), (0, .ref B0), (1, .int zp0), (2, .int zp1), (3, .ref (B0 + 41))]) hx hb dL_least_17 hl (by decide) rfl (fun ls hl => ?_)
      refine lv_iconst (v := nI 2) hx hb dL_least_19 (by decide) ?_
      refine z_ri hx hb hr hlocks hI ?_ (Nat.le_of_ble_eq_true rfl) (Nat.le_of_ble_eq_true rfl) dL_least_20
      exact ⟨_, rfl, Or.inr (Or.inr (Or.inl ⟨rfl, hh1, hn2⟩)), ⟨σ, _, hC, hO, fun q => absurd q.2.1 hn2, fun _ => rfl⟩, fun q _ _ => rfl⟩
    · refine z_catch (E := zEN) hown hI [⟨0, 10, 13, 13⟩, ⟨0, 10, 17, 21⟩] ⟨0, 10, 21, 93⟩ [] (htab.trans rfl) (List.forall_mem_cons.mpr ⟨⟨by decide, zEI, hts _ q65, List.mem_of_getElem? (i := 2) rfl⟩, List.forall_mem_cons.mpr ⟨⟨by decide, zEA, hts _ q175, List.mem_of_getElem? (i := 10) rfl⟩, fun z hz => nomatch hz⟩⟩) rfl (by decide) (hts _ q423) (List.mem_of_getElem? (i := 3) rfl) hce hcv hcl ?_
      refine lv_astore (lv' := [(4, .ref q9), (0, .ref B0), (1, .int zp0), (2, .int zp1), (3, .ref (B0 + 41))]) hx hb dL_least_21 hl (by decide) rfl (fun ls hl => ?_)
      refine lv_iconst (v := nI 3) hx hb dL_least_23 (by decide) ?_
      refine z_ri hx hb hr hlocks hI ?_ (Nat.le_of_ble_eq_true rfl) (Nat.le_of_ble_eq_true rfl) dL_least_24
      exact ⟨_, rfl, Or.inr (Or.inr (Or.inr ⟨rfl, hh1, hh2, hn3⟩)), ⟨σ, _, hC, hO, fun q => absurd q.2.2 hn3, fun _ => rfl⟩, fun q _ _ => rfl⟩
  obtain ⟨hA, hB, hC3, rfl, hC1, hcf⟩ := hp3
  have hO1 := (hcf _ (by omega)).trans hO
  refine lv_i2l hx hb dL_least_8 rfl ?_
  refine z_lst (k := 0) hx hb hI hO1 (by decide) (by decide) dL_least_9 (fun H locs F5 hw6 ho7 hI => ?_)
  refine lv_goto (tgt := 25) hx hb dL_least_10 (by decide) ?_
  refine lv_iconst (v := nI 0) hx hb dL_least_25 (by decide) ?_
  refine z_ri hx hb hr hlocks hI ?_ (Nat.le_of_ble_eq_true rfl) (Nat.le_of_ble_eq_true rfl) dL_least_26
  exact ⟨_, rfl, Or.inl ⟨rfl, hA, hB, hC3⟩, ⟨_, _, CS.go hC1 (fun q hq => ho7 q (by omega)), hw6, fun _ => ⟨rfl, vpl_s⟩, fun q => absurd ⟨hA, hB, hC3⟩ q⟩, fun q h1 h2 => (ho7 q h2).trans (hcf q h1)⟩

set_option maxHeartbeats 4000000 in
set_option maxRecDepth 100000 in
theorem c_L_sort (l : Launch) (hl0 : l.stackTraces = false) (G : zK) (B0 : Nat) (F : zM) (σ : Sg) (zp0 zp1 zp2 : Int32) (fo : Nat → Int64) (hC : CS G B0 F σ) (hK : SgOk σ) (hO : F (B0 + 41) = some (zAL G 1 fo)) : Met l yL_sort (Cond.codeWith yL_sort cL_sort 6 (some FieldType.int) [(0, 12, 15, 13), (0, 12, 19, 21)] :: zW) (zRm 8 135 2 12) (va_Pc [.ref B0, .int zp0, .int zp1, .int zp2, .ref (B0 + 41)] (zPre G B0 F)) (zQi G B0 (zLP G B0 F σ (oA_sort σ zp0 zp1 zp2) (oB_sort σ zp0 zp1 zp2) (oC_sort σ zp0 zp1 zp2) (ss_sort σ zp0 zp1 zp2) (rr_sort σ zp0 zp1 zp2).toInt64)) 2 12 (zA B0) := by
  refine z_ofH (own := RL) (by decide) rfl (Nat.le_of_ble_eq_true rfl) ?_
  intro p e s m below meth c ls hx hb hr hml hown hlocks htab hts hl hI
  have hl : lv_has ls 6 [(0, .ref B0), (1, .int zp0), (2, .int zp1), (3, .int zp2), (4, .ref (B0 + 41))] := hl
  refine lv_aload hx hb dL_sort_0 (lv_at hl 4 rfl) ?_
  refine lv_iconst (v := nI 0) hx hb dL_sort_2 (by decide) ?_
  refine lv_aload_n hx hb dL_sort_3 rfl (lv_at hl 0 rfl) ?_
  refine lv_iload_n hx hb dL_sort_4 rfl (lv_at hl 1 rfl) ?_
  refine lv_iload_n hx hb dL_sort_5 rfl (lv_at hl 2 rfl) ?_
  refine lv_iload_n hx hb dL_sort_6 rfl (lv_at hl 3 rfl) ?_
  refine z_xcalli hI (z_xV (As := [.int zp0, .int zp1, .int zp2]) (rest := [.int (nI 0), .ref (B0 + 41)]) ⟨hx, hb, hml, hown, hts⟩ hI hC.1 rfl (c_X2_sort l hl0 G B0 F σ zp0 zp1 zp2 hC hK) (z_cwV vX2_sort hts q497 ⟨Nat.le_of_ble_eq_true rfl, Nat.le_of_ble_eq_true rfl⟩) rfl hl.1 rfl (lv_room (Nat.le_of_ble_eq_true rfl)) dL_sort_7 ⟨Nat.le_of_ble_eq_true rfl, Nat.le_of_ble_eq_true rfl⟩) ?_ (fun r2 F1 H locs hp3 hI => ?_)
  · intro E ce q9 H locs hpx4 hI hce hcv hcl
    rcases hpx4 with ⟨rfl, hn1⟩ | ⟨rfl, hh1, hn2⟩ | ⟨hE9, hh1, hh2, hn3⟩
    · refine z_catch (E := zEI) hown hI [] ⟨0, 12, 15, 13⟩ [⟨0, 12, 19, 21⟩] (htab.trans rfl) (fun z hz => nomatch hz) rfl (by decide) (hts _ q65) (List.mem_of_getElem? (i := 0) rfl) hce hcv hcl ?_
      refine lv_astore (lv' := [(5, .ref q9), (0, .ref B0), (1, .int zp0), (2, .int zp1), (3, .int zp2), (4, .ref (B0 + 41))]) hx hb dL_sort_15 hl (by decide) rfl (fun ls hl => ?_)
      refine lv_iconst (v := nI 1) hx hb dL_sort_17 (by decide) ?_
      refine z_ri hx hb hr hlocks hI ?_ (Nat.le_of_ble_eq_true rfl) (Nat.le_of_ble_eq_true rfl) dL_sort_18
      exact ⟨_, rfl, Or.inr (Or.inl ⟨rfl, hn1⟩), ⟨σ, _, hC, hO, fun q => absurd q.1 hn1, fun _ => rfl⟩, fun q _ _ => rfl⟩
    · refine z_catch (E := zEA) hown hI [⟨0, 12, 15, 13⟩] ⟨0, 12, 19, 21⟩ [] (htab.trans rfl) (List.forall_mem_cons.mpr ⟨⟨by decide, zEI, hts _ q65, List.mem_of_getElem? (i := 1) rfl⟩, fun z hz => nomatch hz⟩) rfl (by decide) (hts _ q175) (List.mem_of_getElem? (i := 2) rfl) hce hcv hcl ?_
      refine lv_astore (lv' := [(5, .ref q9), (0, .ref B0), (1, .int zp0), (2, .int zp1), (3, .int zp2), (4, .ref (B0 + 41))]) hx hb dL_sort_19 hl (by decide) rfl (fun ls hl => ?_)
      refine lv_iconst (v := nI 2) hx hb dL_sort_21 (by decide) ?_
      refine z_ri hx hb hr hlocks hI ?_ (Nat.le_of_ble_eq_true rfl) (Nat.le_of_ble_eq_true rfl) dL_sort_22
      exact ⟨_, rfl, Or.inr (Or.inr (Or.inl ⟨rfl, hh1, hn2⟩)), ⟨σ, _, hC, hO, fun q => absurd q.2.1 hn2, fun _ => rfl⟩, fun q _ _ => rfl⟩
    · exact (hn3 trivial).elim
  obtain ⟨hA, hB, hC3, rfl, hC1, hcf⟩ := hp3
  have hO1 := (hcf _ (by omega)).trans hO
  refine lv_i2l hx hb dL_sort_10 rfl ?_
  refine z_lst (k := 0) hx hb hI hO1 (by decide) (by decide) dL_sort_11 (fun H locs F5 hw6 ho7 hI => ?_)
  refine lv_goto (tgt := 23) hx hb dL_sort_12 (by decide) ?_
  refine lv_iconst (v := nI 0) hx hb dL_sort_23 (by decide) ?_
  refine z_ri hx hb hr hlocks hI ?_ (Nat.le_of_ble_eq_true rfl) (Nat.le_of_ble_eq_true rfl) dL_sort_24
  exact ⟨_, rfl, Or.inl ⟨rfl, hA, hB, hC3⟩, ⟨_, _, CS.go hC1 (fun q hq => ho7 q (by omega)), hw6, fun _ => ⟨rfl, vpl_s⟩, fun q => absurd ⟨hA, hB, hC3⟩ q⟩, fun q h1 h2 => (ho7 q h2).trans (hcf q h1)⟩

set_option maxHeartbeats 4000000 in
set_option maxRecDepth 100000 in
theorem c_L_isSorted (l : Launch) (hl0 : l.stackTraces = false) (G : zK) (B0 : Nat) (F : zM) (σ : Sg) (zp0 zp1 : Int32) (fo : Nat → Int64) (hC : CS G B0 F σ) (hK : SgOk σ) (hO : F (B0 + 41) = some (zAL G 1 fo)) : Met l yL_isSorted (Cond.codeWith yL_isSorted cL_isSorted 5 (some FieldType.int) [(0, 17, 20, 13), (0, 17, 24, 21)] :: zW) (zRm 8 134 2 12) (va_Pc [.ref B0, .int zp0, .int zp1, .ref (B0 + 41)] (zPre G B0 F)) (zQi G B0 (zLP G B0 F σ (oA_isSorted σ zp0 zp1) (oB_isSorted σ zp0 zp1) (oC_isSorted σ zp0 zp1) (ss_isSorted σ zp0 zp1) (rr_isSorted σ zp0 zp1).toInt64)) 2 12 (zA B0) := by
  refine z_ofH (own := RL) (by decide) rfl (Nat.le_of_ble_eq_true rfl) ?_
  intro p e s m below meth c ls hx hb hr hml hown hlocks htab hts hl hI
  have hl : lv_has ls 5 [(0, .ref B0), (1, .int zp0), (2, .int zp1), (3, .ref (B0 + 41))] := hl
  refine lv_aload_n hx hb dL_isSorted_0 rfl (lv_at hl 3 rfl) ?_
  refine lv_iconst (v := nI 0) hx hb dL_isSorted_1 (by decide) ?_
  refine lv_aload_n hx hb dL_isSorted_2 rfl (lv_at hl 0 rfl) ?_
  refine lv_iload_n hx hb dL_isSorted_3 rfl (lv_at hl 1 rfl) ?_
  refine lv_iload_n hx hb dL_isSorted_4 rfl (lv_at hl 2 rfl) ?_
  refine z_xcalli hI (z_xV (As := [.int zp0, .int zp1]) (rest := [.int (nI 0), .ref (B0 + 41)]) ⟨hx, hb, hml, hown, hts⟩ hI hC.1 rfl (c_X2_isSorted l hl0 G B0 F σ zp0 zp1 hC hK) (z_cwV vX2_isSorted hts q516 ⟨Nat.le_of_ble_eq_true rfl, Nat.le_of_ble_eq_true rfl⟩) rfl hl.1 rfl (lv_room (Nat.le_of_ble_eq_true rfl)) dL_isSorted_5 ⟨Nat.le_of_ble_eq_true rfl, Nat.le_of_ble_eq_true rfl⟩) ?_ (fun r2 F1 H locs hp3 hI => ?_)
  · intro E ce q9 H locs hpx4 hI hce hcv hcl
    rcases hpx4 with ⟨rfl, hn1⟩ | ⟨rfl, hh1, hn2⟩ | ⟨hE9, hh1, hh2, hn3⟩
    · refine z_catch (E := zEI) hown hI [] ⟨0, 17, 20, 13⟩ [⟨0, 17, 24, 21⟩] (htab.trans rfl) (fun z hz => nomatch hz) rfl (by decide) (hts _ q65) (List.mem_of_getElem? (i := 0) rfl) hce hcv hcl ?_
      refine lv_astore (lv' := [(4, .ref q9), (0, .ref B0), (1, .int zp0), (2, .int zp1), (3, .ref (B0 + 41))]) hx hb dL_isSorted_20 hl (by decide) rfl (fun ls hl => ?_)
      refine lv_iconst (v := nI 1) hx hb dL_isSorted_22 (by decide) ?_
      refine z_ri hx hb hr hlocks hI ?_ (Nat.le_of_ble_eq_true rfl) (Nat.le_of_ble_eq_true rfl) dL_isSorted_23
      exact ⟨_, rfl, Or.inr (Or.inl ⟨rfl, hn1⟩), ⟨σ, _, hC, hO, fun q => absurd q.1 hn1, fun _ => rfl⟩, fun q _ _ => rfl⟩
    · refine z_catch (E := zEA) hown hI [⟨0, 17, 20, 13⟩] ⟨0, 17, 24, 21⟩ [] (htab.trans rfl) (List.forall_mem_cons.mpr ⟨⟨by decide, zEI, hts _ q65, List.mem_of_getElem? (i := 1) rfl⟩, fun z hz => nomatch hz⟩) rfl (by decide) (hts _ q175) (List.mem_of_getElem? (i := 2) rfl) hce hcv hcl ?_
      refine lv_astore (lv' := [(4, .ref q9), (0, .ref B0), (1, .int zp0), (2, .int zp1), (3, .ref (B0 + 41))]) hx hb dL_isSorted_24 hl (by decide) rfl (fun ls hl => ?_)
      refine lv_iconst (v := nI 2) hx hb dL_isSorted_26 (by decide) ?_
      refine z_ri hx hb hr hlocks hI ?_ (Nat.le_of_ble_eq_true rfl) (Nat.le_of_ble_eq_true rfl) dL_isSorted_27
      exact ⟨_, rfl, Or.inr (Or.inr (Or.inl ⟨rfl, hh1, hn2⟩)), ⟨σ, _, hC, hO, fun q => absurd q.2.1 hn2, fun _ => rfl⟩, fun q _ _ => rfl⟩
    · exact (hn3 trivial).elim
  obtain ⟨hA, hB, hC3, rfl, hC1, hcf⟩ := hp3
  have hO1 := (hcf _ (by omega)).trans hO
  have hz01 : rr_isSorted σ zp0 zp1 = 0 ∨ rr_isSorted σ zp0 zp1 = 1 := (by unfold rr_isSorted; exact pI_or)
  refine lv_if_eq (tgt := 15) hx hb dL_isSorted_8 (by decide) (fun hq5 => ?_) (fun hq5 => ?_)
  · refine lv_lconst (v := 0) hx hb dL_isSorted_15 (by decide) ?_
    refine z_lst (k := 0) hx hb hI hO1 (by decide) (by decide) dL_isSorted_16 (fun H locs F6 hw7 ho8 hI => ?_)
    refine lv_goto (tgt := 28) hx hb dL_isSorted_17 (by decide) ?_
    refine lv_iconst (v := nI 0) hx hb dL_isSorted_28 (by decide) ?_
    refine z_ri hx hb hr hlocks hI ?_ (Nat.le_of_ble_eq_true rfl) (Nat.le_of_ble_eq_true rfl) dL_isSorted_29
    exact ⟨_, rfl, Or.inl ⟨rfl, hA, hB, hC3⟩, ⟨_, _, CS.go hC1 (fun q hq => ho8 q (by omega)), hw7, fun _ => ⟨rfl, vpl_s.trans (by rw [hq5]; rfl)⟩, fun q => absurd ⟨hA, hB, hC3⟩ q⟩, fun q h1 h2 => (ho8 q h2).trans (hcf q h1)⟩
  · refine lv_lconst (v := 1) hx hb dL_isSorted_11 (by decide) ?_
    refine lv_goto (tgt := 16) hx hb dL_isSorted_12 (by decide) ?_
    refine z_lst (k := 0) hx hb hI hO1 (by decide) (by decide) dL_isSorted_16 (fun H locs F9 hw10 ho11 hI => ?_)
    refine lv_goto (tgt := 28) hx hb dL_isSorted_17 (by decide) ?_
    refine lv_iconst (v := nI 0) hx hb dL_isSorted_28 (by decide) ?_
    refine z_ri hx hb hr hlocks hI ?_ (Nat.le_of_ble_eq_true rfl) (Nat.le_of_ble_eq_true rfl) dL_isSorted_29
    exact ⟨_, rfl, Or.inl ⟨rfl, hA, hB, hC3⟩, ⟨_, _, CS.go hC1 (fun q hq => ho11 q (by omega)), hw10, fun _ => ⟨rfl, vpl_s.trans (by rw [hz01.resolve_left hq5]; rfl)⟩, fun q => absurd ⟨hA, hB, hC3⟩ q⟩, fun q h1 h2 => (ho11 q h2).trans (hcf q h1)⟩

set_option maxHeartbeats 4000000 in
set_option maxRecDepth 100000 in
theorem c_L_search (l : Launch) (hl0 : l.stackTraces = false) (G : zK) (B0 : Nat) (F : zM) (σ : Sg) (zp0 zp1 zp2 : Int32) (fo : Nat → Int64) (hC : CS G B0 F σ) (hK : SgOk σ) (hO : F (B0 + 41) = some (zAL G 1 fo)) : Met l yL_search (Cond.codeWith yL_search cL_search 6 (some FieldType.int) [(0, 12, 15, 13), (0, 12, 19, 21), (0, 12, 23, 15)] :: zW) (zRm 8 138 4 24) (va_Pc [.ref B0, .int zp0, .int zp1, .int zp2, .ref (B0 + 41)] (zPre G B0 F)) (zQi G B0 (zLP G B0 F σ (oA_search σ zp0 zp1 zp2) (oB_search σ zp0 zp1 zp2) (oC_search σ zp0 zp1 zp2) (ss_search σ zp0 zp1 zp2) (rr_search σ zp0 zp1 zp2).toInt64)) 4 24 (zA B0) := by
  refine z_ofH (own := RL) (by decide) rfl (Nat.le_of_ble_eq_true rfl) ?_
  intro p e s m below meth c ls hx hb hr hml hown hlocks htab hts hl hI
  have hl : lv_has ls 6 [(0, .ref B0), (1, .int zp0), (2, .int zp1), (3, .int zp2), (4, .ref (B0 + 41))] := hl
  refine lv_aload hx hb dL_search_0 (lv_at hl 4 rfl) ?_
  refine lv_iconst (v := nI 0) hx hb dL_search_2 (by decide) ?_
  refine lv_aload_n hx hb dL_search_3 rfl (lv_at hl 0 rfl) ?_
  refine lv_iload_n hx hb dL_search_4 rfl (lv_at hl 1 rfl) ?_
  refine lv_iload_n hx hb dL_search_5 rfl (lv_at hl 2 rfl) ?_
  refine lv_iload_n hx hb dL_search_6 rfl (lv_at hl 3 rfl) ?_
  refine z_xcalli hI (z_xV (As := [.int zp0, .int zp1, .int zp2]) (rest := [.int (nI 0), .ref (B0 + 41)]) ⟨hx, hb, hml, hown, hts⟩ hI hC.1 rfl (c_X2_search l hl0 G B0 F σ zp0 zp1 zp2 hC hK) (z_cwV vX2_search hts q527 ⟨Nat.le_of_ble_eq_true rfl, Nat.le_of_ble_eq_true rfl⟩) rfl hl.1 rfl (lv_room (Nat.le_of_ble_eq_true rfl)) dL_search_7 ⟨Nat.le_of_ble_eq_true rfl, Nat.le_of_ble_eq_true rfl⟩) ?_ (fun r2 F1 H locs hp3 hI => ?_)
  · intro E ce q9 H locs hpx4 hI hce hcv hcl
    rcases hpx4 with ⟨rfl, hn1⟩ | ⟨rfl, hh1, hn2⟩ | ⟨rfl, hh1, hh2, hn3⟩
    · refine z_catch (E := zEI) hown hI [] ⟨0, 12, 15, 13⟩ [⟨0, 12, 19, 21⟩, ⟨0, 12, 23, 15⟩] (htab.trans rfl) (fun z hz => nomatch hz) rfl (by decide) (hts _ q65) (List.mem_of_getElem? (i := 0) rfl) hce hcv hcl ?_
      refine lv_astore (lv' := [(5, .ref q9), (0, .ref B0), (1, .int zp0), (2, .int zp1), (3, .int zp2), (4, .ref (B0 + 41))]) hx hb dL_search_15 hl (by decide) rfl (fun ls hl => ?_)
      refine lv_iconst (v := nI 1) hx hb dL_search_17 (by decide) ?_
      refine z_ri hx hb hr hlocks hI ?_ (Nat.le_of_ble_eq_true rfl) (Nat.le_of_ble_eq_true rfl) dL_search_18
      exact ⟨_, rfl, Or.inr (Or.inl ⟨rfl, hn1⟩), ⟨σ, _, hC, hO, fun q => absurd q.1 hn1, fun _ => rfl⟩, fun q _ _ => rfl⟩
    · refine z_catch (E := zEA) hown hI [⟨0, 12, 15, 13⟩] ⟨0, 12, 19, 21⟩ [⟨0, 12, 23, 15⟩] (htab.trans rfl) (List.forall_mem_cons.mpr ⟨⟨by decide, zEI, hts _ q65, List.mem_of_getElem? (i := 1) rfl⟩, fun z hz => nomatch hz⟩) rfl (by decide) (hts _ q175) (List.mem_of_getElem? (i := 2) rfl) hce hcv hcl ?_
      refine lv_astore (lv' := [(5, .ref q9), (0, .ref B0), (1, .int zp0), (2, .int zp1), (3, .int zp2), (4, .ref (B0 + 41))]) hx hb dL_search_19 hl (by decide) rfl (fun ls hl => ?_)
      refine lv_iconst (v := nI 2) hx hb dL_search_21 (by decide) ?_
      refine z_ri hx hb hr hlocks hI ?_ (Nat.le_of_ble_eq_true rfl) (Nat.le_of_ble_eq_true rfl) dL_search_22
      exact ⟨_, rfl, Or.inr (Or.inr (Or.inl ⟨rfl, hh1, hn2⟩)), ⟨σ, _, hC, hO, fun q => absurd q.2.1 hn2, fun _ => rfl⟩, fun q _ _ => rfl⟩
    · refine z_catch (E := zES) hown hI [⟨0, 12, 15, 13⟩, ⟨0, 12, 19, 21⟩] ⟨0, 12, 23, 15⟩ [] (htab.trans rfl) (List.forall_mem_cons.mpr ⟨⟨by decide, zEI, hts _ q65, List.mem_of_getElem? (i := 0) rfl⟩, List.forall_mem_cons.mpr ⟨⟨by decide, zEA, hts _ q175, List.mem_of_getElem? (i := 9) rfl⟩, fun z hz => nomatch hz⟩⟩) rfl (by decide) (hts _ q66) (List.mem_of_getElem? (i := 1) rfl) hce hcv hcl ?_
      refine lv_astore (lv' := [(5, .ref q9), (0, .ref B0), (1, .int zp0), (2, .int zp1), (3, .int zp2), (4, .ref (B0 + 41))]) hx hb dL_search_23 hl (by decide) rfl (fun ls hl => ?_)
      refine lv_iconst (v := nI 3) hx hb dL_search_25 (by decide) ?_
      refine z_ri hx hb hr hlocks hI ?_ (Nat.le_of_ble_eq_true rfl) (Nat.le_of_ble_eq_true rfl) dL_search_26
      exact ⟨_, rfl, Or.inr (Or.inr (Or.inr ⟨rfl, hh1, hh2, hn3⟩)), ⟨σ, _, hC, hO, fun q => absurd q.2.2 hn3, fun _ => rfl⟩, fun q _ _ => rfl⟩
  obtain ⟨hA, hB, hC3, rfl, hC1, hcf⟩ := hp3
  have hO1 := (hcf _ (by omega)).trans hO
  refine lv_i2l hx hb dL_search_10 rfl ?_
  refine z_lst (k := 0) hx hb hI hO1 (by decide) (by decide) dL_search_11 (fun H locs F5 hw6 ho7 hI => ?_)
  refine lv_goto (tgt := 27) hx hb dL_search_12 (by decide) ?_
  refine lv_iconst (v := nI 0) hx hb dL_search_27 (by decide) ?_
  refine z_ri hx hb hr hlocks hI ?_ (Nat.le_of_ble_eq_true rfl) (Nat.le_of_ble_eq_true rfl) dL_search_28
  exact ⟨_, rfl, Or.inl ⟨rfl, hA, hB, hC3⟩, ⟨_, _, CS.go hC1 (fun q hq => ho7 q (by omega)), hw6, fun _ => ⟨rfl, vpl_s⟩, fun q => absurd ⟨hA, hB, hC3⟩ q⟩, fun q h1 h2 => (ho7 q h2).trans (hcf q h1)⟩

set_option maxHeartbeats 4000000 in
set_option maxRecDepth 100000 in
theorem c_L_turn (l : Launch) (hl0 : l.stackTraces = false) (G : zK) (B0 : Nat) (F : zM) (σ : Sg) (zp0 zp1 zp2 : Int32) (fo : Nat → Int64) (hC : CS G B0 F σ) (hK : SgOk σ) (hO : F (B0 + 41) = some (zAL G 1 fo)) : Met l yL_turn (Cond.codeWith yL_turn cL_turn 6 (some FieldType.int) [(0, 12, 15, 13)] :: zW) (zRm 8 136 2 12) (va_Pc [.ref B0, .int zp0, .int zp1, .int zp2, .ref (B0 + 41)] (zPre G B0 F)) (zQi G B0 (zLP G B0 F σ (oA_turn σ zp0 zp1 zp2) (oB_turn σ zp0 zp1 zp2) (oC_turn σ zp0 zp1 zp2) (ss_turn σ zp0 zp1 zp2) (rr_turn σ zp0 zp1 zp2).toInt64)) 2 12 (zA B0) := by
  refine z_ofH (own := RL) (by decide) rfl (Nat.le_of_ble_eq_true rfl) ?_
  intro p e s m below meth c ls hx hb hr hml hown hlocks htab hts hl hI
  have hl : lv_has ls 6 [(0, .ref B0), (1, .int zp0), (2, .int zp1), (3, .int zp2), (4, .ref (B0 + 41))] := hl
  refine lv_aload hx hb dL_turn_0 (lv_at hl 4 rfl) ?_
  refine lv_iconst (v := nI 0) hx hb dL_turn_2 (by decide) ?_
  refine lv_aload_n hx hb dL_turn_3 rfl (lv_at hl 0 rfl) ?_
  refine lv_iload_n hx hb dL_turn_4 rfl (lv_at hl 1 rfl) ?_
  refine lv_iload_n hx hb dL_turn_5 rfl (lv_at hl 2 rfl) ?_
  refine lv_iload_n hx hb dL_turn_6 rfl (lv_at hl 3 rfl) ?_
  refine z_xcalli hI (z_xV (As := [.int zp0, .int zp1, .int zp2]) (rest := [.int (nI 0), .ref (B0 + 41)]) ⟨hx, hb, hml, hown, hts⟩ hI hC.1 rfl (c_X2_turn l hl0 G B0 F σ zp0 zp1 zp2 hC) (z_cwV vX2_turn hts q535 ⟨Nat.le_of_ble_eq_true rfl, Nat.le_of_ble_eq_true rfl⟩) rfl hl.1 rfl (lv_room (Nat.le_of_ble_eq_true rfl)) dL_turn_7 ⟨Nat.le_of_ble_eq_true rfl, Nat.le_of_ble_eq_true rfl⟩) ?_ (fun r2 F1 H locs hp3 hI => ?_)
  · intro E ce q9 H locs hpx4 hI hce hcv hcl
    rcases hpx4 with ⟨rfl, hn1⟩ | ⟨hE9, hh1, hn2⟩ | ⟨hE9, hh1, hh2, hn3⟩
    · refine z_catch (E := zEI) hown hI [] ⟨0, 12, 15, 13⟩ [] (htab.trans rfl) (fun z hz => nomatch hz) rfl (by decide) (hts _ q65) (List.mem_of_getElem? (i := 0) rfl) hce hcv hcl ?_
      refine lv_astore (lv' := [(5, .ref q9), (0, .ref B0), (1, .int zp0), (2, .int zp1), (3, .int zp2), (4, .ref (B0 + 41))]) hx hb dL_turn_15 hl (by decide) rfl (fun ls hl => ?_)
      refine lv_iconst (v := nI 1) hx hb dL_turn_17 (by decide) ?_
      refine z_ri hx hb hr hlocks hI ?_ (Nat.le_of_ble_eq_true rfl) (Nat.le_of_ble_eq_true rfl) dL_turn_18
      exact ⟨_, rfl, Or.inr (Or.inl ⟨rfl, hn1⟩), ⟨σ, _, hC, hO, fun q => absurd q.1 hn1, fun _ => rfl⟩, fun q _ _ => rfl⟩
    · exact (hn2 trivial).elim
    · exact (hn3 trivial).elim
  obtain ⟨hA, hB, hC3, rfl, hC1, hcf⟩ := hp3
  have hO1 := (hcf _ (by omega)).trans hO
  refine lv_i2l hx hb dL_turn_10 rfl ?_
  refine z_lst (k := 0) hx hb hI hO1 (by decide) (by decide) dL_turn_11 (fun H locs F5 hw6 ho7 hI => ?_)
  refine lv_goto (tgt := 19) hx hb dL_turn_12 (by decide) ?_
  refine lv_iconst (v := nI 0) hx hb dL_turn_19 (by decide) ?_
  refine z_ri hx hb hr hlocks hI ?_ (Nat.le_of_ble_eq_true rfl) (Nat.le_of_ble_eq_true rfl) dL_turn_20
  exact ⟨_, rfl, Or.inl ⟨rfl, hA, hB, hC3⟩, ⟨_, _, CS.go hC1 (fun q hq => ho7 q (by omega)), hw6, fun _ => ⟨rfl, vpl_s⟩, fun q => absurd ⟨hA, hB, hC3⟩ q⟩, fun q h1 h2 => (ho7 q h2).trans (hcf q h1)⟩

set_option maxHeartbeats 4000000 in
set_option maxRecDepth 100000 in
theorem c_L_move (l : Launch) (hl0 : l.stackTraces = false) (G : zK) (B0 : Nat) (F : zM) (σ : Sg) (zp0 zp1 zp2 zp3 : Int32) (fo : Nat → Int64) (hC : CS G B0 F σ) (hK : SgOk σ) (hO : F (B0 + 41) = some (zAL G 1 fo)) : Met l yL_move (Cond.codeWith yL_move cL_move 7 (some FieldType.int) [(0, 14, 17, 13)] :: zW) (zRm 8 137 2 12) (va_Pc [.ref B0, .int zp0, .int zp1, .int zp2, .int zp3, .ref (B0 + 41)] (zPre G B0 F)) (zQi G B0 (zLP G B0 F σ (oA_move σ zp0 zp1 zp2 zp3) (oB_move σ zp0 zp1 zp2 zp3) (oC_move σ zp0 zp1 zp2 zp3) (ss_move σ zp0 zp1 zp2 zp3) (rr_move σ zp0 zp1 zp2 zp3).toInt64)) 2 12 (zA B0) := by
  refine z_ofH (own := RL) (by decide) rfl (Nat.le_of_ble_eq_true rfl) ?_
  intro p e s m below meth c ls hx hb hr hml hown hlocks htab hts hl hI
  have hl : lv_has ls 7 [(0, .ref B0), (1, .int zp0), (2, .int zp1), (3, .int zp2), (4, .int zp3), (5, .ref (B0 + 41))] := hl
  refine lv_aload hx hb dL_move_0 (lv_at hl 5 rfl) ?_
  refine lv_iconst (v := nI 0) hx hb dL_move_2 (by decide) ?_
  refine lv_aload_n hx hb dL_move_3 rfl (lv_at hl 0 rfl) ?_
  refine lv_iload_n hx hb dL_move_4 rfl (lv_at hl 1 rfl) ?_
  refine lv_iload_n hx hb dL_move_5 rfl (lv_at hl 2 rfl) ?_
  refine lv_iload_n hx hb dL_move_6 rfl (lv_at hl 3 rfl) ?_
  refine lv_iload hx hb dL_move_7 (lv_at hl 4 rfl) ?_
  refine z_xcalli hI (z_xV (As := [.int zp0, .int zp1, .int zp2, .int zp3]) (rest := [.int (nI 0), .ref (B0 + 41)]) ⟨hx, hb, hml, hown, hts⟩ hI hC.1 rfl (c_X2_move l hl0 G B0 F σ zp0 zp1 zp2 zp3 hC) (z_cwV vX2_move hts q550 ⟨Nat.le_of_ble_eq_true rfl, Nat.le_of_ble_eq_true rfl⟩) rfl hl.1 rfl (lv_room (Nat.le_of_ble_eq_true rfl)) dL_move_9 ⟨Nat.le_of_ble_eq_true rfl, Nat.le_of_ble_eq_true rfl⟩) ?_ (fun r2 F1 H locs hp3 hI => ?_)
  · intro E ce q9 H locs hpx4 hI hce hcv hcl
    rcases hpx4 with ⟨rfl, hn1⟩ | ⟨hE9, hh1, hn2⟩ | ⟨hE9, hh1, hh2, hn3⟩
    · refine z_catch (E := zEI) hown hI [] ⟨0, 14, 17, 13⟩ [] (htab.trans rfl) (fun z hz => nomatch hz) rfl (by decide) (hts _ q65) (List.mem_of_getElem? (i := 0) rfl) hce hcv hcl ?_
      refine lv_astore (lv' := [(6, .ref q9), (0, .ref B0), (1, .int zp0), (2, .int zp1), (3, .int zp2), (4, .int zp3), (5, .ref (B0 + 41))]) hx hb dL_move_17 hl (by decide) rfl (fun ls hl => ?_)
      refine lv_iconst (v := nI 1) hx hb dL_move_19 (by decide) ?_
      refine z_ri hx hb hr hlocks hI ?_ (Nat.le_of_ble_eq_true rfl) (Nat.le_of_ble_eq_true rfl) dL_move_20
      exact ⟨_, rfl, Or.inr (Or.inl ⟨rfl, hn1⟩), ⟨σ, _, hC, hO, fun q => absurd q.1 hn1, fun _ => rfl⟩, fun q _ _ => rfl⟩
    · exact (hn2 trivial).elim
    · exact (hn3 trivial).elim
  obtain ⟨hA, hB, hC3, rfl, hC1, hcf⟩ := hp3
  have hO1 := (hcf _ (by omega)).trans hO
  refine lv_i2l hx hb dL_move_12 rfl ?_
  refine z_lst (k := 0) hx hb hI hO1 (by decide) (by decide) dL_move_13 (fun H locs F5 hw6 ho7 hI => ?_)
  refine lv_goto (tgt := 21) hx hb dL_move_14 (by decide) ?_
  refine lv_iconst (v := nI 0) hx hb dL_move_21 (by decide) ?_
  refine z_ri hx hb hr hlocks hI ?_ (Nat.le_of_ble_eq_true rfl) (Nat.le_of_ble_eq_true rfl) dL_move_22
  exact ⟨_, rfl, Or.inl ⟨rfl, hA, hB, hC3⟩, ⟨_, _, CS.go hC1 (fun q hq => ho7 q (by omega)), hw6, fun _ => ⟨rfl, vpl_s⟩, fun q => absurd ⟨hA, hB, hC3⟩ q⟩, fun q h1 h2 => (ho7 q h2).trans (hcf q h1)⟩

set_option maxHeartbeats 4000000 in
set_option maxRecDepth 100000 in
theorem c_L_swap (l : Launch) (hl0 : l.stackTraces = false) (G : zK) (B0 : Nat) (F : zM) (σ : Sg) (zp0 zp1 zp2 : Int32) (fo : Nat → Int64) (hC : CS G B0 F σ) (hK : SgOk σ) (hO : F (B0 + 41) = some (zAL G 1 fo)) : Met l yL_swap (Cond.codeWith yL_swap cL_swap 6 (some FieldType.int) [(0, 12, 15, 13)] :: zW) (zRm 8 135 3 18) (va_Pc [.ref B0, .int zp0, .int zp1, .int zp2, .ref (B0 + 41)] (zPre G B0 F)) (zQi G B0 (zLP G B0 F σ (oA_swap σ zp0 zp1 zp2) (oB_swap σ zp0 zp1 zp2) (oC_swap σ zp0 zp1 zp2) (ss_swap σ zp0 zp1 zp2) (rr_swap σ zp0 zp1 zp2).toInt64)) 3 18 (zA B0) := by
  refine z_ofH (own := RL) (by decide) rfl (Nat.le_of_ble_eq_true rfl) ?_
  intro p e s m below meth c ls hx hb hr hml hown hlocks htab hts hl hI
  have hl : lv_has ls 6 [(0, .ref B0), (1, .int zp0), (2, .int zp1), (3, .int zp2), (4, .ref (B0 + 41))] := hl
  refine lv_aload hx hb dL_swap_0 (lv_at hl 4 rfl) ?_
  refine lv_iconst (v := nI 0) hx hb dL_swap_2 (by decide) ?_
  refine lv_aload_n hx hb dL_swap_3 rfl (lv_at hl 0 rfl) ?_
  refine lv_iload_n hx hb dL_swap_4 rfl (lv_at hl 1 rfl) ?_
  refine lv_iload_n hx hb dL_swap_5 rfl (lv_at hl 2 rfl) ?_
  refine lv_iload_n hx hb dL_swap_6 rfl (lv_at hl 3 rfl) ?_
  refine z_xcalli hI (z_xV (As := [.int zp0, .int zp1, .int zp2]) (rest := [.int (nI 0), .ref (B0 + 41)]) ⟨hx, hb, hml, hown, hts⟩ hI hC.1 rfl (c_X2_swap l hl0 G B0 F σ zp0 zp1 zp2 hC) (z_cwV vX2_swap hts q564 ⟨Nat.le_of_ble_eq_true rfl, Nat.le_of_ble_eq_true rfl⟩) rfl hl.1 rfl (lv_room (Nat.le_of_ble_eq_true rfl)) dL_swap_7 ⟨Nat.le_of_ble_eq_true rfl, Nat.le_of_ble_eq_true rfl⟩) ?_ (fun r2 F1 H locs hp3 hI => ?_)
  · intro E ce q9 H locs hpx4 hI hce hcv hcl
    rcases hpx4 with ⟨rfl, hn1⟩ | ⟨hE9, hh1, hn2⟩ | ⟨hE9, hh1, hh2, hn3⟩
    · refine z_catch (E := zEI) hown hI [] ⟨0, 12, 15, 13⟩ [] (htab.trans rfl) (fun z hz => nomatch hz) rfl (by decide) (hts _ q65) (List.mem_of_getElem? (i := 0) rfl) hce hcv hcl ?_
      refine lv_astore (lv' := [(5, .ref q9), (0, .ref B0), (1, .int zp0), (2, .int zp1), (3, .int zp2), (4, .ref (B0 + 41))]) hx hb dL_swap_15 hl (by decide) rfl (fun ls hl => ?_)
      refine lv_iconst (v := nI 1) hx hb dL_swap_17 (by decide) ?_
      refine z_ri hx hb hr hlocks hI ?_ (Nat.le_of_ble_eq_true rfl) (Nat.le_of_ble_eq_true rfl) dL_swap_18
      exact ⟨_, rfl, Or.inr (Or.inl ⟨rfl, hn1⟩), ⟨σ, _, hC, hO, fun q => absurd q.1 hn1, fun _ => rfl⟩, fun q _ _ => rfl⟩
    · exact (hn2 trivial).elim
    · exact (hn3 trivial).elim
  obtain ⟨hA, hB, hC3, rfl, hC1, hcf⟩ := hp3
  have hO1 := (hcf _ (by omega)).trans hO
  refine lv_i2l hx hb dL_swap_10 rfl ?_
  refine z_lst (k := 0) hx hb hI hO1 (by decide) (by decide) dL_swap_11 (fun H locs F5 hw6 ho7 hI => ?_)
  refine lv_goto (tgt := 19) hx hb dL_swap_12 (by decide) ?_
  refine lv_iconst (v := nI 0) hx hb dL_swap_19 (by decide) ?_
  refine z_ri hx hb hr hlocks hI ?_ (Nat.le_of_ble_eq_true rfl) (Nat.le_of_ble_eq_true rfl) dL_swap_20
  exact ⟨_, rfl, Or.inl ⟨rfl, hA, hB, hC3⟩, ⟨_, _, CS.go hC1 (fun q hq => ho7 q (by omega)), hw6, fun _ => ⟨rfl, vpl_s⟩, fun q => absurd ⟨hA, hB, hC3⟩ q⟩, fun q h1 h2 => (ho7 q h2).trans (hcf q h1)⟩

set_option maxHeartbeats 4000000 in
set_option maxRecDepth 100000 in
theorem c_L_fill (l : Launch) (hl0 : l.stackTraces = false) (G : zK) (B0 : Nat) (F : zM) (σ : Sg) (zp0 zp1 zp2 zp3 : Int32) (fo : Nat → Int64) (hC : CS G B0 F σ) (hK : SgOk σ) (hO : F (B0 + 41) = some (zAL G 1 fo)) : Met l yL_fill (Cond.codeWith yL_fill cL_fill 7 (some FieldType.int) [(0, 14, 17, 13)] :: zW) (zRm 8 139 3 18) (va_Pc [.ref B0, .int zp0, .int zp1, .int zp2, .int zp3, .ref (B0 + 41)] (zPre G B0 F)) (zQi G B0 (zLP G B0 F σ (oA_fill σ zp0 zp1 zp2 zp3) (oB_fill σ zp0 zp1 zp2 zp3) (oC_fill σ zp0 zp1 zp2 zp3) (ss_fill σ zp0 zp1 zp2 zp3) (rr_fill σ zp0 zp1 zp2 zp3).toInt64)) 3 18 (zA B0) := by
  refine z_ofH (own := RL) (by decide) rfl (Nat.le_of_ble_eq_true rfl) ?_
  intro p e s m below meth c ls hx hb hr hml hown hlocks htab hts hl hI
  have hl : lv_has ls 7 [(0, .ref B0), (1, .int zp0), (2, .int zp1), (3, .int zp2), (4, .int zp3), (5, .ref (B0 + 41))] := hl
  refine lv_aload hx hb dL_fill_0 (lv_at hl 5 rfl) ?_
  refine lv_iconst (v := nI 0) hx hb dL_fill_2 (by decide) ?_
  refine lv_aload_n hx hb dL_fill_3 rfl (lv_at hl 0 rfl) ?_
  refine lv_iload_n hx hb dL_fill_4 rfl (lv_at hl 1 rfl) ?_
  refine lv_iload_n hx hb dL_fill_5 rfl (lv_at hl 2 rfl) ?_
  refine lv_iload_n hx hb dL_fill_6 rfl (lv_at hl 3 rfl) ?_
  refine lv_iload hx hb dL_fill_7 (lv_at hl 4 rfl) ?_
  refine z_xcalli hI (z_xV (As := [.int zp0, .int zp1, .int zp2, .int zp3]) (rest := [.int (nI 0), .ref (B0 + 41)]) ⟨hx, hb, hml, hown, hts⟩ hI hC.1 rfl (c_X2_fill l hl0 G B0 F σ zp0 zp1 zp2 zp3 hC) (z_cwV vX2_fill hts q572 ⟨Nat.le_of_ble_eq_true rfl, Nat.le_of_ble_eq_true rfl⟩) rfl hl.1 rfl (lv_room (Nat.le_of_ble_eq_true rfl)) dL_fill_9 ⟨Nat.le_of_ble_eq_true rfl, Nat.le_of_ble_eq_true rfl⟩) ?_ (fun r2 F1 H locs hp3 hI => ?_)
  · intro E ce q9 H locs hpx4 hI hce hcv hcl
    rcases hpx4 with ⟨rfl, hn1⟩ | ⟨hE9, hh1, hn2⟩ | ⟨hE9, hh1, hh2, hn3⟩
    · refine z_catch (E := zEI) hown hI [] ⟨0, 14, 17, 13⟩ [] (htab.trans rfl) (fun z hz => nomatch hz) rfl (by decide) (hts _ q65) (List.mem_of_getElem? (i := 0) rfl) hce hcv hcl ?_
      refine lv_astore (lv' := [(6, .ref q9), (0, .ref B0), (1, .int zp0), (2, .int zp1), (3, .int zp2), (4, .int zp3), (5, .ref (B0 + 41))]) hx hb dL_fill_17 hl (by decide) rfl (fun ls hl => ?_)
      refine lv_iconst (v := nI 1) hx hb dL_fill_19 (by decide) ?_
      refine z_ri hx hb hr hlocks hI ?_ (Nat.le_of_ble_eq_true rfl) (Nat.le_of_ble_eq_true rfl) dL_fill_20
      exact ⟨_, rfl, Or.inr (Or.inl ⟨rfl, hn1⟩), ⟨σ, _, hC, hO, fun q => absurd q.1 hn1, fun _ => rfl⟩, fun q _ _ => rfl⟩
    · exact (hn2 trivial).elim
    · exact (hn3 trivial).elim
  obtain ⟨hA, hB, hC3, rfl, hC1, hcf⟩ := hp3
  have hO1 := (hcf _ (by omega)).trans hO
  refine lv_i2l hx hb dL_fill_12 rfl ?_
  refine z_lst (k := 0) hx hb hI hO1 (by decide) (by decide) dL_fill_13 (fun H locs F5 hw6 ho7 hI => ?_)
  refine lv_goto (tgt := 21) hx hb dL_fill_14 (by decide) ?_
  refine lv_iconst (v := nI 0) hx hb dL_fill_21 (by decide) ?_
  refine z_ri hx hb hr hlocks hI ?_ (Nat.le_of_ble_eq_true rfl) (Nat.le_of_ble_eq_true rfl) dL_fill_22
  exact ⟨_, rfl, Or.inl ⟨rfl, hA, hB, hC3⟩, ⟨_, _, CS.go hC1 (fun q hq => ho7 q (by omega)), hw6, fun _ => ⟨rfl, vpl_s⟩, fun q => absurd ⟨hA, hB, hC3⟩ q⟩, fun q h1 h2 => (ho7 q h2).trans (hcf q h1)⟩

set_option maxHeartbeats 4000000 in
set_option maxRecDepth 100000 in
theorem c_L_copy (l : Launch) (hl0 : l.stackTraces = false) (G : zK) (B0 : Nat) (F : zM) (σ : Sg) (zp0 zp1 : Int32) (fo : Nat → Int64) (hC : CS G B0 F σ) (hK : SgOk σ) (hO : F (B0 + 41) = some (zAL G 1 fo)) : Met l yL_copy (Cond.codeWith yL_copy cL_copy 5 (some FieldType.int) [(0, 10, 13, 13), (0, 10, 17, 15)] :: zW) (zRm 8 136 3 18) (va_Pc [.ref B0, .int zp0, .int zp1, .ref (B0 + 41)] (zPre G B0 F)) (zQi G B0 (zLP G B0 F σ (oA_copy σ zp0 zp1) (oB_copy σ zp0 zp1) (oC_copy σ zp0 zp1) (ss_copy σ zp0 zp1) (rr_copy σ zp0 zp1).toInt64)) 3 18 (zA B0) := by
  refine z_ofH (own := RL) (by decide) rfl (Nat.le_of_ble_eq_true rfl) ?_
  intro p e s m below meth c ls hx hb hr hml hown hlocks htab hts hl hI
  have hl : lv_has ls 5 [(0, .ref B0), (1, .int zp0), (2, .int zp1), (3, .ref (B0 + 41))] := hl
  refine lv_aload_n hx hb dL_copy_0 rfl (lv_at hl 3 rfl) ?_
  refine lv_iconst (v := nI 0) hx hb dL_copy_1 (by decide) ?_
  refine lv_aload_n hx hb dL_copy_2 rfl (lv_at hl 0 rfl) ?_
  refine lv_iload_n hx hb dL_copy_3 rfl (lv_at hl 1 rfl) ?_
  refine lv_iload_n hx hb dL_copy_4 rfl (lv_at hl 2 rfl) ?_
  refine z_xcalli hI (z_xV (As := [.int zp0, .int zp1]) (rest := [.int (nI 0), .ref (B0 + 41)]) ⟨hx, hb, hml, hown, hts⟩ hI hC.1 rfl (c_X2_copy l hl0 G B0 F σ zp0 zp1 hC) (z_cwV vX2_copy hts q579 ⟨Nat.le_of_ble_eq_true rfl, Nat.le_of_ble_eq_true rfl⟩) rfl hl.1 rfl (lv_room (Nat.le_of_ble_eq_true rfl)) dL_copy_5 ⟨Nat.le_of_ble_eq_true rfl, Nat.le_of_ble_eq_true rfl⟩) ?_ (fun r2 F1 H locs hp3 hI => ?_)
  · intro E ce q9 H locs hpx4 hI hce hcv hcl
    rcases hpx4 with ⟨rfl, hn1⟩ | ⟨rfl, hh1, hn2⟩ | ⟨hE9, hh1, hh2, hn3⟩
    · refine z_catch (E := zEI) hown hI [] ⟨0, 10, 13, 13⟩ [⟨0, 10, 17, 15⟩] (htab.trans rfl) (fun z hz => nomatch hz) rfl (by decide) (hts _ q65) (List.mem_of_getElem? (i := 0) rfl) hce hcv hcl ?_
      refine lv_astore (lv' := [(4, .ref q9), (0, .ref B0), (1, .int zp0), (2, .int zp1), (3, .ref (B0 + 41))]) hx hb dL_copy_13 hl (by decide) rfl (fun ls hl => ?_)
      refine lv_iconst (v := nI 1) hx hb dL_copy_15 (by decide) ?_
      refine z_ri hx hb hr hlocks hI ?_ (Nat.le_of_ble_eq_true rfl) (Nat.le_of_ble_eq_true rfl) dL_copy_16
      exact ⟨_, rfl, Or.inr (Or.inl ⟨rfl, hn1⟩), ⟨σ, _, hC, hO, fun q => absurd q.1 hn1, fun _ => rfl⟩, fun q _ _ => rfl⟩
    · refine z_catch (E := zES) hown hI [⟨0, 10, 13, 13⟩] ⟨0, 10, 17, 15⟩ [] (htab.trans rfl) (List.forall_mem_cons.mpr ⟨⟨by decide, zEI, hts _ q65, List.mem_of_getElem? (i := 0) rfl⟩, fun z hz => nomatch hz⟩) rfl (by decide) (hts _ q66) (List.mem_of_getElem? (i := 1) rfl) hce hcv hcl ?_
      refine lv_astore (lv' := [(4, .ref q9), (0, .ref B0), (1, .int zp0), (2, .int zp1), (3, .ref (B0 + 41))]) hx hb dL_copy_17 hl (by decide) rfl (fun ls hl => ?_)
      refine lv_iconst (v := nI 2) hx hb dL_copy_19 (by decide) ?_
      refine z_ri hx hb hr hlocks hI ?_ (Nat.le_of_ble_eq_true rfl) (Nat.le_of_ble_eq_true rfl) dL_copy_20
      exact ⟨_, rfl, Or.inr (Or.inr (Or.inl ⟨rfl, hh1, hn2⟩)), ⟨σ, _, hC, hO, fun q => absurd q.2.1 hn2, fun _ => rfl⟩, fun q _ _ => rfl⟩
    · exact (hn3 trivial).elim
  obtain ⟨hA, hB, hC3, rfl, hC1, hcf⟩ := hp3
  have hO1 := (hcf _ (by omega)).trans hO
  refine lv_i2l hx hb dL_copy_8 rfl ?_
  refine z_lst (k := 0) hx hb hI hO1 (by decide) (by decide) dL_copy_9 (fun H locs F5 hw6 ho7 hI => ?_)
  refine lv_goto (tgt := 21) hx hb dL_copy_10 (by decide) ?_
  refine lv_iconst (v := nI 0) hx hb dL_copy_21 (by decide) ?_
  refine z_ri hx hb hr hlocks hI ?_ (Nat.le_of_ble_eq_true rfl) (Nat.le_of_ble_eq_true rfl) dL_copy_22
  exact ⟨_, rfl, Or.inl ⟨rfl, hA, hB, hC3⟩, ⟨_, _, CS.go hC1 (fun q hq => ho7 q (by omega)), hw6, fun _ => ⟨rfl, vpl_s⟩, fun q => absurd ⟨hA, hB, hC3⟩ q⟩, fun q h1 h2 => (ho7 q h2).trans (hcf q h1)⟩

set_option maxHeartbeats 4000000 in
set_option maxRecDepth 100000 in
theorem c_L_stands (l : Launch) (hl0 : l.stackTraces = false) (G : zK) (B0 : Nat) (F : zM) (σ : Sg) (zp0 zp1 : Int32) (fo : Nat → Int64) (hC : CS G B0 F σ) (hK : SgOk σ) (hO : F (B0 + 41) = some (zAL G 1 fo)) : Met l yL_stands (Cond.codeWith yL_stands cL_stands 5 (some FieldType.int) [(0, 10, 13, 13), (0, 10, 17, 93)] :: zW) (zRm 8 136 2 12) (va_Pc [.ref B0, .int zp0, .int zp1, .ref (B0 + 41)] (zPre G B0 F)) (zQi G B0 (zLP G B0 F σ (oA_stands σ zp0 zp1) (oB_stands σ zp0 zp1) (oC_stands σ zp0 zp1) (ss_stands σ zp0 zp1) (rr_stands σ zp0 zp1).toInt64)) 2 12 (zA B0) := by
  refine z_ofH (own := RL) (by decide) rfl (Nat.le_of_ble_eq_true rfl) ?_
  intro p e s m below meth c ls hx hb hr hml hown hlocks htab hts hl hI
  have hl : lv_has ls 5 [(0, .ref B0), (1, .int zp0), (2, .int zp1), (3, .ref (B0 + 41))] := hl
  refine lv_aload_n hx hb dL_stands_0 rfl (lv_at hl 3 rfl) ?_
  refine lv_iconst (v := nI 0) hx hb dL_stands_1 (by decide) ?_
  refine lv_aload_n hx hb dL_stands_2 rfl (lv_at hl 0 rfl) ?_
  refine lv_iload_n hx hb dL_stands_3 rfl (lv_at hl 1 rfl) ?_
  refine lv_iload_n hx hb dL_stands_4 rfl (lv_at hl 2 rfl) ?_
  refine z_xcalli hI (z_xV (As := [.int zp0, .int zp1]) (rest := [.int (nI 0), .ref (B0 + 41)]) ⟨hx, hb, hml, hown, hts⟩ hI hC.1 rfl (c_X2_stands l hl0 G B0 F σ zp0 zp1 hC) (z_cwV vX2_stands hts q587 ⟨Nat.le_of_ble_eq_true rfl, Nat.le_of_ble_eq_true rfl⟩) rfl hl.1 rfl (lv_room (Nat.le_of_ble_eq_true rfl)) dL_stands_5 ⟨Nat.le_of_ble_eq_true rfl, Nat.le_of_ble_eq_true rfl⟩) ?_ (fun r2 F1 H locs hp3 hI => ?_)
  · intro E ce q9 H locs hpx4 hI hce hcv hcl
    rcases hpx4 with ⟨rfl, hn1⟩ | ⟨rfl, hh1, hn2⟩ | ⟨hE9, hh1, hh2, hn3⟩
    · refine z_catch (E := zEI) hown hI [] ⟨0, 10, 13, 13⟩ [⟨0, 10, 17, 93⟩] (htab.trans rfl) (fun z hz => nomatch hz) rfl (by decide) (hts _ q65) (List.mem_of_getElem? (i := 0) rfl) hce hcv hcl ?_
      refine lv_astore (lv' := [(4, .ref q9), (0, .ref B0), (1, .int zp0), (2, .int zp1), (3, .ref (B0 + 41))]) hx hb dL_stands_13 hl (by decide) rfl (fun ls hl => ?_)
      refine lv_iconst (v := nI 1) hx hb dL_stands_15 (by decide) ?_
      refine z_ri hx hb hr hlocks hI ?_ (Nat.le_of_ble_eq_true rfl) (Nat.le_of_ble_eq_true rfl) dL_stands_16
      exact ⟨_, rfl, Or.inr (Or.inl ⟨rfl, hn1⟩), ⟨σ, _, hC, hO, fun q => absurd q.1 hn1, fun _ => rfl⟩, fun q _ _ => rfl⟩
    · refine z_catch (E := zEN) hown hI [⟨0, 10, 13, 13⟩] ⟨0, 10, 17, 93⟩ [] (htab.trans rfl) (List.forall_mem_cons.mpr ⟨⟨by decide, zEI, hts _ q65, List.mem_of_getElem? (i := 2) rfl⟩, fun z hz => nomatch hz⟩) rfl (by decide) (hts _ q423) (List.mem_of_getElem? (i := 3) rfl) hce hcv hcl ?_
      refine lv_astore (lv' := [(4, .ref q9), (0, .ref B0), (1, .int zp0), (2, .int zp1), (3, .ref (B0 + 41))]) hx hb dL_stands_17 hl (by decide) rfl (fun ls hl => ?_)
      refine lv_iconst (v := nI 2) hx hb dL_stands_19 (by decide) ?_
      refine z_ri hx hb hr hlocks hI ?_ (Nat.le_of_ble_eq_true rfl) (Nat.le_of_ble_eq_true rfl) dL_stands_20
      exact ⟨_, rfl, Or.inr (Or.inr (Or.inl ⟨rfl, hh1, hn2⟩)), ⟨σ, _, hC, hO, fun q => absurd q.2.1 hn2, fun _ => rfl⟩, fun q _ _ => rfl⟩
    · exact (hn3 trivial).elim
  obtain ⟨hA, hB, hC3, rfl, hC1, hcf⟩ := hp3
  have hO1 := (hcf _ (by omega)).trans hO
  refine lv_i2l hx hb dL_stands_8 rfl ?_
  refine z_lst (k := 0) hx hb hI hO1 (by decide) (by decide) dL_stands_9 (fun H locs F5 hw6 ho7 hI => ?_)
  refine lv_goto (tgt := 21) hx hb dL_stands_10 (by decide) ?_
  refine lv_iconst (v := nI 0) hx hb dL_stands_21 (by decide) ?_
  refine z_ri hx hb hr hlocks hI ?_ (Nat.le_of_ble_eq_true rfl) (Nat.le_of_ble_eq_true rfl) dL_stands_22
  exact ⟨_, rfl, Or.inl ⟨rfl, hA, hB, hC3⟩, ⟨_, _, CS.go hC1 (fun q hq => ho7 q (by omega)), hw6, fun _ => ⟨rfl, vpl_s⟩, fun q => absurd ⟨hA, hB, hC3⟩ q⟩, fun q h1 h2 => (ho7 q h2).trans (hcf q h1)⟩

set_option maxHeartbeats 4000000 in
set_option maxRecDepth 100000 in
theorem c_L_near (l : Launch) (hl0 : l.stackTraces = false) (G : zK) (B0 : Nat) (F : zM) (σ : Sg) (zp0 zp1 zp2 : Int32) (fo : Nat → Int64) (hC : CS G B0 F σ) (hK : SgOk σ) (hO : F (B0 + 41) = some (zAL G 1 fo)) : Met l yL_near (Cond.codeWith yL_near cL_near 6 (some FieldType.int) [(0, 12, 15, 13)] :: zW) (zRm 8 137 3 18) (va_Pc [.ref B0, .int zp0, .int zp1, .int zp2, .ref (B0 + 41)] (zPre G B0 F)) (zQi G B0 (zLP G B0 F σ (oA_near σ zp0 zp1 zp2) (oB_near σ zp0 zp1 zp2) (oC_near σ zp0 zp1 zp2) (ss_near σ zp0 zp1 zp2) (rr_near σ zp0 zp1 zp2).toInt64)) 3 18 (zA B0) := by
  refine z_ofH (own := RL) (by decide) rfl (Nat.le_of_ble_eq_true rfl) ?_
  intro p e s m below meth c ls hx hb hr hml hown hlocks htab hts hl hI
  have hl : lv_has ls 6 [(0, .ref B0), (1, .int zp0), (2, .int zp1), (3, .int zp2), (4, .ref (B0 + 41))] := hl
  refine lv_aload hx hb dL_near_0 (lv_at hl 4 rfl) ?_
  refine lv_iconst (v := nI 0) hx hb dL_near_2 (by decide) ?_
  refine lv_aload_n hx hb dL_near_3 rfl (lv_at hl 0 rfl) ?_
  refine lv_iload_n hx hb dL_near_4 rfl (lv_at hl 1 rfl) ?_
  refine lv_iload_n hx hb dL_near_5 rfl (lv_at hl 2 rfl) ?_
  refine lv_iload_n hx hb dL_near_6 rfl (lv_at hl 3 rfl) ?_
  refine z_xcalli hI (z_xV (As := [.int zp0, .int zp1, .int zp2]) (rest := [.int (nI 0), .ref (B0 + 41)]) ⟨hx, hb, hml, hown, hts⟩ hI hC.1 rfl (c_X2_near l hl0 G B0 F σ zp0 zp1 zp2 hC) (z_cwV vX2_near hts q595 ⟨Nat.le_of_ble_eq_true rfl, Nat.le_of_ble_eq_true rfl⟩) rfl hl.1 rfl (lv_room (Nat.le_of_ble_eq_true rfl)) dL_near_7 ⟨Nat.le_of_ble_eq_true rfl, Nat.le_of_ble_eq_true rfl⟩) ?_ (fun r2 F1 H locs hp3 hI => ?_)
  · intro E ce q9 H locs hpx4 hI hce hcv hcl
    rcases hpx4 with ⟨rfl, hn1⟩ | ⟨hE9, hh1, hn2⟩ | ⟨hE9, hh1, hh2, hn3⟩
    · refine z_catch (E := zEI) hown hI [] ⟨0, 12, 15, 13⟩ [] (htab.trans rfl) (fun z hz => nomatch hz) rfl (by decide) (hts _ q65) (List.mem_of_getElem? (i := 0) rfl) hce hcv hcl ?_
      refine lv_astore (lv' := [(5, .ref q9), (0, .ref B0), (1, .int zp0), (2, .int zp1), (3, .int zp2), (4, .ref (B0 + 41))]) hx hb dL_near_15 hl (by decide) rfl (fun ls hl => ?_)
      refine lv_iconst (v := nI 1) hx hb dL_near_17 (by decide) ?_
      refine z_ri hx hb hr hlocks hI ?_ (Nat.le_of_ble_eq_true rfl) (Nat.le_of_ble_eq_true rfl) dL_near_18
      exact ⟨_, rfl, Or.inr (Or.inl ⟨rfl, hn1⟩), ⟨σ, _, hC, hO, fun q => absurd q.1 hn1, fun _ => rfl⟩, fun q _ _ => rfl⟩
    · exact (hn2 trivial).elim
    · exact (hn3 trivial).elim
  obtain ⟨hA, hB, hC3, rfl, hC1, hcf⟩ := hp3
  have hO1 := (hcf _ (by omega)).trans hO
  refine lv_i2l hx hb dL_near_10 rfl ?_
  refine z_lst (k := 0) hx hb hI hO1 (by decide) (by decide) dL_near_11 (fun H locs F5 hw6 ho7 hI => ?_)
  refine lv_goto (tgt := 19) hx hb dL_near_12 (by decide) ?_
  refine lv_iconst (v := nI 0) hx hb dL_near_19 (by decide) ?_
  refine z_ri hx hb hr hlocks hI ?_ (Nat.le_of_ble_eq_true rfl) (Nat.le_of_ble_eq_true rfl) dL_near_20
  exact ⟨_, rfl, Or.inl ⟨rfl, hA, hB, hC3⟩, ⟨_, _, CS.go hC1 (fun q hq => ho7 q (by omega)), hw6, fun _ => ⟨rfl, vpl_s⟩, fun q => absurd ⟨hA, hB, hC3⟩ q⟩, fun q h1 h2 => (ho7 q h2).trans (hcf q h1)⟩

set_option maxHeartbeats 4000000 in
set_option maxRecDepth 100000 in
theorem c_L_common (l : Launch) (hl0 : l.stackTraces = false) (G : zK) (B0 : Nat) (F : zM) (σ : Sg) (zp0 zp1 zp2 : Int32) (fo : Nat → Int64) (hC : CS G B0 F σ) (hK : SgOk σ) (hO : F (B0 + 41) = some (zAL G 1 fo)) : Met l yL_common (Cond.codeWith yL_common cL_common 6 (some FieldType.int) [(0, 12, 15, 13), (0, 12, 19, 21)] :: zW) (zRm 8 142 3 18) (va_Pc [.ref B0, .int zp0, .int zp1, .int zp2, .ref (B0 + 41)] (zPre G B0 F)) (zQi G B0 (zLP G B0 F σ (oA_common σ zp0 zp1 zp2) (oB_common σ zp0 zp1 zp2) (oC_common σ zp0 zp1 zp2) (ss_common σ zp0 zp1 zp2) (rr_common σ zp0 zp1 zp2).toInt64)) 3 18 (zA B0) := by
  refine z_ofH (own := RL) (by decide) rfl (Nat.le_of_ble_eq_true rfl) ?_
  intro p e s m below meth c ls hx hb hr hml hown hlocks htab hts hl hI
  have hl : lv_has ls 6 [(0, .ref B0), (1, .int zp0), (2, .int zp1), (3, .int zp2), (4, .ref (B0 + 41))] := hl
  refine lv_aload hx hb dL_common_0 (lv_at hl 4 rfl) ?_
  refine lv_iconst (v := nI 0) hx hb dL_common_2 (by decide) ?_
  refine lv_aload_n hx hb dL_common_3 rfl (lv_at hl 0 rfl) ?_
  refine lv_iload_n hx hb dL_common_4 rfl (lv_at hl 1 rfl) ?_
  refine lv_iload_n hx hb dL_common_5 rfl (lv_at hl 2 rfl) ?_
  refine lv_iload_n hx hb dL_common_6 rfl (lv_at hl 3 rfl) ?_
  refine z_xcalli hI (z_xV (As := [.int zp0, .int zp1, .int zp2]) (rest := [.int (nI 0), .ref (B0 + 41)]) ⟨hx, hb, hml, hown, hts⟩ hI hC.1 rfl (c_X2_common l hl0 G B0 F σ zp0 zp1 zp2 hC) (z_cwV vX2_common hts q605 ⟨Nat.le_of_ble_eq_true rfl, Nat.le_of_ble_eq_true rfl⟩) rfl hl.1 rfl (lv_room (Nat.le_of_ble_eq_true rfl)) dL_common_7 ⟨Nat.le_of_ble_eq_true rfl, Nat.le_of_ble_eq_true rfl⟩) ?_ (fun r2 F1 H locs hp3 hI => ?_)
  · intro E ce q9 H locs hpx4 hI hce hcv hcl
    rcases hpx4 with ⟨rfl, hn1⟩ | ⟨rfl, hh1, hn2⟩ | ⟨hE9, hh1, hh2, hn3⟩
    · refine z_catch (E := zEI) hown hI [] ⟨0, 12, 15, 13⟩ [⟨0, 12, 19, 21⟩] (htab.trans rfl) (fun z hz => nomatch hz) rfl (by decide) (hts _ q65) (List.mem_of_getElem? (i := 0) rfl) hce hcv hcl ?_
      refine lv_astore (lv' := [(5, .ref q9), (0, .ref B0), (1, .int zp0), (2, .int zp1), (3, .int zp2), (4, .ref (B0 + 41))]) hx hb dL_common_15 hl (by decide) rfl (fun ls hl => ?_)
      refine lv_iconst (v := nI 1) hx hb dL_common_17 (by decide) ?_
      refine z_ri hx hb hr hlocks hI ?_ (Nat.le_of_ble_eq_true rfl) (Nat.le_of_ble_eq_true rfl) dL_common_18
      exact ⟨_, rfl, Or.inr (Or.inl ⟨rfl, hn1⟩), ⟨σ, _, hC, hO, fun q => absurd q.1 hn1, fun _ => rfl⟩, fun q _ _ => rfl⟩
    · refine z_catch (E := zEA) hown hI [⟨0, 12, 15, 13⟩] ⟨0, 12, 19, 21⟩ [] (htab.trans rfl) (List.forall_mem_cons.mpr ⟨⟨by decide, zEI, hts _ q65, List.mem_of_getElem? (i := 1) rfl⟩, fun z hz => nomatch hz⟩) rfl (by decide) (hts _ q175) (List.mem_of_getElem? (i := 2) rfl) hce hcv hcl ?_
      refine lv_astore (lv' := [(5, .ref q9), (0, .ref B0), (1, .int zp0), (2, .int zp1), (3, .int zp2), (4, .ref (B0 + 41))]) hx hb dL_common_19 hl (by decide) rfl (fun ls hl => ?_)
      refine lv_iconst (v := nI 2) hx hb dL_common_21 (by decide) ?_
      refine z_ri hx hb hr hlocks hI ?_ (Nat.le_of_ble_eq_true rfl) (Nat.le_of_ble_eq_true rfl) dL_common_22
      exact ⟨_, rfl, Or.inr (Or.inr (Or.inl ⟨rfl, hh1, hn2⟩)), ⟨σ, _, hC, hO, fun q => absurd q.2.1 hn2, fun _ => rfl⟩, fun q _ _ => rfl⟩
    · exact (hn3 trivial).elim
  obtain ⟨hA, hB, hC3, rfl, hC1, hcf⟩ := hp3
  have hO1 := (hcf _ (by omega)).trans hO
  refine lv_i2l hx hb dL_common_10 rfl ?_
  refine z_lst (k := 0) hx hb hI hO1 (by decide) (by decide) dL_common_11 (fun H locs F5 hw6 ho7 hI => ?_)
  refine lv_goto (tgt := 23) hx hb dL_common_12 (by decide) ?_
  refine lv_iconst (v := nI 0) hx hb dL_common_23 (by decide) ?_
  refine z_ri hx hb hr hlocks hI ?_ (Nat.le_of_ble_eq_true rfl) (Nat.le_of_ble_eq_true rfl) dL_common_24
  exact ⟨_, rfl, Or.inl ⟨rfl, hA, hB, hC3⟩, ⟨_, _, CS.go hC1 (fun q hq => ho7 q (by omega)), hw6, fun _ => ⟨rfl, vpl_s⟩, fun q => absurd ⟨hA, hB, hC3⟩ q⟩, fun q h1 h2 => (ho7 q h2).trans (hcf q h1)⟩

set_option maxHeartbeats 4000000 in
set_option maxRecDepth 100000 in
theorem c_L_refuses (l : Launch) (hl0 : l.stackTraces = false) (G : zK) (B0 : Nat) (F : zM) (σ : Sg) (zp0 : Int32) (fo : Nat → Int64) (hC : CS G B0 F σ) (hK : SgOk σ) (hO : F (B0 + 41) = some (zAL G 1 fo)) : Met l yL_refuses (Cond.codeWith yL_refuses cL_refuses 4 (some FieldType.int) [(0, 16, 19, 21)] :: zW) (zRm 10 176 9 46) (va_Pc [.ref B0, .int zp0, .ref (B0 + 41)] (zPre G B0 F)) (zQi G B0 (zLP G B0 F σ (oA_refuses σ zp0) (oB_refuses σ zp0) (oC_refuses σ zp0) (ss_refuses σ zp0) (rr_refuses σ zp0).toInt64)) 9 46 (zA B0) := by
  refine z_ofH (own := RL) (by decide) rfl (Nat.le_of_ble_eq_true rfl) ?_
  intro p e s m below meth c ls hx hb hr hml hown hlocks htab hts hl hI
  have hl : lv_has ls 4 [(0, .ref B0), (1, .int zp0), (2, .ref (B0 + 41))] := hl
  refine lv_aload_n hx hb dL_refuses_0 rfl (lv_at hl 2 rfl) ?_
  refine lv_iconst (v := nI 0) hx hb dL_refuses_1 (by decide) ?_
  refine lv_aload_n hx hb dL_refuses_2 rfl (lv_at hl 0 rfl) ?_
  refine lv_iload_n hx hb dL_refuses_3 rfl (lv_at hl 1 rfl) ?_
  refine z_xcalli hI (z_xV (As := [.int zp0]) (rest := [.int (nI 0), .ref (B0 + 41)]) ⟨hx, hb, hml, hown, hts⟩ hI hC.1 rfl (c_X2_refuses l hl0 G B0 F σ zp0 hC) (z_cwV vX2_refuses hts q620 ⟨Nat.le_of_ble_eq_true rfl, Nat.le_of_ble_eq_true rfl⟩) rfl hl.1 rfl (lv_room (Nat.le_of_ble_eq_true rfl)) dL_refuses_4 ⟨Nat.le_of_ble_eq_true rfl, Nat.le_of_ble_eq_true rfl⟩) ?_ (fun r2 F1 H locs hp3 hI => ?_)
  · intro E ce q9 H locs hpx4 hI hce hcv hcl
    rcases hpx4 with ⟨rfl, hn1⟩ | ⟨hE9, hh1, hn2⟩ | ⟨hE9, hh1, hh2, hn3⟩
    · refine z_catch (E := zEA) hown hI [] ⟨0, 16, 19, 21⟩ [] (htab.trans rfl) (fun z hz => nomatch hz) rfl (by decide) (hts _ q175) (List.mem_of_getElem? (i := 2) rfl) hce hcv hcl ?_
      refine lv_astore_n (lv' := [(3, .ref q9), (0, .ref B0), (1, .int zp0), (2, .ref (B0 + 41))]) hx hb dL_refuses_19 rfl hl (by decide) rfl (fun ls hl => ?_)
      refine lv_iconst (v := nI 1) hx hb dL_refuses_20 (by decide) ?_
      refine z_ri hx hb hr hlocks hI ?_ (Nat.le_of_ble_eq_true rfl) (Nat.le_of_ble_eq_true rfl) dL_refuses_21
      exact ⟨_, rfl, Or.inr (Or.inl ⟨rfl, hn1⟩), ⟨σ, _, hC, hO, fun q => absurd q.1 hn1, fun _ => rfl⟩, fun q _ _ => rfl⟩
    · exact (hn2 trivial).elim
    · exact (hn3 trivial).elim
  obtain ⟨hA, hB, hC3, rfl, hC1, hcf⟩ := hp3
  have hO1 := (hcf _ (by omega)).trans hO
  have hz01 : rr_refuses σ zp0 = 0 ∨ rr_refuses σ zp0 = 1 := Or.inr rfl
  refine lv_if_eq (tgt := 14) hx hb dL_refuses_7 (by decide) (fun hq5 => ?_) (fun hq5 => ?_)
  · refine lv_lconst (v := 0) hx hb dL_refuses_14 (by decide) ?_
    refine z_lst (k := 0) hx hb hI hO1 (by decide) (by decide) dL_refuses_15 (fun H locs F6 hw7 ho8 hI => ?_)
    refine lv_goto (tgt := 22) hx hb dL_refuses_16 (by decide) ?_
    refine lv_iconst (v := nI 0) hx hb dL_refuses_22 (by decide) ?_
    refine z_ri hx hb hr hlocks hI ?_ (Nat.le_of_ble_eq_true rfl) (Nat.le_of_ble_eq_true rfl) dL_refuses_23
    exact ⟨_, rfl, Or.inl ⟨rfl, hA, hB, hC3⟩, ⟨_, _, CS.go hC1 (fun q hq => ho8 q (by omega)), hw7, fun _ => ⟨rfl, vpl_s.trans (by rw [hq5]; rfl)⟩, fun q => absurd ⟨hA, hB, hC3⟩ q⟩, fun q h1 h2 => (ho8 q h2).trans (hcf q h1)⟩
  · refine lv_lconst (v := 1) hx hb dL_refuses_10 (by decide) ?_
    refine lv_goto (tgt := 15) hx hb dL_refuses_11 (by decide) ?_
    refine z_lst (k := 0) hx hb hI hO1 (by decide) (by decide) dL_refuses_15 (fun H locs F9 hw10 ho11 hI => ?_)
    refine lv_goto (tgt := 22) hx hb dL_refuses_16 (by decide) ?_
    refine lv_iconst (v := nI 0) hx hb dL_refuses_22 (by decide) ?_
    refine z_ri hx hb hr hlocks hI ?_ (Nat.le_of_ble_eq_true rfl) (Nat.le_of_ble_eq_true rfl) dL_refuses_23
    exact ⟨_, rfl, Or.inl ⟨rfl, hA, hB, hC3⟩, ⟨_, _, CS.go hC1 (fun q hq => ho11 q (by omega)), hw10, fun _ => ⟨rfl, vpl_s.trans (by rw [hz01.resolve_left hq5]; rfl)⟩, fun q => absurd ⟨hA, hB, hC3⟩ q⟩, fun q h1 h2 => (ho11 q h2).trans (hcf q h1)⟩

set_option maxHeartbeats 4000000 in
set_option maxRecDepth 100000 in
theorem c_L_errors (l : Launch) (hl0 : l.stackTraces = false) (G : zK) (B0 : Nat) (F : zM) (σ : Sg) (zp0 : Int32) (fo : Nat → Int64) (hC : CS G B0 F σ) (hK : SgOk σ) (hO : F (B0 + 41) = some (zAL G 1 fo)) : Met l yL_errors (Cond.codeWith yL_errors cL_errors 4 (some FieldType.int) [(0, 9, 12, 13)] :: zW) (zRm 8 136 1 6) (va_Pc [.ref B0, .int zp0, .ref (B0 + 41)] (zPre G B0 F)) (zQi G B0 (zLP G B0 F σ (oA_errors σ zp0) (oB_errors σ zp0) (oC_errors σ zp0) (ss_errors σ zp0) (rr_errors σ zp0).toInt64)) 1 6 (zA B0) := by
  refine z_ofH (own := RL) (by decide) rfl (Nat.le_of_ble_eq_true rfl) ?_
  intro p e s m below meth c ls hx hb hr hml hown hlocks htab hts hl hI
  have hl : lv_has ls 4 [(0, .ref B0), (1, .int zp0), (2, .ref (B0 + 41))] := hl
  refine lv_aload_n hx hb dL_errors_0 rfl (lv_at hl 2 rfl) ?_
  refine lv_iconst (v := nI 0) hx hb dL_errors_1 (by decide) ?_
  refine lv_aload_n hx hb dL_errors_2 rfl (lv_at hl 0 rfl) ?_
  refine lv_iload_n hx hb dL_errors_3 rfl (lv_at hl 1 rfl) ?_
  refine z_xcalli hI (z_xV (As := [.int zp0]) (rest := [.int (nI 0), .ref (B0 + 41)]) ⟨hx, hb, hml, hown, hts⟩ hI hC.1 rfl (c_X2_errors l hl0 G B0 F σ zp0 hC hK) (z_cwV vX2_errors hts q688 ⟨Nat.le_of_ble_eq_true rfl, Nat.le_of_ble_eq_true rfl⟩) rfl hl.1 rfl (lv_room (Nat.le_of_ble_eq_true rfl)) dL_errors_4 ⟨Nat.le_of_ble_eq_true rfl, Nat.le_of_ble_eq_true rfl⟩) ?_ (fun r2 F1 H locs hp3 hI => ?_)
  · intro E ce q9 H locs hpx4 hI hce hcv hcl
    rcases hpx4 with ⟨rfl, hn1⟩ | ⟨hE9, hh1, hn2⟩ | ⟨hE9, hh1, hh2, hn3⟩
    · refine z_catch (E := zEI) hown hI [] ⟨0, 9, 12, 13⟩ [] (htab.trans rfl) (fun z hz => nomatch hz) rfl (by decide) (hts _ q65) (List.mem_of_getElem? (i := 0) rfl) hce hcv hcl ?_
      refine lv_astore_n (lv' := [(3, .ref q9), (0, .ref B0), (1, .int zp0), (2, .ref (B0 + 41))]) hx hb dL_errors_12 rfl hl (by decide) rfl (fun ls hl => ?_)
      refine lv_iconst (v := nI 1) hx hb dL_errors_13 (by decide) ?_
      refine z_ri hx hb hr hlocks hI ?_ (Nat.le_of_ble_eq_true rfl) (Nat.le_of_ble_eq_true rfl) dL_errors_14
      exact ⟨_, rfl, Or.inr (Or.inl ⟨rfl, hn1⟩), ⟨σ, _, hC, hO, fun q => absurd q.1 hn1, fun _ => rfl⟩, fun q _ _ => rfl⟩
    · exact (hn2 trivial).elim
    · exact (hn3 trivial).elim
  obtain ⟨hA, hB, hC3, rfl, hC1, hcf⟩ := hp3
  have hO1 := (hcf _ (by omega)).trans hO
  refine lv_i2l hx hb dL_errors_7 rfl ?_
  refine z_lst (k := 0) hx hb hI hO1 (by decide) (by decide) dL_errors_8 (fun H locs F5 hw6 ho7 hI => ?_)
  refine lv_goto (tgt := 15) hx hb dL_errors_9 (by decide) ?_
  refine lv_iconst (v := nI 0) hx hb dL_errors_15 (by decide) ?_
  refine z_ri hx hb hr hlocks hI ?_ (Nat.le_of_ble_eq_true rfl) (Nat.le_of_ble_eq_true rfl) dL_errors_16
  exact ⟨_, rfl, Or.inl ⟨rfl, hA, hB, hC3⟩, ⟨_, _, CS.go hC1 (fun q hq => ho7 q (by omega)), hw6, fun _ => ⟨rfl, vpl_s⟩, fun q => absurd ⟨hA, hB, hC3⟩ q⟩, fun q h1 h2 => (ho7 q h2).trans (hcf q h1)⟩

set_option maxHeartbeats 4000000 in
set_option maxRecDepth 100000 in
theorem c_L_meanWord (l : Launch) (hl0 : l.stackTraces = false) (G : zK) (B0 : Nat) (F : zM) (σ : Sg) (zp0 : Int32) (fo : Nat → UInt64) (hC : CS G B0 F σ) (hK : SgOk σ) (hO : F (B0 + 42) = some (zAD G 1 fo)) : Met l yL_meanWord (Cond.codeWith yL_meanWord cL_meanWord 4 (some FieldType.int) [(0, 8, 11, 13)] :: zW) (zRm 8 135 1 6) (va_Pc [.ref B0, .int zp0, .ref (B0 + 42)] (zPre G B0 F)) (zQi G B0 (zLD G B0 F σ (oA_meanWord σ zp0) (oB_meanWord σ zp0) (oC_meanWord σ zp0) (ss_meanWord σ zp0) (rr_meanWord σ zp0))) 1 6 (zA B0) := by
  refine z_ofH (own := RL) (by decide) rfl (Nat.le_of_ble_eq_true rfl) ?_
  intro p e s m below meth c ls hx hb hr hml hown hlocks htab hts hl hI
  have hl : lv_has ls 4 [(0, .ref B0), (1, .int zp0), (2, .ref (B0 + 42))] := hl
  refine lv_aload_n hx hb dL_meanWord_0 rfl (lv_at hl 2 rfl) ?_
  refine lv_iconst (v := nI 0) hx hb dL_meanWord_1 (by decide) ?_
  refine lv_aload_n hx hb dL_meanWord_2 rfl (lv_at hl 0 rfl) ?_
  refine lv_iload_n hx hb dL_meanWord_3 rfl (lv_at hl 1 rfl) ?_
  refine z_xcalld hI (z_xV (As := [.int zp0]) (rest := [.int (nI 0), .ref (B0 + 42)]) ⟨hx, hb, hml, hown, hts⟩ hI hC.1 rfl (c_X2_meanWord l hl0 G B0 F σ zp0 hC) (z_cwV vX2_meanWord hts q715 ⟨Nat.le_of_ble_eq_true rfl, Nat.le_of_ble_eq_true rfl⟩) rfl hl.1 rfl (lv_room (Nat.le_of_ble_eq_true rfl)) dL_meanWord_4 ⟨Nat.le_of_ble_eq_true rfl, Nat.le_of_ble_eq_true rfl⟩) ?_ (fun r2 F1 H locs hp3 hI => ?_)
  · intro E ce q9 H locs hpx4 hI hce hcv hcl
    rcases hpx4 with ⟨rfl, hn1⟩ | ⟨hE9, hh1, hn2⟩ | ⟨hE9, hh1, hh2, hn3⟩
    · refine z_catch (E := zEI) hown hI [] ⟨0, 8, 11, 13⟩ [] (htab.trans rfl) (fun z hz => nomatch hz) rfl (by decide) (hts _ q65) (List.mem_of_getElem? (i := 0) rfl) hce hcv hcl ?_
      refine lv_astore_n (lv' := [(3, .ref q9), (0, .ref B0), (1, .int zp0), (2, .ref (B0 + 42))]) hx hb dL_meanWord_11 rfl hl (by decide) rfl (fun ls hl => ?_)
      refine lv_iconst (v := nI 1) hx hb dL_meanWord_12 (by decide) ?_
      refine z_ri hx hb hr hlocks hI ?_ (Nat.le_of_ble_eq_true rfl) (Nat.le_of_ble_eq_true rfl) dL_meanWord_13
      exact ⟨_, rfl, Or.inr (Or.inl ⟨rfl, hn1⟩), ⟨σ, _, hC, hO, fun q => absurd q.1 hn1, fun _ => rfl⟩, fun q _ _ => rfl⟩
    · exact (hn2 trivial).elim
    · exact (hn3 trivial).elim
  obtain ⟨hA, hB, hC3, rfl, hC1, hcf⟩ := hp3
  have hO1 := (hcf _ (by omega)).trans hO
  refine z_dst (k := 0) hx hb hI hO1 (by decide) (by decide) dL_meanWord_7 (fun H locs F5 hw6 ho7 hI => ?_)
  refine lv_goto (tgt := 14) hx hb dL_meanWord_8 (by decide) ?_
  refine lv_iconst (v := nI 0) hx hb dL_meanWord_14 (by decide) ?_
  refine z_ri hx hb hr hlocks hI ?_ (Nat.le_of_ble_eq_true rfl) (Nat.le_of_ble_eq_true rfl) dL_meanWord_15
  exact ⟨_, rfl, Or.inl ⟨rfl, hA, hB, hC3⟩, ⟨_, _, CS.go hC1 (fun q hq => ho7 q (by omega)), hw6, fun _ => ⟨rfl, vpd_s⟩, fun q => absurd ⟨hA, hB, hC3⟩ q⟩, fun q h1 h2 => (ho7 q h2).trans (hcf q h1)⟩

set_option maxHeartbeats 4000000 in
set_option maxRecDepth 100000 in
theorem c_L_share (l : Launch) (hl0 : l.stackTraces = false) (G : zK) (B0 : Nat) (F : zM) (σ : Sg) (zp0 zp1 : Int32) (fo : Nat → UInt64) (hC : CS G B0 F σ) (hK : SgOk σ) (hO : F (B0 + 42) = some (zAD G 1 fo)) : Met l yL_share (Cond.codeWith yL_share cL_share 5 (some FieldType.int) [(0, 10, 13, 13)] :: zW) (zRm 8 134 2 12) (va_Pc [.ref B0, .int zp0, .int zp1, .ref (B0 + 42)] (zPre G B0 F)) (zQi G B0 (zLD G B0 F σ (oA_share σ zp0 zp1) (oB_share σ zp0 zp1) (oC_share σ zp0 zp1) (ss_share σ zp0 zp1) (FP.f2d (rr_share σ zp0 zp1)))) 2 12 (zA B0) := by
  refine z_ofH (own := RL) (by decide) rfl (Nat.le_of_ble_eq_true rfl) ?_
  intro p e s m below meth c ls hx hb hr hml hown hlocks htab hts hl hI
  have hl : lv_has ls 5 [(0, .ref B0), (1, .int zp0), (2, .int zp1), (3, .ref (B0 + 42))] := hl
  refine lv_aload_n hx hb dL_share_0 rfl (lv_at hl 3 rfl) ?_
  refine lv_iconst (v := nI 0) hx hb dL_share_1 (by decide) ?_
  refine lv_aload_n hx hb dL_share_2 rfl (lv_at hl 0 rfl) ?_
  refine lv_iload_n hx hb dL_share_3 rfl (lv_at hl 1 rfl) ?_
  refine lv_iload_n hx hb dL_share_4 rfl (lv_at hl 2 rfl) ?_
  refine z_xcallf hI (z_xV (As := [.int zp0, .int zp1]) (rest := [.int (nI 0), .ref (B0 + 42)]) ⟨hx, hb, hml, hown, hts⟩ hI hC.1 rfl (c_X2_share l hl0 G B0 F σ zp0 zp1 hC) (z_cwV vX2_share hts q722 ⟨Nat.le_of_ble_eq_true rfl, Nat.le_of_ble_eq_true rfl⟩) rfl hl.1 rfl (lv_room (Nat.le_of_ble_eq_true rfl)) dL_share_5 ⟨Nat.le_of_ble_eq_true rfl, Nat.le_of_ble_eq_true rfl⟩) ?_ (fun r2 F1 H locs hp3 hI => ?_)
  · intro E ce q9 H locs hpx4 hI hce hcv hcl
    rcases hpx4 with ⟨rfl, hn1⟩ | ⟨hE9, hh1, hn2⟩ | ⟨hE9, hh1, hh2, hn3⟩
    · refine z_catch (E := zEI) hown hI [] ⟨0, 10, 13, 13⟩ [] (htab.trans rfl) (fun z hz => nomatch hz) rfl (by decide) (hts _ q65) (List.mem_of_getElem? (i := 0) rfl) hce hcv hcl ?_
      refine lv_astore (lv' := [(4, .ref q9), (0, .ref B0), (1, .int zp0), (2, .int zp1), (3, .ref (B0 + 42))]) hx hb dL_share_13 hl (by decide) rfl (fun ls hl => ?_)
      refine lv_iconst (v := nI 1) hx hb dL_share_15 (by decide) ?_
      refine z_ri hx hb hr hlocks hI ?_ (Nat.le_of_ble_eq_true rfl) (Nat.le_of_ble_eq_true rfl) dL_share_16
      exact ⟨_, rfl, Or.inr (Or.inl ⟨rfl, hn1⟩), ⟨σ, _, hC, hO, fun q => absurd q.1 hn1, fun _ => rfl⟩, fun q _ _ => rfl⟩
    · exact (hn2 trivial).elim
    · exact (hn3 trivial).elim
  obtain ⟨hA, hB, hC3, rfl, hC1, hcf⟩ := hp3
  have hO1 := (hcf _ (by omega)).trans hO
  refine lv_f2d hx hb dL_share_8 (fz_f2d (by unfold rr_share; exact shr_n (sg_le hK hA.1))) ?_
  refine z_dst (k := 0) hx hb hI hO1 (by decide) (by decide) dL_share_9 (fun H locs F5 hw6 ho7 hI => ?_)
  refine lv_goto (tgt := 17) hx hb dL_share_10 (by decide) ?_
  refine lv_iconst (v := nI 0) hx hb dL_share_17 (by decide) ?_
  refine z_ri hx hb hr hlocks hI ?_ (Nat.le_of_ble_eq_true rfl) (Nat.le_of_ble_eq_true rfl) dL_share_18
  exact ⟨_, rfl, Or.inl ⟨rfl, hA, hB, hC3⟩, ⟨_, _, CS.go hC1 (fun q hq => ho7 q (by omega)), hw6, fun _ => ⟨rfl, vpd_s⟩, fun q => absurd ⟨hA, hB, hC3⟩ q⟩, fun q h1 h2 => (ho7 q h2).trans (hcf q h1)⟩

set_option maxHeartbeats 4000000 in
set_option maxRecDepth 100000 in
theorem c_X4_thrown (l : Launch) (G : zK) (B0 : Nat) (F : zM) (σ : Sg) (th : Int32) (hM : MS G B0 F σ th) : Met l yX4_thrown (Cond.code yX4_thrown cX4_thrown 1 (some FieldType.int) :: zW) (zRm 0 0 0 0) (va_Pc [.ref (B0 + 23)] (zPre G B0 F)) (zQi G B0 (fun r F' => F = F' ∧ r = th)) 0 0 (zA B0) := by
  refine z_of (own := RX4) (by decide) rfl (Nat.le_of_ble_eq_true rfl) ?_
  intro p e s m below meth c ls hx hb hr hml hown hlocks hnm hts hl hI
  have hl : lv_has ls 1 [(0, .ref (B0 + 23))] := hl
  obtain ⟨m01, ⟨ma1, m11, me11⟩, ⟨mb1, m21, me21⟩, ⟨mc1, m31, me31⟩, ⟨n91, t91, m41⟩, mT1, mP1⟩ := id hM
  refine lv_aload_n hx hb dX4_thrown_0 rfl (lv_at hl 0 rfl) ?_
  refine z_get hx hb hts hown zlX4 rfl 0 (by decide) (hts _ q752) rfl hI m01 rfl dX4_thrown_1 ?_
  refine z_ri hx hb hr hlocks hI ?_ (Nat.le_of_ble_eq_true rfl) (Nat.le_of_ble_eq_true rfl) dX4_thrown_4
  exact ⟨_, rfl, rfl, rfl⟩

