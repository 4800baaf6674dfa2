theorem and63 (x : Int32) : ∃ w, w < 64 ∧ x &&& nI 63 = nI w := by
  refine ⟨(x &&& nI 63).toBitVec.toNat, ?_, ?_⟩
  · rw [Int32.toBitVec_and, BitVec.toNat_and]
    exact Nat.lt_of_le_of_lt Nat.and_le_right (by decide)
  · apply Int32.toBitVec_inj.mp
    have e : ∀ n : Nat, (nI n).toBitVec = BitVec.ofNat 32 n := fun n => rfl
    rw [e]
    apply BitVec.eq_of_toNat_eq
    rw [BitVec.toNat_ofNat, Nat.mod_eq_of_lt (BitVec.isLt _)]
theorem sub5 {L i : Nat} (hL : L ≤ 2560) (hi : i ≤ 2560) : nI L - nI 5 < nI i ↔ L < i + 5 := by
  rw [Int32.lt_iff_toInt_lt, pk_sub_toInt (by omega) (by decide), nI_toInt (by omega)]
  omega
theorem wk0 : zWk sg0 := ⟨fun _ _ j hj => absurd hj (Nat.not_lt_zero _), fun _ _ j hj => absurd hj (Nat.not_lt_zero _)⟩
set_option maxHeartbeats 4000000 in
set_option maxRecDepth 100000 in
theorem w_step {p : Program} {l : Launch} {e : Env} {s : State} {m : MethodId} {below : List Frame} {meth : Method} {c : Code} {b L B0 : Nat} {xs : Nat → Int32} {G : zK} {Q : State → Prop} {cells slots : Nat} {i : Nat} {ls : Array Slot} {H : Heap} {locs : List Loc} {F : zM} {σ : Sg} {th : Int32} (K : zCtx p s m c b L B0 xs) (hl0 : l.stackTraces = false) (hi : i + 5 ≤ L) (hRc : cells + 40 ≤ room_1.cells) (hRs : slots + 600 ≤ room_1.slots) (hl : lv_has ls 9 (zLv b B0 i)) (hJ : zLI G B0 F σ th) (hI : zI G B0 s H locs F)
    (kk : ∀ (ls : Array Slot) (H : Heap) (locs : List Loc) (F : zM) (σ : Sg) (th : Int32), lv_has ls 9 (zLv b B0 i) → zLI G B0 F σ th → zI G B0 s H locs F → W p l e room_1 s m #[Value.ref b] below meth c H locs (cells + 40) (slots + 600) Q (F0 m 3367 ls [])) : W p l e room_1 s m #[Value.ref b] below meth c H locs cells slots Q (F0 m 37 ls []) := by
  obtain ⟨hx, hb, hml, hown, hts, hX, hbB, hsz, hL⟩ := id K
  have hl : lv_has ls 9 [(0, .ref b), (1, .ref B0), (2, .ref (B0 + 23)), (3, .ref (B0 + 41)), (4, .ref (B0 + 42)), (5, .int (nI i))] := hl
  refine lv_aload_n hx hb dL_law_37 rfl (lv_at hl 0 rfl) ?_
  refine lv_iload hx hb dL_law_38 (lv_at hl 5 rfl) ?_
  refine z_sld (k := i) hx hb hI hX hbB hsz hL (by omega) dL_law_40 ?_
  refine lv_bipush (v := nI 63) hx hb dL_law_41 (by decide) ?_
  refine lv_iand hx hb dL_law_43 ?_
  obtain ⟨w9, hw9, e9⟩ := and63 (xs i)
  refine z_topi e9 ?_
  match w9, hw9 with
  | 0, _ => exact lv_tableIn hx hb dL_law_44 (x := nI 0) (by decide) (by decide) (off := 188) (by decide +kernel) (tgt := 232) (by decide) (w_add K hl0 hi hRc hRs hl hJ hI kk)
  | 1, _ => exact lv_tableIn hx hb dL_law_44 (x := nI 1) (by decide) (by decide) (off := 256) (by decide +kernel) (tgt := 300) (by decide) (w_addMany K hl0 hi hRc hRs hl hJ hI kk)
  | 2, _ => exact lv_tableIn hx hb dL_law_44 (x := nI 2) (by decide) (by decide) (off := 336) (by decide +kernel) (tgt := 380) (by decide) (w_scatter K hl0 hi hRc hRs hl hJ hI kk)
  | 3, _ => exact lv_tableIn hx hb dL_law_44 (x := nI 3) (by decide) (by decide) (off := 428) (by decide +kernel) (tgt := 472) (by decide) (w_insert K hl0 hi hRc hRs hl hJ hI kk)
  | 4, _ => exact lv_tableIn hx hb dL_law_44 (x := nI 4) (by decide) (by decide) (off := 508) (by decide +kernel) (tgt := 552) (by decide) (w_set K hl0 hi hRc hRs hl hJ hI kk)
  | 5, _ => exact lv_tableIn hx hb dL_law_44 (x := nI 5) (by decide) (by decide) (off := 588) (by decide +kernel) (tgt := 632) (by decide) (w_remove K hl0 hi hRc hRs hl hJ hI kk)
  | 6, _ => exact lv_tableIn hx hb dL_law_44 (x := nI 6) (by decide) (by decide) (off := 656) (by decide +kernel) (tgt := 700) (by decide) (w_cut K hl0 hi hRc hRs hl hJ hI kk)
  | 7, _ => exact lv_tableIn hx hb dL_law_44 (x := nI 7) (by decide) (by decide) (off := 736) (by decide +kernel) (tgt := 780) (by decide) (w_size K hl0 hi hRc hRs hl hJ hI kk)
  | 8, _ => exact lv_tableIn hx hb dL_law_44 (x := nI 8) (by decide) (by decide) (off := 792) (by decide +kernel) (tgt := 836) (by decide) (w_at K hl0 hi hRc hRs hl hJ hI kk)
  | 9, _ => exact lv_tableIn hx hb dL_law_44 (x := nI 9) (by decide) (by decide) (off := 860) (by decide +kernel) (tgt := 904) (by decide) (w_digest K hl0 hi hRc hRs hl hJ hI kk)
  | 10, _ => exact lv_tableIn hx hb dL_law_44 (x := nI 10) (by decide) (by decide) (off := 916) (by decide +kernel) (tgt := 960) (by decide) (w_setRank K hl0 hi hRc hRs hl hJ hI kk)
  | 11, _ => exact lv_tableIn hx hb dL_law_44 (x := nI 11) (by decide) (by decide) (off := 984) (by decide +kernel) (tgt := 1028) (by decide) (w_say K hl0 hi hRc hRs hl hJ hI kk)
  | 12, _ => exact lv_tableIn hx hb dL_law_44 (x := nI 12) (by decide) (by decide) (off := 1052) (by decide +kernel) (tgt := 1096) (by decide) (w_quote K hl0 hi hRc hRs hl hJ hI kk)
  | 13, _ => exact lv_tableIn hx hb dL_law_44 (x := nI 13) (by decide) (by decide) (off := 1144) (by decide +kernel) (tgt := 1188) (by decide) (w_hush K hl0 hi hRc hRs hl hJ hI kk)
  | 14, _ => exact lv_tableIn hx hb dL_law_44 (x := nI 14) (by decide) (by decide) (off := 1200) (by decide +kernel) (tgt := 1244) (by decide) (w_wordOf K hl0 hi hRc hRs hl hJ hI kk)
  | 15, _ => exact lv_tableIn hx hb dL_law_44 (x := nI 15) (by decide) (by decide) (off := 1268) (by decide +kernel) (tgt := 1312) (by decide) (w_find K hl0 hi hRc hRs hl hJ hI kk)
  | 16, _ => exact lv_tableIn hx hb dL_law_44 (x := nI 16) (by decide) (by decide) (off := 1324) (by decide +kernel) (tgt := 1368) (by decide) (w_findLast K hl0 hi hRc hRs hl hJ hI kk)
  | 17, _ => exact lv_tableIn hx hb dL_law_44 (x := nI 17) (by decide) (by decide) (off := 1380) (by decide +kernel) (tgt := 1424) (by decide) (w_findIn K hl0 hi hRc hRs hl hJ hI kk)
  | 18, _ => exact lv_tableIn hx hb dL_law_44 (x := nI 18) (by decide) (by decide) (off := 1460) (by decide +kernel) (tgt := 1504) (by decide) (w_count K hl0 hi hRc hRs hl hJ hI kk)
  | 19, _ => exact lv_tableIn hx hb dL_law_44 (x := nI 19) (by decide) (by decide) (off := 1544) (by decide +kernel) (tgt := 1588) (by decide) (w_replace K hl0 hi hRc hRs hl hJ hI kk)
  | 20, _ => exact lv_tableIn hx hb dL_law_44 (x := nI 20) (by decide) (by decide) (off := 1600) (by decide +kernel) (tgt := 1644) (by decide) (w_replaceWord K hl0 hi hRc hRs hl hJ hI kk)
  | 21, _ => exact lv_tableIn hx hb dL_law_44 (x := nI 21) (by decide) (by decide) (off := 1687) (by decide +kernel) (tgt := 1731) (by decide) (w_frequency K hl0 hi hRc hRs hl hJ hI kk)
  | 22, _ => exact lv_tableIn hx hb dL_law_44 (x := nI 22) (by decide) (by decide) (off := 1755) (by decide +kernel) (tgt := 1799) (by decide) (w_different K hl0 hi hRc hRs hl hJ hI kk)
  | 23, _ => exact lv_tableIn hx hb dL_law_44 (x := nI 23) (by decide) (by decide) (off := 1811) (by decide +kernel) (tgt := 1855) (by decide) (w_most K hl0 hi hRc hRs hl hJ hI kk)
  | 24, _ => exact lv_tableIn hx hb dL_law_44 (x := nI 24) (by decide) (by decide) (off := 1867) (by decide +kernel) (tgt := 1911) (by decide) (w_isApart K hl0 hi hRc hRs hl hJ hI kk)
  | 25, _ => exact lv_tableIn hx hb dL_law_44 (x := nI 25) (by decide) (by decide) (off := 1942) (by decide +kernel) (tgt := 1986) (by decide) (w_alone K hl0 hi hRc hRs hl hJ hI kk)
  | 26, _ => exact lv_tableIn hx hb dL_law_44 (x := nI 26) (by decide) (by decide) (off := 2010) (by decide +kernel) (tgt := 2054) (by decide) (w_greatest K hl0 hi hRc hRs hl hJ hI kk)
  | 27, _ => exact lv_tableIn hx hb dL_law_44 (x := nI 27) (by decide) (by decide) (off := 2078) (by decide +kernel) (tgt := 2122) (by decide) (w_least K hl0 hi hRc hRs hl hJ hI kk)
  | 28, _ => exact lv_tableIn hx hb dL_law_44 (x := nI 28) (by decide) (by decide) (off := 2146) (by decide +kernel) (tgt := 2190) (by decide) (w_sort K hl0 hi hRc hRs hl hJ hI kk)
  | 29, _ => exact lv_tableIn hx hb dL_law_44 (x := nI 29) (by decide) (by decide) (off := 2242) (by decide +kernel) (tgt := 2286) (by decide) (w_isSorted K hl0 hi hRc hRs hl hJ hI kk)
  | 30, _ => exact lv_tableIn hx hb dL_law_44 (x := nI 30) (by decide) (by decide) (off := 2317) (by decide +kernel) (tgt := 2361) (by decide) (w_search K hl0 hi hRc hRs hl hJ hI kk)
  | 31, _ => exact lv_tableIn hx hb dL_law_44 (x := nI 31) (by decide) (by decide) (off := 2397) (by decide +kernel) (tgt := 2441) (by decide) (w_turn K hl0 hi hRc hRs hl hJ hI kk)
  | 32, _ => exact lv_tableIn hx hb dL_law_44 (x := nI 32) (by decide) (by decide) (off := 2477) (by decide +kernel) (tgt := 2521) (by decide) (w_move K hl0 hi hRc hRs hl hJ hI kk)
  | 33, _ => exact lv_tableIn hx hb dL_law_44 (x := nI 33) (by decide) (by decide) (off := 2569) (by decide +kernel) (tgt := 2613) (by decide) (w_swap K hl0 hi hRc hRs hl hJ hI kk)
  | 34, _ => exact lv_tableIn hx hb dL_law_44 (x := nI 34) (by decide) (by decide) (off := 2649) (by decide +kernel) (tgt := 2693) (by decide) (w_fill K hl0 hi hRc hRs hl hJ hI kk)
  | 35, _ => exact lv_tableIn hx hb dL_law_44 (x := nI 35) (by decide) (by decide) (off := 2741) (by decide +kernel) (tgt := 2785) (by decide) (w_copy K hl0 hi hRc hRs hl hJ hI kk)
  | 36, _ => exact lv_tableIn hx hb dL_law_44 (x := nI 36) (by decide) (by decide) (off := 2809) (by decide +kernel) (tgt := 2853) (by decide) (w_stands K hl0 hi hRc hRs hl hJ hI kk)
  | 37, _ => exact lv_tableIn hx hb dL_law_44 (x := nI 37) (by decide) (by decide) (off := 2877) (by decide +kernel) (tgt := 2921) (by decide) (w_near K hl0 hi hRc hRs hl hJ hI kk)
  | 38, _ => exact lv_tableIn hx hb dL_law_44 (x := nI 38) (by decide) (by decide) (off := 2957) (by decide +kernel) (tgt := 3001) (by decide) (w_common K hl0 hi hRc hRs hl hJ hI kk)
  | 39, _ => exact lv_tableIn hx hb dL_law_44 (x := nI 39) (by decide) (by decide) (off := 3037) (by decide +kernel) (tgt := 3081) (by decide) (w_refuses K hl0 hi hRc hRs hl hJ hI kk)
  | 40, _ => exact lv_tableIn hx hb dL_law_44 (x := nI 40) (by decide) (by decide) (off := 3100) (by decide +kernel) (tgt := 3144) (by decide) (w_errors K hl0 hi hRc hRs hl hJ hI kk)
  | 41, _ => exact lv_tableIn hx hb dL_law_44 (x := nI 41) (by decide) (by decide) (off := 3156) (by decide +kernel) (tgt := 3200) (by decide) (w_meanWord K hl0 hi hRc hRs hl hJ hI kk)
  | 42, _ => exact lv_tableIn hx hb dL_law_44 (x := nI 42) (by decide) (by decide) (off := 3233) (by decide +kernel) (tgt := 3277) (by decide) (w_share K hl0 hi hRc hRs hl hJ hI kk)
  | w9 + 43, hw9 => exact lv_tableOut hx hb dL_law_44 (x := nI (w9 + 43)) (Or.inr (by rw [nI_toInt (by omega)]; omega)) (tgt := 3367) (by decide) (W.widen (k := cells + 40) (n := slots + 600) (by omega) (by omega) (kk _ _ _ _ _ _ hl hJ hI))

set_option maxHeartbeats 4000000 in
set_option maxRecDepth 100000 in
theorem w_loop {p : Program} {l : Launch} {e : Env} {s : State} {m : MethodId} {below : List Frame} {meth : Method} {c : Code} {b L B0 : Nat} {xs : Nat → Int32} {G : zK} {Q : State → Prop} (K : zCtx p s m c b L B0 xs) (hl0 : l.stackTraces = false)
    (kE : ∀ (ls : Array Slot) (H : Heap) (locs : List Loc) (F : zM) (cells slots : Nat), cells ≤ room_1.cells → slots ≤ room_1.slots → zI G B0 s H locs F → W p l e room_1 s m #[Value.ref b] below meth c H locs cells slots Q (F0 m 3373 ls [])) :
    ∀ (d i cells slots : Nat) (ls : Array Slot) (H : Heap) (locs : List Loc) (F : zM) (σ : Sg) (th : Int32), L < i + 5 * d → i ≤ L → cells + 40 * d ≤ room_1.cells → slots + 600 * d ≤ room_1.slots → lv_has ls 9 (zLv b B0 i) → zLI G B0 F σ th → zI G B0 s H locs F → W p l e room_1 s m #[Value.ref b] below meth c H locs cells slots Q (F0 m 28 ls []) := by
  obtain ⟨hx, hb, hml, hown, hts, hX, hbB, hsz, hL⟩ := id K
  intro d
  induction d with
  | zero => intro i cells slots ls H locs F σ th h1 h2; omega
  | succ d ih =>
      intro i cells slots ls H locs F σ th hd hiL hRc hRs hl hJ hI
      have hl : lv_has ls 9 [(0, .ref b), (1, .ref B0), (2, .ref (B0 + 23)), (3, .ref (B0 + 41)), (4, .ref (B0 + 42)), (5, .int (nI i))] := hl
      refine lv_iload hx hb dL_law_28 (lv_at hl 5 rfl) ?_
      refine lv_aload_n hx hb dL_law_30 rfl (lv_at hl 0 rfl) ?_
      refine z_slen hx hb hI hX hbB hsz dL_law_31 ?_
      refine lv_iconst (v := nI 5) hx hb dL_law_32 (by decide) ?_
      refine lv_isub hx hb dL_law_33 ?_
      refine lv_icmp_gt (tgt := 3373) hx hb dL_law_34 (by decide) (fun hq1 => ?_) (fun hq1 => ?_)
      · have h34 := sub5 (i := i) hL (by omega)
        exact kE ls H locs F cells slots (by omega) (by omega) hI
      · have h34 := sub5 (i := i) hL (by omega)
        have hi5 : i + 5 ≤ L := Nat.le_of_not_lt fun z => hq1 (h34.mpr z)
        refine w_step K hl0 hi5 (by omega) (by omega) hl hJ hI (fun ls H locs F σ th hl hJ hI => ?_)
        have hl : lv_has ls 9 [(0, .ref b), (1, .ref B0), (2, .ref (B0 + 23)), (3, .ref (B0 + 41)), (4, .ref (B0 + 42)), (5, .int (nI i))] := hl
        refine lv_iinc (k := 5) (v := nI (i + 5)) (lv' := [(5, .int (nI (i + 5))), (0, .ref b), (1, .ref B0), (2, .ref (B0 + 23)), (3, .ref (B0 + 41)), (4, .ref (B0 + 42))]) hx hb dL_law_3367 hl rfl (nI_add i 5) (by decide) rfl (fun ls hl => ?_)
        refine lv_goto (tgt := 28) hx hb dL_law_3370 (by decide) ?_
        exact ih (i + 5) (cells + 40) (slots + 600) ls H locs F σ th (by omega) (by omega) (by omega) (by omega) (lv_sub hl [1, 2, 3, 4, 5, 0] rfl) hJ hI

set_option maxHeartbeats 4000000 in
set_option maxRecDepth 100000 in
theorem w_begin {p : Program} {l : Launch} {e : Env} {s : State} {m : MethodId} {below : List Frame} {meth : Method} {c : Code} {b L B0 : Nat} {xs : Nat → Int32} {G : zK} {Q : State → Prop} {ls : Array Slot} (K : zCtx p s m c b L B0 xs) (hl : lv_has ls 9 [(0, .ref b)]) (hI : zI G B0 s s.heap [] (fun _ => none))
    (kk : ∀ (ls : Array Slot) (H : Heap) (locs : List Loc) (F : zM), lv_has ls 9 (zLv b B0 0) → zLI G B0 F sg0 0 → zI G B0 s H locs F → W p l e room_1 s m #[Value.ref b] below meth c H locs 43 2000 Q (F0 m 28 ls [])) : W p l e room_1 s m #[Value.ref b] below meth c s.heap [] 0 0 Q (F0 m 0 ls []) := by
  obtain ⟨hx, hb, hml, hown, hts, hX, hbB, hsz, hL⟩ := id K
  have hl : lv_has ls 9 [(0, .ref b)] := hl
  refine z_new (ci := 2) hx hb hts hown zlX2 tyX2 tyX2_ok (hts _ q15) (hts _ q16) (hts _ q1) hI rfl (fs := [.null, .null, .null, .null, .null, .null, .null]) (by intro j hj; rcases j with _ | _ | _ | _ | _ | _ | _ | j <;> first | rfl | omega) (Nat.le_of_ble_eq_true rfl) (Nat.le_of_ble_eq_true rfl) dL_law_0 (fun q1 H hq2 hz3 F4 hw5 ho6 hI => ?_)
  obtain rfl : B0 = q1 := (hq2.trans hsz).symm
  have hsz : H.size = B0 + 1 := hz3
  refine lv_dup hx hb dL_law_3 rfl ?_
  refine z_callvN hI (z_InN (As := []) (rest := [.ref B0]) ⟨hx, hb, hml, hown, hts⟩ hI hsz (c_X2_init l G B0 F4 hw5) (z_cwI vX2_init hts q17 ⟨Nat.le_of_ble_eq_true rfl, Nat.le_of_ble_eq_true rfl⟩) rfl hl.1 rfl (lv_room (Nat.le_of_ble_eq_true rfl)) dL_law_4 ⟨Nat.le_of_ble_eq_true rfl, Nat.le_of_ble_eq_true rfl⟩) (fun F7 H locs hp8 hI hz9 => ?_)
  have hC := hp8
  have hsz : H.size = B0 + 23 := hz9
  refine lv_astore_n (lv' := [(1, .ref B0), (0, .ref b)]) hx hb dL_law_7 rfl hl (by decide) rfl (fun ls hl => ?_)
  refine z_new (ci := 4) hx hb hts hown zlX4 tyX4 tyX4_ok (hts _ q730) (hts _ q731) (hts _ q3) hI rfl (fs := [.int 0, .null, .null, .null, .null]) (by intro j hj; rcases j with _ | _ | _ | _ | _ | _ | _ | j <;> first | rfl | omega) (Nat.le_of_ble_eq_true rfl) (Nat.le_of_ble_eq_true rfl) dL_law_8 (fun q10 H hq11 hz12 F13 hw14 ho15 hI => ?_)
  obtain rfl : B0 + 23 = q10 := (hq11.trans hsz).symm
  have hsz : H.size = B0 + 24 := hz12
  have hC2 := hC.go (fun q hq => ho15 q (by omega))
  refine lv_dup hx hb dL_law_11 rfl ?_
  refine z_callvN hI (z_InN (As := []) (rest := [.ref (B0 + 23)]) ⟨hx, hb, hml, hown, hts⟩ hI hsz (c_X4_init l G B0 F13 hw14) (z_cwI vX4_init hts q732 ⟨Nat.le_of_ble_eq_true rfl, Nat.le_of_ble_eq_true rfl⟩) rfl hl.1 rfl (lv_room (Nat.le_of_ble_eq_true rfl)) dL_law_12 ⟨Nat.le_of_ble_eq_true rfl, Nat.le_of_ble_eq_true rfl⟩) (fun F16 H locs hp17 hI hz18 => ?_)
  obtain ⟨hM, hof⟩ := hp17
  have hC3 := hC2.go hof
  have hsz : H.size = B0 + 41 := hz18
  refine lv_astore_n (lv' := [(2, .ref (B0 + 23)), (1, .ref B0), (0, .ref b)]) hx hb dL_law_15 rfl hl (by decide) rfl (fun ls hl => ?_)
  refine lv_iconst (v := nI 1) hx hb dL_law_16 (by decide) ?_
  refine z_newJ (N' := 1) hx hb (hts _ q1055) hI (by decide) (Nat.le_of_ble_eq_true rfl) (Nat.le_of_ble_eq_true rfl) dL_law_17 (fun q19 H hq20 hz21 F22 hw23 ho24 hI => ?_)
  obtain rfl : B0 + 41 = q19 := (hq20.trans hsz).symm
  have hsz : H.size = B0 + 42 := hz21
  have hO := hw23
  have hC4 := hC3.go (fun q hq => ho24 q (by omega))
  have hM2 := hM.goB (fun q _ hq => ho24 q (by omega))
  refine lv_astore_n (lv' := [(3, .ref (B0 + 41)), (2, .ref (B0 + 23)), (1, .ref B0), (0, .ref b)]) hx hb dL_law_19 rfl hl (by decide) rfl (fun ls hl => ?_)
  refine lv_iconst (v := nI 1) hx hb dL_law_20 (by decide) ?_
  refine z_newD (N' := 1) hx hb (hts _ q1056) hI (by decide) (Nat.le_of_ble_eq_true rfl) (Nat.le_of_ble_eq_true rfl) dL_law_21 (fun q25 H hq26 hz27 F28 hw29 ho30 hI => ?_)
  obtain rfl : B0 + 42 = q25 := (hq26.trans hsz).symm
  have hsz : H.size = B0 + 43 := hz27
  have hD := hw29
  have hC5 := hC4.go (fun q hq => ho30 q (by omega))
  have hM3 := hM2.goB (fun q _ hq => ho30 q (by omega))
  have hO2 := (ho30 (B0 + 41) (by omega)).trans hO
  refine lv_astore (lv' := [(4, .ref (B0 + 42)), (3, .ref (B0 + 41)), (2, .ref (B0 + 23)), (1, .ref B0), (0, .ref b)]) hx hb dL_law_23 hl (by decide) rfl (fun ls hl => ?_)
  refine lv_iconst (v := nI 0) hx hb dL_law_25 (by decide) ?_
  refine lv_istore (lv' := [(5, .int (nI 0)), (4, .ref (B0 + 42)), (3, .ref (B0 + 41)), (2, .ref (B0 + 23)), (1, .ref B0), (0, .ref b)]) hx hb dL_law_26 hl (by decide) rfl (fun ls hl => ?_)
  refine W.widen (k := 43) (n := 2000) (Nat.le_of_ble_eq_true rfl) (Nat.le_of_ble_eq_true rfl) ?_
  exact kk ls H _ _ (lv_sub hl [5, 4, 3, 2, 1, 0] rfl) ⟨hC5, hM3, wk0, ⟨_, hO2⟩, _, hD⟩ hI

