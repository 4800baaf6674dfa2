set_option maxHeartbeats 4000000 in
set_option maxRecDepth 100000 in
theorem w_add {p : Program} {l : Launch} {e : Env} {s : State} {m : MethodId} {below : List Frame} {meth : Method} {c : Code} {b L B0 : Nat} {xs : Nat → Int32} {G : zK} {Q : State → Prop} {cells slots : Nat} {i : Nat} {ls : Array Slot} {H : Heap} {locs : List Loc} {F : zM} {σ : Sg} {th : Int32} (K : zCtx p s m c b L B0 xs) (hl0 : l.stackTraces = false) (hi : i + 5 ≤ L) (hRc : cells + 40 ≤ room_1.cells) (hRs : slots + 600 ≤ room_1.slots) (hl : lv_has ls 9 (zLv b B0 i)) (hJ : zLI G B0 F σ th) (hI : zI G B0 s H locs F)
    (kk : ∀ (ls : Array Slot) (H : Heap) (locs : List Loc) (F : zM) (σ : Sg) (th : Int32), lv_has ls 9 (zLv b B0 i) → zLI G B0 F σ th → zI G B0 s H locs F → W p l e room_1 s m #[Value.ref b] below meth c H locs (cells + 40) (slots + 600) Q (F0 m 3367 ls [])) : W p l e room_1 s m #[Value.ref b] below meth c H locs cells slots Q (F0 m 232 ls []) := by
  obtain ⟨hx, hb, hml, hown, hts, hX, hbB, hsz, hL⟩ := K
  obtain ⟨hC, hM, hW, ⟨fo, hO⟩, fd, hD⟩ := hJ
  have hK := hC.ok hW
  have hl : lv_has ls 9 [(0, .ref b), (1, .ref B0), (2, .ref (B0 + 23)), (3, .ref (B0 + 41)), (4, .ref (B0 + 42)), (5, .int (nI i))] := hl
  refine lv_aload_n hx hb dL_law_232 rfl (lv_at hl 1 rfl) ?_
  refine lv_aload_n hx hb dL_law_233 rfl (lv_at hl 0 rfl) ?_
  refine lv_iload hx hb dL_law_234 (lv_at hl 5 rfl) ?_
  refine lv_iconst (v := nI 1) hx hb dL_law_236 (by decide) ?_
  refine lv_iadd hx hb dL_law_237 ?_
  refine z_topi (nI_add i 1) ?_
  refine z_sld (k := i + 1) hx hb hI hX hbB hsz hL (by omega) dL_law_238 ?_
  refine lv_aload_n hx hb dL_law_239 rfl (lv_at hl 0 rfl) ?_
  refine lv_iload hx hb dL_law_240 (lv_at hl 5 rfl) ?_
  refine lv_iconst (v := nI 2) hx hb dL_law_242 (by decide) ?_
  refine lv_iadd hx hb dL_law_243 ?_
  refine z_topi (nI_add i 2) ?_
  refine z_sld (k := i + 2) hx hb hI hX hbB hsz hL (by omega) dL_law_244 ?_
  refine lv_aload_n hx hb dL_law_245 rfl (lv_at hl 3 rfl) ?_
  refine z_calli hI (z_H (As := [.ref B0, .int (xs (i + 1)), .int (xs (i + 2)), .ref (B0 + 41)]) (rest := []) ⟨hx, hb, hml, hown, hts⟩ hI (c_L_add l hl0 G B0 F σ (xs (i + 1)) (xs (i + 2)) fo hC hK hO) (z_cwH vL_add hts q62 ⟨Nat.le_of_ble_eq_true rfl, Nat.le_of_ble_eq_true rfl⟩) rfl hl.1 rfl (lv_room (Nat.le_of_ble_eq_true rfl)) dL_law_246 ⟨by omega, by omega⟩) (fun r5 F1 H locs hp5 hI => ?_)
  obtain ⟨hz1, ⟨σ1, fo1, hC1, ha1, hy1, hn1⟩, hf1⟩ := hp5
  have hM1 : MS G B0 F1 σ th := hM.goB (fun q h1 h2 => hf1 q h1 (by omega))
  have hD1 := (hf1 (B0 + 42) (by omega) (by omega)).trans hD
  refine lv_istore (lv' := [(6, .int r5), (0, .ref b), (1, .ref B0), (2, .ref (B0 + 23)), (3, .ref (B0 + 41)), (4, .ref (B0 + 42)), (5, .int (nI i))]) hx hb dL_law_249 hl (by decide) rfl (fun ls hl => ?_)
  refine lv_aload_n hx hb dL_law_251 rfl (lv_at hl 3 rfl) ?_
  refine lv_aload_n hx hb dL_law_252 rfl (lv_at hl 1 rfl) ?_
  refine lv_iload hx hb dL_law_253 (lv_at hl 6 rfl) ?_
  refine lv_iconst (v := nI 1) hx hb dL_law_255 (by decide) ?_
  refine lv_iadd hx hb dL_law_256 ?_
  refine z_topi (nI_add i 1) ?_
  refine z_sld (k := i + 1) hx hb hI hX hbB hsz hL (by omega) dL_law_257 ?_
  refine lv_aload_n hx hb dL_law_258 rfl (lv_at hl 1 rfl) ?_
  refine lv_iload hx hb dL_law_259 (lv_at hl 6 rfl) ?_
  refine lv_iconst (v := nI 2) hx hb dL_law_261 (by decide) ?_
  refine lv_iadd hx hb dL_law_262 ?_
  refine z_topi (nI_add i 2) ?_
  refine z_sld (k := i + 2) hx hb hI hX hbB hsz hL (by omega) dL_law_263 ?_
  refine z_calli hI (z_V (As := [.int (xs (i + 1)), .int (xs (i + 2))]) (rest := []) ⟨hx, hb, hml, hown, hts⟩ hI hM1.1 rfl (c_X4_add l G B0 F1 σ th (xs (i + 1)) (xs (i + 2)) hM1 hK) (z_cwV vX4_add hts q768 ⟨Nat.le_of_ble_eq_true rfl, Nat.le_of_ble_eq_true rfl⟩) rfl hl.1 rfl (lv_room (Nat.le_of_ble_eq_true rfl)) dL_law_264 ⟨by omega, by omega⟩) (fun r6 F2 H locs hp6 hI => ?_)
  obtain ⟨th2, σ2, hM2, hz2, hy2, hn2, hf2⟩ := hp6
  have hb2 := (hf2 (B0 + 41) (Or.inr (by omega))).trans ha1
  refine lv_istore (lv' := [(7, .int r6), (6, .int r5), (0, .ref b), (1, .ref B0), (2, .ref (B0 + 23)), (3, .ref (B0 + 41)), (4, .ref (B0 + 42)), (5, .int (nI i))]) hx hb dL_law_267 hl (by decide) rfl (fun ls hl => ?_)
  refine lv_aload_n hx hb dL_law_269 rfl (lv_at hl 4 rfl) ?_
  refine z_calli hI (z_V (As := []) (rest := []) ⟨hx, hb, hml, hown, hts⟩ hI hM2.1 rfl (c_X4_thrown l G B0 F2 σ2 th2 hM2) (z_cwV vX4_thrown hts q726 ⟨Nat.le_of_ble_eq_true rfl, Nat.le_of_ble_eq_true rfl⟩) rfl hl.1 rfl (lv_room (Nat.le_of_ble_eq_true rfl)) dL_law_270 ⟨by omega, by omega⟩) (fun r7 F3 H locs hp7 hI => ?_)
  obtain ⟨rfl, rfl⟩ := hp7
  refine lv_iload hx hb dL_law_273 (lv_at hl 1 rfl) ?_
  refine lv_icmp_eq (tgt := 280) hx hb dL_law_275 (by decide) (fun hq4 => ?_) (fun hq4 => ?_)
  · refine lv_iload hx hb dL_law_280 (lv_at hl 1 rfl) ?_
    refine lv_if_ne (tgt := 297) hx hb dL_law_282 (by decide) (fun hq5 => ?_) (fun hq5 => ?_)
    · have hno := zTh_n hz1 hq5
      refine lv_goto (tgt := 3367) hx hb dL_law_297 (by decide) ?_
      refine W.widen (k := cells + 40) (n := slots + 600) (by omega) (by omega) ?_
      exact kk _ _ _ _ _ _ (lv_sub hl [2, 3, 4, 5, 6, 7] rfl) (zLI_end hC1 ha1 hD1 hM2 hf2 ((hn2 hno).trans (hn1 hno).symm) (by rw [hn1 hno]; exact hW)) hI
    · have hok := zTh_0 hz1 hq5
      obtain ⟨hs1, hv1⟩ := hy1 hok
      obtain ⟨hs2, hv2⟩ := hy2 hok
      have hv : fo1 0 = r6.toInt64 := hv1.trans (congrArg Int32.toInt64 hv2.symm)
      refine lv_aload_n hx hb dL_law_285 rfl (lv_at hl 5 rfl) ?_
      refine lv_iconst (v := nI 0) hx hb dL_law_286 (by decide) ?_
      refine z_lld (k := 0) hx hb hI hb2 (by decide) (by decide) dL_law_287 ?_
      refine lv_iload hx hb dL_law_288 (lv_at hl 0 rfl) ?_
      refine lv_i2l hx hb dL_law_290 rfl ?_
      refine W.lcmp hx hb dL_law_291 ?_
      refine lv_if_eq (tgt := 297) hx hb dL_law_292 (by decide) (fun hq6 => ?_) (fun hq6 => ?_)
      · refine lv_goto (tgt := 3367) hx hb dL_law_297 (by decide) ?_
        refine W.widen (k := cells + 40) (n := slots + 600) (by omega) (by omega) ?_
        exact kk _ _ _ _ _ _ (lv_sub hl [2, 3, 4, 5, 6, 7] rfl) (zLI_end hC1 ha1 hD1 hM2 hf2 (hs2.trans hs1.symm) (by rw [hs1]; exact wk_add hK hW hok.1 hok.2.1)) hI
      · exact absurd (by rw [hv]; exact lg_self) hq6
  · exact absurd (zTh_eq hz2 hz1) hq4

set_option maxHeartbeats 4000000 in
set_option maxRecDepth 100000 in
theorem w_addMany {p : Program} {l : Launch} {e : Env} {s : State} {m : MethodId} {below : List Frame} {meth : Method} {c : Code} {b L B0 : Nat} {xs : Nat → Int32} {G : zK} {Q : State → Prop} {cells slots : Nat} {i : Nat} {ls : Array Slot} {H : Heap} {locs : List Loc} {F : zM} {σ : Sg} {th : Int32} (K : zCtx p s m c b L B0 xs) (hl0 : l.stackTraces = false) (hi : i + 5 ≤ L) (hRc : cells + 40 ≤ room_1.cells) (hRs : slots + 600 ≤ room_1.slots) (hl : lv_has ls 9 (zLv b B0 i)) (hJ : zLI G B0 F σ th) (hI : zI G B0 s H locs F)
    (kk : ∀ (ls : Array Slot) (H : Heap) (locs : List Loc) (F : zM) (σ : Sg) (th : Int32), lv_has ls 9 (zLv b B0 i) → zLI G B0 F σ th → zI G B0 s H locs F → W p l e room_1 s m #[Value.ref b] below meth c H locs (cells + 40) (slots + 600) Q (F0 m 3367 ls [])) : W p l e room_1 s m #[Value.ref b] below meth c H locs cells slots Q (F0 m 300 ls []) := by
  obtain ⟨hx, hb, hml, hown, hts, hX, hbB, hsz, hL⟩ := K
  obtain ⟨hC, hM, hW, ⟨fo, hO⟩, fd, hD⟩ := hJ
  have hK := hC.ok hW
  have hl : lv_has ls 9 [(0, .ref b), (1, .ref B0), (2, .ref (B0 + 23)), (3, .ref (B0 + 41)), (4, .ref (B0 + 42)), (5, .int (nI i))] := hl
  refine lv_aload_n hx hb dL_law_300 rfl (lv_at hl 1 rfl) ?_
  refine lv_aload_n hx hb dL_law_301 rfl (lv_at hl 0 rfl) ?_
  refine lv_iload hx hb dL_law_302 (lv_at hl 5 rfl) ?_
  refine lv_iconst (v := nI 1) hx hb dL_law_304 (by decide) ?_
  refine lv_iadd hx hb dL_law_305 ?_
  refine z_topi (nI_add i 1) ?_
  refine z_sld (k := i + 1) hx hb hI hX hbB hsz hL (by omega) dL_law_306 ?_
  refine lv_aload_n hx hb dL_law_307 rfl (lv_at hl 0 rfl) ?_
  refine lv_iload hx hb dL_law_308 (lv_at hl 5 rfl) ?_
  refine lv_iconst (v := nI 2) hx hb dL_law_310 (by decide) ?_
  refine lv_iadd hx hb dL_law_311 ?_
  refine z_topi (nI_add i 2) ?_
  refine z_sld (k := i + 2) hx hb hI hX hbB hsz hL (by omega) dL_law_312 ?_
  refine lv_aload_n hx hb dL_law_313 rfl (lv_at hl 0 rfl) ?_
  refine lv_iload hx hb dL_law_314 (lv_at hl 5 rfl) ?_
  refine lv_iconst (v := nI 3) hx hb dL_law_316 (by decide) ?_
  refine lv_iadd hx hb dL_law_317 ?_
  refine z_topi (nI_add i 3) ?_
  refine z_sld (k := i + 3) hx hb hI hX hbB hsz hL (by omega) dL_law_318 ?_
  refine lv_aload_n hx hb dL_law_319 rfl (lv_at hl 3 rfl) ?_
  refine z_calli hI (z_H (As := [.ref B0, .int (xs (i + 1)), .int (xs (i + 2)), .int (xs (i + 3)), .ref (B0 + 41)]) (rest := []) ⟨hx, hb, hml, hown, hts⟩ hI (c_L_addMany l hl0 G B0 F σ (xs (i + 1)) (xs (i + 2)) (xs (i + 3)) fo hC hK hO) (z_cwH vL_addMany hts q172 ⟨Nat.le_of_ble_eq_true rfl, Nat.le_of_ble_eq_true rfl⟩) rfl hl.1 rfl (lv_room (Nat.le_of_ble_eq_true rfl)) dL_law_320 ⟨by omega, by omega⟩) (fun r5 F1 H locs hp5 hI => ?_)
  obtain ⟨hz1, ⟨σ1, fo1, hC1, ha1, hy1, hn1⟩, hf1⟩ := hp5
  have hM1 : MS G B0 F1 σ th := hM.goB (fun q h1 h2 => hf1 q h1 (by omega))
  have hD1 := (hf1 (B0 + 42) (by omega) (by omega)).trans hD
  refine lv_istore (lv' := [(6, .int r5), (0, .ref b), (1, .ref B0), (2, .ref (B0 + 23)), (3, .ref (B0 + 41)), (4, .ref (B0 + 42)), (5, .int (nI i))]) hx hb dL_law_323 hl (by decide) rfl (fun ls hl => ?_)
  refine lv_aload_n hx hb dL_law_325 rfl (lv_at hl 3 rfl) ?_
  refine lv_aload_n hx hb dL_law_326 rfl (lv_at hl 1 rfl) ?_
  refine lv_iload hx hb dL_law_327 (lv_at hl 6 rfl) ?_
  refine lv_iconst (v := nI 1) hx hb dL_law_329 (by decide) ?_
  refine lv_iadd hx hb dL_law_330 ?_
  refine z_topi (nI_add i 1) ?_
  refine z_sld (k := i + 1) hx hb hI hX hbB hsz hL (by omega) dL_law_331 ?_
  refine lv_aload_n hx hb dL_law_332 rfl (lv_at hl 1 rfl) ?_
  refine lv_iload hx hb dL_law_333 (lv_at hl 6 rfl) ?_
  refine lv_iconst (v := nI 2) hx hb dL_law_335 (by decide) ?_
  refine lv_iadd hx hb dL_law_336 ?_
  refine z_topi (nI_add i 2) ?_
  refine z_sld (k := i + 2) hx hb hI hX hbB hsz hL (by omega) dL_law_337 ?_
  refine lv_aload_n hx hb dL_law_338 rfl (lv_at hl 1 rfl) ?_
  refine lv_iload hx hb dL_law_339 (lv_at hl 6 rfl) ?_
  refine lv_iconst (v := nI 3) hx hb dL_law_341 (by decide) ?_
  refine lv_iadd hx hb dL_law_342 ?_
  refine z_topi (nI_add i 3) ?_
  refine z_sld (k := i + 3) hx hb hI hX hbB hsz hL (by omega) dL_law_343 ?_
  refine z_calli hI (z_V (As := [.int (xs (i + 1)), .int (xs (i + 2)), .int (xs (i + 3))]) (rest := []) ⟨hx, hb, hml, hown, hts⟩ hI hM1.1 rfl (c_X4_addMany l G B0 F1 σ th (xs (i + 1)) (xs (i + 2)) (xs (i + 3)) hM1 hK) (z_cwV vX4_addMany hts q796 ⟨Nat.le_of_ble_eq_true rfl, Nat.le_of_ble_eq_true rfl⟩) rfl hl.1 rfl (lv_room (Nat.le_of_ble_eq_true rfl)) dL_law_344 ⟨by omega, by omega⟩) (fun r6 F2 H locs hp6 hI => ?_)
  obtain ⟨th2, σ2, hM2, hz2, hy2, hn2, hf2⟩ := hp6
  have hb2 := (hf2 (B0 + 41) (Or.inr (by omega))).trans ha1
  refine lv_istore (lv' := [(7, .int r6), (6, .int r5), (0, .ref b), (1, .ref B0), (2, .ref (B0 + 23)), (3, .ref (B0 + 41)), (4, .ref (B0 + 42)), (5, .int (nI i))]) hx hb dL_law_347 hl (by decide) rfl (fun ls hl => ?_)
  refine lv_aload_n hx hb dL_law_349 rfl (lv_at hl 4 rfl) ?_
  refine z_calli hI (z_V (As := []) (rest := []) ⟨hx, hb, hml, hown, hts⟩ hI hM2.1 rfl (c_X4_thrown l G B0 F2 σ2 th2 hM2) (z_cwV vX4_thrown hts q726 ⟨Nat.le_of_ble_eq_true rfl, Nat.le_of_ble_eq_true rfl⟩) rfl hl.1 rfl (lv_room (Nat.le_of_ble_eq_true rfl)) dL_law_350 ⟨by omega, by omega⟩) (fun r7 F3 H locs hp7 hI => ?_)
  obtain ⟨rfl, rfl⟩ := hp7
  refine lv_iload hx hb dL_law_353 (lv_at hl 1 rfl) ?_
  refine lv_icmp_eq (tgt := 360) hx hb dL_law_355 (by decide) (fun hq4 => ?_) (fun hq4 => ?_)
  · refine lv_iload hx hb dL_law_360 (lv_at hl 1 rfl) ?_
    refine lv_if_ne (tgt := 377) hx hb dL_law_362 (by decide) (fun hq5 => ?_) (fun hq5 => ?_)
    · have hno := zTh_n hz1 hq5
      refine lv_goto (tgt := 3367) hx hb dL_law_377 (by decide) ?_
      refine W.widen (k := cells + 40) (n := slots + 600) (by omega) (by omega) ?_
      exact kk _ _ _ _ _ _ (lv_sub hl [2, 3, 4, 5, 6, 7] rfl) (zLI_end hC1 ha1 hD1 hM2 hf2 ((hn2 hno).trans (hn1 hno).symm) (by rw [hn1 hno]; exact hW)) hI
    · have hok := zTh_0 hz1 hq5
      obtain ⟨hs1, hv1⟩ := hy1 hok
      obtain ⟨hs2, hv2⟩ := hy2 hok
      have hv : fo1 0 = r6.toInt64 := hv1.trans (congrArg Int32.toInt64 hv2.symm)
      refine lv_aload_n hx hb dL_law_365 rfl (lv_at hl 5 rfl) ?_
      refine lv_iconst (v := nI 0) hx hb dL_law_366 (by decide) ?_
      refine z_lld (k := 0) hx hb hI hb2 (by decide) (by decide) dL_law_367 ?_
      refine lv_iload hx hb dL_law_368 (lv_at hl 0 rfl) ?_
      refine lv_i2l hx hb dL_law_370 rfl ?_
      refine W.lcmp hx hb dL_law_371 ?_
      refine lv_if_eq (tgt := 377) hx hb dL_law_372 (by decide) (fun hq6 => ?_) (fun hq6 => ?_)
      · refine lv_goto (tgt := 3367) hx hb dL_law_377 (by decide) ?_
        refine W.widen (k := cells + 40) (n := slots + 600) (by omega) (by omega) ?_
        exact kk _ _ _ _ _ _ (lv_sub hl [2, 3, 4, 5, 6, 7] rfl) (zLI_end hC1 ha1 hD1 hM2 hf2 (hs2.trans hs1.symm) (by rw [hs1]; exact wk_addMany hK hW hok.1 hok.2.1)) hI
      · exact absurd (by rw [hv]; exact lg_self) hq6
  · exact absurd (zTh_eq hz2 hz1) hq4

set_option maxHeartbeats 4000000 in
set_option maxRecDepth 100000 in
theorem w_scatter {p : Program} {l : Launch} {e : Env} {s : State} {m : MethodId} {below : List Frame} {meth : Method} {c : Code} {b L B0 : Nat} {xs : Nat → Int32} {G : zK} {Q : State → Prop} {cells slots : Nat} {i : Nat} {ls : Array Slot} {H : Heap} {locs : List Loc} {F : zM} {σ : Sg} {th : Int32} (K : zCtx p s m c b L B0 xs) (hl0 : l.stackTraces = false) (hi : i + 5 ≤ L) (hRc : cells + 40 ≤ room_1.cells) (hRs : slots + 600 ≤ room_1.slots) (hl : lv_has ls 9 (zLv b B0 i)) (hJ : zLI G B0 F σ th) (hI : zI G B0 s H locs F)
    (kk : ∀ (ls : Array Slot) (H : Heap) (locs : List Loc) (F : zM) (σ : Sg) (th : Int32), lv_has ls 9 (zLv b B0 i) → zLI G B0 F σ th → zI G B0 s H locs F → W p l e room_1 s m #[Value.ref b] below meth c H locs (cells + 40) (slots + 600) Q (F0 m 3367 ls [])) : W p l e room_1 s m #[Value.ref b] below meth c H locs cells slots Q (F0 m 380 ls []) := by
  obtain ⟨hx, hb, hml, hown, hts, hX, hbB, hsz, hL⟩ := K
  obtain ⟨hC, hM, hW, ⟨fo, hO⟩, fd, hD⟩ := hJ
  have hK := hC.ok hW
  have hl : lv_has ls 9 [(0, .ref b), (1, .ref B0), (2, .ref (B0 + 23)), (3, .ref (B0 + 41)), (4, .ref (B0 + 42)), (5, .int (nI i))] := hl
  refine lv_aload_n hx hb dL_law_380 rfl (lv_at hl 1 rfl) ?_
  refine lv_aload_n hx hb dL_law_381 rfl (lv_at hl 0 rfl) ?_
  refine lv_iload hx hb dL_law_382 (lv_at hl 5 rfl) ?_
  refine lv_iconst (v := nI 1) hx hb dL_law_384 (by decide) ?_
  refine lv_iadd hx hb dL_law_385 ?_
  refine z_topi (nI_add i 1) ?_
  refine z_sld (k := i + 1) hx hb hI hX hbB hsz hL (by omega) dL_law_386 ?_
  refine lv_aload_n hx hb dL_law_387 rfl (lv_at hl 0 rfl) ?_
  refine lv_iload hx hb dL_law_388 (lv_at hl 5 rfl) ?_
  refine lv_iconst (v := nI 2) hx hb dL_law_390 (by decide) ?_
  refine lv_iadd hx hb dL_law_391 ?_
  refine z_topi (nI_add i 2) ?_
  refine z_sld (k := i + 2) hx hb hI hX hbB hsz hL (by omega) dL_law_392 ?_
  refine lv_aload_n hx hb dL_law_393 rfl (lv_at hl 0 rfl) ?_
  refine lv_iload hx hb dL_law_394 (lv_at hl 5 rfl) ?_
  refine lv_iconst (v := nI 3) hx hb dL_law_396 (by decide) ?_
  refine lv_iadd hx hb dL_law_397 ?_
  refine z_topi (nI_add i 3) ?_
  refine z_sld (k := i + 3) hx hb hI hX hbB hsz hL (by omega) dL_law_398 ?_
  refine lv_aload_n hx hb dL_law_399 rfl (lv_at hl 0 rfl) ?_
  refine lv_iload hx hb dL_law_400 (lv_at hl 5 rfl) ?_
  refine lv_iconst (v := nI 4) hx hb dL_law_402 (by decide) ?_
  refine lv_iadd hx hb dL_law_403 ?_
  refine z_topi (nI_add i 4) ?_
  refine z_sld (k := i + 4) hx hb hI hX hbB hsz hL (by omega) dL_law_404 ?_
  refine lv_aload_n hx hb dL_law_405 rfl (lv_at hl 3 rfl) ?_
  refine z_calli hI (z_H (As := [.ref B0, .int (xs (i + 1)), .int (xs (i + 2)), .int (xs (i + 3)), .int (xs (i + 4)), .ref (B0 + 41)]) (rest := []) ⟨hx, hb, hml, hown, hts⟩ hI (c_L_scatter l hl0 G B0 F σ (xs (i + 1)) (xs (i + 2)) (xs (i + 3)) (xs (i + 4)) fo hC hK hO) (z_cwH vL_scatter hts q199 ⟨Nat.le_of_ble_eq_true rfl, Nat.le_of_ble_eq_true rfl⟩) rfl hl.1 rfl (lv_room (Nat.le_of_ble_eq_true rfl)) dL_law_406 ⟨by omega, by omega⟩) (fun r5 F1 H locs hp5 hI => ?_)
  obtain ⟨hz1, ⟨σ1, fo1, hC1, ha1, hy1, hn1⟩, hf1⟩ := hp5
  have hM1 : MS G B0 F1 σ th := hM.goB (fun q h1 h2 => hf1 q h1 (by omega))
  have hD1 := (hf1 (B0 + 42) (by omega) (by omega)).trans hD
  refine lv_istore (lv' := [(6, .int r5), (0, .ref b), (1, .ref B0), (2, .ref (B0 + 23)), (3, .ref (B0 + 41)), (4, .ref (B0 + 42)), (5, .int (nI i))]) hx hb dL_law_409 hl (by decide) rfl (fun ls hl => ?_)
  refine lv_aload_n hx hb dL_law_411 rfl (lv_at hl 3 rfl) ?_
  refine lv_aload_n hx hb dL_law_412 rfl (lv_at hl 1 rfl) ?_
  refine lv_iload hx hb dL_law_413 (lv_at hl 6 rfl) ?_
  refine lv_iconst (v := nI 1) hx hb dL_law_415 (by decide) ?_
  refine lv_iadd hx hb dL_law_416 ?_
  refine z_topi (nI_add i 1) ?_
  refine z_sld (k := i + 1) hx hb hI hX hbB hsz hL (by omega) dL_law_417 ?_
  refine lv_aload_n hx hb dL_law_418 rfl (lv_at hl 1 rfl) ?_
  refine lv_iload hx hb dL_law_419 (lv_at hl 6 rfl) ?_
  refine lv_iconst (v := nI 2) hx hb dL_law_421 (by decide) ?_
  refine lv_iadd hx hb dL_law_422 ?_
  refine z_topi (nI_add i 2) ?_
  refine z_sld (k := i + 2) hx hb hI hX hbB hsz hL (by omega) dL_law_423 ?_
  refine lv_aload_n hx hb dL_law_424 rfl (lv_at hl 1 rfl) ?_
  refine lv_iload hx hb dL_law_425 (lv_at hl 6 rfl) ?_
  refine lv_iconst (v := nI 3) hx hb dL_law_427 (by decide) ?_
  refine lv_iadd hx hb dL_law_428 ?_
  refine z_topi (nI_add i 3) ?_
  refine z_sld (k := i + 3) hx hb hI hX hbB hsz hL (by omega) dL_law_429 ?_
  refine lv_aload_n hx hb dL_law_430 rfl (lv_at hl 1 rfl) ?_
  refine lv_iload hx hb dL_law_431 (lv_at hl 6 rfl) ?_
  refine lv_iconst (v := nI 4) hx hb dL_law_433 (by decide) ?_
  refine lv_iadd hx hb dL_law_434 ?_
  refine z_topi (nI_add i 4) ?_
  refine z_sld (k := i + 4) hx hb hI hX hbB hsz hL (by omega) dL_law_435 ?_
  refine z_calli hI (z_V (As := [.int (xs (i + 1)), .int (xs (i + 2)), .int (xs (i + 3)), .int (xs (i + 4))]) (rest := []) ⟨hx, hb, hml, hown, hts⟩ hI hM1.1 rfl (c_X4_scatter l G B0 F1 σ th (xs (i + 1)) (xs (i + 2)) (xs (i + 3)) (xs (i + 4)) hM1 hK) (z_cwV vX4_scatter hts q800 ⟨Nat.le_of_ble_eq_true rfl, Nat.le_of_ble_eq_true rfl⟩) rfl hl.1 rfl (lv_room (Nat.le_of_ble_eq_true rfl)) dL_law_436 ⟨by omega, by omega⟩) (fun r6 F2 H locs hp6 hI => ?_)
  obtain ⟨th2, σ2, hM2, hz2, hy2, hn2, hf2⟩ := hp6
  have hb2 := (hf2 (B0 + 41) (Or.inr (by omega))).trans ha1
  refine lv_istore (lv' := [(7, .int r6), (6, .int r5), (0, .ref b), (1, .ref B0), (2, .ref (B0 + 23)), (3, .ref (B0 + 41)), (4, .ref (B0 + 42)), (5, .int (nI i))]) hx hb dL_law_439 hl (by decide) rfl (fun ls hl => ?_)
  refine lv_aload_n hx hb dL_law_441 rfl (lv_at hl 4 rfl) ?_
  refine z_calli hI (z_V (As := []) (rest := []) ⟨hx, hb, hml, hown, hts⟩ hI hM2.1 rfl (c_X4_thrown l G B0 F2 σ2 th2 hM2) (z_cwV vX4_thrown hts q726 ⟨Nat.le_of_ble_eq_true rfl, Nat.le_of_ble_eq_true rfl⟩) rfl hl.1 rfl (lv_room (Nat.le_of_ble_eq_true rfl)) dL_law_442 ⟨by omega, by omega⟩) (fun r7 F3 H locs hp7 hI => ?_)
  obtain ⟨rfl, rfl⟩ := hp7
  refine lv_iload hx hb dL_law_445 (lv_at hl 1 rfl) ?_
  refine lv_icmp_eq (tgt := 452) hx hb dL_law_447 (by decide) (fun hq4 => ?_) (fun hq4 => ?_)
  · refine lv_iload hx hb dL_law_452 (lv_at hl 1 rfl) ?_
    refine lv_if_ne (tgt := 469) hx hb dL_law_454 (by decide) (fun hq5 => ?_) (fun hq5 => ?_)
    · have hno := zTh_n hz1 hq5
      refine lv_goto (tgt := 3367) hx hb dL_law_469 (by decide) ?_
      refine W.widen (k := cells + 40) (n := slots + 600) (by omega) (by omega) ?_
      exact kk _ _ _ _ _ _ (lv_sub hl [2, 3, 4, 5, 6, 7] rfl) (zLI_end hC1 ha1 hD1 hM2 hf2 ((hn2 hno).trans (hn1 hno).symm) (by rw [hn1 hno]; exact hW)) hI
    · have hok := zTh_0 hz1 hq5
      obtain ⟨hs1, hv1⟩ := hy1 hok
      obtain ⟨hs2, hv2⟩ := hy2 hok
      have hv : fo1 0 = r6.toInt64 := hv1.trans (congrArg Int32.toInt64 hv2.symm)
      refine lv_aload_n hx hb dL_law_457 rfl (lv_at hl 5 rfl) ?_
      refine lv_iconst (v := nI 0) hx hb dL_law_458 (by decide) ?_
      refine z_lld (k := 0) hx hb hI hb2 (by decide) (by decide) dL_law_459 ?_
      refine lv_iload hx hb dL_law_460 (lv_at hl 0 rfl) ?_
      refine lv_i2l hx hb dL_law_462 rfl ?_
      refine W.lcmp hx hb dL_law_463 ?_
      refine lv_if_eq (tgt := 469) hx hb dL_law_464 (by decide) (fun hq6 => ?_) (fun hq6 => ?_)
      · refine lv_goto (tgt := 3367) hx hb dL_law_469 (by decide) ?_
        refine W.widen (k := cells + 40) (n := slots + 600) (by omega) (by omega) ?_
        exact kk _ _ _ _ _ _ (lv_sub hl [2, 3, 4, 5, 6, 7] rfl) (zLI_end hC1 ha1 hD1 hM2 hf2 (hs2.trans hs1.symm) (by rw [hs1]; exact wk_scatter hK hW hok.1 hok.2.1)) hI
      · exact absurd (by rw [hv]; exact lg_self) hq6
  · exact absurd (zTh_eq hz2 hz1) hq4

set_option maxHeartbeats 4000000 in
set_option maxRecDepth 100000 in
theorem w_insert {p : Program} {l : Launch} {e : Env} {s : State} {m : MethodId} {below : List Frame} {meth : Method} {c : Code} {b L B0 : Nat} {xs : Nat → Int32} {G : zK} {Q : State → Prop} {cells slots : Nat} {i : Nat} {ls : Array Slot} {H : Heap} {locs : List Loc} {F : zM} {σ : Sg} {th : Int32} (K : zCtx p s m c b L B0 xs) (hl0 : l.stackTraces = false) (hi : i + 5 ≤ L) (hRc : cells + 40 ≤ room_1.cells) (hRs : slots + 600 ≤ room_1.slots) (hl : lv_has ls 9 (zLv b B0 i)) (hJ : zLI G B0 F σ th) (hI : zI G B0 s H locs F)
    (kk : ∀ (ls : Array Slot) (H : Heap) (locs : List Loc) (F : zM) (σ : Sg) (th : Int32), lv_has ls 9 (zLv b B0 i) → zLI G B0 F σ th → zI G B0 s H locs F → W p l e room_1 s m #[Value.ref b] below meth c H locs (cells + 40) (slots + 600) Q (F0 m 3367 ls [])) : W p l e room_1 s m #[Value.ref b] below meth c H locs cells slots Q (F0 m 472 ls []) := by
  obtain ⟨hx, hb, hml, hown, hts, hX, hbB, hsz, hL⟩ := K
  obtain ⟨hC, hM, hW, ⟨fo, hO⟩, fd, hD⟩ := hJ
  have hK := hC.ok hW
  have hl : lv_has ls 9 [(0, .ref b), (1, .ref B0), (2, .ref (B0 + 23)), (3, .ref (B0 + 41)), (4, .ref (B0 + 42)), (5, .int (nI i))] := hl
  refine lv_aload_n hx hb dL_law_472 rfl (lv_at hl 1 rfl) ?_
  refine lv_aload_n hx hb dL_law_473 rfl (lv_at hl 0 rfl) ?_
  refine lv_iload hx hb dL_law_474 (lv_at hl 5 rfl) ?_
  refine lv_iconst (v := nI 1) hx hb dL_law_476 (by decide) ?_
  refine lv_iadd hx hb dL_law_477 ?_
  refine z_topi (nI_add i 1) ?_
  refine z_sld (k := i + 1) hx hb hI hX hbB hsz hL (by omega) dL_law_478 ?_
  refine lv_aload_n hx hb dL_law_479 rfl (lv_at hl 0 rfl) ?_
  refine lv_iload hx hb dL_law_480 (lv_at hl 5 rfl) ?_
  refine lv_iconst (v := nI 2) hx hb dL_law_482 (by decide) ?_
  refine lv_iadd hx hb dL_law_483 ?_
  refine z_topi (nI_add i 2) ?_
  refine z_sld (k := i + 2) hx hb hI hX hbB hsz hL (by omega) dL_law_484 ?_
  refine lv_aload_n hx hb dL_law_485 rfl (lv_at hl 0 rfl) ?_
  refine lv_iload hx hb dL_law_486 (lv_at hl 5 rfl) ?_
  refine lv_iconst (v := nI 3) hx hb dL_law_488 (by decide) ?_
  refine lv_iadd hx hb dL_law_489 ?_
  refine z_topi (nI_add i 3) ?_
  refine z_sld (k := i + 3) hx hb hI hX hbB hsz hL (by omega) dL_law_490 ?_
  refine lv_aload_n hx hb dL_law_491 rfl (lv_at hl 3 rfl) ?_
  refine z_calli hI (z_H (As := [.ref B0, .int (xs (i + 1)), .int (xs (i + 2)), .int (xs (i + 3)), .ref (B0 + 41)]) (rest := []) ⟨hx, hb, hml, hown, hts⟩ hI (c_L_insert l hl0 G B0 F σ (xs (i + 1)) (xs (i + 2)) (xs (i + 3)) fo hC hK hO) (z_cwH vL_insert hts q214 ⟨Nat.le_of_ble_eq_true rfl, Nat.le_of_ble_eq_true rfl⟩) rfl hl.1 rfl (lv_room (Nat.le_of_ble_eq_true rfl)) dL_law_492 ⟨by omega, by omega⟩) (fun r5 F1 H locs hp5 hI => ?_)
  obtain ⟨hz1, ⟨σ1, fo1, hC1, ha1, hy1, hn1⟩, hf1⟩ := hp5
  have hM1 : MS G B0 F1 σ th := hM.goB (fun q h1 h2 => hf1 q h1 (by omega))
  have hD1 := (hf1 (B0 + 42) (by omega) (by omega)).trans hD
  refine lv_istore (lv' := [(6, .int r5), (0, .ref b), (1, .ref B0), (2, .ref (B0 + 23)), (3, .ref (B0 + 41)), (4, .ref (B0 + 42)), (5, .int (nI i))]) hx hb dL_law_495 hl (by decide) rfl (fun ls hl => ?_)
  refine lv_aload_n hx hb dL_law_497 rfl (lv_at hl 3 rfl) ?_
  refine lv_aload_n hx hb dL_law_498 rfl (lv_at hl 1 rfl) ?_
  refine lv_iload hx hb dL_law_499 (lv_at hl 6 rfl) ?_
  refine lv_iconst (v := nI 1) hx hb dL_law_501 (by decide) ?_
  refine lv_iadd hx hb dL_law_502 ?_
  refine z_topi (nI_add i 1) ?_
  refine z_sld (k := i + 1) hx hb hI hX hbB hsz hL (by omega) dL_law_503 ?_
  refine lv_aload_n hx hb dL_law_504 rfl (lv_at hl 1 rfl) ?_
  refine lv_iload hx hb dL_law_505 (lv_at hl 6 rfl) ?_
  refine lv_iconst (v := nI 2) hx hb dL_law_507 (by decide) ?_
  refine lv_iadd hx hb dL_law_508 ?_
  refine z_topi (nI_add i 2) ?_
  refine z_sld (k := i + 2) hx hb hI hX hbB hsz hL (by omega) dL_law_509 ?_
  refine lv_aload_n hx hb dL_law_510 rfl (lv_at hl 1 rfl) ?_
  refine lv_iload hx hb dL_law_511 (lv_at hl 6 rfl) ?_
  refine lv_iconst (v := nI 3) hx hb dL_law_513 (by decide) ?_
  refine lv_iadd hx hb dL_law_514 ?_
  refine z_topi (nI_add i 3) ?_
  refine z_sld (k := i + 3) hx hb hI hX hbB hsz hL (by omega) dL_law_515 ?_
  refine z_calli hI (z_V (As := [.int (xs (i + 1)), .int (xs (i + 2)), .int (xs (i + 3))]) (rest := []) ⟨hx, hb, hml, hown, hts⟩ hI hM1.1 rfl (c_X4_insert l G B0 F1 σ th (xs (i + 1)) (xs (i + 2)) (xs (i + 3)) hM1 hK) (z_cwV vX4_insert hts q809 ⟨Nat.le_of_ble_eq_true rfl, Nat.le_of_ble_eq_true rfl⟩) rfl hl.1 rfl (lv_room (Nat.le_of_ble_eq_true rfl)) dL_law_516 ⟨by omega, by omega⟩) (fun r6 F2 H locs hp6 hI => ?_)
  obtain ⟨th2, σ2, hM2, hz2, hy2, hn2, hf2⟩ := hp6
  have hb2 := (hf2 (B0 + 41) (Or.inr (by omega))).trans ha1
  refine lv_istore (lv' := [(7, .int r6), (6, .int r5), (0, .ref b), (1, .ref B0), (2, .ref (B0 + 23)), (3, .ref (B0 + 41)), (4, .ref (B0 + 42)), (5, .int (nI i))]) hx hb dL_law_519 hl (by decide) rfl (fun ls hl => ?_)
  refine lv_aload_n hx hb dL_law_521 rfl (lv_at hl 4 rfl) ?_
  refine z_calli hI (z_V (As := []) (rest := []) ⟨hx, hb, hml, hown, hts⟩ hI hM2.1 rfl (c_X4_thrown l G B0 F2 σ2 th2 hM2) (z_cwV vX4_thrown hts q726 ⟨Nat.le_of_ble_eq_true rfl, Nat.le_of_ble_eq_true rfl⟩) rfl hl.1 rfl (lv_room (Nat.le_of_ble_eq_true rfl)) dL_law_522 ⟨by omega, by omega⟩) (fun r7 F3 H locs hp7 hI => ?_)
  obtain ⟨rfl, rfl⟩ := hp7
  refine lv_iload hx hb dL_law_525 (lv_at hl 1 rfl) ?_
  refine lv_icmp_eq (tgt := 532) hx hb dL_law_527 (by decide) (fun hq4 => ?_) (fun hq4 => ?_)
  · refine lv_iload hx hb dL_law_532 (lv_at hl 1 rfl) ?_
    refine lv_if_ne (tgt := 549) hx hb dL_law_534 (by decide) (fun hq5 => ?_) (fun hq5 => ?_)
    · have hno := zTh_n hz1 hq5
      refine lv_goto (tgt := 3367) hx hb dL_law_549 (by decide) ?_
      refine W.widen (k := cells + 40) (n := slots + 600) (by omega) (by omega) ?_
      exact kk _ _ _ _ _ _ (lv_sub hl [2, 3, 4, 5, 6, 7] rfl) (zLI_end hC1 ha1 hD1 hM2 hf2 ((hn2 hno).trans (hn1 hno).symm) (by rw [hn1 hno]; exact hW)) hI
    · have hok := zTh_0 hz1 hq5
      obtain ⟨hs1, hv1⟩ := hy1 hok
      obtain ⟨hs2, hv2⟩ := hy2 hok
      have hv : fo1 0 = r6.toInt64 := hv1.trans (congrArg Int32.toInt64 hv2.symm)
      refine lv_aload_n hx hb dL_law_537 rfl (lv_at hl 5 rfl) ?_
      refine lv_iconst (v := nI 0) hx hb dL_law_538 (by decide) ?_
      refine z_lld (k := 0) hx hb hI hb2 (by decide) (by decide) dL_law_539 ?_
      refine lv_iload hx hb dL_law_540 (lv_at hl 0 rfl) ?_
      refine lv_i2l hx hb dL_law_542 rfl ?_
      refine W.lcmp hx hb dL_law_543 ?_
      refine lv_if_eq (tgt := 549) hx hb dL_law_544 (by decide) (fun hq6 => ?_) (fun hq6 => ?_)
      · refine lv_goto (tgt := 3367) hx hb dL_law_549 (by decide) ?_
        refine W.widen (k := cells + 40) (n := slots + 600) (by omega) (by omega) ?_
        exact kk _ _ _ _ _ _ (lv_sub hl [2, 3, 4, 5, 6, 7] rfl) (zLI_end hC1 ha1 hD1 hM2 hf2 (hs2.trans hs1.symm) (by rw [hs1]; exact wk_insert hK hW hok.1 hok.2.1)) hI
      · exact absurd (by rw [hv]; exact lg_self) hq6
  · exact absurd (zTh_eq hz2 hz1) hq4

set_option maxHeartbeats 4000000 in
set_option maxRecDepth 100000 in
theorem w_set {p : Program} {l : Launch} {e : Env} {s : State} {m : MethodId} {below : List Frame} {meth : Method} {c : Code} {b L B0 : Nat} {xs : Nat → Int32} {G : zK} {Q : State → Prop} {cells slots : Nat} {i : Nat} {ls : Array Slot} {H : Heap} {locs : List Loc} {F : zM} {σ : Sg} {th : Int32} (K : zCtx p s m c b L B0 xs) (hl0 : l.stackTraces = false) (hi : i + 5 ≤ L) (hRc : cells + 40 ≤ room_1.cells) (hRs : slots + 600 ≤ room_1.slots) (hl : lv_has ls 9 (zLv b B0 i)) (hJ : zLI G B0 F σ th) (hI : zI G B0 s H locs F)
    (kk : ∀ (ls : Array Slot) (H : Heap) (locs : List Loc) (F : zM) (σ : Sg) (th : Int32), lv_has ls 9 (zLv b B0 i) → zLI G B0 F σ th → zI G B0 s H locs F → W p l e room_1 s m #[Value.ref b] below meth c H locs (cells + 40) (slots + 600) Q (F0 m 3367 ls [])) : W p l e room_1 s m #[Value.ref b] below meth c H locs cells slots Q (F0 m 552 ls []) := by
  obtain ⟨hx, hb, hml, hown, hts, hX, hbB, hsz, hL⟩ := K
  obtain ⟨hC, hM, hW, ⟨fo, hO⟩, fd, hD⟩ := hJ
  have hK := hC.ok hW
  have hl : lv_has ls 9 [(0, .ref b), (1, .ref B0), (2, .ref (B0 + 23)), (3, .ref (B0 + 41)), (4, .ref (B0 + 42)), (5, .int (nI i))] := hl
  refine lv_aload_n hx hb dL_law_552 rfl (lv_at hl 1 rfl) ?_
  refine lv_aload_n hx hb dL_law_553 rfl (lv_at hl 0 rfl) ?_
  refine lv_iload hx hb dL_law_554 (lv_at hl 5 rfl) ?_
  refine lv_iconst (v := nI 1) hx hb dL_law_556 (by decide) ?_
  refine lv_iadd hx hb dL_law_557 ?_
  refine z_topi (nI_add i 1) ?_
  refine z_sld (k := i + 1) hx hb hI hX hbB hsz hL (by omega) dL_law_558 ?_
  refine lv_aload_n hx hb dL_law_559 rfl (lv_at hl 0 rfl) ?_
  refine lv_iload hx hb dL_law_560 (lv_at hl 5 rfl) ?_
  refine lv_iconst (v := nI 2) hx hb dL_law_562 (by decide) ?_
  refine lv_iadd hx hb dL_law_563 ?_
  refine z_topi (nI_add i 2) ?_
  refine z_sld (k := i + 2) hx hb hI hX hbB hsz hL (by omega) dL_law_564 ?_
  refine lv_aload_n hx hb dL_law_565 rfl (lv_at hl 0 rfl) ?_
  refine lv_iload hx hb dL_law_566 (lv_at hl 5 rfl) ?_
  refine lv_iconst (v := nI 3) hx hb dL_law_568 (by decide) ?_
  refine lv_iadd hx hb dL_law_569 ?_
  refine z_topi (nI_add i 3) ?_
  refine z_sld (k := i + 3) hx hb hI hX hbB hsz hL (by omega) dL_law_570 ?_
  refine lv_aload_n hx hb dL_law_571 rfl (lv_at hl 3 rfl) ?_
  refine z_calli hI (z_H (As := [.ref B0, .int (xs (i + 1)), .int (xs (i + 2)), .int (xs (i + 3)), .ref (B0 + 41)]) (rest := []) ⟨hx, hb, hml, hown, hts⟩ hI (c_L_set l hl0 G B0 F σ (xs (i + 1)) (xs (i + 2)) (xs (i + 3)) fo hC hK hO) (z_cwH vL_set hts q229 ⟨Nat.le_of_ble_eq_true rfl, Nat.le_of_ble_eq_true rfl⟩) rfl hl.1 rfl (lv_room (Nat.le_of_ble_eq_true rfl)) dL_law_572 ⟨by omega, by omega⟩) (fun r5 F1 H locs hp5 hI => ?_)
  obtain ⟨hz1, ⟨σ1, fo1, hC1, ha1, hy1, hn1⟩, hf1⟩ := hp5
  have hM1 : MS G B0 F1 σ th := hM.goB (fun q h1 h2 => hf1 q h1 (by omega))
  have hD1 := (hf1 (B0 + 42) (by omega) (by omega)).trans hD
  refine lv_istore (lv' := [(6, .int r5), (0, .ref b), (1, .ref B0), (2, .ref (B0 + 23)), (3, .ref (B0 + 41)), (4, .ref (B0 + 42)), (5, .int (nI i))]) hx hb dL_law_575 hl (by decide) rfl (fun ls hl => ?_)
  refine lv_aload_n hx hb dL_law_577 rfl (lv_at hl 3 rfl) ?_
  refine lv_aload_n hx hb dL_law_578 rfl (lv_at hl 1 rfl) ?_
  refine lv_iload hx hb dL_law_579 (lv_at hl 6 rfl) ?_
  refine lv_iconst (v := nI 1) hx hb dL_law_581 (by decide) ?_
  refine lv_iadd hx hb dL_law_582 ?_
  refine z_topi (nI_add i 1) ?_
  refine z_sld (k := i + 1) hx hb hI hX hbB hsz hL (by omega) dL_law_583 ?_
  refine lv_aload_n hx hb dL_law_584 rfl (lv_at hl 1 rfl) ?_
  refine lv_iload hx hb dL_law_585 (lv_at hl 6 rfl) ?_
  refine lv_iconst (v := nI 2) hx hb dL_law_587 (by decide) ?_
  refine lv_iadd hx hb dL_law_588 ?_
  refine z_topi (nI_add i 2) ?_
  refine z_sld (k := i + 2) hx hb hI hX hbB hsz hL (by omega) dL_law_589 ?_
  refine lv_aload_n hx hb dL_law_590 rfl (lv_at hl 1 rfl) ?_
  refine lv_iload hx hb dL_law_591 (lv_at hl 6 rfl) ?_
  refine lv_iconst (v := nI 3) hx hb dL_law_593 (by decide) ?_
  refine lv_iadd hx hb dL_law_594 ?_
  refine z_topi (nI_add i 3) ?_
  refine z_sld (k := i + 3) hx hb hI hX hbB hsz hL (by omega) dL_law_595 ?_
  refine z_calli hI (z_V (As := [.int (xs (i + 1)), .int (xs (i + 2)), .int (xs (i + 3))]) (rest := []) ⟨hx, hb, hml, hown, hts⟩ hI hM1.1 rfl (c_X4_set l G B0 F1 σ th (xs (i + 1)) (xs (i + 2)) (xs (i + 3)) hM1 hK) (z_cwV vX4_set hts q821 ⟨Nat.le_of_ble_eq_true rfl, Nat.le_of_ble_eq_true rfl⟩) rfl hl.1 rfl (lv_room (Nat.le_of_ble_eq_true rfl)) dL_law_596 ⟨by omega, by omega⟩) (fun r6 F2 H locs hp6 hI => ?_)
  obtain ⟨th2, σ2, hM2, hz2, hy2, hn2, hf2⟩ := hp6
  have hb2 := (hf2 (B0 + 41) (Or.inr (by omega))).trans ha1
  refine lv_istore (lv' := [(7, .int r6), (6, .int r5), (0, .ref b), (1, .ref B0), (2, .ref (B0 + 23)), (3, .ref (B0 + 41)), (4, .ref (B0 + 42)), (5, .int (nI i))]) hx hb dL_law_599 hl (by decide) rfl (fun ls hl => ?_)
  refine lv_aload_n hx hb dL_law_601 rfl (lv_at hl 4 rfl) ?_
  refine z_calli hI (z_V (As := []) (rest := []) ⟨hx, hb, hml, hown, hts⟩ hI hM2.1 rfl (c_X4_thrown l G B0 F2 σ2 th2 hM2) (z_cwV vX4_thrown hts q726 ⟨Nat.le_of_ble_eq_true rfl, Nat.le_of_ble_eq_true rfl⟩) rfl hl.1 rfl (lv_room (Nat.le_of_ble_eq_true rfl)) dL_law_602 ⟨by omega, by omega⟩) (fun r7 F3 H locs hp7 hI => ?_)
  obtain ⟨rfl, rfl⟩ := hp7
  refine lv_iload hx hb dL_law_605 (lv_at hl 1 rfl) ?_
  refine lv_icmp_eq (tgt := 612) hx hb dL_law_607 (by decide) (fun hq4 => ?_) (fun hq4 => ?_)
  · refine lv_iload hx hb dL_law_612 (lv_at hl 1 rfl) ?_
    refine lv_if_ne (tgt := 629) hx hb dL_law_614 (by decide) (fun hq5 => ?_) (fun hq5 => ?_)
    · have hno := zTh_n hz1 hq5
      refine lv_goto (tgt := 3367) hx hb dL_law_629 (by decide) ?_
      refine W.widen (k := cells + 40) (n := slots + 600) (by omega) (by omega) ?_
      exact kk _ _ _ _ _ _ (lv_sub hl [2, 3, 4, 5, 6, 7] rfl) (zLI_end hC1 ha1 hD1 hM2 hf2 ((hn2 hno).trans (hn1 hno).symm) (by rw [hn1 hno]; exact hW)) hI
    · have hok := zTh_0 hz1 hq5
      obtain ⟨hs1, hv1⟩ := hy1 hok
      obtain ⟨hs2, hv2⟩ := hy2 hok
      have hv : fo1 0 = r6.toInt64 := hv1.trans (congrArg Int32.toInt64 hv2.symm)
      refine lv_aload_n hx hb dL_law_617 rfl (lv_at hl 5 rfl) ?_
      refine lv_iconst (v := nI 0) hx hb dL_law_618 (by decide) ?_
      refine z_lld (k := 0) hx hb hI hb2 (by decide) (by decide) dL_law_619 ?_
      refine lv_iload hx hb dL_law_620 (lv_at hl 0 rfl) ?_
      refine lv_i2l hx hb dL_law_622 rfl ?_
      refine W.lcmp hx hb dL_law_623 ?_
      refine lv_if_eq (tgt := 629) hx hb dL_law_624 (by decide) (fun hq6 => ?_) (fun hq6 => ?_)
      · refine lv_goto (tgt := 3367) hx hb dL_law_629 (by decide) ?_
        refine W.widen (k := cells + 40) (n := slots + 600) (by omega) (by omega) ?_
        exact kk _ _ _ _ _ _ (lv_sub hl [2, 3, 4, 5, 6, 7] rfl) (zLI_end hC1 ha1 hD1 hM2 hf2 (hs2.trans hs1.symm) (by rw [hs1]; exact wk_set hK hW hok.1 hok.2.1)) hI
      · exact absurd (by rw [hv]; exact lg_self) hq6
  · exact absurd (zTh_eq hz2 hz1) hq4

set_option maxHeartbeats 4000000 in
set_option maxRecDepth 100000 in
theorem w_remove {p : Program} {l : Launch} {e : Env} {s : State} {m : MethodId} {below : List Frame} {meth : Method} {c : Code} {b L B0 : Nat} {xs : Nat → Int32} {G : zK} {Q : State → Prop} {cells slots : Nat} {i : Nat} {ls : Array Slot} {H : Heap} {locs : List Loc} {F : zM} {σ : Sg} {th : Int32} (K : zCtx p s m c b L B0 xs) (hl0 : l.stackTraces = false) (hi : i + 5 ≤ L) (hRc : cells + 40 ≤ room_1.cells) (hRs : slots + 600 ≤ room_1.slots) (hl : lv_has ls 9 (zLv b B0 i)) (hJ : zLI G B0 F σ th) (hI : zI G B0 s H locs F)
    (kk : ∀ (ls : Array Slot) (H : Heap) (locs : List Loc) (F : zM) (σ : Sg) (th : Int32), lv_has ls 9 (zLv b B0 i) → zLI G B0 F σ th → zI G B0 s H locs F → W p l e room_1 s m #[Value.ref b] below meth c H locs (cells + 40) (slots + 600) Q (F0 m 3367 ls [])) : W p l e room_1 s m #[Value.ref b] below meth c H locs cells slots Q (F0 m 632 ls []) := by
  obtain ⟨hx, hb, hml, hown, hts, hX, hbB, hsz, hL⟩ := K
  obtain ⟨hC, hM, hW, ⟨fo, hO⟩, fd, hD⟩ := hJ
  have hK := hC.ok hW
  have hl : lv_has ls 9 [(0, .ref b), (1, .ref B0), (2, .ref (B0 + 23)), (3, .ref (B0 + 41)), (4, .ref (B0 + 42)), (5, .int (nI i))] := hl
  refine lv_aload_n hx hb dL_law_632 rfl (lv_at hl 1 rfl) ?_
  refine lv_aload_n hx hb dL_law_633 rfl (lv_at hl 0 rfl) ?_
  refine lv_iload hx hb dL_law_634 (lv_at hl 5 rfl) ?_
  refine lv_iconst (v := nI 1) hx hb dL_law_636 (by decide) ?_
  refine lv_iadd hx hb dL_law_637 ?_
  refine z_topi (nI_add i 1) ?_
  refine z_sld (k := i + 1) hx hb hI hX hbB hsz hL (by omega) dL_law_638 ?_
  refine lv_aload_n hx hb dL_law_639 rfl (lv_at hl 0 rfl) ?_
  refine lv_iload hx hb dL_law_640 (lv_at hl 5 rfl) ?_
  refine lv_iconst (v := nI 2) hx hb dL_law_642 (by decide) ?_
  refine lv_iadd hx hb dL_law_643 ?_
  refine z_topi (nI_add i 2) ?_
  refine z_sld (k := i + 2) hx hb hI hX hbB hsz hL (by omega) dL_law_644 ?_
  refine lv_aload_n hx hb dL_law_645 rfl (lv_at hl 3 rfl) ?_
  refine z_calli hI (z_H (As := [.ref B0, .int (xs (i + 1)), .int (xs (i + 2)), .ref (B0 + 41)]) (rest := []) ⟨hx, hb, hml, hown, hts⟩ hI (c_L_remove l hl0 G B0 F σ (xs (i + 1)) (xs (i + 2)) fo hC hK hO) (z_cwH vL_remove hts q240 ⟨Nat.le_of_ble_eq_true rfl, Nat.le_of_ble_eq_true rfl⟩) rfl hl.1 rfl (lv_room (Nat.le_of_ble_eq_true rfl)) dL_law_646 ⟨by omega, by omega⟩) (fun r5 F1 H locs hp5 hI => ?_)
  obtain ⟨hz1, ⟨σ1, fo1, hC1, ha1, hy1, hn1⟩, hf1⟩ := hp5
  have hM1 : MS G B0 F1 σ th := hM.goB (fun q h1 h2 => hf1 q h1 (by omega))
  have hD1 := (hf1 (B0 + 42) (by omega) (by omega)).trans hD
  refine lv_istore (lv' := [(6, .int r5), (0, .ref b), (1, .ref B0), (2, .ref (B0 + 23)), (3, .ref (B0 + 41)), (4, .ref (B0 + 42)), (5, .int (nI i))]) hx hb dL_law_649 hl (by decide) rfl (fun ls hl => ?_)
  refine lv_aload_n hx hb dL_law_651 rfl (lv_at hl 3 rfl) ?_
  refine lv_aload_n hx hb dL_law_652 rfl (lv_at hl 1 rfl) ?_
  refine lv_iload hx hb dL_law_653 (lv_at hl 6 rfl) ?_
  refine lv_iconst (v := nI 1) hx hb dL_law_655 (by decide) ?_
  refine lv_iadd hx hb dL_law_656 ?_
  refine z_topi (nI_add i 1) ?_
  refine z_sld (k := i + 1) hx hb hI hX hbB hsz hL (by omega) dL_law_657 ?_
  refine lv_aload_n hx hb dL_law_658 rfl (lv_at hl 1 rfl) ?_
  refine lv_iload hx hb dL_law_659 (lv_at hl 6 rfl) ?_
  refine lv_iconst (v := nI 2) hx hb dL_law_661 (by decide) ?_
  refine lv_iadd hx hb dL_law_662 ?_
  refine z_topi (nI_add i 2) ?_
  refine z_sld (k := i + 2) hx hb hI hX hbB hsz hL (by omega) dL_law_663 ?_
  refine z_calli hI (z_V (As := [.int (xs (i + 1)), .int (xs (i + 2))]) (rest := []) ⟨hx, hb, hml, hown, hts⟩ hI hM1.1 rfl (c_X4_remove l G B0 F1 σ th (xs (i + 1)) (xs (i + 2)) hM1 hK) (z_cwV vX4_remove hts q833 ⟨Nat.le_of_ble_eq_true rfl, Nat.le_of_ble_eq_true rfl⟩) rfl hl.1 rfl (lv_room (Nat.le_of_ble_eq_true rfl)) dL_law_664 ⟨by omega, by omega⟩) (fun r6 F2 H locs hp6 hI => ?_)
  obtain ⟨th2, σ2, hM2, hz2, hy2, hn2, hf2⟩ := hp6
  have hb2 := (hf2 (B0 + 41) (Or.inr (by omega))).trans ha1
  refine lv_istore (lv' := [(7, .int r6), (6, .int r5), (0, .ref b), (1, .ref B0), (2, .ref (B0 + 23)), (3, .ref (B0 + 41)), (4, .ref (B0 + 42)), (5, .int (nI i))]) hx hb dL_law_667 hl (by decide) rfl (fun ls hl => ?_)
  refine lv_aload_n hx hb dL_law_669 rfl (lv_at hl 4 rfl) ?_
  refine z_calli hI (z_V (As := []) (rest := []) ⟨hx, hb, hml, hown, hts⟩ hI hM2.1 rfl (c_X4_thrown l G B0 F2 σ2 th2 hM2) (z_cwV vX4_thrown hts q726 ⟨Nat.le_of_ble_eq_true rfl, Nat.le_of_ble_eq_true rfl⟩) rfl hl.1 rfl (lv_room (Nat.le_of_ble_eq_true rfl)) dL_law_670 ⟨by omega, by omega⟩) (fun r7 F3 H locs hp7 hI => ?_)
  obtain ⟨rfl, rfl⟩ := hp7
  refine lv_iload hx hb dL_law_673 (lv_at hl 1 rfl) ?_
  refine lv_icmp_eq (tgt := 680) hx hb dL_law_675 (by decide) (fun hq4 => ?_) (fun hq4 => ?_)
  · refine lv_iload hx hb dL_law_680 (lv_at hl 1 rfl) ?_
    refine lv_if_ne (tgt := 697) hx hb dL_law_682 (by decide) (fun hq5 => ?_) (fun hq5 => ?_)
    · have hno := zTh_n hz1 hq5
      refine lv_goto (tgt := 3367) hx hb dL_law_697 (by decide) ?_
      refine W.widen (k := cells + 40) (n := slots + 600) (by omega) (by omega) ?_
      exact kk _ _ _ _ _ _ (lv_sub hl [2, 3, 4, 5, 6, 7] rfl) (zLI_end hC1 ha1 hD1 hM2 hf2 ((hn2 hno).trans (hn1 hno).symm) (by rw [hn1 hno]; exact hW)) hI
    · have hok := zTh_0 hz1 hq5
      obtain ⟨hs1, hv1⟩ := hy1 hok
      obtain ⟨hs2, hv2⟩ := hy2 hok
      have hv : fo1 0 = r6.toInt64 := hv1.trans (congrArg Int32.toInt64 hv2.symm)
      refine lv_aload_n hx hb dL_law_685 rfl (lv_at hl 5 rfl) ?_
      refine lv_iconst (v := nI 0) hx hb dL_law_686 (by decide) ?_
      refine z_lld (k := 0) hx hb hI hb2 (by decide) (by decide) dL_law_687 ?_
      refine lv_iload hx hb dL_law_688 (lv_at hl 0 rfl) ?_
      refine lv_i2l hx hb dL_law_690 rfl ?_
      refine W.lcmp hx hb dL_law_691 ?_
      refine lv_if_eq (tgt := 697) hx hb dL_law_692 (by decide) (fun hq6 => ?_) (fun hq6 => ?_)
      · refine lv_goto (tgt := 3367) hx hb dL_law_697 (by decide) ?_
        refine W.widen (k := cells + 40) (n := slots + 600) (by omega) (by omega) ?_
        exact kk _ _ _ _ _ _ (lv_sub hl [2, 3, 4, 5, 6, 7] rfl) (zLI_end hC1 ha1 hD1 hM2 hf2 (hs2.trans hs1.symm) (by rw [hs1]; exact wk_remove hK hW hok.1 hok.2.1)) hI
      · exact absurd (by rw [hv]; exact lg_self) hq6
  · exact absurd (zTh_eq hz2 hz1) hq4

set_option maxHeartbeats 4000000 in
set_option maxRecDepth 100000 in
theorem w_cut {p : Program} {l : Launch} {e : Env} {s : State} {m : MethodId} {below : List Frame} {meth : Method} {c : Code} {b L B0 : Nat} {xs : Nat → Int32} {G : zK} {Q : State → Prop} {cells slots : Nat} {i : Nat} {ls : Array Slot} {H : Heap} {locs : List Loc} {F : zM} {σ : Sg} {th : Int32} (K : zCtx p s m c b L B0 xs) (hl0 : l.stackTraces = false) (hi : i + 5 ≤ L) (hRc : cells + 40 ≤ room_1.cells) (hRs : slots + 600 ≤ room_1.slots) (hl : lv_has ls 9 (zLv b B0 i)) (hJ : zLI G B0 F σ th) (hI : zI G B0 s H locs F)
    (kk : ∀ (ls : Array Slot) (H : Heap) (locs : List Loc) (F : zM) (σ : Sg) (th : Int32), lv_has ls 9 (zLv b B0 i) → zLI G B0 F σ th → zI G B0 s H locs F → W p l e room_1 s m #[Value.ref b] below meth c H locs (cells + 40) (slots + 600) Q (F0 m 3367 ls [])) : W p l e room_1 s m #[Value.ref b] below meth c H locs cells slots Q (F0 m 700 ls []) := by
  obtain ⟨hx, hb, hml, hown, hts, hX, hbB, hsz, hL⟩ := K
  obtain ⟨hC, hM, hW, ⟨fo, hO⟩, fd, hD⟩ := hJ
  have hK := hC.ok hW
  have hl : lv_has ls 9 [(0, .ref b), (1, .ref B0), (2, .ref (B0 + 23)), (3, .ref (B0 + 41)), (4, .ref (B0 + 42)), (5, .int (nI i))] := hl
  refine lv_aload_n hx hb dL_law_700 rfl (lv_at hl 1 rfl) ?_
  refine lv_aload_n hx hb dL_law_701 rfl (lv_at hl 0 rfl) ?_
  refine lv_iload hx hb dL_law_702 (lv_at hl 5 rfl) ?_
  refine lv_iconst (v := nI 1) hx hb dL_law_704 (by decide) ?_
  refine lv_iadd hx hb dL_law_705 ?_
  refine z_topi (nI_add i 1) ?_
  refine z_sld (k := i + 1) hx hb hI hX hbB hsz hL (by omega) dL_law_706 ?_
  refine lv_aload_n hx hb dL_law_707 rfl (lv_at hl 0 rfl) ?_
  refine lv_iload hx hb dL_law_708 (lv_at hl 5 rfl) ?_
  refine lv_iconst (v := nI 2) hx hb dL_law_710 (by decide) ?_
  refine lv_iadd hx hb dL_law_711 ?_
  refine z_topi (nI_add i 2) ?_
  refine z_sld (k := i + 2) hx hb hI hX hbB hsz hL (by omega) dL_law_712 ?_
  refine lv_aload_n hx hb dL_law_713 rfl (lv_at hl 0 rfl) ?_
  refine lv_iload hx hb dL_law_714 (lv_at hl 5 rfl) ?_
  refine lv_iconst (v := nI 3) hx hb dL_law_716 (by decide) ?_
  refine lv_iadd hx hb dL_law_717 ?_
  refine z_topi (nI_add i 3) ?_
  refine z_sld (k := i + 3) hx hb hI hX hbB hsz hL (by omega) dL_law_718 ?_
  refine lv_aload_n hx hb dL_law_719 rfl (lv_at hl 3 rfl) ?_
  refine z_calli hI (z_H (As := [.ref B0, .int (xs (i + 1)), .int (xs (i + 2)), .int (xs (i + 3)), .ref (B0 + 41)]) (rest := []) ⟨hx, hb, hml, hown, hts⟩ hI (c_L_cut l hl0 G B0 F σ (xs (i + 1)) (xs (i + 2)) (xs (i + 3)) fo hC hK hO) (z_cwH vL_cut hts q251 ⟨Nat.le_of_ble_eq_true rfl, Nat.le_of_ble_eq_true rfl⟩) rfl hl.1 rfl (lv_room (Nat.le_of_ble_eq_true rfl)) dL_law_720 ⟨by omega, by omega⟩) (fun r5 F1 H locs hp5 hI => ?_)
  obtain ⟨hz1, ⟨σ1, fo1, hC1, ha1, hy1, hn1⟩, hf1⟩ := hp5
  have hM1 : MS G B0 F1 σ th := hM.goB (fun q h1 h2 => hf1 q h1 (by omega))
  have hD1 := (hf1 (B0 + 42) (by omega) (by omega)).trans hD
  refine lv_istore (lv' := [(6, .int r5), (0, .ref b), (1, .ref B0), (2, .ref (B0 + 23)), (3, .ref (B0 + 41)), (4, .ref (B0 + 42)), (5, .int (nI i))]) hx hb dL_law_723 hl (by decide) rfl (fun ls hl => ?_)
  refine lv_aload_n hx hb dL_law_725 rfl (lv_at hl 3 rfl) ?_
  refine lv_aload_n hx hb dL_law_726 rfl (lv_at hl 1 rfl) ?_
  refine lv_iload hx hb dL_law_727 (lv_at hl 6 rfl) ?_
  refine lv_iconst (v := nI 1) hx hb dL_law_729 (by decide) ?_
  refine lv_iadd hx hb dL_law_730 ?_
  refine z_topi (nI_add i 1) ?_
  refine z_sld (k := i + 1) hx hb hI hX hbB hsz hL (by omega) dL_law_731 ?_
  refine lv_aload_n hx hb dL_law_732 rfl (lv_at hl 1 rfl) ?_
  refine lv_iload hx hb dL_law_733 (lv_at hl 6 rfl) ?_
  refine lv_iconst (v := nI 2) hx hb dL_law_735 (by decide) ?_
  refine lv_iadd hx hb dL_law_736 ?_
  refine z_topi (nI_add i 2) ?_
  refine z_sld (k := i + 2) hx hb hI hX hbB hsz hL (by omega) dL_law_737 ?_
  refine lv_aload_n hx hb dL_law_738 rfl (lv_at hl 1 rfl) ?_
  refine lv_iload hx hb dL_law_739 (lv_at hl 6 rfl) ?_
  refine lv_iconst (v := nI 3) hx hb dL_law_741 (by decide) ?_
  refine lv_iadd hx hb dL_law_742 ?_
  refine z_topi (nI_add i 3) ?_
  refine z_sld (k := i + 3) hx hb hI hX hbB hsz hL (by omega) dL_law_743 ?_
  refine z_calli hI (z_V (As := [.int (xs (i + 1)), .int (xs (i + 2)), .int (xs (i + 3))]) (rest := []) ⟨hx, hb, hml, hown, hts⟩ hI hM1.1 rfl (c_X4_cut l G B0 F1 σ th (xs (i + 1)) (xs (i + 2)) (xs (i + 3)) hM1 hK) (z_cwV vX4_cut hts q841 ⟨Nat.le_of_ble_eq_true rfl, Nat.le_of_ble_eq_true rfl⟩) rfl hl.1 rfl (lv_room (Nat.le_of_ble_eq_true rfl)) dL_law_744 ⟨by omega, by omega⟩) (fun r6 F2 H locs hp6 hI => ?_)
  obtain ⟨th2, σ2, hM2, hz2, hy2, hn2, hf2⟩ := hp6
  have hb2 := (hf2 (B0 + 41) (Or.inr (by omega))).trans ha1
  refine lv_istore (lv' := [(7, .int r6), (6, .int r5), (0, .ref b), (1, .ref B0), (2, .ref (B0 + 23)), (3, .ref (B0 + 41)), (4, .ref (B0 + 42)), (5, .int (nI i))]) hx hb dL_law_747 hl (by decide) rfl (fun ls hl => ?_)
  refine lv_aload_n hx hb dL_law_749 rfl (lv_at hl 4 rfl) ?_
  refine z_calli hI (z_V (As := []) (rest := []) ⟨hx, hb, hml, hown, hts⟩ hI hM2.1 rfl (c_X4_thrown l G B0 F2 σ2 th2 hM2) (z_cwV vX4_thrown hts q726 ⟨Nat.le_of_ble_eq_true rfl, Nat.le_of_ble_eq_true rfl⟩) rfl hl.1 rfl (lv_room (Nat.le_of_ble_eq_true rfl)) dL_law_750 ⟨by omega, by omega⟩) (fun r7 F3 H locs hp7 hI => ?_)
  obtain ⟨rfl, rfl⟩ := hp7
  refine lv_iload hx hb dL_law_753 (lv_at hl 1 rfl) ?_
  refine lv_icmp_eq (tgt := 760) hx hb dL_law_755 (by decide) (fun hq4 => ?_) (fun hq4 => ?_)
  · refine lv_iload hx hb dL_law_760 (lv_at hl 1 rfl) ?_
    refine lv_if_ne (tgt := 777) hx hb dL_law_762 (by decide) (fun hq5 => ?_) (fun hq5 => ?_)
    · have hno := zTh_n hz1 hq5
      refine lv_goto (tgt := 3367) hx hb dL_law_777 (by decide) ?_
      refine W.widen (k := cells + 40) (n := slots + 600) (by omega) (by omega) ?_
      exact kk _ _ _ _ _ _ (lv_sub hl [2, 3, 4, 5, 6, 7] rfl) (zLI_end hC1 ha1 hD1 hM2 hf2 ((hn2 hno).trans (hn1 hno).symm) (by rw [hn1 hno]; exact hW)) hI
    · have hok := zTh_0 hz1 hq5
      obtain ⟨hs1, hv1⟩ := hy1 hok
      obtain ⟨hs2, hv2⟩ := hy2 hok
      have hv : fo1 0 = r6.toInt64 := hv1.trans (congrArg Int32.toInt64 hv2.symm)
      refine lv_aload_n hx hb dL_law_765 rfl (lv_at hl 5 rfl) ?_
      refine lv_iconst (v := nI 0) hx hb dL_law_766 (by decide) ?_
      refine z_lld (k := 0) hx hb hI hb2 (by decide) (by decide) dL_law_767 ?_
      refine lv_iload hx hb dL_law_768 (lv_at hl 0 rfl) ?_
      refine lv_i2l hx hb dL_law_770 rfl ?_
      refine W.lcmp hx hb dL_law_771 ?_
      refine lv_if_eq (tgt := 777) hx hb dL_law_772 (by decide) (fun hq6 => ?_) (fun hq6 => ?_)
      · refine lv_goto (tgt := 3367) hx hb dL_law_777 (by decide) ?_
        refine W.widen (k := cells + 40) (n := slots + 600) (by omega) (by omega) ?_
        exact kk _ _ _ _ _ _ (lv_sub hl [2, 3, 4, 5, 6, 7] rfl) (zLI_end hC1 ha1 hD1 hM2 hf2 (hs2.trans hs1.symm) (by rw [hs1]; exact wk_cut hK hW hok.1 hok.2.1)) hI
      · exact absurd (by rw [hv]; exact lg_self) hq6
  · exact absurd (zTh_eq hz2 hz1) hq4

set_option maxHeartbeats 4000000 in
set_option maxRecDepth 100000 in
theorem w_size {p : Program} {l : Launch} {e : Env} {s : State} {m : MethodId} {below : List Frame} {meth : Method} {c : Code} {b L B0 : Nat} {xs : Nat → Int32} {G : zK} {Q : State → Prop} {cells slots : Nat} {i : Nat} {ls : Array Slot} {H : Heap} {locs : List Loc} {F : zM} {σ : Sg} {th : Int32} (K : zCtx p s m c b L B0 xs) (hl0 : l.stackTraces = false) (hi : i + 5 ≤ L) (hRc : cells + 40 ≤ room_1.cells) (hRs : slots + 600 ≤ room_1.slots) (hl : lv_has ls 9 (zLv b B0 i)) (hJ : zLI G B0 F σ th) (hI : zI G B0 s H locs F)
    (kk : ∀ (ls : Array Slot) (H : Heap) (locs : List Loc) (F : zM) (σ : Sg) (th : Int32), lv_has ls 9 (zLv b B0 i) → zLI G B0 F σ th → zI G B0 s H locs F → W p l e room_1 s m #[Value.ref b] below meth c H locs (cells + 40) (slots + 600) Q (F0 m 3367 ls [])) : W p l e room_1 s m #[Value.ref b] below meth c H locs cells slots Q (F0 m 780 ls []) := by
  obtain ⟨hx, hb, hml, hown, hts, hX, hbB, hsz, hL⟩ := K
  obtain ⟨hC, hM, hW, ⟨fo, hO⟩, fd, hD⟩ := hJ
  have hK := hC.ok hW
  have hl : lv_has ls 9 [(0, .ref b), (1, .ref B0), (2, .ref (B0 + 23)), (3, .ref (B0 + 41)), (4, .ref (B0 + 42)), (5, .int (nI i))] := hl
  refine lv_aload_n hx hb dL_law_780 rfl (lv_at hl 1 rfl) ?_
  refine lv_aload_n hx hb dL_law_781 rfl (lv_at hl 0 rfl) ?_
  refine lv_iload hx hb dL_law_782 (lv_at hl 5 rfl) ?_
  refine lv_iconst (v := nI 1) hx hb dL_law_784 (by decide) ?_
  refine lv_iadd hx hb dL_law_785 ?_
  refine z_topi (nI_add i 1) ?_
  refine z_sld (k := i + 1) hx hb hI hX hbB hsz hL (by omega) dL_law_786 ?_
  refine lv_aload_n hx hb dL_law_787 rfl (lv_at hl 3 rfl) ?_
  refine z_calli hI (z_H (As := [.ref B0, .int (xs (i + 1)), .ref (B0 + 41)]) (rest := []) ⟨hx, hb, hml, hown, hts⟩ hI (c_L_size l hl0 G B0 F σ (xs (i + 1)) fo hC hK hO) (z_cwH vL_size hts q258 ⟨Nat.le_of_ble_eq_true rfl, Nat.le_of_ble_eq_true rfl⟩) rfl hl.1 rfl (lv_room (Nat.le_of_ble_eq_true rfl)) dL_law_788 ⟨by omega, by omega⟩) (fun r5 F1 H locs hp5 hI => ?_)
  obtain ⟨hz1, ⟨σ1, fo1, hC1, ha1, hy1, hn1⟩, hf1⟩ := hp5
  have hM1 : MS G B0 F1 σ th := hM.goB (fun q h1 h2 => hf1 q h1 (by omega))
  have hD1 := (hf1 (B0 + 42) (by omega) (by omega)).trans hD
  refine lv_istore (lv' := [(6, .int r5), (0, .ref b), (1, .ref B0), (2, .ref (B0 + 23)), (3, .ref (B0 + 41)), (4, .ref (B0 + 42)), (5, .int (nI i))]) hx hb dL_law_791 hl (by decide) rfl (fun ls hl => ?_)
  refine lv_aload_n hx hb dL_law_793 rfl (lv_at hl 3 rfl) ?_
  refine lv_aload_n hx hb dL_law_794 rfl (lv_at hl 1 rfl) ?_
  refine lv_iload hx hb dL_law_795 (lv_at hl 6 rfl) ?_
  refine lv_iconst (v := nI 1) hx hb dL_law_797 (by decide) ?_
  refine lv_iadd hx hb dL_law_798 ?_
  refine z_topi (nI_add i 1) ?_
  refine z_sld (k := i + 1) hx hb hI hX hbB hsz hL (by omega) dL_law_799 ?_
  refine z_calli hI (z_V (As := [.int (xs (i + 1))]) (rest := []) ⟨hx, hb, hml, hown, hts⟩ hI hM1.1 rfl (c_X4_size l G B0 F1 σ th (xs (i + 1)) hM1 hK) (z_cwV vX4_size hts q845 ⟨Nat.le_of_ble_eq_true rfl, Nat.le_of_ble_eq_true rfl⟩) rfl hl.1 rfl (lv_room (Nat.le_of_ble_eq_true rfl)) dL_law_800 ⟨by omega, by omega⟩) (fun r6 F2 H locs hp6 hI => ?_)
  obtain ⟨th2, σ2, hM2, hz2, hy2, hn2, hf2⟩ := hp6
  have hb2 := (hf2 (B0 + 41) (Or.inr (by omega))).trans ha1
  refine lv_istore (lv' := [(7, .int r6), (6, .int r5), (0, .ref b), (1, .ref B0), (2, .ref (B0 + 23)), (3, .ref (B0 + 41)), (4, .ref (B0 + 42)), (5, .int (nI i))]) hx hb dL_law_803 hl (by decide) rfl (fun ls hl => ?_)
  refine lv_aload_n hx hb dL_law_805 rfl (lv_at hl 4 rfl) ?_
  refine z_calli hI (z_V (As := []) (rest := []) ⟨hx, hb, hml, hown, hts⟩ hI hM2.1 rfl (c_X4_thrown l G B0 F2 σ2 th2 hM2) (z_cwV vX4_thrown hts q726 ⟨Nat.le_of_ble_eq_true rfl, Nat.le_of_ble_eq_true rfl⟩) rfl hl.1 rfl (lv_room (Nat.le_of_ble_eq_true rfl)) dL_law_806 ⟨by omega, by omega⟩) (fun r7 F3 H locs hp7 hI => ?_)
  obtain ⟨rfl, rfl⟩ := hp7
  refine lv_iload hx hb dL_law_809 (lv_at hl 1 rfl) ?_
  refine lv_icmp_eq (tgt := 816) hx hb dL_law_811 (by decide) (fun hq4 => ?_) (fun hq4 => ?_)
  · refine lv_iload hx hb dL_law_816 (lv_at hl 1 rfl) ?_
    refine lv_if_ne (tgt := 833) hx hb dL_law_818 (by decide) (fun hq5 => ?_) (fun hq5 => ?_)
    · have hno := zTh_n hz1 hq5
      refine lv_goto (tgt := 3367) hx hb dL_law_833 (by decide) ?_
      refine W.widen (k := cells + 40) (n := slots + 600) (by omega) (by omega) ?_
      exact kk _ _ _ _ _ _ (lv_sub hl [2, 3, 4, 5, 6, 7] rfl) (zLI_end hC1 ha1 hD1 hM2 hf2 ((hn2 hno).trans (hn1 hno).symm) (by rw [hn1 hno]; exact hW)) hI
    · have hok := zTh_0 hz1 hq5
      obtain ⟨hs1, hv1⟩ := hy1 hok
      obtain ⟨hs2, hv2⟩ := hy2 hok
      have hv : fo1 0 = r6.toInt64 := hv1.trans (congrArg Int32.toInt64 hv2.symm)
      refine lv_aload_n hx hb dL_law_821 rfl (lv_at hl 5 rfl) ?_
      refine lv_iconst (v := nI 0) hx hb dL_law_822 (by decide) ?_
      refine z_lld (k := 0) hx hb hI hb2 (by decide) (by decide) dL_law_823 ?_
      refine lv_iload hx hb dL_law_824 (lv_at hl 0 rfl) ?_
      refine lv_i2l hx hb dL_law_826 rfl ?_
      refine W.lcmp hx hb dL_law_827 ?_
      refine lv_if_eq (tgt := 833) hx hb dL_law_828 (by decide) (fun hq6 => ?_) (fun hq6 => ?_)
      · refine lv_goto (tgt := 3367) hx hb dL_law_833 (by decide) ?_
        refine W.widen (k := cells + 40) (n := slots + 600) (by omega) (by omega) ?_
        exact kk _ _ _ _ _ _ (lv_sub hl [2, 3, 4, 5, 6, 7] rfl) (zLI_end hC1 ha1 hD1 hM2 hf2 (hs2.trans hs1.symm) (by rw [hs1]; exact wk_size hK hW hok.1 hok.2.1)) hI
      · exact absurd (by rw [hv]; exact lg_self) hq6
  · exact absurd (zTh_eq hz2 hz1) hq4

set_option maxHeartbeats 4000000 in
set_option maxRecDepth 100000 in
theorem w_at {p : Program} {l : Launch} {e : Env} {s : State} {m : MethodId} {below : List Frame} {meth : Method} {c : Code} {b L B0 : Nat} {xs : Nat → Int32} {G : zK} {Q : State → Prop} {cells slots : Nat} {i : Nat} {ls : Array Slot} {H : Heap} {locs : List Loc} {F : zM} {σ : Sg} {th : Int32} (K : zCtx p s m c b L B0 xs) (hl0 : l.stackTraces = false) (hi : i + 5 ≤ L) (hRc : cells + 40 ≤ room_1.cells) (hRs : slots + 600 ≤ room_1.slots) (hl : lv_has ls 9 (zLv b B0 i)) (hJ : zLI G B0 F σ th) (hI : zI G B0 s H locs F)
    (kk : ∀ (ls : Array Slot) (H : Heap) (locs : List Loc) (F : zM) (σ : Sg) (th : Int32), lv_has ls 9 (zLv b B0 i) → zLI G B0 F σ th → zI G B0 s H locs F → W p l e room_1 s m #[Value.ref b] below meth c H locs (cells + 40) (slots + 600) Q (F0 m 3367 ls [])) : W p l e room_1 s m #[Value.ref b] below meth c H locs cells slots Q (F0 m 836 ls []) := by
  obtain ⟨hx, hb, hml, hown, hts, hX, hbB, hsz, hL⟩ := K
  obtain ⟨hC, hM, hW, ⟨fo, hO⟩, fd, hD⟩ := hJ
  have hK := hC.ok hW
  have hl : lv_has ls 9 [(0, .ref b), (1, .ref B0), (2, .ref (B0 + 23)), (3, .ref (B0 + 41)), (4, .ref (B0 + 42)), (5, .int (nI i))] := hl
  refine lv_aload_n hx hb dL_law_836 rfl (lv_at hl 1 rfl) ?_
  refine lv_aload_n hx hb dL_law_837 rfl (lv_at hl 0 rfl) ?_
  refine lv_iload hx hb dL_law_838 (lv_at hl 5 rfl) ?_
  refine lv_iconst (v := nI 1) hx hb dL_law_840 (by decide) ?_
  refine lv_iadd hx hb dL_law_841 ?_
  refine z_topi (nI_add i 1) ?_
  refine z_sld (k := i + 1) hx hb hI hX hbB hsz hL (by omega) dL_law_842 ?_
  refine lv_aload_n hx hb dL_law_843 rfl (lv_at hl 0 rfl) ?_
  refine lv_iload hx hb dL_law_844 (lv_at hl 5 rfl) ?_
  refine lv_iconst (v := nI 2) hx hb dL_law_846 (by decide) ?_
  refine lv_iadd hx hb dL_law_847 ?_
  refine z_topi (nI_add i 2) ?_
  refine z_sld (k := i + 2) hx hb hI hX hbB hsz hL (by omega) dL_law_848 ?_
  refine lv_aload_n hx hb dL_law_849 rfl (lv_at hl 3 rfl) ?_
  refine z_calli hI (z_H (As := [.ref B0, .int (xs (i + 1)), .int (xs (i + 2)), .ref (B0 + 41)]) (rest := []) ⟨hx, hb, hml, hown, hts⟩ hI (c_L_at l hl0 G B0 F σ (xs (i + 1)) (xs (i + 2)) fo hC hK hO) (z_cwH vL_at hts q265 ⟨Nat.le_of_ble_eq_true rfl, Nat.le_of_ble_eq_true rfl⟩) rfl hl.1 rfl (lv_room (Nat.le_of_ble_eq_true rfl)) dL_law_850 ⟨by omega, by omega⟩) (fun r5 F1 H locs hp5 hI => ?_)
  obtain ⟨hz1, ⟨σ1, fo1, hC1, ha1, hy1, hn1⟩, hf1⟩ := hp5
  have hM1 : MS G B0 F1 σ th := hM.goB (fun q h1 h2 => hf1 q h1 (by omega))
  have hD1 := (hf1 (B0 + 42) (by omega) (by omega)).trans hD
  refine lv_istore (lv' := [(6, .int r5), (0, .ref b), (1, .ref B0), (2, .ref (B0 + 23)), (3, .ref (B0 + 41)), (4, .ref (B0 + 42)), (5, .int (nI i))]) hx hb dL_law_853 hl (by decide) rfl (fun ls hl => ?_)
  refine lv_aload_n hx hb dL_law_855 rfl (lv_at hl 3 rfl) ?_
  refine lv_aload_n hx hb dL_law_856 rfl (lv_at hl 1 rfl) ?_
  refine lv_iload hx hb dL_law_857 (lv_at hl 6 rfl) ?_
  refine lv_iconst (v := nI 1) hx hb dL_law_859 (by decide) ?_
  refine lv_iadd hx hb dL_law_860 ?_
  refine z_topi (nI_add i 1) ?_
  refine z_sld (k := i + 1) hx hb hI hX hbB hsz hL (by omega) dL_law_861 ?_
  refine lv_aload_n hx hb dL_law_862 rfl (lv_at hl 1 rfl) ?_
  refine lv_iload hx hb dL_law_863 (lv_at hl 6 rfl) ?_
  refine lv_iconst (v := nI 2) hx hb dL_law_865 (by decide) ?_
  refine lv_iadd hx hb dL_law_866 ?_
  refine z_topi (nI_add i 2) ?_
  refine z_sld (k := i + 2) hx hb hI hX hbB hsz hL (by omega) dL_law_867 ?_
  refine z_calli hI (z_V (As := [.int (xs (i + 1)), .int (xs (i + 2))]) (rest := []) ⟨hx, hb, hml, hown, hts⟩ hI hM1.1 rfl (c_X4_at l G B0 F1 σ th (xs (i + 1)) (xs (i + 2)) hM1 hK) (z_cwV vX4_at hts q849 ⟨Nat.le_of_ble_eq_true rfl, Nat.le_of_ble_eq_true rfl⟩) rfl hl.1 rfl (lv_room (Nat.le_of_ble_eq_true rfl)) dL_law_868 ⟨by omega, by omega⟩) (fun r6 F2 H locs hp6 hI => ?_)
  obtain ⟨th2, σ2, hM2, hz2, hy2, hn2, hf2⟩ := hp6
  have hb2 := (hf2 (B0 + 41) (Or.inr (by omega))).trans ha1
  refine lv_istore (lv' := [(7, .int r6), (6, .int r5), (0, .ref b), (1, .ref B0), (2, .ref (B0 + 23)), (3, .ref (B0 + 41)), (4, .ref (B0 + 42)), (5, .int (nI i))]) hx hb dL_law_871 hl (by decide) rfl (fun ls hl => ?_)
  refine lv_aload_n hx hb dL_law_873 rfl (lv_at hl 4 rfl) ?_
  refine z_calli hI (z_V (As := []) (rest := []) ⟨hx, hb, hml, hown, hts⟩ hI hM2.1 rfl (c_X4_thrown l G B0 F2 σ2 th2 hM2) (z_cwV vX4_thrown hts q726 ⟨Nat.le_of_ble_eq_true rfl, Nat.le_of_ble_eq_true rfl⟩) rfl hl.1 rfl (lv_room (Nat.le_of_ble_eq_true rfl)) dL_law_874 ⟨by omega, by omega⟩) (fun r7 F3 H locs hp7 hI => ?_)
  obtain ⟨rfl, rfl⟩ := hp7
  refine lv_iload hx hb dL_law_877 (lv_at hl 1 rfl) ?_
  refine lv_icmp_eq (tgt := 884) hx hb dL_law_879 (by decide) (fun hq4 => ?_) (fun hq4 => ?_)
  · refine lv_iload hx hb dL_law_884 (lv_at hl 1 rfl) ?_
    refine lv_if_ne (tgt := 901) hx hb dL_law_886 (by decide) (fun hq5 => ?_) (fun hq5 => ?_)
    · have hno := zTh_n hz1 hq5
      refine lv_goto (tgt := 3367) hx hb dL_law_901 (by decide) ?_
      refine W.widen (k := cells + 40) (n := slots + 600) (by omega) (by omega) ?_
      exact kk _ _ _ _ _ _ (lv_sub hl [2, 3, 4, 5, 6, 7] rfl) (zLI_end hC1 ha1 hD1 hM2 hf2 ((hn2 hno).trans (hn1 hno).symm) (by rw [hn1 hno]; exact hW)) hI
    · have hok := zTh_0 hz1 hq5
      obtain ⟨hs1, hv1⟩ := hy1 hok
      obtain ⟨hs2, hv2⟩ := hy2 hok
      have hv : fo1 0 = r6.toInt64 := hv1.trans (congrArg Int32.toInt64 hv2.symm)
      refine lv_aload_n hx hb dL_law_889 rfl (lv_at hl 5 rfl) ?_
      refine lv_iconst (v := nI 0) hx hb dL_law_890 (by decide) ?_
      refine z_lld (k := 0) hx hb hI hb2 (by decide) (by decide) dL_law_891 ?_
      refine lv_iload hx hb dL_law_892 (lv_at hl 0 rfl) ?_
      refine lv_i2l hx hb dL_law_894 rfl ?_
      refine W.lcmp hx hb dL_law_895 ?_
      refine lv_if_eq (tgt := 901) hx hb dL_law_896 (by decide) (fun hq6 => ?_) (fun hq6 => ?_)
      · refine lv_goto (tgt := 3367) hx hb dL_law_901 (by decide) ?_
        refine W.widen (k := cells + 40) (n := slots + 600) (by omega) (by omega) ?_
        exact kk _ _ _ _ _ _ (lv_sub hl [2, 3, 4, 5, 6, 7] rfl) (zLI_end hC1 ha1 hD1 hM2 hf2 (hs2.trans hs1.symm) (by rw [hs1]; exact wk_at hK hW hok.1 hok.2.1)) hI
      · exact absurd (by rw [hv]; exact lg_self) hq6
  · exact absurd (zTh_eq hz2 hz1) hq4

set_option maxHeartbeats 4000000 in
set_option maxRecDepth 100000 in
theorem w_digest {p : Program} {l : Launch} {e : Env} {s : State} {m : MethodId} {below : List Frame} {meth : Method} {c : Code} {b L B0 : Nat} {xs : Nat → Int32} {G : zK} {Q : State → Prop} {cells slots : Nat} {i : Nat} {ls : Array Slot} {H : Heap} {locs : List Loc} {F : zM} {σ : Sg} {th : Int32} (K : zCtx p s m c b L B0 xs) (hl0 : l.stackTraces = false) (hi : i + 5 ≤ L) (hRc : cells + 40 ≤ room_1.cells) (hRs : slots + 600 ≤ room_1.slots) (hl : lv_has ls 9 (zLv b B0 i)) (hJ : zLI G B0 F σ th) (hI : zI G B0 s H locs F)
    (kk : ∀ (ls : Array Slot) (H : Heap) (locs : List Loc) (F : zM) (σ : Sg) (th : Int32), lv_has ls 9 (zLv b B0 i) → zLI G B0 F σ th → zI G B0 s H locs F → W p l e room_1 s m #[Value.ref b] below meth c H locs (cells + 40) (slots + 600) Q (F0 m 3367 ls [])) : W p l e room_1 s m #[Value.ref b] below meth c H locs cells slots Q (F0 m 904 ls []) := by
  obtain ⟨hx, hb, hml, hown, hts, hX, hbB, hsz, hL⟩ := K
  obtain ⟨hC, hM, hW, ⟨fo, hO⟩, fd, hD⟩ := hJ
  have hK := hC.ok hW
  have hl : lv_has ls 9 [(0, .ref b), (1, .ref B0), (2, .ref (B0 + 23)), (3, .ref (B0 + 41)), (4, .ref (B0 + 42)), (5, .int (nI i))] := hl
  refine lv_aload_n hx hb dL_law_904 rfl (lv_at hl 1 rfl) ?_
  refine lv_aload_n hx hb dL_law_905 rfl (lv_at hl 0 rfl) ?_
  refine lv_iload hx hb dL_law_906 (lv_at hl 5 rfl) ?_
  refine lv_iconst (v := nI 1) hx hb dL_law_908 (by decide) ?_
  refine lv_iadd hx hb dL_law_909 ?_
  refine z_topi (nI_add i 1) ?_
  refine z_sld (k := i + 1) hx hb hI hX hbB hsz hL (by omega) dL_law_910 ?_
  refine lv_aload_n hx hb dL_law_911 rfl (lv_at hl 3 rfl) ?_
  refine z_calli hI (z_H (As := [.ref B0, .int (xs (i + 1)), .ref (B0 + 41)]) (rest := []) ⟨hx, hb, hml, hown, hts⟩ hI (c_L_digest l hl0 G B0 F σ (xs (i + 1)) fo hC hK hO) (z_cwH vL_digest hts q272 ⟨Nat.le_of_ble_eq_true rfl, Nat.le_of_ble_eq_true rfl⟩) rfl hl.1 rfl (lv_room (Nat.le_of_ble_eq_true rfl)) dL_law_912 ⟨by omega, by omega⟩) (fun r5 F1 H locs hp5 hI => ?_)
  obtain ⟨hz1, ⟨σ1, fo1, hC1, ha1, hy1, hn1⟩, hf1⟩ := hp5
  have hM1 : MS G B0 F1 σ th := hM.goB (fun q h1 h2 => hf1 q h1 (by omega))
  have hD1 := (hf1 (B0 + 42) (by omega) (by omega)).trans hD
  refine lv_istore (lv' := [(6, .int r5), (0, .ref b), (1, .ref B0), (2, .ref (B0 + 23)), (3, .ref (B0 + 41)), (4, .ref (B0 + 42)), (5, .int (nI i))]) hx hb dL_law_915 hl (by decide) rfl (fun ls hl => ?_)
  refine lv_aload_n hx hb dL_law_917 rfl (lv_at hl 3 rfl) ?_
  refine lv_aload_n hx hb dL_law_918 rfl (lv_at hl 1 rfl) ?_
  refine lv_iload hx hb dL_law_919 (lv_at hl 6 rfl) ?_
  refine lv_iconst (v := nI 1) hx hb dL_law_921 (by decide) ?_
  refine lv_iadd hx hb dL_law_922 ?_
  refine z_topi (nI_add i 1) ?_
  refine z_sld (k := i + 1) hx hb hI hX hbB hsz hL (by omega) dL_law_923 ?_
  refine z_calli hI (z_V (As := [.int (xs (i + 1))]) (rest := []) ⟨hx, hb, hml, hown, hts⟩ hI hM1.1 rfl (c_X4_digest l G B0 F1 σ th (xs (i + 1)) hM1 hK) (z_cwV vX4_digest hts q853 ⟨Nat.le_of_ble_eq_true rfl, Nat.le_of_ble_eq_true rfl⟩) rfl hl.1 rfl (lv_room (Nat.le_of_ble_eq_true rfl)) dL_law_924 ⟨by omega, by omega⟩) (fun r6 F2 H locs hp6 hI => ?_)
  obtain ⟨th2, σ2, hM2, hz2, hy2, hn2, hf2⟩ := hp6
  have hb2 := (hf2 (B0 + 41) (Or.inr (by omega))).trans ha1
  refine lv_istore (lv' := [(7, .int r6), (6, .int r5), (0, .ref b), (1, .ref B0), (2, .ref (B0 + 23)), (3, .ref (B0 + 41)), (4, .ref (B0 + 42)), (5, .int (nI i))]) hx hb dL_law_927 hl (by decide) rfl (fun ls hl => ?_)
  refine lv_aload_n hx hb dL_law_929 rfl (lv_at hl 4 rfl) ?_
  refine z_calli hI (z_V (As := []) (rest := []) ⟨hx, hb, hml, hown, hts⟩ hI hM2.1 rfl (c_X4_thrown l G B0 F2 σ2 th2 hM2) (z_cwV vX4_thrown hts q726 ⟨Nat.le_of_ble_eq_true rfl, Nat.le_of_ble_eq_true rfl⟩) rfl hl.1 rfl (lv_room (Nat.le_of_ble_eq_true rfl)) dL_law_930 ⟨by omega, by omega⟩) (fun r7 F3 H locs hp7 hI => ?_)
  obtain ⟨rfl, rfl⟩ := hp7
  refine lv_iload hx hb dL_law_933 (lv_at hl 1 rfl) ?_
  refine lv_icmp_eq (tgt := 940) hx hb dL_law_935 (by decide) (fun hq4 => ?_) (fun hq4 => ?_)
  · refine lv_iload hx hb dL_law_940 (lv_at hl 1 rfl) ?_
    refine lv_if_ne (tgt := 957) hx hb dL_law_942 (by decide) (fun hq5 => ?_) (fun hq5 => ?_)
    · have hno := zTh_n hz1 hq5
      refine lv_goto (tgt := 3367) hx hb dL_law_957 (by decide) ?_
      refine W.widen (k := cells + 40) (n := slots + 600) (by omega) (by omega) ?_
      exact kk _ _ _ _ _ _ (lv_sub hl [2, 3, 4, 5, 6, 7] rfl) (zLI_end hC1 ha1 hD1 hM2 hf2 ((hn2 hno).trans (hn1 hno).symm) (by rw [hn1 hno]; exact hW)) hI
    · have hok := zTh_0 hz1 hq5
      obtain ⟨hs1, hv1⟩ := hy1 hok
      obtain ⟨hs2, hv2⟩ := hy2 hok
      have hv : fo1 0 = r6.toInt64 := hv1.trans (congrArg Int32.toInt64 hv2.symm)
      refine lv_aload_n hx hb dL_law_945 rfl (lv_at hl 5 rfl) ?_
      refine lv_iconst (v := nI 0) hx hb dL_law_946 (by decide) ?_
      refine z_lld (k := 0) hx hb hI hb2 (by decide) (by decide) dL_law_947 ?_
      refine lv_iload hx hb dL_law_948 (lv_at hl 0 rfl) ?_
      refine lv_i2l hx hb dL_law_950 rfl ?_
      refine W.lcmp hx hb dL_law_951 ?_
      refine lv_if_eq (tgt := 957) hx hb dL_law_952 (by decide) (fun hq6 => ?_) (fun hq6 => ?_)
      · refine lv_goto (tgt := 3367) hx hb dL_law_957 (by decide) ?_
        refine W.widen (k := cells + 40) (n := slots + 600) (by omega) (by omega) ?_
        exact kk _ _ _ _ _ _ (lv_sub hl [2, 3, 4, 5, 6, 7] rfl) (zLI_end hC1 ha1 hD1 hM2 hf2 (hs2.trans hs1.symm) (by rw [hs1]; exact wk_digest hK hW hok.1 hok.2.1)) hI
      · exact absurd (by rw [hv]; exact lg_self) hq6
  · exact absurd (zTh_eq hz2 hz1) hq4

set_option maxHeartbeats 4000000 in
set_option maxRecDepth 100000 in
theorem w_setRank {p : Program} {l : Launch} {e : Env} {s : State} {m : MethodId} {below : List Frame} {meth : Method} {c : Code} {b L B0 : Nat} {xs : Nat → Int32} {G : zK} {Q : State → Prop} {cells slots : Nat} {i : Nat} {ls : Array Slot} {H : Heap} {locs : List Loc} {F : zM} {σ : Sg} {th : Int32} (K : zCtx p s m c b L B0 xs) (hl0 : l.stackTraces = false) (hi : i + 5 ≤ L) (hRc : cells + 40 ≤ room_1.cells) (hRs : slots + 600 ≤ room_1.slots) (hl : lv_has ls 9 (zLv b B0 i)) (hJ : zLI G B0 F σ th) (hI : zI G B0 s H locs F)
    (kk : ∀ (ls : Array Slot) (H : Heap) (locs : List Loc) (F : zM) (σ : Sg) (th : Int32), lv_has ls 9 (zLv b B0 i) → zLI G B0 F σ th → zI G B0 s H locs F → W p l e room_1 s m #[Value.ref b] below meth c H locs (cells + 40) (slots + 600) Q (F0 m 3367 ls [])) : W p l e room_1 s m #[Value.ref b] below meth c H locs cells slots Q (F0 m 960 ls []) := by
  obtain ⟨hx, hb, hml, hown, hts, hX, hbB, hsz, hL⟩ := K
  obtain ⟨hC, hM, hW, ⟨fo, hO⟩, fd, hD⟩ := hJ
  have hK := hC.ok hW
  have hl : lv_has ls 9 [(0, .ref b), (1, .ref B0), (2, .ref (B0 + 23)), (3, .ref (B0 + 41)), (4, .ref (B0 + 42)), (5, .int (nI i))] := hl
  refine lv_aload_n hx hb dL_law_960 rfl (lv_at hl 1 rfl) ?_
  refine lv_aload_n hx hb dL_law_961 rfl (lv_at hl 0 rfl) ?_
  refine lv_iload hx hb dL_law_962 (lv_at hl 5 rfl) ?_
  refine lv_iconst (v := nI 1) hx hb dL_law_964 (by decide) ?_
  refine lv_iadd hx hb dL_law_965 ?_
  refine z_topi (nI_add i 1) ?_
  refine z_sld (k := i + 1) hx hb hI hX hbB hsz hL (by omega) dL_law_966 ?_
  refine lv_aload_n hx hb dL_law_967 rfl (lv_at hl 0 rfl) ?_
  refine lv_iload hx hb dL_law_968 (lv_at hl 5 rfl) ?_
  refine lv_iconst (v := nI 2) hx hb dL_law_970 (by decide) ?_
  refine lv_iadd hx hb dL_law_971 ?_
  refine z_topi (nI_add i 2) ?_
  refine z_sld (k := i + 2) hx hb hI hX hbB hsz hL (by omega) dL_law_972 ?_
  refine lv_aload_n hx hb dL_law_973 rfl (lv_at hl 3 rfl) ?_
  refine z_calli hI (z_H (As := [.ref B0, .int (xs (i + 1)), .int (xs (i + 2)), .ref (B0 + 41)]) (rest := []) ⟨hx, hb, hml, hown, hts⟩ hI (c_L_setRank l hl0 G B0 F σ (xs (i + 1)) (xs (i + 2)) fo hC hK hO) (z_cwH vL_setRank hts q279 ⟨Nat.le_of_ble_eq_true rfl, Nat.le_of_ble_eq_true rfl⟩) rfl hl.1 rfl (lv_room (Nat.le_of_ble_eq_true rfl)) dL_law_974 ⟨by omega, by omega⟩) (fun r5 F1 H locs hp5 hI => ?_)
  obtain ⟨hz1, ⟨σ1, fo1, hC1, ha1, hy1, hn1⟩, hf1⟩ := hp5
  have hM1 : MS G B0 F1 σ th := hM.goB (fun q h1 h2 => hf1 q h1 (by omega))
  have hD1 := (hf1 (B0 + 42) (by omega) (by omega)).trans hD
  refine lv_istore (lv' := [(6, .int r5), (0, .ref b), (1, .ref B0), (2, .ref (B0 + 23)), (3, .ref (B0 + 41)), (4, .ref (B0 + 42)), (5, .int (nI i))]) hx hb dL_law_977 hl (by decide) rfl (fun ls hl => ?_)
  refine lv_aload_n hx hb dL_law_979 rfl (lv_at hl 3 rfl) ?_
  refine lv_aload_n hx hb dL_law_980 rfl (lv_at hl 1 rfl) ?_
  refine lv_iload hx hb dL_law_981 (lv_at hl 6 rfl) ?_
  refine lv_iconst (v := nI 1) hx hb dL_law_983 (by decide) ?_
  refine lv_iadd hx hb dL_law_984 ?_
  refine z_topi (nI_add i 1) ?_
  refine z_sld (k := i + 1) hx hb hI hX hbB hsz hL (by omega) dL_law_985 ?_
  refine lv_aload_n hx hb dL_law_986 rfl (lv_at hl 1 rfl) ?_
  refine lv_iload hx hb dL_law_987 (lv_at hl 6 rfl) ?_
  refine lv_iconst (v := nI 2) hx hb dL_law_989 (by decide) ?_
  refine lv_iadd hx hb dL_law_990 ?_
  refine z_topi (nI_add i 2) ?_
  refine z_sld (k := i + 2) hx hb hI hX hbB hsz hL (by omega) dL_law_991 ?_
  refine z_calli hI (z_V (As := [.int (xs (i + 1)), .int (xs (i + 2))]) (rest := []) ⟨hx, hb, hml, hown, hts⟩ hI hM1.1 rfl (c_X4_setRank l G B0 F1 σ th (xs (i + 1)) (xs (i + 2)) hM1 hK) (z_cwV vX4_setRank hts q857 ⟨Nat.le_of_ble_eq_true rfl, Nat.le_of_ble_eq_true rfl⟩) rfl hl.1 rfl (lv_room (Nat.le_of_ble_eq_true rfl)) dL_law_992 ⟨by omega, by omega⟩) (fun r6 F2 H locs hp6 hI => ?_)
  obtain ⟨th2, σ2, hM2, hz2, hy2, hn2, hf2⟩ := hp6
  have hb2 := (hf2 (B0 + 41) (Or.inr (by omega))).trans ha1
  refine lv_istore (lv' := [(7, .int r6), (6, .int r5), (0, .ref b), (1, .ref B0), (2, .ref (B0 + 23)), (3, .ref (B0 + 41)), (4, .ref (B0 + 42)), (5, .int (nI i))]) hx hb dL_law_995 hl (by decide) rfl (fun ls hl => ?_)
  refine lv_aload_n hx hb dL_law_997 rfl (lv_at hl 4 rfl) ?_
  refine z_calli hI (z_V (As := []) (rest := []) ⟨hx, hb, hml, hown, hts⟩ hI hM2.1 rfl (c_X4_thrown l G B0 F2 σ2 th2 hM2) (z_cwV vX4_thrown hts q726 ⟨Nat.le_of_ble_eq_true rfl, Nat.le_of_ble_eq_true rfl⟩) rfl hl.1 rfl (lv_room (Nat.le_of_ble_eq_true rfl)) dL_law_998 ⟨by omega, by omega⟩) (fun r7 F3 H locs hp7 hI => ?_)
  obtain ⟨rfl, rfl⟩ := hp7
  refine lv_iload hx hb dL_law_1001 (lv_at hl 1 rfl) ?_
  refine lv_icmp_eq (tgt := 1008) hx hb dL_law_1003 (by decide) (fun hq4 => ?_) (fun hq4 => ?_)
  · refine lv_iload hx hb dL_law_1008 (lv_at hl 1 rfl) ?_
    refine lv_if_ne (tgt := 1025) hx hb dL_law_1010 (by decide) (fun hq5 => ?_) (fun hq5 => ?_)
    · have hno := zTh_n hz1 hq5
      refine lv_goto (tgt := 3367) hx hb dL_law_1025 (by decide) ?_
      refine W.widen (k := cells + 40) (n := slots + 600) (by omega) (by omega) ?_
      exact kk _ _ _ _ _ _ (lv_sub hl [2, 3, 4, 5, 6, 7] rfl) (zLI_end hC1 ha1 hD1 hM2 hf2 ((hn2 hno).trans (hn1 hno).symm) (by rw [hn1 hno]; exact hW)) hI
    · have hok := zTh_0 hz1 hq5
      obtain ⟨hs1, hv1⟩ := hy1 hok
      obtain ⟨hs2, hv2⟩ := hy2 hok
      have hv : fo1 0 = r6.toInt64 := hv1.trans (congrArg Int32.toInt64 hv2.symm)
      refine lv_aload_n hx hb dL_law_1013 rfl (lv_at hl 5 rfl) ?_
      refine lv_iconst (v := nI 0) hx hb dL_law_1014 (by decide) ?_
      refine z_lld (k := 0) hx hb hI hb2 (by decide) (by decide) dL_law_1015 ?_
      refine lv_iload hx hb dL_law_1016 (lv_at hl 0 rfl) ?_
      refine lv_i2l hx hb dL_law_1018 rfl ?_
      refine W.lcmp hx hb dL_law_1019 ?_
      refine lv_if_eq (tgt := 1025) hx hb dL_law_1020 (by decide) (fun hq6 => ?_) (fun hq6 => ?_)
      · refine lv_goto (tgt := 3367) hx hb dL_law_1025 (by decide) ?_
        refine W.widen (k := cells + 40) (n := slots + 600) (by omega) (by omega) ?_
        exact kk _ _ _ _ _ _ (lv_sub hl [2, 3, 4, 5, 6, 7] rfl) (zLI_end hC1 ha1 hD1 hM2 hf2 (hs2.trans hs1.symm) (by rw [hs1]; exact wk_setRank hK hW hok.1 hok.2.1)) hI
      · exact absurd (by rw [hv]; exact lg_self) hq6
  · exact absurd (zTh_eq hz2 hz1) hq4

