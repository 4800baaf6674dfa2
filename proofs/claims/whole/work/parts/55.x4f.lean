theorem srr_n {ρ : Nat → Int32} {o w : Int32} {t : Nat → Int32} {n k a : Nat} (hk : n ≤ k ∧ k ≤ n) (ha : a = zct (fun j => kv ρ o (t j) < kv ρ o w) k) (h : ∀ j, j < k → ¬ kv ρ o (t j) = kv ρ o w) : nI a = srr ρ o t n w := by
  obtain rfl : k = n := by omega
  unfold srr
  rw [if_neg (fun ⟨j, hj, e⟩ => h j hj e), ha]
theorem dff0 {t : Nat → Int32} {n : Nat} (h : wok t n) : zct (fun j => cnt t (t j) j = 0) n = zct (fun v => 0 < cnt t (nI v) n) 100 := by
  have h1 := dff t (fun _ => True) h
  refine ((zct_cg (fun j _ => ?_)).trans h1).trans (zct_cg (fun v _ => ?_))
  · exact ⟨fun z => ⟨z, trivial⟩, fun z => z.1⟩
  · exact ⟨fun z => z.1, fun z => ⟨z, trivial⟩⟩
theorem insk_0 {t : Nat → Int32} {k : Nat} (j : Nat) : t j = insk t k k j := by
  simp only [insk]
  by_cases e : j = k
  · rw [if_pos e, e]
  · rw [if_neg e, if_neg (by omega)]
theorem insk_s {t : Nat → Int32} {q k : Nat} (h : 0 < q) (hq : q ≤ k) (j : Nat) : swpt (insk t q k) (q - 1) q j = insk t (q - 1) k j := by
  simp only [swpt, insk]
  by_cases e1 : j = q
  · rw [if_pos e1, if_neg (by omega), if_neg (by omega), if_neg (by omega), if_pos (by omega), e1]
  · rw [if_neg e1]
    by_cases e2 : j = q - 1
    · rw [if_pos e2, if_pos trivial, if_pos e2]
    · rw [if_neg e2, if_neg e1, if_neg e2]
      by_cases e3 : q < j ∧ j ≤ k
      · rw [if_pos e3, if_pos (by omega)]
      · rw [if_neg e3, if_neg (by omega)]
theorem insk_q {t : Nat → Int32} {q k : Nat} : insk t q k q = t k := if_pos rfl
theorem insk_p {t : Nat → Int32} {q k : Nat} (h : 0 < q) : insk t q k (q - 1) = t (q - 1) := by
  simp only [insk]
  rw [if_neg (by omega), if_neg (by omega)]
theorem mst4_1 {t : Nat → Int32} {n : Nat} : mst4 t n 1 = 0 := by
  simp only [mst4]
  exact ite_self 0
set_option maxHeartbeats 4000000 in
set_option maxRecDepth 100000 in
theorem c_X4_search (l : Launch) (G : zK) (B0 : Nat) (F : zM) (σ : Sg) (th zp0 zp1 zp2 : Int32) (hM : MS G B0 F σ th) (hK : SgOk σ) : Met l yX4_search (Cond.code yX4_search cX4_search 8 (some FieldType.int) :: zW) (zRm 2 45 0 0) (va_Pc [.ref (B0 + 23), .int zp0, .int zp1, .int zp2] (zPre G B0 F)) (zQi G B0 (zRP G B0 F σ (oA_search σ zp0 zp1 zp2) (oB_search σ zp0 zp1 zp2) (oC_search σ zp0 zp1 zp2) (ss_search σ zp0 zp1 zp2) (rr_search σ zp0 zp1 zp2))) 0 0 (zA B0) := by
  refine z_of (own := RX4) (by decide) rfl (Nat.le_of_ble_eq_true rfl) ?_
  intro p e s m below meth c ls hx hb hr hml hown hlocks hnm hts hl hI
  have hl : lv_has ls 8 [(0, .ref (B0 + 23)), (1, .int zp0), (2, .int zp1), (3, .int zp2)] := hl
  obtain ⟨m01, ⟨ma1, m11, me11⟩, ⟨mb1, m21, me21⟩, ⟨mc1, m31, me31⟩, ⟨n91, t91, m41⟩, mT1, mP1⟩ := id hM
  refine z_join (σ := Int32) (fun x : Int32 => [(0, .ref (B0 + 23)), (1, .int zp0), (2, .int zp1), (3, .int zp2)]) (fun x : Int32 => [.int x]) (fun (x : Int32) (Fx : zM) => F = Fx ∧ x = pI (okT zp0 ∧ okW zp2)) 19 8 G B0 ?_ (fun jn19 => ?_)
  · intro x F2 ls H locs hi hl hI
    have hl : lv_has ls 8 [(0, .ref (B0 + 23)), (1, .int zp0), (2, .int zp1), (3, .int zp2)] := hl
    obtain ⟨hF, hx9⟩ := hi
    subst hF
    subst hx9
    refine lv_istore (lv' := [(4, .int (pI (okT zp0 ∧ okW zp2))), (0, .ref (B0 + 23)), (1, .int zp0), (2, .int zp1), (3, .int zp2)]) hx hb dX4_search_19 hl (by decide) rfl (fun ls hl => ?_)
    refine lv_aload_n hx hb dX4_search_21 rfl (lv_at hl 1 rfl) ?_
    refine lv_iload hx hb dX4_search_22 (lv_at hl 0 rfl) ?_
    refine lv_iload_n hx hb dX4_search_24 rfl (lv_at hl 3 rfl) ?_
    refine z_calli hI (z_S (As := [.int zp1]) (rest := [.int (pI (okT zp0 ∧ okW zp2)), .ref (B0 + 23)]) ⟨hx, hb, hml, hown, hts⟩ hI (c_X4_isOrder l G B0 F zp1) (z_cwS vX4_isOrder hts q959 ⟨Nat.le_of_ble_eq_true rfl, Nat.le_of_ble_eq_true rfl⟩) rfl hl.1 rfl (lv_room (Nat.le_of_ble_eq_true rfl)) dX4_search_25 ⟨Nat.le_of_ble_eq_true rfl, Nat.le_of_ble_eq_true rfl⟩) (fun r4 F3 H locs hp5 hI => ?_)
    obtain ⟨rfl, rfl⟩ := hp5
    refine z_join (σ := Int32) (fun x : Int32 => [(4, .int (pI (okT zp0 ∧ okW zp2))), (0, .ref (B0 + 23)), (1, .int zp0), (2, .int zp1), (3, .int zp2)]) (fun x : Int32 => [.int x, .int (pI (okB zp1)), .int (pI (okT zp0 ∧ okW zp2)), .ref (B0 + 23)]) (fun (x : Int32) (Fx : zM) => F = Fx ∧ x = pI ((okT zp0 ∧ okW zp2) ∧ okB zp1 ∧ isr (rk σ) zp1 (st σ (ix zp0)) (sn σ (ix zp0)))) 59 8 G B0 ?_ (fun jn59 => ?_)
    · intro x F6 ls H locs hi hl hI
      have hl : lv_has ls 8 [(4, .int (pI (okT zp0 ∧ okW zp2))), (0, .ref (B0 + 23)), (1, .int zp0), (2, .int zp1), (3, .int zp2)] := hl
      obtain ⟨hF, hx9⟩ := hi
      subst hF
      subst hx9
      refine z_calli hI (z_V (As := [.int (pI (okT zp0 ∧ okW zp2)), .int (pI (okB zp1)), .int (pI ((okT zp0 ∧ okW zp2) ∧ okB zp1 ∧ isr (rk σ) zp1 (st σ (ix zp0)) (sn σ (ix zp0))))]) (rest := []) ⟨hx, hb, hml, hown, hts⟩ hI m01 rfl (c_X4_passes l G B0 F σ th (okT zp0 ∧ okW zp2) (okB zp1) ((okT zp0 ∧ okW zp2) ∧ okB zp1 ∧ isr (rk σ) zp1 (st σ (ix zp0)) (sn σ (ix zp0))) hM) (z_cwV vX4_passes hts q788 ⟨Nat.le_of_ble_eq_true rfl, Nat.le_of_ble_eq_true rfl⟩) rfl hl.1 rfl (lv_room (Nat.le_of_ble_eq_true rfl)) dX4_search_59 ⟨Nat.le_of_ble_eq_true rfl, Nat.le_of_ble_eq_true rfl⟩) (fun r8 F7 H locs hp9 hI => ?_)
      obtain ⟨⟨th1, hM1, hz1⟩, rfl, ho1⟩ := hp9
      have hp1 : (okT zp0 ∧ okW zp2) ↔ oA_search σ zp0 zp1 zp2 := Iff.rfl
      have hp2 : oA_search σ zp0 zp1 zp2 → ((okB zp1) ↔ oB_search σ zp0 zp1 zp2) := fun _ => Iff.rfl
      have hp3 : oA_search σ zp0 zp1 zp2 → oB_search σ zp0 zp1 zp2 → (((okT zp0 ∧ okW zp2) ∧ okB zp1 ∧ isr (rk σ) zp1 (st σ (ix zp0)) (sn σ (ix zp0))) ↔ oC_search σ zp0 zp1 zp2) := fun h1 h2 => ⟨fun z => z.2.2, fun z => ⟨h1, h2, z⟩⟩
      have hz2 := zTh_cg hp1 hp2 hp3 hz1
      refine z_topi (pI_cg (zC_cg hp1 hp2 hp3)) ?_
      have hmf1 : zMf B0 F F7 := fun q hq => ho1 q (by omega)
      obtain ⟨m010, ⟨ma10, m110, me110⟩, ⟨mb10, m210, me210⟩, ⟨mc10, m310, me310⟩, ⟨n910, t910, m410⟩, mT10, mP10⟩ := id hM1
      refine z_ifp_ne (tgt := 67) hx hb dX4_search_62 (by decide) (fun hq11 => ?_) (fun hq11 => ?_)
      · obtain ⟨hA, hB, hC0⟩ := id hq11
        obtain ⟨hc0, hc1⟩ := id hA
        obtain ⟨i12, hi13, rfl⟩ := id hc0
        have hix14 : ix (nI i12) = i12 := ix_nI (by omega)
        have hl : lv_has ls 8 [(4, .int (pI (okT (nI i12) ∧ okW zp2))), (0, .ref (B0 + 23)), (1, .int (nI i12)), (2, .int zp1), (3, .int zp2)] := hl
        have hsbi12 := (hK.1 i12 hi13).1
        have hx15 := mT10 i12 hi13
        obtain ⟨xnhx15, xrhx15, fhx15, xwhx15, xfhx15⟩ := id hx15
        refine lv_iconst (v := nI 0) hx hb dX4_search_67 (by decide) ?_
        refine lv_istore (lv' := [(5, .int (nI 0)), (4, .int (pI (okT (nI i12) ∧ okW zp2))), (0, .ref (B0 + 23)), (1, .int (nI i12)), (2, .int zp1), (3, .int zp2)]) hx hb dX4_search_68 hl (by decide) rfl (fun ls hl => ?_)
        refine lv_iconst (v := nI 0) hx hb dX4_search_70 (by decide) ?_
        refine lv_istore (lv' := [(6, .int (nI 0)), (5, .int (nI 0)), (4, .int (pI (okT (nI i12) ∧ okW zp2))), (0, .ref (B0 + 23)), (1, .int (nI i12)), (2, .int zp1), (3, .int zp2)]) hx hb dX4_search_71 hl (by decide) rfl (fun ls hl => ?_)
        refine z_loop (σ := Nat × Nat) (fun xx : Nat × Nat => match xx with | (k, a) => [(0, .ref (B0 + 23)), (1, .int (nI i12)), (2, .int zp1), (3, .int zp2), (4, .int (pI (okT (nI i12) ∧ okW zp2))), (6, .int (nI k)), (5, .int (nI a))]) (fun (xx : Nat × Nat) (Fx : zM) => match xx with | (k, a) => F7 = Fx ∧ k ≤ sn σ i12 ∧ a = zct (fun j => kv (rk σ) zp1 (st σ i12 j) < kv (rk σ) zp1 zp2) k ∧ ∀ j, j < k → ¬ kv (rk σ) zp1 (st σ i12 j) = kv (rk σ) zp1 zp2) (fun xx : Nat × Nat => match xx with | (k, a) => sn σ i12 - k) (0, 0) (nL := 8) (st := []) ?_ (lv_sub hl [3, 4, 5, 6, 2, 0, 1] rfl) hI ?_
        · exact ⟨rfl, Nat.zero_le _, rfl, fun j hj => absurd hj (Nat.not_lt_zero _)⟩
        · intro xx F16 ls H locs hi hl hI ih
          obtain ⟨k, a⟩ := xx
          have hl : lv_has ls 8 [(0, .ref (B0 + 23)), (1, .int (nI i12)), (2, .int zp1), (3, .int zp2), (4, .int (pI (okT (nI i12) ∧ okW zp2))), (6, .int (nI k)), (5, .int (nI a))] := hl
          obtain ⟨hF, hk, ha, hne⟩ := hi
          subst hF
          have hzl := zct_le (fun j => kv (rk σ) zp1 (st σ i12 j) < kv (rk σ) zp1 zp2) k
          refine lv_iload hx hb dX4_search_73 (lv_at hl 5 rfl) ?_
          refine lv_aload_n hx hb dX4_search_75 rfl (lv_at hl 0 rfl) ?_
          refine z_get hx hb hts hown zlX4 rfl 1 (by decide) (hts _ q753) rfl hI m010 rfl dX4_search_76 ?_
          refine lv_iload_n hx hb dX4_search_79 rfl (lv_at hl 1 rfl) ?_
          refine z_ald3 (k := i12) (v := B0 + 25 + 2 * i12) hx hb hI m110 (by omega) (by omega) (me110 i12 (by omega)) dX4_search_80 ?_
          refine z_getN hx hb hts hown zlX3 rfl 1 (by decide) (List.mem_of_getElem? (i := 2) rfl) rfl hI xrhx15 rfl dX4_search_81 ?_
          refine z_icmp_ge (tgt := 146) (a := k) (b := sn σ i12) hx hb dX4_search_84 (by decide) (by omega) (fun hq17 => ?_) (fun hq17 => ?_)
          · refine lv_iload hx hb dX4_search_146 (lv_at hl 6 rfl) ?_
            refine z_ri hx hb hr hlocks hI ?_ (Nat.le_of_ble_eq_true rfl) (Nat.le_of_ble_eq_true rfl) dX4_search_148
            refine ⟨_, rfl, th1, _, hM1, hz2, fun _ => ⟨(by simp only [oA_search, oB_search, oC_search, rr_search, ss_search, hix14] <;> exact rfl), (by simp only [oA_search, oB_search, oC_search, rr_search, ss_search, hix14] <;> exact srr_n (by omega) ha hne)⟩, fun q => absurd ⟨hA, hB, hC0⟩ q, hmf1⟩
          · refine lv_aload_n hx hb dX4_search_87 rfl (lv_at hl 0 rfl) ?_
            refine lv_aload_n hx hb dX4_search_88 rfl (lv_at hl 0 rfl) ?_
            refine z_get hx hb hts hown zlX4 rfl 1 (by decide) (hts _ q753) rfl hI m010 rfl dX4_search_89 ?_
            refine lv_iload_n hx hb dX4_search_92 rfl (lv_at hl 1 rfl) ?_
            refine z_ald3 (k := i12) (v := B0 + 25 + 2 * i12) hx hb hI m110 (by omega) (by omega) (me110 i12 (by omega)) dX4_search_93 ?_
            refine lv_iload hx hb dX4_search_94 (lv_at hl 5 rfl) ?_
            refine z_calli hI (z_V (As := [.int (nI k)]) (rest := [.ref (B0 + 23)]) ⟨hx, hb, hml, hown, hts⟩ hI xrhx15 rfl (c_X3_at l G B0 F7 (B0 + 25 + 2 * i12) (B0 + 26 + 2 * i12) 60 (sn σ i12) (st σ i12) k ⟨xnhx15, xrhx15, fhx15, xwhx15, xfhx15⟩ (by omega) (by omega)) (z_cwV vX3_at hts q829 ⟨Nat.le_of_ble_eq_true rfl, Nat.le_of_ble_eq_true rfl⟩) rfl hl.1 rfl (lv_room (Nat.le_of_ble_eq_true rfl)) dX4_search_96 ⟨Nat.le_of_ble_eq_true rfl, Nat.le_of_ble_eq_true rfl⟩) (fun r19 F18 H locs hp20 hI => ?_)
            obtain ⟨rfl, rfl⟩ := hp20
            refine lv_iload_n hx hb dX4_search_99 rfl (lv_at hl 2 rfl) ?_
            refine z_calli hI (z_V (As := [.int ((st σ i12) k), .int zp1]) (rest := []) ⟨hx, hb, hml, hown, hts⟩ hI m010 rfl (c_X4_valueOf l G B0 F7 σ th1 zp1 ((st σ i12) k) hM1 hB ((hK.w hi13) k (by omega))) (z_cwV vX4_valueOf hts q966 ⟨Nat.le_of_ble_eq_true rfl, Nat.le_of_ble_eq_true rfl⟩) rfl hl.1 rfl (lv_room (Nat.le_of_ble_eq_true rfl)) dX4_search_100 ⟨Nat.le_of_ble_eq_true rfl, Nat.le_of_ble_eq_true rfl⟩) (fun r22 F21 H locs hp23 hI => ?_)
            obtain ⟨rfl, rfl⟩ := hp23
            refine lv_istore (lv' := [(7, .int (kv (rk σ) zp1 ((st σ i12) k))), (0, .ref (B0 + 23)), (1, .int (nI i12)), (2, .int zp1), (3, .int zp2), (4, .int (pI (okT (nI i12) ∧ okW zp2))), (6, .int (nI k)), (5, .int (nI a))]) hx hb dX4_search_103 hl (by decide) rfl (fun ls hl => ?_)
            refine lv_iload hx hb dX4_search_105 (lv_at hl 0 rfl) ?_
            refine lv_aload_n hx hb dX4_search_107 rfl (lv_at hl 1 rfl) ?_
            refine lv_iload_n hx hb dX4_search_108 rfl (lv_at hl 4 rfl) ?_
            refine lv_iload_n hx hb dX4_search_109 rfl (lv_at hl 3 rfl) ?_
            refine z_calli hI (z_V (As := [.int zp2, .int zp1]) (rest := [.int (kv (rk σ) zp1 ((st σ i12) k))]) ⟨hx, hb, hml, hown, hts⟩ hI m010 rfl (c_X4_valueOf l G B0 F7 σ th1 zp1 zp2 hM1 hB hc1) (z_cwV vX4_valueOf hts q966 ⟨Nat.le_of_ble_eq_true rfl, Nat.le_of_ble_eq_true rfl⟩) rfl hl.1 rfl (lv_room (Nat.le_of_ble_eq_true rfl)) dX4_search_110 ⟨Nat.le_of_ble_eq_true rfl, Nat.le_of_ble_eq_true rfl⟩) (fun r25 F24 H locs hp26 hI => ?_)
            obtain ⟨rfl, rfl⟩ := hp26
            refine lv_icmp_ne (tgt := 119) hx hb dX4_search_113 (by decide) (fun hq27 => ?_) (fun hq27 => ?_)
            · refine lv_iload hx hb dX4_search_119 (lv_at hl 7 rfl) ?_
              refine lv_iload hx hb dX4_search_121 (lv_at hl 0 rfl) ?_
              refine lv_aload_n hx hb dX4_search_123 rfl (lv_at hl 1 rfl) ?_
              refine lv_iload_n hx hb dX4_search_124 rfl (lv_at hl 4 rfl) ?_
              refine lv_iload_n hx hb dX4_search_125 rfl (lv_at hl 3 rfl) ?_
              refine z_calli hI (z_V (As := [.int zp2, .int zp1]) (rest := [.int (kv (rk σ) zp1 ((st σ i12) k)), .int (nI a)]) ⟨hx, hb, hml, hown, hts⟩ hI m010 rfl (c_X4_valueOf l G B0 F7 σ th1 zp1 zp2 hM1 hB hc1) (z_cwV vX4_valueOf hts q966 ⟨Nat.le_of_ble_eq_true rfl, Nat.le_of_ble_eq_true rfl⟩) rfl hl.1 rfl (lv_room (Nat.le_of_ble_eq_true rfl)) dX4_search_126 ⟨Nat.le_of_ble_eq_true rfl, Nat.le_of_ble_eq_true rfl⟩) (fun r29 F28 H locs hp30 hI => ?_)
              obtain ⟨rfl, rfl⟩ := hp30
              refine lv_icmp_ge (tgt := 136) hx hb dX4_search_129 (by decide) (fun hq31 => ?_) (fun hq31 => ?_)
              · refine lv_iconst (v := nI 0) hx hb dX4_search_136 (by decide) ?_
                refine lv_iadd hx hb dX4_search_137 ?_
                refine z_topi (nI_add a 0) ?_
                refine lv_istore (lv' := [(5, .int (nI (a + 0))), (7, .int (kv (rk σ) zp1 ((st σ i12) k))), (0, .ref (B0 + 23)), (1, .int (nI i12)), (2, .int zp1), (3, .int zp2), (4, .int (pI (okT (nI i12) ∧ okW zp2))), (6, .int (nI k))]) hx hb dX4_search_138 hl (by decide) rfl (fun ls hl => ?_)
                refine lv_iinc (k := 7) (v := nI (k + 1)) (lv' := [(6, .int (nI (k + 1))), (5, .int (nI (a + 0))), (7, .int (kv (rk σ) zp1 ((st σ i12) k))), (0, .ref (B0 + 23)), (1, .int (nI i12)), (2, .int zp1), (3, .int zp2), (4, .int (pI (okT (nI i12) ∧ okW zp2)))]) hx hb dX4_search_140 hl rfl (nI_add k 1) (by decide) rfl (fun ls hl => ?_)
                refine lv_goto (tgt := 73) hx hb dX4_search_143 (by decide) ?_
                refine ih (k + 1, a + 0) _ ls H locs (by first | omega | (dsimp only; omega)) ?_ (lv_sub hl [3, 4, 5, 6, 7, 0, 1] rfl) hI
                refine ⟨rfl, by omega, (by rw [zct_f (P := fun j => kv (rk σ) zp1 (st σ i12 j) < kv (rk σ) zp1 zp2) (i_le_n.mp hq31), ha]; try rfl), fun j hj => ?_⟩
                by_cases q : j = k
                · subst q; exact hq27
                · exact hne j (by omega)
              · refine lv_iconst (v := nI 1) hx hb dX4_search_132 (by decide) ?_
                refine lv_goto (tgt := 137) hx hb dX4_search_133 (by decide) ?_
                refine lv_iadd hx hb dX4_search_137 ?_
                refine z_topi (nI_add a 1) ?_
                refine lv_istore (lv' := [(5, .int (nI (a + 1))), (7, .int (kv (rk σ) zp1 ((st σ i12) k))), (0, .ref (B0 + 23)), (1, .int (nI i12)), (2, .int zp1), (3, .int zp2), (4, .int (pI (okT (nI i12) ∧ okW zp2))), (6, .int (nI k))]) hx hb dX4_search_138 hl (by decide) rfl (fun ls hl => ?_)
                refine lv_iinc (k := 7) (v := nI (k + 1)) (lv' := [(6, .int (nI (k + 1))), (5, .int (nI (a + 1))), (7, .int (kv (rk σ) zp1 ((st σ i12) k))), (0, .ref (B0 + 23)), (1, .int (nI i12)), (2, .int zp1), (3, .int zp2), (4, .int (pI (okT (nI i12) ∧ okW zp2)))]) hx hb dX4_search_140 hl rfl (nI_add k 1) (by decide) rfl (fun ls hl => ?_)
                refine lv_goto (tgt := 73) hx hb dX4_search_143 (by decide) ?_
                refine ih (k + 1, a + 1) _ ls H locs (by first | omega | (dsimp only; omega)) ?_ (lv_sub hl [3, 4, 5, 6, 7, 0, 1] rfl) hI
                refine ⟨rfl, by omega, (by rw [zct_t (P := fun j => kv (rk σ) zp1 (st σ i12 j) < kv (rk σ) zp1 zp2) (i_n_le.mp hq31), ha]; try rfl), fun j hj => ?_⟩
                by_cases q : j = k
                · subst q; exact hq27
                · exact hne j (by omega)
            · refine lv_bipush (v := -2) hx hb dX4_search_116 (by decide) ?_
              refine z_ri hx hb hr hlocks hI ?_ (Nat.le_of_ble_eq_true rfl) (Nat.le_of_ble_eq_true rfl) dX4_search_118
              refine ⟨_, rfl, th1, _, hM1, hz2, fun _ => ⟨(by simp only [oA_search, oB_search, oC_search, rr_search, ss_search, hix14] <;> exact rfl), (by simp only [oA_search, oB_search, oC_search, rr_search, ss_search, hix14] <;> exact srh_y (by omega) hq27)⟩, fun q => absurd ⟨hA, hB, hC0⟩ q, hmf1⟩
      · refine lv_iconst (v := nI 0) hx hb dX4_search_65 (by decide) ?_
        refine z_ri hx hb hr hlocks hI ?_ (Nat.le_of_ble_eq_true rfl) (Nat.le_of_ble_eq_true rfl) dX4_search_66
        exact ⟨_, rfl, th1, σ, hM1, hz2, fun q => absurd q hq11, fun _ => rfl, hmf1⟩
    · refine lv_iload hx hb dX4_search_28 (lv_at hl 0 rfl) ?_
      refine z_ifp_eq (tgt := 58) hx hb dX4_search_30 (by decide) (fun hq32 => ?_) (fun hq32 => ?_)
      · refine lv_iconst (v := nI 0) hx hb dX4_search_58 (by decide) ?_
        refine jn59 (nI 0) _ ls H locs ?_ (lv_sub hl [0, 1, 2, 3, 4] rfl) hI
        exact ⟨rfl, pI_f (fun z => by have z2 := z.1; first | exact hq32 z2 | (first | exact hq32 z2 | exact i_le_n.mp z2 hq32 | exact l_le_n.mp z2 (lg_gt.mp hq32) | exact l_le_n.mp z2 (lg_lt.mp hq32) | exact hq32 ((in_pl1 (by omega)).mpr z2) | omega))⟩
      · obtain ⟨i33, hi34, rfl⟩ := id hq32.1
        have hix35 : ix (nI i33) = i33 := ix_nI (by omega)
        have hl : lv_has ls 8 [(4, .int (pI (okT (nI i33) ∧ okW zp2))), (0, .ref (B0 + 23)), (1, .int (nI i33)), (2, .int zp1), (3, .int zp2)] := hl
        obtain ⟨m036, ⟨ma36, m136, me136⟩, ⟨mb36, m236, me236⟩, ⟨mc36, m336, me336⟩, ⟨n936, t936, m436⟩, mT36, mP36⟩ := id hM
        have hx37 := mT36 i33 hi34
        obtain ⟨xnhx37, xrhx37, fhx37, xwhx37, xfhx37⟩ := id hx37
        refine lv_iload_n hx hb dX4_search_33 rfl (lv_at hl 3 rfl) ?_
        refine z_calli hI (z_S (As := [.int zp1]) (rest := [.int (pI (okB zp1)), .int (pI (okT (nI i33) ∧ okW zp2)), .ref (B0 + 23)]) ⟨hx, hb, hml, hown, hts⟩ hI (c_X4_isOrder l G B0 F zp1) (z_cwS vX4_isOrder hts q959 ⟨Nat.le_of_ble_eq_true rfl, Nat.le_of_ble_eq_true rfl⟩) rfl hl.1 rfl (lv_room (Nat.le_of_ble_eq_true rfl)) dX4_search_34 ⟨Nat.le_of_ble_eq_true rfl, Nat.le_of_ble_eq_true rfl⟩) (fun r39 F38 H locs hp40 hI => ?_)
        obtain ⟨rfl, rfl⟩ := hp40
        refine z_ifp_eq (tgt := 58) hx hb dX4_search_37 (by decide) (fun hq41 => ?_) (fun hq41 => ?_)
        · refine lv_iconst (v := nI 0) hx hb dX4_search_58 (by decide) ?_
          refine jn59 (nI 0) _ ls H locs ?_ (lv_sub hl [0, 1, 2, 3, 4] rfl) hI
          exact ⟨rfl, pI_f (fun z => by have z2 := z.2.1; first | exact hq41 z2 | ((try rw [hix35] at z2); (first | exact hq41 z2 | exact i_le_n.mp z2 hq41 | exact l_le_n.mp z2 (lg_gt.mp hq41) | exact l_le_n.mp z2 (lg_lt.mp hq41) | exact hq41 ((in_pl1 (by omega)).mpr z2) | omega)) | (first | exact hq41 z2 | exact i_le_n.mp z2 hq41 | exact l_le_n.mp z2 (lg_gt.mp hq41) | exact l_le_n.mp z2 (lg_lt.mp hq41) | exact hq41 ((in_pl1 (by omega)).mpr z2) | omega))⟩
        · refine lv_aload_n hx hb dX4_search_40 rfl (lv_at hl 1 rfl) ?_
          refine lv_aload_n hx hb dX4_search_41 rfl (lv_at hl 1 rfl) ?_
          refine z_get hx hb hts hown zlX4 rfl 1 (by decide) (hts _ q753) rfl hI m036 rfl dX4_search_42 ?_
          refine lv_iload_n hx hb dX4_search_45 rfl (lv_at hl 2 rfl) ?_
          refine z_ald3 (k := i33) (v := B0 + 25 + 2 * i33) hx hb hI m136 (by omega) (by omega) (me136 i33 (by omega)) dX4_search_46 ?_
          refine lv_iload_n hx hb dX4_search_47 rfl (lv_at hl 3 rfl) ?_
          refine z_calli hI (z_V (As := [.ref (B0 + 25 + 2 * i33), .int zp1]) (rest := [.int (pI (okB zp1)), .int (pI (okT (nI i33) ∧ okW zp2)), .ref (B0 + 23)]) ⟨hx, hb, hml, hown, hts⟩ hI m036 rfl (c_X4_areInOrder l G B0 F σ th (B0 + 25 + 2 * i33) (B0 + 26 + 2 * i33) 60 (sn σ i33) (st σ i33) zp1 hM hq41 ⟨xnhx37, xrhx37, fhx37, xwhx37, xfhx37⟩ (by decide) (hK.w hi34)) (z_cwV vX4_areInOrder hts q992 ⟨Nat.le_of_ble_eq_true rfl, Nat.le_of_ble_eq_true rfl⟩) rfl hl.1 rfl (lv_room (Nat.le_of_ble_eq_true rfl)) dX4_search_48 ⟨Nat.le_of_ble_eq_true rfl, Nat.le_of_ble_eq_true rfl⟩) (fun r43 F42 H locs hp44 hI => ?_)
          obtain ⟨rfl, rfl⟩ := hp44
          refine z_ifp_eq (tgt := 58) hx hb dX4_search_51 (by decide) (fun hq45 => ?_) (fun hq45 => ?_)
          · refine lv_iconst (v := nI 0) hx hb dX4_search_58 (by decide) ?_
            refine jn59 (nI 0) _ ls H locs ?_ (lv_sub hl [0, 1, 2, 3, 4] rfl) hI
            exact ⟨rfl, pI_f (fun z => by have z2 := z.2.2; first | exact hq45 z2 | ((try rw [hix35] at z2); (first | exact hq45 z2 | exact i_le_n.mp z2 hq45 | exact l_le_n.mp z2 (lg_gt.mp hq45) | exact l_le_n.mp z2 (lg_lt.mp hq45) | exact hq45 ((in_pl1 (by omega)).mpr z2) | omega)) | (first | exact hq45 z2 | exact i_le_n.mp z2 hq45 | exact l_le_n.mp z2 (lg_gt.mp hq45) | exact l_le_n.mp z2 (lg_lt.mp hq45) | exact hq45 ((in_pl1 (by omega)).mpr z2) | omega))⟩
          · refine lv_iconst (v := nI 1) hx hb dX4_search_54 (by decide) ?_
            refine lv_goto (tgt := 59) hx hb dX4_search_55 (by decide) ?_
            refine jn59 (nI 1) _ ls H locs ?_ (lv_sub hl [0, 1, 2, 3, 4] rfl) hI
            exact ⟨rfl, pI_t ⟨(by first | exact hq32 | (rw [hix35]; first | exact hq32 | exact i_le_n.mpr hq32 | exact l_le_n.mpr (fun q => hq32 (lg_gt.mpr q)) | exact l_le_n.mpr (fun q => hq32 (lg_lt.mpr q)) | exact (in_pl1 (by omega)).mp hq32 | omega) | (first | exact hq32 | exact i_le_n.mpr hq32 | exact l_le_n.mpr (fun q => hq32 (lg_gt.mpr q)) | exact l_le_n.mpr (fun q => hq32 (lg_lt.mpr q)) | exact (in_pl1 (by omega)).mp hq32 | omega)), (by first | exact hq41 | (rw [hix35]; first | exact hq41 | exact i_le_n.mpr hq41 | exact l_le_n.mpr (fun q => hq41 (lg_gt.mpr q)) | exact l_le_n.mpr (fun q => hq41 (lg_lt.mpr q)) | exact (in_pl1 (by omega)).mp hq41 | omega) | (first | exact hq41 | exact i_le_n.mpr hq41 | exact l_le_n.mpr (fun q => hq41 (lg_gt.mpr q)) | exact l_le_n.mpr (fun q => hq41 (lg_lt.mpr q)) | exact (in_pl1 (by omega)).mp hq41 | omega)), (by first | exact hq45 | (rw [hix35]; first | exact hq45 | exact i_le_n.mpr hq45 | exact l_le_n.mpr (fun q => hq45 (lg_gt.mpr q)) | exact l_le_n.mpr (fun q => hq45 (lg_lt.mpr q)) | exact (in_pl1 (by omega)).mp hq45 | omega) | (first | exact hq45 | exact i_le_n.mpr hq45 | exact l_le_n.mpr (fun q => hq45 (lg_gt.mpr q)) | exact l_le_n.mpr (fun q => hq45 (lg_lt.mpr q)) | exact (in_pl1 (by omega)).mp hq45 | omega))⟩⟩
  · refine lv_iload_n hx hb dX4_search_0 rfl (lv_at hl 1 rfl) ?_
    refine z_calli hI (z_S (As := [.int zp0]) (rest := []) ⟨hx, hb, hml, hown, hts⟩ hI (c_X4_isText l G B0 F zp0) (z_cwS vX4_isText hts q772 ⟨Nat.le_of_ble_eq_true rfl, Nat.le_of_ble_eq_true rfl⟩) rfl hl.1 rfl (lv_room (Nat.le_of_ble_eq_true rfl)) dX4_search_1 ⟨Nat.le_of_ble_eq_true rfl, Nat.le_of_ble_eq_true rfl⟩) (fun r47 F46 H locs hp48 hI => ?_)
    obtain ⟨rfl, rfl⟩ := hp48
    refine z_ifp_eq (tgt := 18) hx hb dX4_search_4 (by decide) (fun hq49 => ?_) (fun hq49 => ?_)
    · refine lv_iconst (v := nI 0) hx hb dX4_search_18 (by decide) ?_
      refine jn19 (nI 0) _ ls H locs ?_ (lv_sub hl [0, 1, 2, 3] rfl) hI
      exact ⟨rfl, pI_f (fun z => by have z2 := z.1; first | exact hq49 z2 | (first | exact hq49 z2 | exact i_le_n.mp z2 hq49 | exact l_le_n.mp z2 (lg_gt.mp hq49) | exact l_le_n.mp z2 (lg_lt.mp hq49) | exact hq49 ((in_pl1 (by omega)).mpr z2) | omega))⟩
    · refine lv_iload_n hx hb dX4_search_7 rfl (lv_at hl 3 rfl) ?_
      refine z_calli hI (z_S (As := [.int zp2]) (rest := []) ⟨hx, hb, hml, hown, hts⟩ hI (c_X4_isWord l G B0 F zp2) (z_cwS vX4_isWord hts q779 ⟨Nat.le_of_ble_eq_true rfl, Nat.le_of_ble_eq_true rfl⟩) rfl hl.1 rfl (lv_room (Nat.le_of_ble_eq_true rfl)) dX4_search_8 ⟨Nat.le_of_ble_eq_true rfl, Nat.le_of_ble_eq_true rfl⟩) (fun r51 F50 H locs hp52 hI => ?_)
      obtain ⟨rfl, rfl⟩ := hp52
      refine z_ifp_eq (tgt := 18) hx hb dX4_search_11 (by decide) (fun hq53 => ?_) (fun hq53 => ?_)
      · refine lv_iconst (v := nI 0) hx hb dX4_search_18 (by decide) ?_
        refine jn19 (nI 0) _ ls H locs ?_ (lv_sub hl [0, 1, 2, 3] rfl) hI
        exact ⟨rfl, pI_f (fun z => by have z2 := z.2; first | exact hq53 z2 | (first | exact hq53 z2 | exact i_le_n.mp z2 hq53 | exact l_le_n.mp z2 (lg_gt.mp hq53) | exact l_le_n.mp z2 (lg_lt.mp hq53) | exact hq53 ((in_pl1 (by omega)).mpr z2) | omega))⟩
      · refine lv_iconst (v := nI 1) hx hb dX4_search_14 (by decide) ?_
        refine lv_goto (tgt := 19) hx hb dX4_search_15 (by decide) ?_
        refine jn19 (nI 1) _ ls H locs ?_ (lv_sub hl [0, 1, 2, 3] rfl) hI
        exact ⟨rfl, pI_t ⟨(by first | exact hq49 | exact i_le_n.mpr hq49 | exact l_le_n.mpr (fun q => hq49 (lg_gt.mpr q)) | exact l_le_n.mpr (fun q => hq49 (lg_lt.mpr q)) | exact (in_pl1 (by omega)).mp hq49 | omega), (by first | exact hq53 | exact i_le_n.mpr hq53 | exact l_le_n.mpr (fun q => hq53 (lg_gt.mpr q)) | exact l_le_n.mpr (fun q => hq53 (lg_lt.mpr q)) | exact (in_pl1 (by omega)).mp hq53 | omega)⟩⟩

set_option maxHeartbeats 4000000 in
set_option maxRecDepth 100000 in
theorem c_X4_different (l : Launch) (G : zK) (B0 : Nat) (F : zM) (σ : Sg) (th zp0 : Int32) (hM : MS G B0 F σ th) (hK : SgOk σ) : Met l yX4_different (Cond.code yX4_different cX4_different 4 (some FieldType.int) :: zW) (zRm 2 45 0 0) (va_Pc [.ref (B0 + 23), .int zp0] (zPre G B0 F)) (zQi G B0 (zRP G B0 F σ (oA_different σ zp0) (oB_different σ zp0) (oC_different σ zp0) (ss_different σ zp0) (rr_different σ zp0))) 0 0 (zA B0) := by
  refine z_of (own := RX4) (by decide) rfl (Nat.le_of_ble_eq_true rfl) ?_
  intro p e s m below meth c ls hx hb hr hml hown hlocks hnm hts hl hI
  have hl : lv_has ls 4 [(0, .ref (B0 + 23)), (1, .int zp0)] := hl
  obtain ⟨m01, ⟨ma1, m11, me11⟩, ⟨mb1, m21, me21⟩, ⟨mc1, m31, me31⟩, ⟨n91, t91, m41⟩, mT1, mP1⟩ := id hM
  refine lv_aload_n hx hb dX4_different_0 rfl (lv_at hl 0 rfl) ?_
  refine lv_iload_n hx hb dX4_different_1 rfl (lv_at hl 1 rfl) ?_
  refine z_calli hI (z_S (As := [.int zp0]) (rest := [.ref (B0 + 23)]) ⟨hx, hb, hml, hown, hts⟩ hI (c_X4_isText l G B0 F zp0) (z_cwS vX4_isText hts q772 ⟨Nat.le_of_ble_eq_true rfl, Nat.le_of_ble_eq_true rfl⟩) rfl hl.1 rfl (lv_room (Nat.le_of_ble_eq_true rfl)) dX4_different_2 ⟨Nat.le_of_ble_eq_true rfl, Nat.le_of_ble_eq_true rfl⟩) (fun r3 F2 H locs hp4 hI => ?_)
  obtain ⟨rfl, rfl⟩ := hp4
  refine lv_iconst (v := nI 1) hx hb dX4_different_5 (by decide) ?_
  refine z_topi (pI_1 (P := True) trivial) ?_
  refine lv_iconst (v := nI 1) hx hb dX4_different_6 (by decide) ?_
  refine z_topi (pI_1 (P := True) trivial) ?_
  refine z_calli hI (z_V (As := [.int (pI (okT zp0)), .int (pI (True)), .int (pI (True))]) (rest := []) ⟨hx, hb, hml, hown, hts⟩ hI m01 rfl (c_X4_passes l G B0 F σ th (okT zp0) (True) (True) hM) (z_cwV vX4_passes hts q788 ⟨Nat.le_of_ble_eq_true rfl, Nat.le_of_ble_eq_true rfl⟩) rfl hl.1 rfl (lv_room (Nat.le_of_ble_eq_true rfl)) dX4_different_7 ⟨Nat.le_of_ble_eq_true rfl, Nat.le_of_ble_eq_true rfl⟩) (fun r6 F5 H locs hp7 hI => ?_)
  obtain ⟨⟨th1, hM1, hz1⟩, rfl, ho1⟩ := hp7
  have hp1 : (okT zp0) ↔ oA_different σ zp0 := Iff.rfl
  have hp2 : oA_different σ zp0 → ((True) ↔ oB_different σ zp0) := fun _ => Iff.rfl
  have hp3 : oA_different σ zp0 → oB_different σ zp0 → ((True) ↔ oC_different σ zp0) := fun _ _ => Iff.rfl
  have hz2 := zTh_cg hp1 hp2 hp3 hz1
  refine z_topi (pI_cg (zC_cg hp1 hp2 hp3)) ?_
  have hmf1 : zMf B0 F F5 := fun q hq => ho1 q (by omega)
  obtain ⟨m08, ⟨ma8, m18, me18⟩, ⟨mb8, m28, me28⟩, ⟨mc8, m38, me38⟩, ⟨n98, t98, m48⟩, mT8, mP8⟩ := id hM1
  refine z_ifp_ne (tgt := 15) hx hb dX4_different_10 (by decide) (fun hq9 => ?_) (fun hq9 => ?_)
  · obtain ⟨hA, hB, hC0⟩ := id hq9
    have hc0 := hA
    obtain ⟨i10, hi11, rfl⟩ := id hc0
    have hix12 : ix (nI i10) = i10 := ix_nI (by omega)
    have hl : lv_has ls 4 [(0, .ref (B0 + 23)), (1, .int (nI i10))] := hl
    have hsbi10 := (hK.1 i10 hi11).1
    have hx13 := mT8 i10 hi11
    obtain ⟨xnhx13, xrhx13, fhx13, xwhx13, xfhx13⟩ := id hx13
    refine lv_iconst (v := nI 0) hx hb dX4_different_15 (by decide) ?_
    refine lv_istore_n (lv' := [(2, .int (nI 0)), (0, .ref (B0 + 23)), (1, .int (nI i10))]) hx hb dX4_different_16 rfl hl (by decide) rfl (fun ls hl => ?_)
    refine lv_iconst (v := nI 0) hx hb dX4_different_17 (by decide) ?_
    refine lv_istore_n (lv' := [(3, .int (nI 0)), (2, .int (nI 0)), (0, .ref (B0 + 23)), (1, .int (nI i10))]) hx hb dX4_different_18 rfl hl (by decide) rfl (fun ls hl => ?_)
    refine z_loop (σ := Nat × Nat) (fun xx : Nat × Nat => match xx with | (k, a) => [(0, .ref (B0 + 23)), (1, .int (nI i10)), (3, .int (nI k)), (2, .int (nI a))]) (fun (xx : Nat × Nat) (Fx : zM) => match xx with | (k, a) => F5 = Fx ∧ k ≤ 100 ∧ a = zct (fun v => 0 < cnt (st σ i10) (nI v) (sn σ i10)) k) (fun xx : Nat × Nat => match xx with | (k, a) => 100 - k) (0, 0) (nL := 4) (st := []) ?_ (lv_sub hl [2, 3, 0, 1] rfl) hI ?_
    · exact ⟨rfl, Nat.zero_le _, rfl⟩
    · intro xx F14 ls H locs hi hl hI ih
      obtain ⟨k, a⟩ := xx
      have hl : lv_has ls 4 [(0, .ref (B0 + 23)), (1, .int (nI i10)), (3, .int (nI k)), (2, .int (nI a))] := hl
      obtain ⟨hF, hk, ha⟩ := hi
      subst hF
      have hzl := zct_le (fun v => 0 < cnt (st σ i10) (nI v) (sn σ i10)) k
      have hcn := cnt_le (st σ i10) (nI k) (sn σ i10)
      refine lv_iload_n hx hb dX4_different_19 rfl (lv_at hl 2 rfl) ?_
      refine lv_bipush (v := nI 100) hx hb dX4_different_20 (by decide) ?_
      refine z_icmp_ge (tgt := 52) (a := k) (b := 100) hx hb dX4_different_22 (by decide) (by omega) (fun hq15 => ?_) (fun hq15 => ?_)
      · refine lv_iload_n hx hb dX4_different_52 rfl (lv_at hl 3 rfl) ?_
        refine z_ri hx hb hr hlocks hI ?_ (Nat.le_of_ble_eq_true rfl) (Nat.le_of_ble_eq_true rfl) dX4_different_53
        refine ⟨_, rfl, th1, _, hM1, hz2, fun _ => ⟨(by simp only [oA_different, oB_different, oC_different, rr_different, ss_different, hix12] <;> exact rfl), (by simp only [oA_different, oB_different, oC_different, rr_different, ss_different, hix12] <;> (rw [dff0 (hK.w hi11), ha, show k = 100 by omega]))⟩, fun q => absurd ⟨hA, hB, hC0⟩ q, hmf1⟩
      · refine lv_iload_n hx hb dX4_different_25 rfl (lv_at hl 3 rfl) ?_
        refine lv_aload_n hx hb dX4_different_26 rfl (lv_at hl 0 rfl) ?_
        refine z_get hx hb hts hown zlX4 rfl 1 (by decide) (hts _ q753) rfl hI m08 rfl dX4_different_27 ?_
        refine lv_iload_n hx hb dX4_different_30 rfl (lv_at hl 1 rfl) ?_
        refine z_ald3 (k := i10) (v := B0 + 25 + 2 * i10) hx hb hI m18 (by omega) (by omega) (me18 i10 (by omega)) dX4_different_31 ?_
        refine lv_iload_n hx hb dX4_different_32 rfl (lv_at hl 2 rfl) ?_
        refine z_calli hI (z_V (As := [.int (nI k)]) (rest := [.int (nI a)]) ⟨hx, hb, hml, hown, hts⟩ hI xrhx13 rfl (c_X3_often l G B0 F5 (B0 + 25 + 2 * i10) (B0 + 26 + 2 * i10) 60 (sn σ i10) (st σ i10) (nI k) ⟨xnhx13, xrhx13, fhx13, xwhx13, xfhx13⟩ (by omega)) (z_cwV vX3_often hts q931 ⟨Nat.le_of_ble_eq_true rfl, Nat.le_of_ble_eq_true rfl⟩) rfl hl.1 rfl (lv_room (Nat.le_of_ble_eq_true rfl)) dX4_different_33 ⟨Nat.le_of_ble_eq_true rfl, Nat.le_of_ble_eq_true rfl⟩) (fun r17 F16 H locs hp18 hI => ?_)
        obtain ⟨rfl, rfl⟩ := hp18
        refine z_if_le (tgt := 43) (a := cnt (st σ i10) (nI k) (sn σ i10)) hx hb dX4_different_36 (by decide) (by omega) (fun hq19 => ?_) (fun hq19 => ?_)
        · refine lv_iconst (v := nI 0) hx hb dX4_different_43 (by decide) ?_
          refine lv_iadd hx hb dX4_different_44 ?_
          refine z_topi (nI_add a 0) ?_
          refine lv_istore_n (lv' := [(2, .int (nI (a + 0))), (0, .ref (B0 + 23)), (1, .int (nI i10)), (3, .int (nI k))]) hx hb dX4_different_45 rfl hl (by decide) rfl (fun ls hl => ?_)
          refine lv_iinc (k := 3) (v := nI (k + 1)) (lv' := [(3, .int (nI (k + 1))), (2, .int (nI (a + 0))), (0, .ref (B0 + 23)), (1, .int (nI i10))]) hx hb dX4_different_46 hl rfl (nI_add k 1) (by decide) rfl (fun ls hl => ?_)
          refine lv_goto (tgt := 19) hx hb dX4_different_49 (by decide) ?_
          refine ih (k + 1, a + 0) _ ls H locs (by first | omega | (dsimp only; omega)) ?_ (lv_sub hl [2, 3, 0, 1] rfl) hI
          exact ⟨rfl, by omega, (by rw [zct_f (P := fun v => 0 < cnt (st σ i10) (nI v) (sn σ i10)) (by show ¬ 0 < _; omega), ha]; try rfl)⟩
        · refine lv_iconst (v := nI 1) hx hb dX4_different_39 (by decide) ?_
          refine lv_goto (tgt := 44) hx hb dX4_different_40 (by decide) ?_
          refine lv_iadd hx hb dX4_different_44 ?_
          refine z_topi (nI_add a 1) ?_
          refine lv_istore_n (lv' := [(2, .int (nI (a + 1))), (0, .ref (B0 + 23)), (1, .int (nI i10)), (3, .int (nI k))]) hx hb dX4_different_45 rfl hl (by decide) rfl (fun ls hl => ?_)
          refine lv_iinc (k := 3) (v := nI (k + 1)) (lv' := [(3, .int (nI (k + 1))), (2, .int (nI (a + 1))), (0, .ref (B0 + 23)), (1, .int (nI i10))]) hx hb dX4_different_46 hl rfl (nI_add k 1) (by decide) rfl (fun ls hl => ?_)
          refine lv_goto (tgt := 19) hx hb dX4_different_49 (by decide) ?_
          refine ih (k + 1, a + 1) _ ls H locs (by first | omega | (dsimp only; omega)) ?_ (lv_sub hl [2, 3, 0, 1] rfl) hI
          exact ⟨rfl, by omega, (by rw [zct_t (P := fun v => 0 < cnt (st σ i10) (nI v) (sn σ i10)) hq19, ha]; try rfl)⟩
  · refine lv_iconst (v := nI 0) hx hb dX4_different_13 (by decide) ?_
    refine z_ri hx hb hr hlocks hI ?_ (Nat.le_of_ble_eq_true rfl) (Nat.le_of_ble_eq_true rfl) dX4_different_14
    exact ⟨_, rfl, th1, σ, hM1, hz2, fun q => absurd q hq9, fun _ => rfl, hmf1⟩

set_option maxHeartbeats 4000000 in
set_option maxRecDepth 100000 in
theorem c_X4_isApart (l : Launch) (G : zK) (B0 : Nat) (F : zM) (σ : Sg) (th zp0 zp1 : Int32) (hM : MS G B0 F σ th) (hK : SgOk σ) : Met l yX4_isApart (Cond.code yX4_isApart cX4_isApart 4 (some FieldType.boolean) :: zW) (zRm 2 45 0 0) (va_Pc [.ref (B0 + 23), .int zp0, .int zp1] (zPre G B0 F)) (zQi G B0 (zRP G B0 F σ (oA_isApart σ zp0 zp1) (oB_isApart σ zp0 zp1) (oC_isApart σ zp0 zp1) (ss_isApart σ zp0 zp1) (rr_isApart σ zp0 zp1))) 0 0 (zA B0) := by
  refine z_of (own := RX4) (by decide) rfl (Nat.le_of_ble_eq_true rfl) ?_
  intro p e s m below meth c ls hx hb hr hml hown hlocks hnm hts hl hI
  have hl : lv_has ls 4 [(0, .ref (B0 + 23)), (1, .int zp0), (2, .int zp1)] := hl
  obtain ⟨m01, ⟨ma1, m11, me11⟩, ⟨mb1, m21, me21⟩, ⟨mc1, m31, me31⟩, ⟨n91, t91, m41⟩, mT1, mP1⟩ := id hM
  refine lv_aload_n hx hb dX4_isApart_0 rfl (lv_at hl 0 rfl) ?_
  refine z_join (σ := Int32) (fun x : Int32 => [(0, .ref (B0 + 23)), (1, .int zp0), (2, .int zp1)]) (fun x : Int32 => [.int x, .ref (B0 + 23)]) (fun (x : Int32) (Fx : zM) => F = Fx ∧ x = pI (okT zp0 ∧ okT zp1)) 20 4 G B0 ?_ (fun jn20 => ?_)
  · intro x F2 ls H locs hi hl hI
    have hl : lv_has ls 4 [(0, .ref (B0 + 23)), (1, .int zp0), (2, .int zp1)] := hl
    obtain ⟨hF, hx9⟩ := hi
    subst hF
    subst hx9
    refine lv_iconst (v := nI 1) hx hb dX4_isApart_20 (by decide) ?_
    refine z_topi (pI_1 (P := True) trivial) ?_
    refine lv_iconst (v := nI 1) hx hb dX4_isApart_21 (by decide) ?_
    refine z_topi (pI_1 (P := True) trivial) ?_
    refine z_calli hI (z_V (As := [.int (pI (okT zp0 ∧ okT zp1)), .int (pI (True)), .int (pI (True))]) (rest := []) ⟨hx, hb, hml, hown, hts⟩ hI m01 rfl (c_X4_passes l G B0 F σ th (okT zp0 ∧ okT zp1) (True) (True) hM) (z_cwV vX4_passes hts q788 ⟨Nat.le_of_ble_eq_true rfl, Nat.le_of_ble_eq_true rfl⟩) rfl hl.1 rfl (lv_room (Nat.le_of_ble_eq_true rfl)) dX4_isApart_22 ⟨Nat.le_of_ble_eq_true rfl, Nat.le_of_ble_eq_true rfl⟩) (fun r4 F3 H locs hp5 hI => ?_)
    obtain ⟨⟨th1, hM1, hz1⟩, rfl, ho1⟩ := hp5
    have hp1 : (okT zp0 ∧ okT zp1) ↔ oA_isApart σ zp0 zp1 := Iff.rfl
    have hp2 : oA_isApart σ zp0 zp1 → ((True) ↔ oB_isApart σ zp0 zp1) := fun _ => Iff.rfl
    have hp3 : oA_isApart σ zp0 zp1 → oB_isApart σ zp0 zp1 → ((True) ↔ oC_isApart σ zp0 zp1) := fun _ _ => Iff.rfl
    have hz2 := zTh_cg hp1 hp2 hp3 hz1
    refine z_topi (pI_cg (zC_cg hp1 hp2 hp3)) ?_
    have hmf1 : zMf B0 F F3 := fun q hq => ho1 q (by omega)
    obtain ⟨m06, ⟨ma6, m16, me16⟩, ⟨mb6, m26, me26⟩, ⟨mc6, m36, me36⟩, ⟨n96, t96, m46⟩, mT6, mP6⟩ := id hM1
    refine z_ifp_ne (tgt := 30) hx hb dX4_isApart_25 (by decide) (fun hq7 => ?_) (fun hq7 => ?_)
    · obtain ⟨hA, hB, hC0⟩ := id hq7
      obtain ⟨hc0, hc1⟩ := id hA
      obtain ⟨i8, hi9, rfl⟩ := id hc0
      have hix10 : ix (nI i8) = i8 := ix_nI (by omega)
      have hl : lv_has ls 4 [(0, .ref (B0 + 23)), (1, .int (nI i8)), (2, .int zp1)] := hl
      have hsbi8 := (hK.1 i8 hi9).1
      obtain ⟨i11, hi12, rfl⟩ := id hc1
      have hix13 : ix (nI i11) = i11 := ix_nI (by omega)
      have hl : lv_has ls 4 [(0, .ref (B0 + 23)), (1, .int (nI i8)), (2, .int (nI i11))] := hl
      have hsbi11 := (hK.1 i11 hi12).1
      have hx14 := mT6 i8 hi9
      obtain ⟨xnhx14, xrhx14, fhx14, xwhx14, xfhx14⟩ := id hx14
      have hx15 := mT6 i11 hi12
      obtain ⟨xnhx15, xrhx15, fhx15, xwhx15, xfhx15⟩ := id hx15
      refine lv_iconst (v := nI 0) hx hb dX4_isApart_30 (by decide) ?_
      refine lv_istore_n (lv' := [(3, .int (nI 0)), (0, .ref (B0 + 23)), (1, .int (nI i8)), (2, .int (nI i11))]) hx hb dX4_isApart_31 rfl hl (by decide) rfl (fun ls hl => ?_)
      refine z_loop (σ := Nat) (fun k : Nat => [(0, .ref (B0 + 23)), (1, .int (nI i8)), (2, .int (nI i11)), (3, .int (nI k))]) (fun (k : Nat) (Fx : zM) => F3 = Fx ∧ k ≤ 100 ∧ ∀ v, v < k → ¬ (0 < cnt (st σ i8) (nI v) (sn σ i8) ∧ 0 < cnt (st σ i11) (nI v) (sn σ i11))) (fun k : Nat => 100 - k) 0 (nL := 4) (st := []) ?_ (lv_sub hl [1, 2, 3, 0] rfl) hI ?_
      · exact ⟨rfl, Nat.zero_le _, fun v hv => absurd hv (Nat.not_lt_zero _)⟩
      · intro k F16 ls H locs hi hl hI ih
        have hl : lv_has ls 4 [(0, .ref (B0 + 23)), (1, .int (nI i8)), (2, .int (nI i11)), (3, .int (nI k))] := hl
        obtain ⟨hF, hk, ha⟩ := hi
        subst hF
        have hcn := cnt_le (st σ i8) (nI k) (sn σ i8)
        have hcn2 := cnt_le (st σ i11) (nI k) (sn σ i11)
        refine lv_iload_n hx hb dX4_isApart_32 rfl (lv_at hl 3 rfl) ?_
        refine lv_bipush (v := nI 100) hx hb dX4_isApart_33 (by decide) ?_
        refine z_icmp_ge (tgt := 72) (a := k) (b := 100) hx hb dX4_isApart_35 (by decide) (by omega) (fun hq17 => ?_) (fun hq17 => ?_)
        · refine lv_iconst (v := nI 1) hx hb dX4_isApart_72 (by decide) ?_
          refine z_rz hx hb hr hlocks (Or.inr rfl) hI ?_ (Nat.le_of_ble_eq_true rfl) (Nat.le_of_ble_eq_true rfl) dX4_isApart_73
          refine ⟨_, rfl, th1, _, hM1, hz2, fun _ => ⟨(by simp only [oA_isApart, oB_isApart, oC_isApart, rr_isApart, ss_isApart, hix10, hix13] <;> exact rfl), (by simp only [oA_isApart, oB_isApart, oC_isApart, rr_isApart, ss_isApart, hix10, hix13] <;> exact pI_t ((apt (hK.w hi9)).mpr (fun v hv => ha v (by omega))))⟩, fun q => absurd ⟨hA, hB, hC0⟩ q, hmf1⟩
        · refine lv_aload_n hx hb dX4_isApart_38 rfl (lv_at hl 0 rfl) ?_
          refine z_get hx hb hts hown zlX4 rfl 1 (by decide) (hts _ q753) rfl hI m06 rfl dX4_isApart_39 ?_
          refine lv_iload_n hx hb dX4_isApart_42 rfl (lv_at hl 1 rfl) ?_
          refine z_ald3 (k := i8) (v := B0 + 25 + 2 * i8) hx hb hI m16 (by omega) (by omega) (me16 i8 (by omega)) dX4_isApart_43 ?_
          refine lv_iload_n hx hb dX4_isApart_44 rfl (lv_at hl 3 rfl) ?_
          refine z_calli hI (z_V (As := [.int (nI k)]) (rest := []) ⟨hx, hb, hml, hown, hts⟩ hI xrhx14 rfl (c_X3_often l G B0 F3 (B0 + 25 + 2 * i8) (B0 + 26 + 2 * i8) 60 (sn σ i8) (st σ i8) (nI k) ⟨xnhx14, xrhx14, fhx14, xwhx14, xfhx14⟩ (by omega)) (z_cwV vX3_often hts q931 ⟨Nat.le_of_ble_eq_true rfl, Nat.le_of_ble_eq_true rfl⟩) rfl hl.1 rfl (lv_room (Nat.le_of_ble_eq_true rfl)) dX4_isApart_45 ⟨Nat.le_of_ble_eq_true rfl, Nat.le_of_ble_eq_true rfl⟩) (fun r19 F18 H locs hp20 hI => ?_)
          obtain ⟨rfl, rfl⟩ := hp20
          refine z_if_le (tgt := 66) (a := cnt (st σ i8) (nI k) (sn σ i8)) hx hb dX4_isApart_48 (by decide) (by omega) (fun hq21 => ?_) (fun hq21 => ?_)
          · refine lv_iinc (k := 3) (v := nI (k + 1)) (lv' := [(3, .int (nI (k + 1))), (0, .ref (B0 + 23)), (1, .int (nI i8)), (2, .int (nI i11))]) hx hb dX4_isApart_66 hl rfl (nI_add k 1) (by decide) rfl (fun ls hl => ?_)
            refine lv_goto (tgt := 32) hx hb dX4_isApart_69 (by decide) ?_
            refine ih (k + 1) _ ls H locs (by first | omega | (dsimp only; omega)) ?_ (lv_sub hl [1, 2, 3, 0] rfl) hI
            refine ⟨rfl, by omega, fun v hv => ?_⟩
            by_cases q : v = k
            · subst q; exact fun z => by have := z.1; omega
            · exact ha v (by omega)
          · refine lv_aload_n hx hb dX4_isApart_51 rfl (lv_at hl 0 rfl) ?_
            refine z_get hx hb hts hown zlX4 rfl 1 (by decide) (hts _ q753) rfl hI m06 rfl dX4_isApart_52 ?_
            refine lv_iload_n hx hb dX4_isApart_55 rfl (lv_at hl 2 rfl) ?_
            refine z_ald3 (k := i11) (v := B0 + 25 + 2 * i11) hx hb hI m16 (by omega) (by omega) (me16 i11 (by omega)) dX4_isApart_56 ?_
            refine lv_iload_n hx hb dX4_isApart_57 rfl (lv_at hl 3 rfl) ?_
            refine z_calli hI (z_V (As := [.int (nI k)]) (rest := []) ⟨hx, hb, hml, hown, hts⟩ hI xrhx15 rfl (c_X3_often l G B0 F3 (B0 + 25 + 2 * i11) (B0 + 26 + 2 * i11) 60 (sn σ i11) (st σ i11) (nI k) ⟨xnhx15, xrhx15, fhx15, xwhx15, xfhx15⟩ (by omega)) (z_cwV vX3_often hts q931 ⟨Nat.le_of_ble_eq_true rfl, Nat.le_of_ble_eq_true rfl⟩) rfl hl.1 rfl (lv_room (Nat.le_of_ble_eq_true rfl)) dX4_isApart_58 ⟨Nat.le_of_ble_eq_true rfl, Nat.le_of_ble_eq_true rfl⟩) (fun r23 F22 H locs hp24 hI => ?_)
            obtain ⟨rfl, rfl⟩ := hp24
            refine z_if_le (tgt := 66) (a := cnt (st σ i11) (nI k) (sn σ i11)) hx hb dX4_isApart_61 (by decide) (by omega) (fun hq25 => ?_) (fun hq25 => ?_)
            · refine lv_iinc (k := 3) (v := nI (k + 1)) (lv' := [(3, .int (nI (k + 1))), (0, .ref (B0 + 23)), (1, .int (nI i8)), (2, .int (nI i11))]) hx hb dX4_isApart_66 hl rfl (nI_add k 1) (by decide) rfl (fun ls hl => ?_)
              refine lv_goto (tgt := 32) hx hb dX4_isApart_69 (by decide) ?_
              refine ih (k + 1) _ ls H locs (by first | omega | (dsimp only; omega)) ?_ (lv_sub hl [1, 2, 3, 0] rfl) hI
              refine ⟨rfl, by omega, fun v hv => ?_⟩
              by_cases q : v = k
              · subst q; exact fun z => by have := z.2; omega
              · exact ha v (by omega)
            · refine lv_iconst (v := nI 0) hx hb dX4_isApart_64 (by decide) ?_
              refine z_rz hx hb hr hlocks (Or.inl rfl) hI ?_ (Nat.le_of_ble_eq_true rfl) (Nat.le_of_ble_eq_true rfl) dX4_isApart_65
              refine ⟨_, rfl, th1, _, hM1, hz2, fun _ => ⟨(by simp only [oA_isApart, oB_isApart, oC_isApart, rr_isApart, ss_isApart, hix10, hix13] <;> exact rfl), (by simp only [oA_isApart, oB_isApart, oC_isApart, rr_isApart, ss_isApart, hix10, hix13] <;> exact pI_f (fun z => (apt (hK.w hi9)).mp z k (by omega) ⟨hq21, hq25⟩))⟩, fun q => absurd ⟨hA, hB, hC0⟩ q, hmf1⟩
    · refine lv_iconst (v := nI 0) hx hb dX4_isApart_28 (by decide) ?_
      refine z_rz hx hb hr hlocks (Or.inl rfl) hI ?_ (Nat.le_of_ble_eq_true rfl) (Nat.le_of_ble_eq_true rfl) dX4_isApart_29
      exact ⟨_, rfl, th1, σ, hM1, hz2, fun q => absurd q hq7, fun _ => rfl, hmf1⟩
  · refine lv_iload_n hx hb dX4_isApart_1 rfl (lv_at hl 1 rfl) ?_
    refine z_calli hI (z_S (As := [.int zp0]) (rest := [.ref (B0 + 23)]) ⟨hx, hb, hml, hown, hts⟩ hI (c_X4_isText l G B0 F zp0) (z_cwS vX4_isText hts q772 ⟨Nat.le_of_ble_eq_true rfl, Nat.le_of_ble_eq_true rfl⟩) rfl hl.1 rfl (lv_room (Nat.le_of_ble_eq_true rfl)) dX4_isApart_2 ⟨Nat.le_of_ble_eq_true rfl, Nat.le_of_ble_eq_true rfl⟩) (fun r27 F26 H locs hp28 hI => ?_)
    obtain ⟨rfl, rfl⟩ := hp28
    refine z_ifp_eq (tgt := 19) hx hb dX4_isApart_5 (by decide) (fun hq29 => ?_) (fun hq29 => ?_)
    · refine lv_iconst (v := nI 0) hx hb dX4_isApart_19 (by decide) ?_
      refine jn20 (nI 0) _ ls H locs ?_ (lv_sub hl [0, 1, 2] rfl) hI
      exact ⟨rfl, pI_f (fun z => by have z2 := z.1; first | exact hq29 z2 | (first | exact hq29 z2 | exact i_le_n.mp z2 hq29 | exact l_le_n.mp z2 (lg_gt.mp hq29) | exact l_le_n.mp z2 (lg_lt.mp hq29) | exact hq29 ((in_pl1 (by omega)).mpr z2) | omega))⟩
    · refine lv_iload_n hx hb dX4_isApart_8 rfl (lv_at hl 2 rfl) ?_
      refine z_calli hI (z_S (As := [.int zp1]) (rest := [.ref (B0 + 23)]) ⟨hx, hb, hml, hown, hts⟩ hI (c_X4_isText l G B0 F zp1) (z_cwS vX4_isText hts q772 ⟨Nat.le_of_ble_eq_true rfl, Nat.le_of_ble_eq_true rfl⟩) rfl hl.1 rfl (lv_room (Nat.le_of_ble_eq_true rfl)) dX4_isApart_9 ⟨Nat.le_of_ble_eq_true rfl, Nat.le_of_ble_eq_true rfl⟩) (fun r31 F30 H locs hp32 hI => ?_)
      obtain ⟨rfl, rfl⟩ := hp32
      refine z_ifp_eq (tgt := 19) hx hb dX4_isApart_12 (by decide) (fun hq33 => ?_) (fun hq33 => ?_)
      · refine lv_iconst (v := nI 0) hx hb dX4_isApart_19 (by decide) ?_
        refine jn20 (nI 0) _ ls H locs ?_ (lv_sub hl [0, 1, 2] rfl) hI
        exact ⟨rfl, pI_f (fun z => by have z2 := z.2; first | exact hq33 z2 | (first | exact hq33 z2 | exact i_le_n.mp z2 hq33 | exact l_le_n.mp z2 (lg_gt.mp hq33) | exact l_le_n.mp z2 (lg_lt.mp hq33) | exact hq33 ((in_pl1 (by omega)).mpr z2) | omega))⟩
      · refine lv_iconst (v := nI 1) hx hb dX4_isApart_15 (by decide) ?_
        refine lv_goto (tgt := 20) hx hb dX4_isApart_16 (by decide) ?_
        refine jn20 (nI 1) _ ls H locs ?_ (lv_sub hl [0, 1, 2] rfl) hI
        exact ⟨rfl, pI_t ⟨(by first | exact hq29 | exact i_le_n.mpr hq29 | exact l_le_n.mpr (fun q => hq29 (lg_gt.mpr q)) | exact l_le_n.mpr (fun q => hq29 (lg_lt.mpr q)) | exact (in_pl1 (by omega)).mp hq29 | omega), (by first | exact hq33 | exact i_le_n.mpr hq33 | exact l_le_n.mpr (fun q => hq33 (lg_gt.mpr q)) | exact l_le_n.mpr (fun q => hq33 (lg_lt.mpr q)) | exact (in_pl1 (by omega)).mp hq33 | omega)⟩⟩

set_option maxHeartbeats 4000000 in
set_option maxRecDepth 100000 in
theorem c_X4_alone (l : Launch) (G : zK) (B0 : Nat) (F : zM) (σ : Sg) (th zp0 zp1 : Int32) (hM : MS G B0 F σ th) (hK : SgOk σ) : Met l yX4_alone (Cond.code yX4_alone cX4_alone 5 (some FieldType.int) :: zW) (zRm 2 45 0 0) (va_Pc [.ref (B0 + 23), .int zp0, .int zp1] (zPre G B0 F)) (zQi G B0 (zRP G B0 F σ (oA_alone σ zp0 zp1) (oB_alone σ zp0 zp1) (oC_alone σ zp0 zp1) (ss_alone σ zp0 zp1) (rr_alone σ zp0 zp1))) 0 0 (zA B0) := by
  refine z_of (own := RX4) (by decide) rfl (Nat.le_of_ble_eq_true rfl) ?_
  intro p e s m below meth c ls hx hb hr hml hown hlocks hnm hts hl hI
  have hl : lv_has ls 5 [(0, .ref (B0 + 23)), (1, .int zp0), (2, .int zp1)] := hl
  obtain ⟨m01, ⟨ma1, m11, me11⟩, ⟨mb1, m21, me21⟩, ⟨mc1, m31, me31⟩, ⟨n91, t91, m41⟩, mT1, mP1⟩ := id hM
  refine lv_aload_n hx hb dX4_alone_0 rfl (lv_at hl 0 rfl) ?_
  refine z_join (σ := Int32) (fun x : Int32 => [(0, .ref (B0 + 23)), (1, .int zp0), (2, .int zp1)]) (fun x : Int32 => [.int x, .ref (B0 + 23)]) (fun (x : Int32) (Fx : zM) => F = Fx ∧ x = pI (okT zp0 ∧ okT zp1)) 20 5 G B0 ?_ (fun jn20 => ?_)
  · intro x F2 ls H locs hi hl hI
    have hl : lv_has ls 5 [(0, .ref (B0 + 23)), (1, .int zp0), (2, .int zp1)] := hl
    obtain ⟨hF, hx9⟩ := hi
    subst hF
    subst hx9
    refine lv_iconst (v := nI 1) hx hb dX4_alone_20 (by decide) ?_
    refine z_topi (pI_1 (P := True) trivial) ?_
    refine lv_iconst (v := nI 1) hx hb dX4_alone_21 (by decide) ?_
    refine z_topi (pI_1 (P := True) trivial) ?_
    refine z_calli hI (z_V (As := [.int (pI (okT zp0 ∧ okT zp1)), .int (pI (True)), .int (pI (True))]) (rest := []) ⟨hx, hb, hml, hown, hts⟩ hI m01 rfl (c_X4_passes l G B0 F σ th (okT zp0 ∧ okT zp1) (True) (True) hM) (z_cwV vX4_passes hts q788 ⟨Nat.le_of_ble_eq_true rfl, Nat.le_of_ble_eq_true rfl⟩) rfl hl.1 rfl (lv_room (Nat.le_of_ble_eq_true rfl)) dX4_alone_22 ⟨Nat.le_of_ble_eq_true rfl, Nat.le_of_ble_eq_true rfl⟩) (fun r4 F3 H locs hp5 hI => ?_)
    obtain ⟨⟨th1, hM1, hz1⟩, rfl, ho1⟩ := hp5
    have hp1 : (okT zp0 ∧ okT zp1) ↔ oA_alone σ zp0 zp1 := Iff.rfl
    have hp2 : oA_alone σ zp0 zp1 → ((True) ↔ oB_alone σ zp0 zp1) := fun _ => Iff.rfl
    have hp3 : oA_alone σ zp0 zp1 → oB_alone σ zp0 zp1 → ((True) ↔ oC_alone σ zp0 zp1) := fun _ _ => Iff.rfl
    have hz2 := zTh_cg hp1 hp2 hp3 hz1
    refine z_topi (pI_cg (zC_cg hp1 hp2 hp3)) ?_
    have hmf1 : zMf B0 F F3 := fun q hq => ho1 q (by omega)
    obtain ⟨m06, ⟨ma6, m16, me16⟩, ⟨mb6, m26, me26⟩, ⟨mc6, m36, me36⟩, ⟨n96, t96, m46⟩, mT6, mP6⟩ := id hM1
    refine z_ifp_ne (tgt := 30) hx hb dX4_alone_25 (by decide) (fun hq7 => ?_) (fun hq7 => ?_)
    · obtain ⟨hA, hB, hC0⟩ := id hq7
      obtain ⟨hc0, hc1⟩ := id hA
      obtain ⟨i8, hi9, rfl⟩ := id hc0
      have hix10 : ix (nI i8) = i8 := ix_nI (by omega)
      have hl : lv_has ls 5 [(0, .ref (B0 + 23)), (1, .int (nI i8)), (2, .int zp1)] := hl
      have hsbi8 := (hK.1 i8 hi9).1
      obtain ⟨i11, hi12, rfl⟩ := id hc1
      have hix13 : ix (nI i11) = i11 := ix_nI (by omega)
      have hl : lv_has ls 5 [(0, .ref (B0 + 23)), (1, .int (nI i8)), (2, .int (nI i11))] := hl
      have hsbi11 := (hK.1 i11 hi12).1
      have hx14 := mT6 i8 hi9
      obtain ⟨xnhx14, xrhx14, fhx14, xwhx14, xfhx14⟩ := id hx14
      have hx15 := mT6 i11 hi12
      obtain ⟨xnhx15, xrhx15, fhx15, xwhx15, xfhx15⟩ := id hx15
      refine lv_iconst (v := nI 0) hx hb dX4_alone_30 (by decide) ?_
      refine lv_istore_n (lv' := [(3, .int (nI 0)), (0, .ref (B0 + 23)), (1, .int (nI i8)), (2, .int (nI i11))]) hx hb dX4_alone_31 rfl hl (by decide) rfl (fun ls hl => ?_)
      refine lv_iconst (v := nI 0) hx hb dX4_alone_32 (by decide) ?_
      refine lv_istore (lv' := [(4, .int (nI 0)), (3, .int (nI 0)), (0, .ref (B0 + 23)), (1, .int (nI i8)), (2, .int (nI i11))]) hx hb dX4_alone_33 hl (by decide) rfl (fun ls hl => ?_)
      refine z_loop (σ := Nat × Nat) (fun xx : Nat × Nat => match xx with | (k, a) => [(0, .ref (B0 + 23)), (1, .int (nI i8)), (2, .int (nI i11)), (4, .int (nI k)), (3, .int (nI a))]) (fun (xx : Nat × Nat) (Fx : zM) => match xx with | (k, a) => F3 = Fx ∧ k ≤ 100 ∧ a = zct (fun v => 0 < cnt (st σ i8) (nI v) (sn σ i8) ∧ ¬ 0 < cnt (st σ i11) (nI v) (sn σ i11)) k) (fun xx : Nat × Nat => match xx with | (k, a) => 100 - k) (0, 0) (nL := 5) (st := []) ?_ (lv_sub hl [2, 3, 4, 0, 1] rfl) hI ?_
      · exact ⟨rfl, Nat.zero_le _, rfl⟩
      · intro xx F16 ls H locs hi hl hI ih
        obtain ⟨k, a⟩ := xx
        have hl : lv_has ls 5 [(0, .ref (B0 + 23)), (1, .int (nI i8)), (2, .int (nI i11)), (4, .int (nI k)), (3, .int (nI a))] := hl
        obtain ⟨hF, hk, ha⟩ := hi
        subst hF
        have hzl := zct_le (fun v => 0 < cnt (st σ i8) (nI v) (sn σ i8) ∧ ¬ 0 < cnt (st σ i11) (nI v) (sn σ i11)) k
        have hcn := cnt_le (st σ i8) (nI k) (sn σ i8)
        have hcn2 := cnt_le (st σ i11) (nI k) (sn σ i11)
        refine lv_iload hx hb dX4_alone_35 (lv_at hl 3 rfl) ?_
        refine lv_bipush (v := nI 100) hx hb dX4_alone_37 (by decide) ?_
        refine z_icmp_ge (tgt := 84) (a := k) (b := 100) hx hb dX4_alone_39 (by decide) (by omega) (fun hq17 => ?_) (fun hq17 => ?_)
        · refine lv_iload_n hx hb dX4_alone_84 rfl (lv_at hl 4 rfl) ?_
          refine z_ri hx hb hr hlocks hI ?_ (Nat.le_of_ble_eq_true rfl) (Nat.le_of_ble_eq_true rfl) dX4_alone_85
          refine ⟨_, rfl, th1, _, hM1, hz2, fun _ => ⟨(by simp only [oA_alone, oB_alone, oC_alone, rr_alone, ss_alone, hix10, hix13] <;> exact rfl), (by simp only [oA_alone, oB_alone, oC_alone, rr_alone, ss_alone, hix10, hix13] <;> (rw [dff (st σ i8) (fun x => ¬ 0 < cnt (st σ i11) x (sn σ i11)) (hK.w hi9), ha, show k = 100 by omega]))⟩, fun q => absurd ⟨hA, hB, hC0⟩ q, hmf1⟩
        · refine lv_iload_n hx hb dX4_alone_42 rfl (lv_at hl 4 rfl) ?_
          refine lv_aload_n hx hb dX4_alone_43 rfl (lv_at hl 0 rfl) ?_
          refine z_get hx hb hts hown zlX4 rfl 1 (by decide) (hts _ q753) rfl hI m06 rfl dX4_alone_44 ?_
          refine lv_iload_n hx hb dX4_alone_47 rfl (lv_at hl 1 rfl) ?_
          refine z_ald3 (k := i8) (v := B0 + 25 + 2 * i8) hx hb hI m16 (by omega) (by omega) (me16 i8 (by omega)) dX4_alone_48 ?_
          refine lv_iload hx hb dX4_alone_49 (lv_at hl 3 rfl) ?_
          refine z_calli hI (z_V (As := [.int (nI k)]) (rest := [.int (nI a)]) ⟨hx, hb, hml, hown, hts⟩ hI xrhx14 rfl (c_X3_often l G B0 F3 (B0 + 25 + 2 * i8) (B0 + 26 + 2 * i8) 60 (sn σ i8) (st σ i8) (nI k) ⟨xnhx14, xrhx14, fhx14, xwhx14, xfhx14⟩ (by omega)) (z_cwV vX3_often hts q931 ⟨Nat.le_of_ble_eq_true rfl, Nat.le_of_ble_eq_true rfl⟩) rfl hl.1 rfl (lv_room (Nat.le_of_ble_eq_true rfl)) dX4_alone_51 ⟨Nat.le_of_ble_eq_true rfl, Nat.le_of_ble_eq_true rfl⟩) (fun r19 F18 H locs hp20 hI => ?_)
          obtain ⟨rfl, rfl⟩ := hp20
          refine z_if_le (tgt := 75) (a := cnt (st σ i8) (nI k) (sn σ i8)) hx hb dX4_alone_54 (by decide) (by omega) (fun hq21 => ?_) (fun hq21 => ?_)
          · refine lv_iconst (v := nI 0) hx hb dX4_alone_75 (by decide) ?_
            refine lv_iadd hx hb dX4_alone_76 ?_
            refine z_topi (nI_add a 0) ?_
            refine lv_istore_n (lv' := [(3, .int (nI (a + 0))), (0, .ref (B0 + 23)), (1, .int (nI i8)), (2, .int (nI i11)), (4, .int (nI k))]) hx hb dX4_alone_77 rfl hl (by decide) rfl (fun ls hl => ?_)
            refine lv_iinc (k := 4) (v := nI (k + 1)) (lv' := [(4, .int (nI (k + 1))), (3, .int (nI (a + 0))), (0, .ref (B0 + 23)), (1, .int (nI i8)), (2, .int (nI i11))]) hx hb dX4_alone_78 hl rfl (nI_add k 1) (by decide) rfl (fun ls hl => ?_)
            refine lv_goto (tgt := 35) hx hb dX4_alone_81 (by decide) ?_
            refine ih (k + 1, a + 0) _ ls H locs (by first | omega | (dsimp only; omega)) ?_ (lv_sub hl [2, 3, 4, 0, 1] rfl) hI
            exact ⟨rfl, by omega, (by rw [zct_f (P := fun v => 0 < cnt (st σ i8) (nI v) (sn σ i8) ∧ ¬ 0 < cnt (st σ i11) (nI v) (sn σ i11)) (fun z => by have := z.1; omega), ha]; try rfl)⟩
          · refine lv_aload_n hx hb dX4_alone_57 rfl (lv_at hl 0 rfl) ?_
            refine z_get hx hb hts hown zlX4 rfl 1 (by decide) (hts _ q753) rfl hI m06 rfl dX4_alone_58 ?_
            refine lv_iload_n hx hb dX4_alone_61 rfl (lv_at hl 2 rfl) ?_
            refine z_ald3 (k := i11) (v := B0 + 25 + 2 * i11) hx hb hI m16 (by omega) (by omega) (me16 i11 (by omega)) dX4_alone_62 ?_
            refine lv_iload hx hb dX4_alone_63 (lv_at hl 3 rfl) ?_
            refine z_calli hI (z_V (As := [.int (nI k)]) (rest := [.int (nI a)]) ⟨hx, hb, hml, hown, hts⟩ hI xrhx15 rfl (c_X3_often l G B0 F3 (B0 + 25 + 2 * i11) (B0 + 26 + 2 * i11) 60 (sn σ i11) (st σ i11) (nI k) ⟨xnhx15, xrhx15, fhx15, xwhx15, xfhx15⟩ (by omega)) (z_cwV vX3_often hts q931 ⟨Nat.le_of_ble_eq_true rfl, Nat.le_of_ble_eq_true rfl⟩) rfl hl.1 rfl (lv_room (Nat.le_of_ble_eq_true rfl)) dX4_alone_65 ⟨Nat.le_of_ble_eq_true rfl, Nat.le_of_ble_eq_true rfl⟩) (fun r23 F22 H locs hp24 hI => ?_)
            obtain ⟨rfl, rfl⟩ := hp24
            refine z_if_ne (tgt := 75) (a := cnt (st σ i11) (nI k) (sn σ i11)) hx hb dX4_alone_68 (by decide) (by omega) (fun hq25 => ?_) (fun hq25 => ?_)
            · refine lv_iconst (v := nI 0) hx hb dX4_alone_75 (by decide) ?_
              refine lv_iadd hx hb dX4_alone_76 ?_
              refine z_topi (nI_add a 0) ?_
              refine lv_istore_n (lv' := [(3, .int (nI (a + 0))), (0, .ref (B0 + 23)), (1, .int (nI i8)), (2, .int (nI i11)), (4, .int (nI k))]) hx hb dX4_alone_77 rfl hl (by decide) rfl (fun ls hl => ?_)
              refine lv_iinc (k := 4) (v := nI (k + 1)) (lv' := [(4, .int (nI (k + 1))), (3, .int (nI (a + 0))), (0, .ref (B0 + 23)), (1, .int (nI i8)), (2, .int (nI i11))]) hx hb dX4_alone_78 hl rfl (nI_add k 1) (by decide) rfl (fun ls hl => ?_)
              refine lv_goto (tgt := 35) hx hb dX4_alone_81 (by decide) ?_
              refine ih (k + 1, a + 0) _ ls H locs (by first | omega | (dsimp only; omega)) ?_ (lv_sub hl [2, 3, 4, 0, 1] rfl) hI
              exact ⟨rfl, by omega, (by rw [zct_f (P := fun v => 0 < cnt (st σ i8) (nI v) (sn σ i8) ∧ ¬ 0 < cnt (st σ i11) (nI v) (sn σ i11)) (fun z => by have := z.2; omega), ha]; try rfl)⟩
            · refine lv_iconst (v := nI 1) hx hb dX4_alone_71 (by decide) ?_
              refine lv_goto (tgt := 76) hx hb dX4_alone_72 (by decide) ?_
              refine lv_iadd hx hb dX4_alone_76 ?_
              refine z_topi (nI_add a 1) ?_
              refine lv_istore_n (lv' := [(3, .int (nI (a + 1))), (0, .ref (B0 + 23)), (1, .int (nI i8)), (2, .int (nI i11)), (4, .int (nI k))]) hx hb dX4_alone_77 rfl hl (by decide) rfl (fun ls hl => ?_)
              refine lv_iinc (k := 4) (v := nI (k + 1)) (lv' := [(4, .int (nI (k + 1))), (3, .int (nI (a + 1))), (0, .ref (B0 + 23)), (1, .int (nI i8)), (2, .int (nI i11))]) hx hb dX4_alone_78 hl rfl (nI_add k 1) (by decide) rfl (fun ls hl => ?_)
              refine lv_goto (tgt := 35) hx hb dX4_alone_81 (by decide) ?_
              refine ih (k + 1, a + 1) _ ls H locs (by first | omega | (dsimp only; omega)) ?_ (lv_sub hl [2, 3, 4, 0, 1] rfl) hI
              exact ⟨rfl, by omega, (by rw [zct_t (P := fun v => 0 < cnt (st σ i8) (nI v) (sn σ i8) ∧ ¬ 0 < cnt (st σ i11) (nI v) (sn σ i11)) ⟨by omega, by omega⟩, ha]; try rfl)⟩
    · refine lv_iconst (v := nI 0) hx hb dX4_alone_28 (by decide) ?_
      refine z_ri hx hb hr hlocks hI ?_ (Nat.le_of_ble_eq_true rfl) (Nat.le_of_ble_eq_true rfl) dX4_alone_29
      exact ⟨_, rfl, th1, σ, hM1, hz2, fun q => absurd q hq7, fun _ => rfl, hmf1⟩
  · refine lv_iload_n hx hb dX4_alone_1 rfl (lv_at hl 1 rfl) ?_
    refine z_calli hI (z_S (As := [.int zp0]) (rest := [.ref (B0 + 23)]) ⟨hx, hb, hml, hown, hts⟩ hI (c_X4_isText l G B0 F zp0) (z_cwS vX4_isText hts q772 ⟨Nat.le_of_ble_eq_true rfl, Nat.le_of_ble_eq_true rfl⟩) rfl hl.1 rfl (lv_room (Nat.le_of_ble_eq_true rfl)) dX4_alone_2 ⟨Nat.le_of_ble_eq_true rfl, Nat.le_of_ble_eq_true rfl⟩) (fun r27 F26 H locs hp28 hI => ?_)
    obtain ⟨rfl, rfl⟩ := hp28
    refine z_ifp_eq (tgt := 19) hx hb dX4_alone_5 (by decide) (fun hq29 => ?_) (fun hq29 => ?_)
    · refine lv_iconst (v := nI 0) hx hb dX4_alone_19 (by decide) ?_
      refine jn20 (nI 0) _ ls H locs ?_ (lv_sub hl [0, 1, 2] rfl) hI
      exact ⟨rfl, pI_f (fun z => by have z2 := z.1; first | exact hq29 z2 | (first | exact hq29 z2 | exact i_le_n.mp z2 hq29 | exact l_le_n.mp z2 (lg_gt.mp hq29) | exact l_le_n.mp z2 (lg_lt.mp hq29) | exact hq29 ((in_pl1 (by omega)).mpr z2) | omega))⟩
    · refine lv_iload_n hx hb dX4_alone_8 rfl (lv_at hl 2 rfl) ?_
      refine z_calli hI (z_S (As := [.int zp1]) (rest := [.ref (B0 + 23)]) ⟨hx, hb, hml, hown, hts⟩ hI (c_X4_isText l G B0 F zp1) (z_cwS vX4_isText hts q772 ⟨Nat.le_of_ble_eq_true rfl, Nat.le_of_ble_eq_true rfl⟩) rfl hl.1 rfl (lv_room (Nat.le_of_ble_eq_true rfl)) dX4_alone_9 ⟨Nat.le_of_ble_eq_true rfl, Nat.le_of_ble_eq_true rfl⟩) (fun r31 F30 H locs hp32 hI => ?_)
      obtain ⟨rfl, rfl⟩ := hp32
      refine z_ifp_eq (tgt := 19) hx hb dX4_alone_12 (by decide) (fun hq33 => ?_) (fun hq33 => ?_)
      · refine lv_iconst (v := nI 0) hx hb dX4_alone_19 (by decide) ?_
        refine jn20 (nI 0) _ ls H locs ?_ (lv_sub hl [0, 1, 2] rfl) hI
        exact ⟨rfl, pI_f (fun z => by have z2 := z.2; first | exact hq33 z2 | (first | exact hq33 z2 | exact i_le_n.mp z2 hq33 | exact l_le_n.mp z2 (lg_gt.mp hq33) | exact l_le_n.mp z2 (lg_lt.mp hq33) | exact hq33 ((in_pl1 (by omega)).mpr z2) | omega))⟩
      · refine lv_iconst (v := nI 1) hx hb dX4_alone_15 (by decide) ?_
        refine lv_goto (tgt := 20) hx hb dX4_alone_16 (by decide) ?_
        refine jn20 (nI 1) _ ls H locs ?_ (lv_sub hl [0, 1, 2] rfl) hI
        exact ⟨rfl, pI_t ⟨(by first | exact hq29 | exact i_le_n.mpr hq29 | exact l_le_n.mpr (fun q => hq29 (lg_gt.mpr q)) | exact l_le_n.mpr (fun q => hq29 (lg_lt.mpr q)) | exact (in_pl1 (by omega)).mp hq29 | omega), (by first | exact hq33 | exact i_le_n.mpr hq33 | exact l_le_n.mpr (fun q => hq33 (lg_gt.mpr q)) | exact l_le_n.mpr (fun q => hq33 (lg_lt.mpr q)) | exact (in_pl1 (by omega)).mp hq33 | omega)⟩⟩

set_option maxHeartbeats 4000000 in
set_option maxRecDepth 100000 in
theorem c_X4_most (l : Launch) (G : zK) (B0 : Nat) (F : zM) (σ : Sg) (th zp0 : Int32) (hM : MS G B0 F σ th) (hK : SgOk σ) : Met l yX4_most (Cond.code yX4_most cX4_most 4 (some FieldType.int) :: zW) (zRm 2 45 0 0) (va_Pc [.ref (B0 + 23), .int zp0] (zPre G B0 F)) (zQi G B0 (zRP G B0 F σ (oA_most σ zp0) (oB_most σ zp0) (oC_most σ zp0) (ss_most σ zp0) (rr_most σ zp0))) 0 0 (zA B0) := by
  refine z_of (own := RX4) (by decide) rfl (Nat.le_of_ble_eq_true rfl) ?_
  intro p e s m below meth c ls hx hb hr hml hown hlocks hnm hts hl hI
  have hl : lv_has ls 4 [(0, .ref (B0 + 23)), (1, .int zp0)] := hl
  obtain ⟨m01, ⟨ma1, m11, me11⟩, ⟨mb1, m21, me21⟩, ⟨mc1, m31, me31⟩, ⟨n91, t91, m41⟩, mT1, mP1⟩ := id hM
  refine lv_aload_n hx hb dX4_most_0 rfl (lv_at hl 0 rfl) ?_
  refine lv_iload_n hx hb dX4_most_1 rfl (lv_at hl 1 rfl) ?_
  refine z_calli hI (z_S (As := [.int zp0]) (rest := [.ref (B0 + 23)]) ⟨hx, hb, hml, hown, hts⟩ hI (c_X4_isText l G B0 F zp0) (z_cwS vX4_isText hts q772 ⟨Nat.le_of_ble_eq_true rfl, Nat.le_of_ble_eq_true rfl⟩) rfl hl.1 rfl (lv_room (Nat.le_of_ble_eq_true rfl)) dX4_most_2 ⟨Nat.le_of_ble_eq_true rfl, Nat.le_of_ble_eq_true rfl⟩) (fun r3 F2 H locs hp4 hI => ?_)
  obtain ⟨rfl, rfl⟩ := hp4
  refine z_join (σ := Int32) (fun x : Int32 => [(0, .ref (B0 + 23)), (1, .int zp0)]) (fun x : Int32 => [.int x, .int (pI (okT zp0)), .ref (B0 + 23)]) (fun (x : Int32) (Fx : zM) => F = Fx ∧ x = pI (okT zp0 ∧ 0 < sn σ (ix zp0))) 29 4 G B0 ?_ (fun jn29 => ?_)
  · intro x F5 ls H locs hi hl hI
    have hl : lv_has ls 4 [(0, .ref (B0 + 23)), (1, .int zp0)] := hl
    obtain ⟨hF, hx9⟩ := hi
    subst hF
    subst hx9
    refine lv_iconst (v := nI 1) hx hb dX4_most_29 (by decide) ?_
    refine z_topi (pI_1 (P := True) trivial) ?_
    refine z_calli hI (z_V (As := [.int (pI (okT zp0)), .int (pI (okT zp0 ∧ 0 < sn σ (ix zp0))), .int (pI (True))]) (rest := []) ⟨hx, hb, hml, hown, hts⟩ hI m01 rfl (c_X4_passes l G B0 F σ th (okT zp0) (okT zp0 ∧ 0 < sn σ (ix zp0)) (True) hM) (z_cwV vX4_passes hts q788 ⟨Nat.le_of_ble_eq_true rfl, Nat.le_of_ble_eq_true rfl⟩) rfl hl.1 rfl (lv_room (Nat.le_of_ble_eq_true rfl)) dX4_most_30 ⟨Nat.le_of_ble_eq_true rfl, Nat.le_of_ble_eq_true rfl⟩) (fun r7 F6 H locs hp8 hI => ?_)
    obtain ⟨⟨th1, hM1, hz1⟩, rfl, ho1⟩ := hp8
    have hp1 : (okT zp0) ↔ oA_most σ zp0 := Iff.rfl
    have hp2 : oA_most σ zp0 → ((okT zp0 ∧ 0 < sn σ (ix zp0)) ↔ oB_most σ zp0) := fun h => ⟨fun z => z.2, fun z => ⟨h, z⟩⟩
    have hp3 : oA_most σ zp0 → oB_most σ zp0 → ((True) ↔ oC_most σ zp0) := fun _ _ => Iff.rfl
    have hz2 := zTh_cg hp1 hp2 hp3 hz1
    refine z_topi (pI_cg (zC_cg hp1 hp2 hp3)) ?_
    have hmf1 : zMf B0 F F6 := fun q hq => ho1 q (by omega)
    obtain ⟨m09, ⟨ma9, m19, me19⟩, ⟨mb9, m29, me29⟩, ⟨mc9, m39, me39⟩, ⟨n99, t99, m49⟩, mT9, mP9⟩ := id hM1
    refine z_ifp_ne (tgt := 38) hx hb dX4_most_33 (by decide) (fun hq10 => ?_) (fun hq10 => ?_)
    · obtain ⟨hA, hB, hC0⟩ := id hq10
      have hc0 := hA
      obtain ⟨i11, hi12, rfl⟩ := id hc0
      have hix13 : ix (nI i11) = i11 := ix_nI (by omega)
      have hl : lv_has ls 4 [(0, .ref (B0 + 23)), (1, .int (nI i11))] := hl
      have hsbi11 := (hK.1 i11 hi12).1
      have hx14 := mT9 i11 hi12
      obtain ⟨xnhx14, xrhx14, fhx14, xwhx14, xfhx14⟩ := id hx14
      refine lv_iconst (v := nI 0) hx hb dX4_most_38 (by decide) ?_
      refine lv_istore_n (lv' := [(2, .int (nI 0)), (0, .ref (B0 + 23)), (1, .int (nI i11))]) hx hb dX4_most_39 rfl hl (by decide) rfl (fun ls hl => ?_)
      refine lv_iconst (v := nI 1) hx hb dX4_most_40 (by decide) ?_
      refine lv_istore_n (lv' := [(3, .int (nI 1)), (2, .int (nI 0)), (0, .ref (B0 + 23)), (1, .int (nI i11))]) hx hb dX4_most_41 rfl hl (by decide) rfl (fun ls hl => ?_)
      refine z_loop (σ := Nat × Nat) (fun xx : Nat × Nat => match xx with | (k, a) => [(0, .ref (B0 + 23)), (1, .int (nI i11)), (3, .int (nI k)), (2, .int (nI a))]) (fun (xx : Nat × Nat) (Fx : zM) => match xx with | (k, a) => F6 = Fx ∧ 1 ≤ k ∧ k ≤ 100 ∧ a = mst4 (st σ i11) (sn σ i11) k) (fun xx : Nat × Nat => match xx with | (k, a) => 100 - k) (1, 0) (nL := 4) (st := []) ?_ (lv_sub hl [2, 3, 0, 1] rfl) hI ?_
      · exact ⟨rfl, Nat.le_refl _, by omega, mst4_1.symm⟩
      · intro xx F15 ls H locs hi hl hI ih
        obtain ⟨k, a⟩ := xx
        have hl : lv_has ls 4 [(0, .ref (B0 + 23)), (1, .int (nI i11)), (3, .int (nI k)), (2, .int (nI a))] := hl
        obtain ⟨hF, hk1, hk, ha⟩ := hi
        subst hF
        have hcn := cnt_le (st σ i11) (nI k) (sn σ i11)
        have hcn2 := cnt_le (st σ i11) (nI a) (sn σ i11)
        have hms := (mst4_sp (t := st σ i11) (n := sn σ i11) (k := k)).1
        refine lv_iload_n hx hb dX4_most_42 rfl (lv_at hl 2 rfl) ?_
        refine lv_bipush (v := nI 100) hx hb dX4_most_43 (by decide) ?_
        refine z_icmp_ge (tgt := 83) (a := k) (b := 100) hx hb dX4_most_45 (by decide) (by omega) (fun hq16 => ?_) (fun hq16 => ?_)
        · refine lv_iload_n hx hb dX4_most_83 rfl (lv_at hl 3 rfl) ?_
          refine z_ri hx hb hr hlocks hI ?_ (Nat.le_of_ble_eq_true rfl) (Nat.le_of_ble_eq_true rfl) dX4_most_84
          refine ⟨_, rfl, th1, _, hM1, hz2, fun _ => ⟨(by simp only [oA_most, oB_most, oC_most, rr_most, ss_most, hix13] <;> exact rfl), (by simp only [oA_most, oB_most, oC_most, rr_most, ss_most, hix13] <;> (rw [ha, show k = 100 by omega, mst4_eq]))⟩, fun q => absurd ⟨hA, hB, hC0⟩ q, hmf1⟩
        · refine lv_aload_n hx hb dX4_most_48 rfl (lv_at hl 0 rfl) ?_
          refine z_get hx hb hts hown zlX4 rfl 1 (by decide) (hts _ q753) rfl hI m09 rfl dX4_most_49 ?_
          refine lv_iload_n hx hb dX4_most_52 rfl (lv_at hl 1 rfl) ?_
          refine z_ald3 (k := i11) (v := B0 + 25 + 2 * i11) hx hb hI m19 (by omega) (by omega) (me19 i11 (by omega)) dX4_most_53 ?_
          refine lv_iload_n hx hb dX4_most_54 rfl (lv_at hl 2 rfl) ?_
          refine z_calli hI (z_V (As := [.int (nI k)]) (rest := []) ⟨hx, hb, hml, hown, hts⟩ hI xrhx14 rfl (c_X3_often l G B0 F6 (B0 + 25 + 2 * i11) (B0 + 26 + 2 * i11) 60 (sn σ i11) (st σ i11) (nI k) ⟨xnhx14, xrhx14, fhx14, xwhx14, xfhx14⟩ (by omega)) (z_cwV vX3_often hts q931 ⟨Nat.le_of_ble_eq_true rfl, Nat.le_of_ble_eq_true rfl⟩) rfl hl.1 rfl (lv_room (Nat.le_of_ble_eq_true rfl)) dX4_most_55 ⟨Nat.le_of_ble_eq_true rfl, Nat.le_of_ble_eq_true rfl⟩) (fun r18 F17 H locs hp19 hI => ?_)
          obtain ⟨rfl, rfl⟩ := hp19
          refine lv_aload_n hx hb dX4_most_58 rfl (lv_at hl 0 rfl) ?_
          refine z_get hx hb hts hown zlX4 rfl 1 (by decide) (hts _ q753) rfl hI m09 rfl dX4_most_59 ?_
          refine lv_iload_n hx hb dX4_most_62 rfl (lv_at hl 1 rfl) ?_
          refine z_ald3 (k := i11) (v := B0 + 25 + 2 * i11) hx hb hI m19 (by omega) (by omega) (me19 i11 (by omega)) dX4_most_63 ?_
          refine lv_iload_n hx hb dX4_most_64 rfl (lv_at hl 3 rfl) ?_
          refine z_calli hI (z_V (As := [.int (nI a)]) (rest := [.int (nI (cnt (st σ i11) (nI k) (sn σ i11)))]) ⟨hx, hb, hml, hown, hts⟩ hI xrhx14 rfl (c_X3_often l G B0 F6 (B0 + 25 + 2 * i11) (B0 + 26 + 2 * i11) 60 (sn σ i11) (st σ i11) (nI a) ⟨xnhx14, xrhx14, fhx14, xwhx14, xfhx14⟩ (by omega)) (z_cwV vX3_often hts q931 ⟨Nat.le_of_ble_eq_true rfl, Nat.le_of_ble_eq_true rfl⟩) rfl hl.1 rfl (lv_room (Nat.le_of_ble_eq_true rfl)) dX4_most_65 ⟨Nat.le_of_ble_eq_true rfl, Nat.le_of_ble_eq_true rfl⟩) (fun r21 F20 H locs hp22 hI => ?_)
          obtain ⟨rfl, rfl⟩ := hp22
          refine z_icmp_le (tgt := 75) (a := cnt (st σ i11) (nI k) (sn σ i11)) (b := cnt (st σ i11) (nI a) (sn σ i11)) hx hb dX4_most_68 (by decide) (by omega) (fun hq23 => ?_) (fun hq23 => ?_)
          · refine lv_iload_n hx hb dX4_most_75 rfl (lv_at hl 3 rfl) ?_
            refine lv_istore_n (lv' := [(2, .int (nI a)), (0, .ref (B0 + 23)), (1, .int (nI i11)), (3, .int (nI k))]) hx hb dX4_most_76 rfl hl (by decide) rfl (fun ls hl => ?_)
            refine lv_iinc (k := 3) (v := nI (k + 1)) (lv' := [(3, .int (nI (k + 1))), (2, .int (nI a)), (0, .ref (B0 + 23)), (1, .int (nI i11))]) hx hb dX4_most_77 hl rfl (nI_add k 1) (by decide) rfl (fun ls hl => ?_)
            refine lv_goto (tgt := 42) hx hb dX4_most_80 (by decide) ?_
            refine ih (k + 1, a) _ ls H locs (by first | omega | (dsimp only; omega)) ?_ (lv_sub hl [2, 3, 0, 1] rfl) hI
            exact ⟨rfl, by omega, by omega, by simp only [mst4]; rw [← ha, if_neg (by omega)]⟩
          · refine lv_iload_n hx hb dX4_most_71 rfl (lv_at hl 2 rfl) ?_
            refine lv_goto (tgt := 76) hx hb dX4_most_72 (by decide) ?_
            refine lv_istore_n (lv' := [(2, .int (nI k)), (0, .ref (B0 + 23)), (1, .int (nI i11)), (3, .int (nI k))]) hx hb dX4_most_76 rfl hl (by decide) rfl (fun ls hl => ?_)
            refine lv_iinc (k := 3) (v := nI (k + 1)) (lv' := [(3, .int (nI (k + 1))), (2, .int (nI k)), (0, .ref (B0 + 23)), (1, .int (nI i11))]) hx hb dX4_most_77 hl rfl (nI_add k 1) (by decide) rfl (fun ls hl => ?_)
            refine lv_goto (tgt := 42) hx hb dX4_most_80 (by decide) ?_
            refine ih (k + 1, k) _ ls H locs (by first | omega | (dsimp only; omega)) ?_ (lv_sub hl [2, 3, 0, 1] rfl) hI
            exact ⟨rfl, by omega, by omega, by simp only [mst4]; rw [← ha, if_pos (by omega)]⟩
    · refine lv_iconst (v := nI 0) hx hb dX4_most_36 (by decide) ?_
      refine z_ri hx hb hr hlocks hI ?_ (Nat.le_of_ble_eq_true rfl) (Nat.le_of_ble_eq_true rfl) dX4_most_37
      exact ⟨_, rfl, th1, σ, hM1, hz2, fun q => absurd q hq10, fun _ => rfl, hmf1⟩
  · refine lv_iload_n hx hb dX4_most_5 rfl (lv_at hl 1 rfl) ?_
    refine z_calli hI (z_S (As := [.int zp0]) (rest := [.int (pI (okT zp0)), .ref (B0 + 23)]) ⟨hx, hb, hml, hown, hts⟩ hI (c_X4_isText l G B0 F zp0) (z_cwS vX4_isText hts q772 ⟨Nat.le_of_ble_eq_true rfl, Nat.le_of_ble_eq_true rfl⟩) rfl hl.1 rfl (lv_room (Nat.le_of_ble_eq_true rfl)) dX4_most_6 ⟨Nat.le_of_ble_eq_true rfl, Nat.le_of_ble_eq_true rfl⟩) (fun r25 F24 H locs hp26 hI => ?_)
    obtain ⟨rfl, rfl⟩ := hp26
    refine z_ifp_eq (tgt := 28) hx hb dX4_most_9 (by decide) (fun hq27 => ?_) (fun hq27 => ?_)
    · refine lv_iconst (v := nI 0) hx hb dX4_most_28 (by decide) ?_
      refine jn29 (nI 0) _ ls H locs ?_ (lv_sub hl [0, 1] rfl) hI
      exact ⟨rfl, pI_f (fun z => by have z2 := z.1; first | exact hq27 z2 | (first | exact hq27 z2 | exact i_le_n.mp z2 hq27 | exact l_le_n.mp z2 (lg_gt.mp hq27) | exact l_le_n.mp z2 (lg_lt.mp hq27) | exact hq27 ((in_pl1 (by omega)).mpr z2) | omega))⟩
    · obtain ⟨i28, hi29, rfl⟩ := id hq27
      have hix30 : ix (nI i28) = i28 := ix_nI (by omega)
      have hl : lv_has ls 4 [(0, .ref (B0 + 23)), (1, .int (nI i28))] := hl
      obtain ⟨m031, ⟨ma31, m131, me131⟩, ⟨mb31, m231, me231⟩, ⟨mc31, m331, me331⟩, ⟨n931, t931, m431⟩, mT31, mP31⟩ := id hM
      have hx32 := mT31 i28 hi29
      obtain ⟨xnhx32, xrhx32, fhx32, xwhx32, xfhx32⟩ := id hx32
      refine lv_aload_n hx hb dX4_most_12 rfl (lv_at hl 0 rfl) ?_
      refine z_get hx hb hts hown zlX4 rfl 1 (by decide) (hts _ q753) rfl hI m031 rfl dX4_most_13 ?_
      refine lv_iload_n hx hb dX4_most_16 rfl (lv_at hl 1 rfl) ?_
      refine z_ald3 (k := i28) (v := B0 + 25 + 2 * i28) hx hb hI m131 (by omega) (by omega) (me131 i28 (by omega)) dX4_most_17 ?_
      refine z_getN hx hb hts hown zlX3 rfl 1 (by decide) (List.mem_of_getElem? (i := 2) rfl) rfl hI xrhx32 rfl dX4_most_18 ?_
      refine z_if_le (tgt := 28) (a := sn σ i28) hx hb dX4_most_21 (by decide) (by omega) (fun hq33 => ?_) (fun hq33 => ?_)
      · refine lv_iconst (v := nI 0) hx hb dX4_most_28 (by decide) ?_
        refine jn29 (nI 0) _ ls H locs ?_ (lv_sub hl [0, 1] rfl) hI
        exact ⟨rfl, pI_f (fun z => by have z2 := z.2; first | exact hq33 z2 | ((try rw [hix30] at z2); (first | exact hq33 z2 | exact i_le_n.mp z2 hq33 | exact l_le_n.mp z2 (lg_gt.mp hq33) | exact l_le_n.mp z2 (lg_lt.mp hq33) | exact hq33 ((in_pl1 (by omega)).mpr z2) | omega)) | (first | exact hq33 z2 | exact i_le_n.mp z2 hq33 | exact l_le_n.mp z2 (lg_gt.mp hq33) | exact l_le_n.mp z2 (lg_lt.mp hq33) | exact hq33 ((in_pl1 (by omega)).mpr z2) | omega))⟩
      · refine lv_iconst (v := nI 1) hx hb dX4_most_24 (by decide) ?_
        refine lv_goto (tgt := 29) hx hb dX4_most_25 (by decide) ?_
        refine jn29 (nI 1) _ ls H locs ?_ (lv_sub hl [0, 1] rfl) hI
        exact ⟨rfl, pI_t ⟨(by first | exact hq27 | (rw [hix30]; first | exact hq27 | exact i_le_n.mpr hq27 | exact l_le_n.mpr (fun q => hq27 (lg_gt.mpr q)) | exact l_le_n.mpr (fun q => hq27 (lg_lt.mpr q)) | exact (in_pl1 (by omega)).mp hq27 | omega) | (first | exact hq27 | exact i_le_n.mpr hq27 | exact l_le_n.mpr (fun q => hq27 (lg_gt.mpr q)) | exact l_le_n.mpr (fun q => hq27 (lg_lt.mpr q)) | exact (in_pl1 (by omega)).mp hq27 | omega)), (by first | exact hq33 | (rw [hix30]; first | exact hq33 | exact i_le_n.mpr hq33 | exact l_le_n.mpr (fun q => hq33 (lg_gt.mpr q)) | exact l_le_n.mpr (fun q => hq33 (lg_lt.mpr q)) | exact (in_pl1 (by omega)).mp hq33 | omega) | (first | exact hq33 | exact i_le_n.mpr hq33 | exact l_le_n.mpr (fun q => hq33 (lg_gt.mpr q)) | exact l_le_n.mpr (fun q => hq33 (lg_lt.mpr q)) | exact (in_pl1 (by omega)).mp hq33 | omega))⟩⟩

theorem MS.cgT {G : zK} {B0 : Nat} {F : zM} {σ : Sg} {th : Int32} {i : Nat} {t : Nat → Int32} (h : MS G B0 F σ th) (e : ∀ q, q < sn σ i → st σ i q = t q) : MS G B0 F (sT σ i (sn σ i) t) th := by
  by_cases hi : i < 4
  · exact MS.setT h hi zSm.rf (RA.cg (h.2.2.2.2.2.1 i hi) e)
  · obtain ⟨z0, z1, z2, z3, z4, zT, zP⟩ := h
    exact ⟨z0, z1, z2, z3, z4, fun j hj => by rw [sT_no (by omega), sT_to (by omega)]; exact zT j hj, zP⟩
set_option maxHeartbeats 4000000 in
set_option maxRecDepth 100000 in
theorem c_X4_copy (l : Launch) (G : zK) (B0 : Nat) (F : zM) (σ : Sg) (th zp0 zp1 : Int32) (hM : MS G B0 F σ th) (hK : SgOk σ) : Met l yX4_copy (Cond.code yX4_copy cX4_copy 5 (some FieldType.int) :: zW) (zRm 2 45 0 0) (va_Pc [.ref (B0 + 23), .int zp0, .int zp1] (zPre G B0 F)) (zQi G B0 (zRP G B0 F σ (oA_copy σ zp0 zp1) (oB_copy σ zp0 zp1) (oC_copy σ zp0 zp1) (ss_copy σ zp0 zp1) (rr_copy σ zp0 zp1))) 0 0 (zA B0) := by
  refine z_of (own := RX4) (by decide) rfl (Nat.le_of_ble_eq_true rfl) ?_
  intro p e s m below meth c ls hx hb hr hml hown hlocks hnm hts hl hI
  have hl : lv_has ls 5 [(0, .ref (B0 + 23)), (1, .int zp0), (2, .int zp1)] := hl
  obtain ⟨m01, ⟨ma1, m11, me11⟩, ⟨mb1, m21, me21⟩, ⟨mc1, m31, me31⟩, ⟨n91, t91, m41⟩, mT1, mP1⟩ := id hM
  refine z_join (σ := Int32) (fun x : Int32 => [(0, .ref (B0 + 23)), (1, .int zp0), (2, .int zp1)]) (fun x : Int32 => [.int x]) (fun (x : Int32) (Fx : zM) => F = Fx ∧ x = pI (okT zp0 ∧ okT zp1)) 19 5 G B0 ?_ (fun jn19 => ?_)
  · intro x F2 ls H locs hi hl hI
    have hl : lv_has ls 5 [(0, .ref (B0 + 23)), (1, .int zp0), (2, .int zp1)] := hl
    obtain ⟨hF, hx9⟩ := hi
    subst hF
    subst hx9
    refine lv_istore_n (lv' := [(3, .int (pI (okT zp0 ∧ okT zp1))), (0, .ref (B0 + 23)), (1, .int zp0), (2, .int zp1)]) hx hb dX4_copy_19 rfl hl (by decide) rfl (fun ls hl => ?_)
    refine lv_aload_n hx hb dX4_copy_20 rfl (lv_at hl 1 rfl) ?_
    refine lv_iload_n hx hb dX4_copy_21 rfl (lv_at hl 0 rfl) ?_
    refine z_join (σ := Int32) (fun x : Int32 => [(3, .int (pI (okT zp0 ∧ okT zp1))), (0, .ref (B0 + 23)), (1, .int zp0), (2, .int zp1)]) (fun x : Int32 => [.int x, .int (pI (okT zp0 ∧ okT zp1)), .ref (B0 + 23)]) (fun (x : Int32) (Fx : zM) => F = Fx ∧ x = pI ((okT zp0 ∧ okT zp1) ∧ sn σ (ix zp0) ≤ sn σ (ix zp1))) 52 5 G B0 ?_ (fun jn52 => ?_)
    · intro x F3 ls H locs hi hl hI
      have hl : lv_has ls 5 [(3, .int (pI (okT zp0 ∧ okT zp1))), (0, .ref (B0 + 23)), (1, .int zp0), (2, .int zp1)] := hl
      obtain ⟨hF, hx9⟩ := hi
      subst hF
      subst hx9
      refine lv_iconst (v := nI 1) hx hb dX4_copy_52 (by decide) ?_
      refine z_topi (pI_1 (P := True) trivial) ?_
      refine z_calli hI (z_V (As := [.int (pI (okT zp0 ∧ okT zp1)), .int (pI ((okT zp0 ∧ okT zp1) ∧ sn σ (ix zp0) ≤ sn σ (ix zp1))), .int (pI (True))]) (rest := []) ⟨hx, hb, hml, hown, hts⟩ hI m01 rfl (c_X4_passes l G B0 F σ th (okT zp0 ∧ okT zp1) ((okT zp0 ∧ okT zp1) ∧ sn σ (ix zp0) ≤ sn σ (ix zp1)) (True) hM) (z_cwV vX4_passes hts q788 ⟨Nat.le_of_ble_eq_true rfl, Nat.le_of_ble_eq_true rfl⟩) rfl hl.1 rfl (lv_room (Nat.le_of_ble_eq_true rfl)) dX4_copy_53 ⟨Nat.le_of_ble_eq_true rfl, Nat.le_of_ble_eq_true rfl⟩) (fun r5 F4 H locs hp6 hI => ?_)
      obtain ⟨⟨th1, hM1, hz1⟩, rfl, ho1⟩ := hp6
      have hp1 : (okT zp0 ∧ okT zp1) ↔ oA_copy σ zp0 zp1 := Iff.rfl
      have hp2 : oA_copy σ zp0 zp1 → (((okT zp0 ∧ okT zp1) ∧ sn σ (ix zp0) ≤ sn σ (ix zp1)) ↔ oB_copy σ zp0 zp1) := fun h => ⟨fun z => z.2, fun z => ⟨h, z⟩⟩
      have hp3 : oA_copy σ zp0 zp1 → oB_copy σ zp0 zp1 → ((True) ↔ oC_copy σ zp0 zp1) := fun _ _ => Iff.rfl
      have hz2 := zTh_cg hp1 hp2 hp3 hz1
      refine z_topi (pI_cg (zC_cg hp1 hp2 hp3)) ?_
      have hmf1 : zMf B0 F F4 := fun q hq => ho1 q (by omega)
      obtain ⟨m07, ⟨ma7, m17, me17⟩, ⟨mb7, m27, me27⟩, ⟨mc7, m37, me37⟩, ⟨n97, t97, m47⟩, mT7, mP7⟩ := id hM1
      refine z_ifp_ne (tgt := 61) hx hb dX4_copy_56 (by decide) (fun hq8 => ?_) (fun hq8 => ?_)
      · obtain ⟨hA, hB, hC0⟩ := id hq8
        obtain ⟨hc0, hc1⟩ := id hA
        obtain ⟨i9, hi10, rfl⟩ := id hc0
        have hix11 : ix (nI i9) = i9 := ix_nI (by omega)
        have hl : lv_has ls 5 [(3, .int (pI (okT (nI i9) ∧ okT zp1))), (0, .ref (B0 + 23)), (1, .int (nI i9)), (2, .int zp1)] := hl
        have hsbi9 := (hK.1 i9 hi10).1
        obtain ⟨i12, hi13, rfl⟩ := id hc1
        have hix14 : ix (nI i12) = i12 := ix_nI (by omega)
        have hl : lv_has ls 5 [(3, .int (pI (okT (nI i9) ∧ okT (nI i12)))), (0, .ref (B0 + 23)), (1, .int (nI i9)), (2, .int (nI i12))] := hl
        have hsbi12 := (hK.1 i12 hi13).1
        have hx15 := mT7 i9 hi10
        obtain ⟨xnhx15, xrhx15, fhx15, xwhx15, xfhx15⟩ := id hx15
        have hx16 := mT7 i12 hi13
        obtain ⟨xnhx16, xrhx16, fhx16, xwhx16, xfhx16⟩ := id hx16
        have hB2 := hB
        simp only [oB_copy, hix11, hix14] at hB2
        refine lv_iconst (v := nI 0) hx hb dX4_copy_61 (by decide) ?_
        refine lv_istore (lv' := [(4, .int (nI 0)), (3, .int (pI (okT (nI i9) ∧ okT (nI i12)))), (0, .ref (B0 + 23)), (1, .int (nI i9)), (2, .int (nI i12))]) hx hb dX4_copy_62 hl (by decide) rfl (fun ls hl => ?_)
        refine z_loop (σ := Nat) (fun k : Nat => [(0, .ref (B0 + 23)), (1, .int (nI i9)), (2, .int (nI i12)), (4, .int (nI k))]) (fun (k : Nat) (Fx : zM) => MS G B0 Fx (sT σ i12 (sn σ i12) (fun q => if q < k then st σ i9 q else st σ i12 q)) th1 ∧ zMf B0 F Fx ∧ k ≤ sn σ i9) (fun k : Nat => sn σ i9 - k) 0 (nL := 5) (st := []) ?_ (lv_sub hl [2, 3, 4, 0] rfl) hI ?_
        · refine ⟨?_, hmf1, Nat.zero_le _⟩
          exact hM1.cgT (i := i12) (t := fun q => if q < 0 then st σ i9 q else st σ i12 q) (fun q _ => (if_neg (Nat.not_lt_zero _)).symm)
        · intro k F17 ls H locs hi hl hI ih
          have hl : lv_has ls 5 [(0, .ref (B0 + 23)), (1, .int (nI i9)), (2, .int (nI i12)), (4, .int (nI k))] := hl
          obtain ⟨hc0, hf0, hk⟩ := hi
          obtain ⟨m018, ⟨ma18, m118, me118⟩, ⟨mb18, m218, me218⟩, ⟨mc18, m318, me318⟩, ⟨n918, t918, m418⟩, mT18, mP18⟩ := id hc0
          have hx19 := mT18 i9 hi10
          obtain ⟨xnhx19, xrhx19, fhx19, xwhx19, xfhx19⟩ := id hx19
          have hx20 := mT18 i12 hi13
          obtain ⟨xnhx20, xrhx20, fhx20, xwhx20, xfhx20⟩ := id hx20
          have hn1 : sn (sT σ i12 (sn σ i12) (fun q => if q < k then st σ i9 q else st σ i12 q)) i9 = sn σ i9 := cp_n
          have ht1 : st (sT σ i12 (sn σ i12) (fun q => if q < k then st σ i9 q else st σ i12 q)) i9 k = st σ i9 k := cp_t
          rw [sT_n] at xrhx20
          rw [hn1] at xrhx19
          have hr21 : RA G 3 F17 (B0 + 25 + 2 * i9) (B0 + 26 + 2 * i9) 60 (sn σ i9) (st (sT σ i12 (sn σ i12) (fun q => if q < k then st σ i9 q else st σ i12 q)) i9) := ⟨by omega, xrhx19, _, xwhx19, fun j hj => xfhx19 j (by rw [hn1]; exact hj)⟩
          refine lv_iload hx hb dX4_copy_64 (lv_at hl 3 rfl) ?_
          refine lv_aload_n hx hb dX4_copy_66 rfl (lv_at hl 0 rfl) ?_
          refine z_get hx hb hts hown zlX4 rfl 1 (by decide) (hts _ q753) rfl hI m018 rfl dX4_copy_67 ?_
          refine lv_iload_n hx hb dX4_copy_70 rfl (lv_at hl 1 rfl) ?_
          refine z_ald3 (k := i9) (v := B0 + 25 + 2 * i9) hx hb hI m118 (by omega) (by omega) (me118 i9 (by omega)) dX4_copy_71 ?_
          refine z_getN hx hb hts hown zlX3 rfl 1 (by decide) (List.mem_of_getElem? (i := 2) rfl) rfl hI xrhx19 rfl dX4_copy_72 ?_
          refine z_icmp_ge (tgt := 107) (a := k) (b := sn σ i9) hx hb dX4_copy_75 (by decide) (by omega) (fun hq22 => ?_) (fun hq22 => ?_)
          · refine lv_aload_n hx hb dX4_copy_107 rfl (lv_at hl 0 rfl) ?_
            refine z_get hx hb hts hown zlX4 rfl 1 (by decide) (hts _ q753) rfl hI m018 rfl dX4_copy_108 ?_
            refine lv_iload_n hx hb dX4_copy_111 rfl (lv_at hl 2 rfl) ?_
            refine z_ald3 (k := i12) (v := B0 + 25 + 2 * i12) hx hb hI m118 (by omega) (by omega) (me118 i12 (by omega)) dX4_copy_112 ?_
            refine z_getN hx hb hts hown zlX3 rfl 1 (by decide) (List.mem_of_getElem? (i := 2) rfl) rfl hI xrhx20 rfl dX4_copy_113 ?_
            refine z_ri hx hb hr hlocks hI ?_ (Nat.le_of_ble_eq_true rfl) (Nat.le_of_ble_eq_true rfl) dX4_copy_116
            have hkn : k = sn σ i9 := by omega
            refine ⟨_, rfl, th1, _, hc0, hz2, fun _ => ⟨(by simp only [oA_copy, oB_copy, oC_copy, rr_copy, ss_copy, hix11, hix14] <;> (rw [hkn])), (by simp only [oA_copy, oB_copy, oC_copy, rr_copy, ss_copy, hix11, hix14] <;> exact rfl)⟩, fun q => absurd ⟨hA, hB, hC0⟩ q, hf0⟩
          · refine lv_aload_n hx hb dX4_copy_78 rfl (lv_at hl 0 rfl) ?_
            refine z_get hx hb hts hown zlX4 rfl 1 (by decide) (hts _ q753) rfl hI m018 rfl dX4_copy_79 ?_
            refine lv_iload_n hx hb dX4_copy_82 rfl (lv_at hl 2 rfl) ?_
            refine z_ald3 (k := i12) (v := B0 + 25 + 2 * i12) hx hb hI m118 (by omega) (by omega) (me118 i12 (by omega)) dX4_copy_83 ?_
            refine z_getN hx hb hts hown zlX3 rfl 0 (by decide) (List.mem_of_getElem? (i := 3) rfl) rfl hI xrhx20 rfl dX4_copy_84 ?_
            refine lv_iload hx hb dX4_copy_87 (lv_at hl 3 rfl) ?_
            refine lv_aload_n hx hb dX4_copy_89 rfl (lv_at hl 0 rfl) ?_
            refine z_get hx hb hts hown zlX4 rfl 1 (by decide) (hts _ q753) rfl hI m018 rfl dX4_copy_90 ?_
            refine lv_iload_n hx hb dX4_copy_93 rfl (lv_at hl 1 rfl) ?_
            refine z_ald3 (k := i9) (v := B0 + 25 + 2 * i9) hx hb hI m118 (by omega) (by omega) (me118 i9 (by omega)) dX4_copy_94 ?_
            refine lv_iload hx hb dX4_copy_95 (lv_at hl 3 rfl) ?_
            refine z_calli hI (z_V (As := [.int (nI k)]) (rest := [.int (nI k), .ref (B0 + 26 + 2 * i12)]) ⟨hx, hb, hml, hown, hts⟩ hI xrhx19 rfl (c_X3_at l G B0 F17 (B0 + 25 + 2 * i9) (B0 + 26 + 2 * i9) 60 (sn σ i9) (st (sT σ i12 (sn σ i12) (fun q => if q < k then st σ i9 q else st σ i12 q)) i9) k ⟨(by omega), xrhx19, fhx19, xwhx19, (fun j hj => xfhx19 j (by rw [hn1]; exact hj))⟩ (by omega) (by omega)) (z_cwV vX3_at hts q829 ⟨Nat.le_of_ble_eq_true rfl, Nat.le_of_ble_eq_true rfl⟩) rfl hl.1 rfl (lv_room (Nat.le_of_ble_eq_true rfl)) dX4_copy_97 ⟨Nat.le_of_ble_eq_true rfl, Nat.le_of_ble_eq_true rfl⟩) (fun r24 F23 H locs hp25 hI => ?_)
            obtain ⟨rfl, rfl⟩ := hp25
            refine z_topi ht1 ?_
            refine z_ist (k := k) hx hb hI xwhx20 (by omega) (by omega) dX4_copy_100 (fun H locs F26 hw27 ho28 hI => ?_)
            have hc29 : F26 (B0 + 23) = some (zO 4 [.int th1, .ref (B0 + 24), .ref (B0 + 33), .ref (B0 + 38), .ref (B0 + 40)]) := (ho28 _ (zne m018 xwhx20 (fun q => by cases q))).trans m018
            have hc30 : F26 (B0 + 24) = some (zA3 G 4 ma18) := (ho28 _ (by omega)).trans m118
            have hc31 : F26 (B0 + 33) = some (zA3 G 2 mb18) := (ho28 _ (by omega)).trans m218
            have hc32 : F26 (B0 + 40) = some (zAI G 100 mc18) := (ho28 _ (by omega)).trans m318
            have hc33 : F26 (B0 + 25 + 2 * i12) = some (zO 3 [.ref (B0 + 26 + 2 * i12), .int (nI (sn σ i12))]) := (ho28 _ (zne xrhx20 xwhx20 (fun q => by cases q))).trans xrhx20
            refine lv_iinc (k := 3) (v := nI (k + 1)) (lv' := [(4, .int (nI (k + 1))), (0, .ref (B0 + 23)), (1, .int (nI i9)), (2, .int (nI i12))]) hx hb dX4_copy_101 hl rfl (nI_add k 1) (by decide) rfl (fun ls hl => ?_)
            refine lv_goto (tgt := 64) hx hb dX4_copy_104 (by decide) ?_
            refine ih (k + 1) _ ls H locs (by first | omega | (dsimp only; omega)) ?_ (lv_sub hl [1, 2, 3, 0] rfl) hI
            refine ⟨?_, zMf.tr hf0 (zMf.sm (a := B0 + 25 + 2 * i12) (b := B0 + 26 + 2 * i12) (zSm.r ho28) (by omega) (by omega)), by omega⟩
            have hz9 := MS.setT hc0 hi13 (zSm.r ho28) (n := sn σ i12) (t := fun q => if q < k + 1 then st σ i9 q else st σ i12 q) ⟨(by omega), hc33, _, hw27, fun q hq => ?_⟩
            · rw [sT_sT] at hz9; exact hz9
            · by_cases e : q = k
              · subst e; rw [pk_us]; dsimp only; rw [if_pos (Nat.lt_succ_self _)]
              · rw [pk_un e, xfhx20 q (by rw [sT_n]; exact hq), sT_t]; dsimp only; by_cases e2 : q < k
                · rw [if_pos e2, if_pos (by omega)]
                · rw [if_neg e2, if_neg (by omega)]
      · refine lv_iconst (v := nI 0) hx hb dX4_copy_59 (by decide) ?_
        refine z_ri hx hb hr hlocks hI ?_ (Nat.le_of_ble_eq_true rfl) (Nat.le_of_ble_eq_true rfl) dX4_copy_60
        exact ⟨_, rfl, th1, σ, hM1, hz2, fun q => absurd q hq8, fun _ => rfl, hmf1⟩
    · refine lv_iload_n hx hb dX4_copy_22 rfl (lv_at hl 0 rfl) ?_
      refine z_ifp_eq (tgt := 51) hx hb dX4_copy_23 (by decide) (fun hq34 => ?_) (fun hq34 => ?_)
      · refine lv_iconst (v := nI 0) hx hb dX4_copy_51 (by decide) ?_
        refine jn52 (nI 0) _ ls H locs ?_ (lv_sub hl [0, 1, 2, 3] rfl) hI
        exact ⟨rfl, pI_f (fun z => by have z2 := z.1; first | exact hq34 z2 | (first | exact hq34 z2 | exact i_le_n.mp z2 hq34 | exact l_le_n.mp z2 (lg_gt.mp hq34) | exact l_le_n.mp z2 (lg_lt.mp hq34) | exact hq34 ((in_pl1 (by omega)).mpr z2) | omega))⟩
      · obtain ⟨i35, hi36, rfl⟩ := id hq34.1
        have hix37 : ix (nI i35) = i35 := ix_nI (by omega)
        have hl : lv_has ls 5 [(3, .int (pI (okT (nI i35) ∧ okT zp1))), (0, .ref (B0 + 23)), (1, .int (nI i35)), (2, .int zp1)] := hl
        obtain ⟨i38, hi39, rfl⟩ := id hq34.2
        have hix40 : ix (nI i38) = i38 := ix_nI (by omega)
        have hl : lv_has ls 5 [(3, .int (pI (okT (nI i35) ∧ okT (nI i38)))), (0, .ref (B0 + 23)), (1, .int (nI i35)), (2, .int (nI i38))] := hl
        obtain ⟨m041, ⟨ma41, m141, me141⟩, ⟨mb41, m241, me241⟩, ⟨mc41, m341, me341⟩, ⟨n941, t941, m441⟩, mT41, mP41⟩ := id hM
        have hx42 := mT41 i35 hi36
        obtain ⟨xnhx42, xrhx42, fhx42, xwhx42, xfhx42⟩ := id hx42
        have hx43 := mT41 i38 hi39
        obtain ⟨xnhx43, xrhx43, fhx43, xwhx43, xfhx43⟩ := id hx43
        refine lv_aload_n hx hb dX4_copy_26 rfl (lv_at hl 1 rfl) ?_
        refine z_get hx hb hts hown zlX4 rfl 1 (by decide) (hts _ q753) rfl hI m041 rfl dX4_copy_27 ?_
        refine lv_iload_n hx hb dX4_copy_30 rfl (lv_at hl 3 rfl) ?_
        refine z_ald3 (k := i38) (v := B0 + 25 + 2 * i38) hx hb hI m141 (by omega) (by omega) (me141 i38 (by omega)) dX4_copy_31 ?_
        refine z_getN hx hb hts hown zlX3 rfl 1 (by decide) (List.mem_of_getElem? (i := 2) rfl) rfl hI xrhx43 rfl dX4_copy_32 ?_
        refine lv_aload_n hx hb dX4_copy_35 rfl (lv_at hl 1 rfl) ?_
        refine z_get hx hb hts hown zlX4 rfl 1 (by decide) (hts _ q753) rfl hI m041 rfl dX4_copy_36 ?_
        refine lv_iload_n hx hb dX4_copy_39 rfl (lv_at hl 2 rfl) ?_
        refine z_ald3 (k := i35) (v := B0 + 25 + 2 * i35) hx hb hI m141 (by omega) (by omega) (me141 i35 (by omega)) dX4_copy_40 ?_
        refine z_getN hx hb hts hown zlX3 rfl 1 (by decide) (List.mem_of_getElem? (i := 2) rfl) rfl hI xrhx42 rfl dX4_copy_41 ?_
        refine z_icmp_lt (tgt := 51) (a := sn σ i38) (b := sn σ i35) hx hb dX4_copy_44 (by decide) (by omega) (fun hq44 => ?_) (fun hq44 => ?_)
        · refine lv_iconst (v := nI 0) hx hb dX4_copy_51 (by decide) ?_
          refine jn52 (nI 0) _ ls H locs ?_ (lv_sub hl [0, 1, 2, 3] rfl) hI
          exact ⟨rfl, pI_f (fun z => by have z2 := z.2; first | exact hq44 z2 | ((try rw [hix37, hix40] at z2); (first | exact hq44 z2 | exact i_le_n.mp z2 hq44 | exact l_le_n.mp z2 (lg_gt.mp hq44) | exact l_le_n.mp z2 (lg_lt.mp hq44) | exact hq44 ((in_pl1 (by omega)).mpr z2) | omega)) | (first | exact hq44 z2 | exact i_le_n.mp z2 hq44 | exact l_le_n.mp z2 (lg_gt.mp hq44) | exact l_le_n.mp z2 (lg_lt.mp hq44) | exact hq44 ((in_pl1 (by omega)).mpr z2) | omega))⟩
        · refine lv_iconst (v := nI 1) hx hb dX4_copy_47 (by decide) ?_
          refine lv_goto (tgt := 52) hx hb dX4_copy_48 (by decide) ?_
          refine jn52 (nI 1) _ ls H locs ?_ (lv_sub hl [0, 1, 2, 3] rfl) hI
          exact ⟨rfl, pI_t ⟨(by first | exact hq34 | (rw [hix37, hix40]; first | exact hq34 | exact i_le_n.mpr hq34 | exact l_le_n.mpr (fun q => hq34 (lg_gt.mpr q)) | exact l_le_n.mpr (fun q => hq34 (lg_lt.mpr q)) | exact (in_pl1 (by omega)).mp hq34 | omega) | (first | exact hq34 | exact i_le_n.mpr hq34 | exact l_le_n.mpr (fun q => hq34 (lg_gt.mpr q)) | exact l_le_n.mpr (fun q => hq34 (lg_lt.mpr q)) | exact (in_pl1 (by omega)).mp hq34 | omega)), (by first | exact hq44 | (rw [hix37, hix40]; first | exact hq44 | exact i_le_n.mpr hq44 | exact l_le_n.mpr (fun q => hq44 (lg_gt.mpr q)) | exact l_le_n.mpr (fun q => hq44 (lg_lt.mpr q)) | exact (in_pl1 (by omega)).mp hq44 | omega) | (first | exact hq44 | exact i_le_n.mpr hq44 | exact l_le_n.mpr (fun q => hq44 (lg_gt.mpr q)) | exact l_le_n.mpr (fun q => hq44 (lg_lt.mpr q)) | exact (in_pl1 (by omega)).mp hq44 | omega))⟩⟩
  · refine lv_iload_n hx hb dX4_copy_0 rfl (lv_at hl 1 rfl) ?_
    refine z_calli hI (z_S (As := [.int zp0]) (rest := []) ⟨hx, hb, hml, hown, hts⟩ hI (c_X4_isText l G B0 F zp0) (z_cwS vX4_isText hts q772 ⟨Nat.le_of_ble_eq_true rfl, Nat.le_of_ble_eq_true rfl⟩) rfl hl.1 rfl (lv_room (Nat.le_of_ble_eq_true rfl)) dX4_copy_1 ⟨Nat.le_of_ble_eq_true rfl, Nat.le_of_ble_eq_true rfl⟩) (fun r46 F45 H locs hp47 hI => ?_)
    obtain ⟨rfl, rfl⟩ := hp47
    refine z_ifp_eq (tgt := 18) hx hb dX4_copy_4 (by decide) (fun hq48 => ?_) (fun hq48 => ?_)
    · refine lv_iconst (v := nI 0) hx hb dX4_copy_18 (by decide) ?_
      refine jn19 (nI 0) _ ls H locs ?_ (lv_sub hl [0, 1, 2] rfl) hI
      exact ⟨rfl, pI_f (fun z => by have z2 := z.1; first | exact hq48 z2 | (first | exact hq48 z2 | exact i_le_n.mp z2 hq48 | exact l_le_n.mp z2 (lg_gt.mp hq48) | exact l_le_n.mp z2 (lg_lt.mp hq48) | exact hq48 ((in_pl1 (by omega)).mpr z2) | omega))⟩
    · refine lv_iload_n hx hb dX4_copy_7 rfl (lv_at hl 2 rfl) ?_
      refine z_calli hI (z_S (As := [.int zp1]) (rest := []) ⟨hx, hb, hml, hown, hts⟩ hI (c_X4_isText l G B0 F zp1) (z_cwS vX4_isText hts q772 ⟨Nat.le_of_ble_eq_true rfl, Nat.le_of_ble_eq_true rfl⟩) rfl hl.1 rfl (lv_room (Nat.le_of_ble_eq_true rfl)) dX4_copy_8 ⟨Nat.le_of_ble_eq_true rfl, Nat.le_of_ble_eq_true rfl⟩) (fun r50 F49 H locs hp51 hI => ?_)
      obtain ⟨rfl, rfl⟩ := hp51
      refine z_ifp_eq (tgt := 18) hx hb dX4_copy_11 (by decide) (fun hq52 => ?_) (fun hq52 => ?_)
      · refine lv_iconst (v := nI 0) hx hb dX4_copy_18 (by decide) ?_
        refine jn19 (nI 0) _ ls H locs ?_ (lv_sub hl [0, 1, 2] rfl) hI
        exact ⟨rfl, pI_f (fun z => by have z2 := z.2; first | exact hq52 z2 | (first | exact hq52 z2 | exact i_le_n.mp z2 hq52 | exact l_le_n.mp z2 (lg_gt.mp hq52) | exact l_le_n.mp z2 (lg_lt.mp hq52) | exact hq52 ((in_pl1 (by omega)).mpr z2) | omega))⟩
      · refine lv_iconst (v := nI 1) hx hb dX4_copy_14 (by decide) ?_
        refine lv_goto (tgt := 19) hx hb dX4_copy_15 (by decide) ?_
        refine jn19 (nI 1) _ ls H locs ?_ (lv_sub hl [0, 1, 2] rfl) hI
        exact ⟨rfl, pI_t ⟨(by first | exact hq48 | exact i_le_n.mpr hq48 | exact l_le_n.mpr (fun q => hq48 (lg_gt.mpr q)) | exact l_le_n.mpr (fun q => hq48 (lg_lt.mpr q)) | exact (in_pl1 (by omega)).mp hq48 | omega), (by first | exact hq52 | exact i_le_n.mpr hq52 | exact l_le_n.mpr (fun q => hq52 (lg_gt.mpr q)) | exact l_le_n.mpr (fun q => hq52 (lg_lt.mpr q)) | exact (in_pl1 (by omega)).mp hq52 | omega)⟩⟩

