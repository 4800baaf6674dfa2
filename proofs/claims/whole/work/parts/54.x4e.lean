theorem zct_cg {P Q : Nat → Prop} : ∀ {n : Nat}, (∀ j, j < n → (P j ↔ Q j)) → zct P n = zct Q n
  | 0, _ => rfl
  | n + 1, h => by
    have ih := zct_cg (P := P) (Q := Q) (n := n) (fun j hj => h j (by omega))
    by_cases q : P n
    · rw [zct_t q, zct_t ((h n (Nat.lt_succ_self _)).mp q), ih]
    · rw [zct_f q, zct_f (fun z => q ((h n (Nat.lt_succ_self _)).mpr z)), ih]
theorem zct_ins {P Q : Nat → Prop} {v : Nat} : ∀ {n : Nat}, v < n → (∀ u, u < n → u ≠ v → (P u ↔ Q u)) → ¬ Q v → P v → zct P n = zct Q n + 1
  | 0, h, _, _, _ => absurd h (Nat.not_lt_zero _)
  | n + 1, h, h1, h2, h3 => by
    by_cases e : v = n
    · subst e
      rw [zct_t h3, zct_f h2, zct_cg (fun j hj => h1 j (by omega) (by omega))]
    · have ih := zct_ins (n := n) (by omega) (fun u hu => h1 u (by omega)) h2 h3
      by_cases q : P n
      · rw [zct_t q, zct_t ((h1 n (Nat.lt_succ_self _) (by omega)).mp q), ih]
      · rw [zct_f q, zct_f (fun z => q ((h1 n (Nat.lt_succ_self _) (by omega)).mpr z)), ih]
theorem fil_k {t : Nat → Int32} {x : Int32} {a k j : Nat} (h : a ≤ k) : upd (fun j => if a ≤ j ∧ j < k then x else t j) k x j = if a ≤ j ∧ j < k + 1 then x else t j := by
  by_cases e : j = k
  · subst e; rw [pk_us, if_pos ⟨h, Nat.lt_succ_self _⟩]
  · rw [pk_un e]
    by_cases e2 : a ≤ j ∧ j < k
    · rw [if_pos e2, if_pos ⟨e2.1, by omega⟩]
    · rw [if_neg e2, if_neg (fun z => e2 ⟨z.1, by omega⟩)]
theorem rpw_k {t : Nat → Int32} {x y : Int32} {k j : Nat} : upd (fun j => if j < k ∧ t j = x then y else t j) k (if t k = x then y else t k) j = if j < k + 1 ∧ t j = x then y else t j := by
  by_cases e : j = k
  · subst e; rw [pk_us]
    by_cases e2 : t j = x
    · rw [if_pos e2, if_pos ⟨Nat.lt_succ_self _, e2⟩]
    · rw [if_neg e2, if_neg (fun z => e2 z.2)]
  · rw [pk_un e]
    by_cases e2 : j < k ∧ t j = x
    · rw [if_pos e2, if_pos ⟨by omega, e2.2⟩]
    · rw [if_neg e2, if_neg (fun z => e2 ⟨by omega, z.2⟩)]
/-- words counted over all numbers, or over the places where they stand first: the same -/
def fst1 (t : Nat → Int32) (j : Nat) : Prop := cnt t (t j) j = 0
theorem dff (t : Nat → Int32) (Q : Int32 → Prop) : ∀ {n : Nat}, wok t n → zct (fun j => cnt t (t j) j = 0 ∧ Q (t j)) n = zct (fun v => 0 < cnt t (nI v) n ∧ Q (nI v)) 100
  | 0, _ => by
    rw [zct_run (P := fun v => 0 < cnt t (nI v) 0 ∧ Q (nI v)) (i := 0) (k := 100) (by omega) (fun j _ _ z => absurd z.1 (by simp [cnt]))]
    rfl
  | n + 1, h => by
    have ih := dff t Q (n := n) (fun j hj => h j (by omega))
    obtain ⟨v, hv, e⟩ := h n (Nat.lt_succ_self _)
    have hc : ∀ u, u < 100 → u ≠ v → cnt t (nI u) (n + 1) = cnt t (nI u) n := fun u hu q => by
      simp only [cnt]
      rw [if_neg (fun z => q ((nI_eq (by omega) (by omega)).mp (z.symm.trans e))), Nat.add_zero]
    have hc2 : cnt t (nI v) (n + 1) = cnt t (nI v) n + 1 := by
      simp only [cnt]
      rw [if_pos e]
    by_cases q : cnt t (t n) n = 0 ∧ Q (t n)
    · rw [zct_t q, ih]
      rw [e] at q
      exact (zct_ins hv (fun u hu hne => by rw [hc u hu hne]) (by rw [q.1]; exact fun z => absurd z.1 (Nat.lt_irrefl _)) ⟨by rw [hc2]; omega, q.2⟩).symm
    · rw [zct_f q, ih]
      refine zct_cg (fun u hu => ?_)
      by_cases z : u = v
      · subst z
        rw [e] at q
        rw [hc2]
        exact ⟨fun z => ⟨by omega, z.2⟩, fun z => ⟨Nat.pos_of_ne_zero (fun z2 => q ⟨z2, z.2⟩), z.2⟩⟩
      · rw [hc u hu z]
theorem apt {t t2 : Nat → Int32} {n m : Nat} (hw : wok t n) : (∀ j, j < n → ¬ 0 < cnt t2 (t j) m) ↔ ∀ v, v < 100 → ¬ (0 < cnt t (nI v) n ∧ 0 < cnt t2 (nI v) m) := by
  constructor
  · rintro h v hv ⟨h1, h2⟩
    obtain ⟨j, hj, e⟩ := cnt_ex h1
    exact h j hj (e ▸ h2)
  · intro h j hj h2
    obtain ⟨v, hv, e⟩ := hw j hj
    exact h v hv ⟨e ▸ cnt_pos hj rfl, e ▸ h2⟩
/-- the reference's way to the word that stands most often -/
noncomputable def mst4 (t : Nat → Int32) (n : Nat) : Nat → Nat
  | 0 => 0
  | k + 1 => if cnt t (nI (mst4 t n k)) n < cnt t (nI k) n then k else mst4 t n k
theorem mst4_sp {t : Nat → Int32} {n : Nat} : ∀ {k : Nat}, mst4 t n k < max k 1 ∧ (∀ v, v < k → cnt t (nI v) n ≤ cnt t (nI (mst4 t n k)) n) ∧ ∀ v, v < mst4 t n k → cnt t (nI v) n < cnt t (nI (mst4 t n k)) n
  | 0 => ⟨by show 0 < max 0 1; decide, fun v h => absurd h (Nat.not_lt_zero _), fun v h => absurd h (Nat.not_lt_zero _)⟩
  | k + 1 => by
    obtain ⟨h1, h2, h3⟩ := mst4_sp (t := t) (n := n) (k := k)
    simp only [mst4]
    by_cases q : cnt t (nI (mst4 t n k)) n < cnt t (nI k) n
    · rw [if_pos q]
      refine ⟨by omega, fun v hv => ?_, fun v hv => ?_⟩
      · by_cases e : v = k
        · rw [e]; exact Nat.le_refl _
        · have := h2 v (by omega); omega
      · have := h2 v hv; omega
    · rw [if_neg q]
      refine ⟨by omega, fun v hv => ?_, h3⟩
      by_cases e : v = k
      · rw [e]; omega
      · exact h2 v (by omega)
theorem mst4_eq {t : Nat → Int32} {n : Nat} : nI (mst4 t n 100) = rI (mst t n) := by
  obtain ⟨h1, h2, h3⟩ := mst4_sp (t := t) (n := n) (k := 100)
  have : mst t n = some (mst4 t n 100) := zfst_eq (P := fun w => ∀ v, v < 100 → cnt t (nI v) n ≤ cnt t (nI w) n) h2 (Nat.zero_le _) (by omega) (fun j _ hj z => by
    have h4 := z _ (show mst4 t n 100 < 100 by omega)
    have h5 := h3 j hj
    omega)
  rw [this]; rfl
set_option maxHeartbeats 4000000 in
set_option maxRecDepth 100000 in
theorem c_X4_quote (l : Launch) (G : zK) (B0 : Nat) (F : zM) (σ : Sg) (th zp0 zp1 zp2 zp3 : Int32) (hM : MS G B0 F σ th) (hK : SgOk σ) : Met l yX4_quote (Cond.code yX4_quote cX4_quote 6 (some FieldType.int) :: zW) (zRm 3 68 0 0) (va_Pc [.ref (B0 + 23), .int zp0, .int zp1, .int zp2, .int zp3] (zPre G B0 F)) (zQi G B0 (zRP G B0 F σ (oA_quote σ zp0 zp1 zp2 zp3) (oB_quote σ zp0 zp1 zp2 zp3) (oC_quote σ zp0 zp1 zp2 zp3) (ss_quote σ zp0 zp1 zp2 zp3) (rr_quote σ zp0 zp1 zp2 zp3))) 0 0 (zA B0) := by
  refine z_of (own := RX4) (by decide) rfl (Nat.le_of_ble_eq_true rfl) ?_
  intro p e s m below meth c ls hx hb hr hml hown hlocks hnm hts hl hI
  have hl : lv_has ls 6 [(0, .ref (B0 + 23)), (1, .int zp0), (2, .int zp1), (3, .int zp2), (4, .int zp3)] := hl
  obtain ⟨m01, ⟨ma1, m11, me11⟩, ⟨mb1, m21, me21⟩, ⟨mc1, m31, me31⟩, ⟨n91, t91, m41⟩, mT1, mP1⟩ := id hM
  refine lv_aload_n hx hb dX4_quote_0 rfl (lv_at hl 0 rfl) ?_
  refine z_join (σ := Int32) (fun x : Int32 => [(0, .ref (B0 + 23)), (1, .int zp0), (2, .int zp1), (3, .int zp2), (4, .int zp3)]) (fun x : Int32 => [.int x, .ref (B0 + 23)]) (fun (x : Int32) (Fx : zM) => F = Fx ∧ x = pI (okB zp0 ∧ (okT zp1 ∧ okR (sn σ (ix zp1)) zp2 zp3))) 24 6 G B0 ?_ (fun jn24 => ?_)
  · intro x F2 ls H locs hi hl hI
    have hl : lv_has ls 6 [(0, .ref (B0 + 23)), (1, .int zp0), (2, .int zp1), (3, .int zp2), (4, .int zp3)] := hl
    obtain ⟨hF, hx9⟩ := hi
    subst hF
    subst hx9
    refine z_join (σ := Int32) (fun x : Int32 => [(0, .ref (B0 + 23)), (1, .int zp0), (2, .int zp1), (3, .int zp2), (4, .int zp3)]) (fun x : Int32 => [.int x, .int (pI (okB zp0 ∧ (okT zp1 ∧ okR (sn σ (ix zp1)) zp2 zp3))), .ref (B0 + 23)]) (fun (x : Int32) (Fx : zM) => F = Fx ∧ x = pI (zp3.toInt64 - zp2.toInt64 ≤ 12)) 42 6 G B0 ?_ (fun jn42 => ?_)
    · intro x F3 ls H locs hi hl hI
      have hl : lv_has ls 6 [(0, .ref (B0 + 23)), (1, .int zp0), (2, .int zp1), (3, .int zp2), (4, .int zp3)] := hl
      obtain ⟨hF, hx9⟩ := hi
      subst hF
      subst hx9
      refine lv_iconst (v := nI 1) hx hb dX4_quote_42 (by decide) ?_
      refine z_topi (pI_1 (P := True) trivial) ?_
      refine z_calli hI (z_V (As := [.int (pI (okB zp0 ∧ (okT zp1 ∧ okR (sn σ (ix zp1)) zp2 zp3))), .int (pI (zp3.toInt64 - zp2.toInt64 ≤ 12)), .int (pI (True))]) (rest := []) ⟨hx, hb, hml, hown, hts⟩ hI m01 rfl (c_X4_passes l G B0 F σ th (okB zp0 ∧ (okT zp1 ∧ okR (sn σ (ix zp1)) zp2 zp3)) (zp3.toInt64 - zp2.toInt64 ≤ 12) (True) hM) (z_cwV vX4_passes hts q788 ⟨Nat.le_of_ble_eq_true rfl, Nat.le_of_ble_eq_true rfl⟩) rfl hl.1 rfl (lv_room (Nat.le_of_ble_eq_true rfl)) dX4_quote_43 ⟨Nat.le_of_ble_eq_true rfl, Nat.le_of_ble_eq_true rfl⟩) (fun r5 F4 H locs hp6 hI => ?_)
      obtain ⟨⟨th1, hM1, hz1⟩, rfl, ho1⟩ := hp6
      have hp1 : (okB zp0 ∧ (okT zp1 ∧ okR (sn σ (ix zp1)) zp2 zp3)) ↔ oA_quote σ zp0 zp1 zp2 zp3 := ⟨fun z => ⟨z.1, z.2.1, z.2.2⟩, fun z => ⟨z.1, z.2.1, z.2.2⟩⟩
      have hp2 : oA_quote σ zp0 zp1 zp2 zp3 → ((zp3.toInt64 - zp2.toInt64 ≤ 12) ↔ oB_quote σ zp0 zp1 zp2 zp3) := fun h => qt_c (sg_le hK h.2.1) h.2.2
      have hp3 : oA_quote σ zp0 zp1 zp2 zp3 → oB_quote σ zp0 zp1 zp2 zp3 → ((True) ↔ oC_quote σ zp0 zp1 zp2 zp3) := fun _ _ => Iff.rfl
      have hz2 := zTh_cg hp1 hp2 hp3 hz1
      refine z_topi (pI_cg (zC_cg hp1 hp2 hp3)) ?_
      have hmf1 : zMf B0 F F4 := fun q hq => ho1 q (by omega)
      obtain ⟨m07, ⟨ma7, m17, me17⟩, ⟨mb7, m27, me27⟩, ⟨mc7, m37, me37⟩, ⟨n97, t97, m47⟩, mT7, mP7⟩ := id hM1
      refine z_ifp_ne (tgt := 51) hx hb dX4_quote_46 (by decide) (fun hq8 => ?_) (fun hq8 => ?_)
      · obtain ⟨hA, hB, hC0⟩ := id hq8
        obtain ⟨hc0, hc1, hc2⟩ := id hA
        obtain ⟨i9, hi10, rfl⟩ := id hc0
        have hix11 : ix (nI i9) = i9 := ix_nI (by omega)
        have hl : lv_has ls 6 [(0, .ref (B0 + 23)), (1, .int (nI i9)), (2, .int zp1), (3, .int zp2), (4, .int zp3)] := hl
        have hsbi9 := hK.2 i9 hi10
        obtain ⟨i12, hi13, rfl⟩ := id hc1
        have hix14 : ix (nI i12) = i12 := ix_nI (by omega)
        have hl : lv_has ls 6 [(0, .ref (B0 + 23)), (1, .int (nI i9)), (2, .int (nI i12)), (3, .int zp2), (4, .int zp3)] := hl
        have hsbi12 := (hK.1 i12 hi13).1
        obtain ⟨a15, b16, hab17, hbn18, rfl, rfl⟩ := id hc2
        simp only [hix11, hix14] at hbn18
        have hl : lv_has ls 6 [(0, .ref (B0 + 23)), (1, .int (nI i9)), (2, .int (nI i12)), (3, .int (nI a15)), (4, .int (nI b16))] := hl
        have hx19 := mT7 i12 hi13
        obtain ⟨xnhx19, xrhx19, fhx19, xwhx19, xfhx19⟩ := id hx19
        have hx20 := mP7 i9 hi10
        obtain ⟨xnhx20, xrhx20, fhx20, xwhx20, xfhx20⟩ := id hx20
        have hbhx20 := hK.2 i9 hi10
        have hB2 := hB
        simp only [oB_quote, ix_nI (show a15 < 2 ^ 31 by omega), ix_nI (show b16 < 2 ^ 31 by omega)] at hB2
        have hix21 : ix (nI a15) = a15 := ix_nI (by omega)
        have hix22 : ix (nI b16) = b16 := ix_nI (by omega)
        refine lv_aload_n hx hb dX4_quote_51 rfl (lv_at hl 0 rfl) ?_
        refine z_get hx hb hts hown zlX4 rfl 2 (by decide) (hts _ q754) rfl hI m07 rfl dX4_quote_52 ?_
        refine lv_iload_n hx hb dX4_quote_55 rfl (lv_at hl 1 rfl) ?_
        refine z_ald3 (k := i9) (v := B0 + 34 + 2 * i9) hx hb hI m27 (by omega) (by omega) (me27 i9 (by omega)) dX4_quote_56 ?_
        refine lv_iconst (v := nI 0) hx hb dX4_quote_57 (by decide) ?_
        refine z_putN hx hb hts hown zlX3 tyX3 tyX3_ok nmX3 rfl 1 (by decide) (List.mem_of_getElem? (i := 2) rfl) rfl hI xrhx20 rfl rfl rfl rfl (Nat.le_of_ble_eq_true rfl) dX4_quote_58 (fun H locs F23 hw24 ho25 hI => ?_)
        have hw24 : F23 (B0 + 34 + 2 * i9) = some (zO 3 [.ref (B0 + 35 + 2 * i9), .int (nI 0)]) := hw24
        have hc26 : F23 (B0 + 23) = some (zO 4 [.int th1, .ref (B0 + 24), .ref (B0 + 33), .ref (B0 + 38), .ref (B0 + 40)]) := (ho25 _ (zne m07 xrhx20 (fun q => by cases q))).trans m07
        have hc27 : F23 (B0 + 24) = some (zA3 G 4 ma7) := (ho25 _ (zne m17 xrhx20 (fun q => by cases q))).trans m17
        have hc28 : F23 (B0 + 33) = some (zA3 G 2 mb7) := (ho25 _ (zne m27 xrhx20 (fun q => by cases q))).trans m27
        have hc29 : F23 (B0 + 40) = some (zAI G 100 mc7) := (ho25 _ (zne m37 xrhx20 (fun q => by cases q))).trans m37
        have hc30 : F23 (B0 + 25 + 2 * i12) = some (zO 3 [.ref (B0 + 26 + 2 * i12), .int (nI (sn σ i12))]) := (ho25 _ (by omega)).trans xrhx19
        have hc31 : F23 (B0 + 26 + 2 * i12) = some (zAI G 60 fhx19) := (ho25 _ (zne xwhx19 xrhx20 (fun q => by cases q))).trans xwhx19
        have hc32 : F23 (B0 + 35 + 2 * i9) = some (zAI G 60 fhx20) := (ho25 _ (zne xwhx20 xrhx20 (fun q => by cases q))).trans xwhx20
        refine lv_iload_n hx hb dX4_quote_61 rfl (lv_at hl 3 rfl) ?_
        refine lv_istore (lv' := [(5, .int (nI a15)), (0, .ref (B0 + 23)), (1, .int (nI i9)), (2, .int (nI i12)), (3, .int (nI a15)), (4, .int (nI b16))]) hx hb dX4_quote_62 hl (by decide) rfl (fun ls hl => ?_)
        refine z_loop (σ := Nat) (fun k : Nat => [(0, .ref (B0 + 23)), (1, .int (nI i9)), (2, .int (nI i12)), (3, .int (nI a15)), (4, .int (nI b16)), (5, .int (nI k))]) (fun (k : Nat) (Fx : zM) => RA G 3 Fx (B0 + 34 + 2 * i9) (B0 + 35 + 2 * i9) 60 (k - a15) (fun j => st σ i12 (a15 + j)) ∧ zSm F4 Fx (B0 + 34 + 2 * i9) (B0 + 35 + 2 * i9) ∧ a15 ≤ k ∧ k ≤ b16) (fun k : Nat => b16 - k) a15 (nL := 6) (st := []) ?_ (lv_sub hl [1, 2, 3, 4, 5, 0] rfl) hI ?_
        · rw [Nat.sub_self]
          exact ⟨⟨Nat.zero_le _, hw24, _, hc32, fun j hj => absurd hj (Nat.not_lt_zero _)⟩, (zSm.l ho25), Nat.le_refl _, by omega⟩
        · intro k F33 ls H locs hi hl hI ih
          have hl : lv_has ls 6 [(0, .ref (B0 + 23)), (1, .int (nI i9)), (2, .int (nI i12)), (3, .int (nI a15)), (4, .int (nI b16)), (5, .int (nI k))] := hl
          obtain ⟨ha0, hs0, hk1, hk2⟩ := hi
          have hM2 := MS.setP hM1 hi10 hs0 ha0
          obtain ⟨m034, ⟨ma34, m134, me134⟩, ⟨mb34, m234, me234⟩, ⟨mc34, m334, me334⟩, ⟨n934, t934, m434⟩, mT34, mP34⟩ := id hM2
          have hx35 : RA G 3 F33 (B0 + 25 + 2 * i12) (B0 + 26 + 2 * i12) 60 (sn σ i12) (st σ i12) := mT34 i12 hi13
          obtain ⟨xnhx35, xrhx35, fhx35, xwhx35, xfhx35⟩ := id hx35
          obtain ⟨xn_, xr_, f_, xw_, xf_⟩ := id ha0
          refine lv_iload hx hb dX4_quote_64 (lv_at hl 5 rfl) ?_
          refine lv_iload hx hb dX4_quote_66 (lv_at hl 4 rfl) ?_
          refine z_icmp_ge (tgt := 97) (a := k) (b := b16) hx hb dX4_quote_68 (by decide) (by omega) (fun hq36 => ?_) (fun hq36 => ?_)
          · refine lv_aload_n hx hb dX4_quote_97 rfl (lv_at hl 0 rfl) ?_
            refine z_get hx hb hts hown zlX4 rfl 2 (by decide) (hts _ q754) rfl hI m034 rfl dX4_quote_98 ?_
            refine lv_iload_n hx hb dX4_quote_101 rfl (lv_at hl 1 rfl) ?_
            refine z_ald3 (k := i9) (v := B0 + 34 + 2 * i9) hx hb hI m234 (by omega) (by omega) (me234 i9 (by omega)) dX4_quote_102 ?_
            refine z_getN hx hb hts hown zlX3 rfl 1 (by decide) (List.mem_of_getElem? (i := 2) rfl) rfl hI xr_ rfl dX4_quote_103 ?_
            refine z_ri hx hb hr hlocks hI ?_ (Nat.le_of_ble_eq_true rfl) (Nat.le_of_ble_eq_true rfl) dX4_quote_106
            have hkn : k = b16 := by omega
            refine ⟨_, rfl, th1, _, (MS.setP hM1 hi10 hs0 (hkn ▸ ha0)), hz2, fun _ => ⟨(by simp only [oA_quote, oB_quote, oC_quote, rr_quote, ss_quote, hix11, hix14, hix21, hix22] <;> exact rfl), (by simp only [oA_quote, oB_quote, oC_quote, rr_quote, ss_quote, hix11, hix14, hix21, hix22] <;> (rw [hkn]))⟩, fun q => absurd ⟨hA, hB, hC0⟩ q, zMf.tr hmf1 (zMf.sm hs0 (by omega) (by omega))⟩
          · refine lv_aload_n hx hb dX4_quote_71 rfl (lv_at hl 0 rfl) ?_
            refine z_get hx hb hts hown zlX4 rfl 2 (by decide) (hts _ q754) rfl hI m034 rfl dX4_quote_72 ?_
            refine lv_iload_n hx hb dX4_quote_75 rfl (lv_at hl 1 rfl) ?_
            refine z_ald3 (k := i9) (v := B0 + 34 + 2 * i9) hx hb hI m234 (by omega) (by omega) (me234 i9 (by omega)) dX4_quote_76 ?_
            refine lv_aload_n hx hb dX4_quote_77 rfl (lv_at hl 0 rfl) ?_
            refine z_get hx hb hts hown zlX4 rfl 1 (by decide) (hts _ q753) rfl hI m034 rfl dX4_quote_78 ?_
            refine lv_iload_n hx hb dX4_quote_81 rfl (lv_at hl 2 rfl) ?_
            refine z_ald3 (k := i12) (v := B0 + 25 + 2 * i12) hx hb hI m134 (by omega) (by omega) (me134 i12 (by omega)) dX4_quote_82 ?_
            refine lv_iload hx hb dX4_quote_83 (lv_at hl 5 rfl) ?_
            refine z_calli hI (z_V (As := [.int (nI k)]) (rest := [.ref (B0 + 34 + 2 * i9)]) ⟨hx, hb, hml, hown, hts⟩ hI xrhx35 rfl (c_X3_at l G B0 F33 (B0 + 25 + 2 * i12) (B0 + 26 + 2 * i12) 60 (sn σ i12) (st σ i12) k ⟨xnhx35, xrhx35, fhx35, xwhx35, xfhx35⟩ (by omega) (by omega)) (z_cwV vX3_at hts q829 ⟨Nat.le_of_ble_eq_true rfl, Nat.le_of_ble_eq_true rfl⟩) rfl hl.1 rfl (lv_room (Nat.le_of_ble_eq_true rfl)) dX4_quote_85 ⟨Nat.le_of_ble_eq_true rfl, Nat.le_of_ble_eq_true rfl⟩) (fun r38 F37 H locs hp39 hI => ?_)
            obtain ⟨rfl, rfl⟩ := hp39
            refine z_callv hI (z_V (As := [.int ((st σ i12) k)]) (rest := []) ⟨hx, hb, hml, hown, hts⟩ hI xr_ rfl (c_X3_add l G B0 F33 (B0 + 34 + 2 * i9) (B0 + 35 + 2 * i9) 60 (k - a15) (fun j => st σ i12 (a15 + j)) ((st σ i12) k) ⟨xn_, xr_, f_, xw_, xf_⟩ (by omega) (by omega)) (z_cwV vX3_add hts q792 ⟨Nat.le_of_ble_eq_true rfl, Nat.le_of_ble_eq_true rfl⟩) rfl hl.1 rfl (lv_room (Nat.le_of_ble_eq_true rfl)) dX4_quote_88 ⟨Nat.le_of_ble_eq_true rfl, Nat.le_of_ble_eq_true rfl⟩) (fun F40 H locs hp42 hI => ?_)
            obtain ⟨ha43, hs43⟩ := hp42
            have hc44 : F40 (B0 + 23) = some (zO 4 [.int th1, .ref (B0 + 24), .ref (B0 + 33), .ref (B0 + 38), .ref (B0 + 40)]) := (hs43 _ (zne m034 xr_ (fun q => by cases q)) (zne m034 xw_ (fun q => by cases q))).trans m034
            have hc45 : F40 (B0 + 24) = some (zA3 G 4 ma34) := (hs43 _ (zne m134 xr_ (fun q => by cases q)) (by omega)).trans m134
            have hc46 : F40 (B0 + 33) = some (zA3 G 2 mb34) := (hs43 _ (zne m234 xr_ (fun q => by cases q)) (by omega)).trans m234
            have hc47 : F40 (B0 + 40) = some (zAI G 100 mc34) := (hs43 _ (zne m334 xr_ (fun q => by cases q)) (by omega)).trans m334
            have hc48 : F40 (B0 + 25 + 2 * i12) = some (zO 3 [.ref (B0 + 26 + 2 * i12), .int (nI (sn σ i12))]) := (hs43 _ (by omega) (zne xrhx35 xw_ (fun q => by cases q))).trans xrhx35
            have hc49 : F40 (B0 + 26 + 2 * i12) = some (zAI G 60 fhx35) := (hs43 _ (zne xwhx35 xr_ (fun q => by cases q)) (by omega)).trans xwhx35
            obtain ⟨xn_43, xr_43, f_43, xw_43, xf_43⟩ := id ha43
            refine lv_iinc (k := 5) (v := nI (k + 1)) (lv' := [(5, .int (nI (k + 1))), (0, .ref (B0 + 23)), (1, .int (nI i9)), (2, .int (nI i12)), (3, .int (nI a15)), (4, .int (nI b16))]) hx hb dX4_quote_91 hl rfl (nI_add k 1) (by decide) rfl (fun ls hl => ?_)
            refine lv_goto (tgt := 64) hx hb dX4_quote_94 (by decide) ?_
            refine ih (k + 1) _ ls H locs (by first | omega | (dsimp only; omega)) ?_ (lv_sub hl [1, 2, 3, 4, 5, 0] rfl) hI
            rw [show k - a15 + 1 = k + 1 - a15 by omega] at ha43
            refine ⟨RA.cg ha43 (fun j hj => ?_), (zSm.tr hs0 hs43), by omega, by omega⟩
            by_cases q : j = k - a15
            · subst q; rw [pk_us]; show _ = st σ i12 (a15 + (k - a15)); congr 1; omega
            · rw [pk_un q]
      · refine lv_iconst (v := nI 0) hx hb dX4_quote_49 (by decide) ?_
        refine z_ri hx hb hr hlocks hI ?_ (Nat.le_of_ble_eq_true rfl) (Nat.le_of_ble_eq_true rfl) dX4_quote_50
        exact ⟨_, rfl, th1, σ, hM1, hz2, fun q => absurd q hq8, fun _ => rfl, hmf1⟩
    · refine lv_iload hx hb dX4_quote_24 (lv_at hl 4 rfl) ?_
      refine lv_i2l hx hb dX4_quote_26 rfl ?_
      refine lv_iload_n hx hb dX4_quote_27 rfl (lv_at hl 3 rfl) ?_
      refine lv_i2l hx hb dX4_quote_28 rfl ?_
      refine lv_lsub hx hb dX4_quote_29 ?_
      refine lv_ldc2 (v := 12) hx hb hown (hts _ q874) dX4_quote_30 ?_
      refine W.lcmp hx hb dX4_quote_33 ?_
      refine lv_if_gt (tgt := 41) hx hb dX4_quote_34 (by decide) (fun hq50 => ?_) (fun hq50 => ?_)
      · refine lv_iconst (v := nI 0) hx hb dX4_quote_41 (by decide) ?_
        refine jn42 (nI 0) _ ls H locs ?_ (lv_sub hl [0, 1, 2, 3, 4] rfl) hI
        exact ⟨rfl, pI_f (fun z => by have z2 := z; first | exact hq50 z2 | (first | exact hq50 z2 | exact i_le_n.mp z2 hq50 | exact l_le_n.mp z2 (lg_gt.mp hq50) | exact l_le_n.mp z2 (lg_lt.mp hq50) | exact hq50 ((in_pl1 (by omega)).mpr z2) | omega))⟩
      · refine lv_iconst (v := nI 1) hx hb dX4_quote_37 (by decide) ?_
        refine lv_goto (tgt := 42) hx hb dX4_quote_38 (by decide) ?_
        refine jn42 (nI 1) _ ls H locs ?_ (lv_sub hl [0, 1, 2, 3, 4] rfl) hI
        exact ⟨rfl, pI_t (by first | exact hq50 | exact i_le_n.mpr hq50 | exact l_le_n.mpr (fun q => hq50 (lg_gt.mpr q)) | exact l_le_n.mpr (fun q => hq50 (lg_lt.mpr q)) | exact (in_pl1 (by omega)).mp hq50 | omega)⟩
  · refine lv_iload_n hx hb dX4_quote_1 rfl (lv_at hl 1 rfl) ?_
    refine z_calli hI (z_S (As := [.int zp0]) (rest := [.ref (B0 + 23)]) ⟨hx, hb, hml, hown, hts⟩ hI (c_X4_isPhrase l G B0 F zp0) (z_cwS vX4_isPhrase hts q867 ⟨Nat.le_of_ble_eq_true rfl, Nat.le_of_ble_eq_true rfl⟩) rfl hl.1 rfl (lv_room (Nat.le_of_ble_eq_true rfl)) dX4_quote_2 ⟨Nat.le_of_ble_eq_true rfl, Nat.le_of_ble_eq_true rfl⟩) (fun r52 F51 H locs hp53 hI => ?_)
    obtain ⟨rfl, rfl⟩ := hp53
    refine z_ifp_eq (tgt := 23) hx hb dX4_quote_5 (by decide) (fun hq54 => ?_) (fun hq54 => ?_)
    · refine lv_iconst (v := nI 0) hx hb dX4_quote_23 (by decide) ?_
      refine jn24 (nI 0) _ ls H locs ?_ (lv_sub hl [0, 1, 2, 3, 4] rfl) hI
      exact ⟨rfl, pI_f (fun z => by have z2 := z.1; first | exact hq54 z2 | (first | exact hq54 z2 | exact i_le_n.mp z2 hq54 | exact l_le_n.mp z2 (lg_gt.mp hq54) | exact l_le_n.mp z2 (lg_lt.mp hq54) | exact hq54 ((in_pl1 (by omega)).mpr z2) | omega))⟩
    · refine lv_aload_n hx hb dX4_quote_8 rfl (lv_at hl 0 rfl) ?_
      refine lv_iload_n hx hb dX4_quote_9 rfl (lv_at hl 2 rfl) ?_
      refine lv_iload_n hx hb dX4_quote_10 rfl (lv_at hl 3 rfl) ?_
      refine lv_iload hx hb dX4_quote_11 (lv_at hl 4 rfl) ?_
      refine z_calli hI (z_V (As := [.int zp1, .int zp2, .int zp3]) (rest := [.ref (B0 + 23)]) ⟨hx, hb, hml, hown, hts⟩ hI m01 rfl (c_X4_isPart l G B0 F σ th zp1 zp2 zp3 hM hK) (z_cwV vX4_isPart hts q813 ⟨Nat.le_of_ble_eq_true rfl, Nat.le_of_ble_eq_true rfl⟩) rfl hl.1 rfl (lv_room (Nat.le_of_ble_eq_true rfl)) dX4_quote_13 ⟨Nat.le_of_ble_eq_true rfl, Nat.le_of_ble_eq_true rfl⟩) (fun r56 F55 H locs hp57 hI => ?_)
      obtain ⟨rfl, rfl⟩ := hp57
      refine z_ifp_eq (tgt := 23) hx hb dX4_quote_16 (by decide) (fun hq58 => ?_) (fun hq58 => ?_)
      · refine lv_iconst (v := nI 0) hx hb dX4_quote_23 (by decide) ?_
        refine jn24 (nI 0) _ ls H locs ?_ (lv_sub hl [0, 1, 2, 3, 4] rfl) hI
        exact ⟨rfl, pI_f (fun z => by have z2 := z.2; first | exact hq58 z2 | (first | exact hq58 z2 | exact i_le_n.mp z2 hq58 | exact l_le_n.mp z2 (lg_gt.mp hq58) | exact l_le_n.mp z2 (lg_lt.mp hq58) | exact hq58 ((in_pl1 (by omega)).mpr z2) | omega))⟩
      · refine lv_iconst (v := nI 1) hx hb dX4_quote_19 (by decide) ?_
        refine lv_goto (tgt := 24) hx hb dX4_quote_20 (by decide) ?_
        refine jn24 (nI 1) _ ls H locs ?_ (lv_sub hl [0, 1, 2, 3, 4] rfl) hI
        exact ⟨rfl, pI_t ⟨(by first | exact hq54 | exact i_le_n.mpr hq54 | exact l_le_n.mpr (fun q => hq54 (lg_gt.mpr q)) | exact l_le_n.mpr (fun q => hq54 (lg_lt.mpr q)) | exact (in_pl1 (by omega)).mp hq54 | omega), (by first | exact hq58 | exact i_le_n.mpr hq58 | exact l_le_n.mpr (fun q => hq58 (lg_gt.mpr q)) | exact l_le_n.mpr (fun q => hq58 (lg_lt.mpr q)) | exact (in_pl1 (by omega)).mp hq58 | omega)⟩⟩

set_option maxHeartbeats 4000000 in
set_option maxRecDepth 100000 in
theorem c_X4_scatter (l : Launch) (G : zK) (B0 : Nat) (F : zM) (σ : Sg) (th zp0 zp1 zp2 zp3 : Int32) (hM : MS G B0 F σ th) (hK : SgOk σ) : Met l yX4_scatter (Cond.code yX4_scatter cX4_scatter 8 (some FieldType.int) :: zW) (zRm 3 68 0 0) (va_Pc [.ref (B0 + 23), .int zp0, .int zp1, .int zp2, .int zp3] (zPre G B0 F)) (zQi G B0 (zRP G B0 F σ (oA_scatter σ zp0 zp1 zp2 zp3) (oB_scatter σ zp0 zp1 zp2 zp3) (oC_scatter σ zp0 zp1 zp2 zp3) (ss_scatter σ zp0 zp1 zp2 zp3) (rr_scatter σ zp0 zp1 zp2 zp3))) 0 0 (zA B0) := by
  refine z_of (own := RX4) (by decide) rfl (Nat.le_of_ble_eq_true rfl) ?_
  intro p e s m below meth c ls hx hb hr hml hown hlocks hnm hts hl hI
  have hl : lv_has ls 8 [(0, .ref (B0 + 23)), (1, .int zp0), (2, .int zp1), (3, .int zp2), (4, .int zp3)] := hl
  obtain ⟨m01, ⟨ma1, m11, me11⟩, ⟨mb1, m21, me21⟩, ⟨mc1, m31, me31⟩, ⟨n91, t91, m41⟩, mT1, mP1⟩ := id hM
  refine lv_aload_n hx hb dX4_scatter_0 rfl (lv_at hl 0 rfl) ?_
  refine lv_iload_n hx hb dX4_scatter_1 rfl (lv_at hl 1 rfl) ?_
  refine z_calli hI (z_S (As := [.int zp0]) (rest := [.ref (B0 + 23)]) ⟨hx, hb, hml, hown, hts⟩ hI (c_X4_isText l G B0 F zp0) (z_cwS vX4_isText hts q772 ⟨Nat.le_of_ble_eq_true rfl, Nat.le_of_ble_eq_true rfl⟩) rfl hl.1 rfl (lv_room (Nat.le_of_ble_eq_true rfl)) dX4_scatter_2 ⟨Nat.le_of_ble_eq_true rfl, Nat.le_of_ble_eq_true rfl⟩) (fun r3 F2 H locs hp4 hI => ?_)
  obtain ⟨rfl, rfl⟩ := hp4
  refine z_join (σ := Int32) (fun x : Int32 => [(0, .ref (B0 + 23)), (1, .int zp0), (2, .int zp1), (3, .int zp2), (4, .int zp3)]) (fun x : Int32 => [.int x, .int (pI (okT zp0)), .ref (B0 + 23)]) (fun (x : Int32) (Fx : zM) => F = Fx ∧ x = pI ((0 ≤ zp1.toInt64 ∧ zp1.toInt64 ≤ 60) ∧ (1 ≤ zp2.toInt64 ∧ zp2.toInt64 ≤ 100) ∧ 0 ≤ zp3)) 39 8 G B0 ?_ (fun jn39 => ?_)
  · intro x F5 ls H locs hi hl hI
    have hl : lv_has ls 8 [(0, .ref (B0 + 23)), (1, .int zp0), (2, .int zp1), (3, .int zp2), (4, .int zp3)] := hl
    obtain ⟨hF, hx9⟩ := hi
    subst hF
    subst hx9
    refine lv_aload_n hx hb dX4_scatter_39 rfl (lv_at hl 0 rfl) ?_
    refine lv_iload_n hx hb dX4_scatter_40 rfl (lv_at hl 1 rfl) ?_
    refine lv_iload_n hx hb dX4_scatter_41 rfl (lv_at hl 2 rfl) ?_
    refine lv_i2l hx hb dX4_scatter_42 rfl ?_
    refine z_calli hI (z_V (As := [.int zp0, .long zp1.toInt64]) (rest := [.int (pI ((0 ≤ zp1.toInt64 ∧ zp1.toInt64 ≤ 60) ∧ (1 ≤ zp2.toInt64 ∧ zp2.toInt64 ≤ 100) ∧ 0 ≤ zp3)), .int (pI (okT zp0)), .ref (B0 + 23)]) ⟨hx, hb, hml, hown, hts⟩ hI m01 rfl (c_X4_hasRoom l G B0 F σ th zp0 zp1.toInt64 hM hK) (z_cwV vX4_hasRoom hts q783 ⟨Nat.le_of_ble_eq_true rfl, Nat.le_of_ble_eq_true rfl⟩) rfl hl.1 rfl (lv_room (Nat.le_of_ble_eq_true rfl)) dX4_scatter_43 ⟨Nat.le_of_ble_eq_true rfl, Nat.le_of_ble_eq_true rfl⟩) (fun r7 F6 H locs hp8 hI => ?_)
    obtain ⟨rfl, rfl⟩ := hp8
    refine z_calli hI (z_V (As := [.int (pI (okT zp0)), .int (pI ((0 ≤ zp1.toInt64 ∧ zp1.toInt64 ≤ 60) ∧ (1 ≤ zp2.toInt64 ∧ zp2.toInt64 ≤ 100) ∧ 0 ≤ zp3)), .int (pI (okT zp0 ∧ lN (sn σ (ix zp0)) + zp1.toInt64 ≤ 60))]) (rest := []) ⟨hx, hb, hml, hown, hts⟩ hI m01 rfl (c_X4_passes l G B0 F σ th (okT zp0) ((0 ≤ zp1.toInt64 ∧ zp1.toInt64 ≤ 60) ∧ (1 ≤ zp2.toInt64 ∧ zp2.toInt64 ≤ 100) ∧ 0 ≤ zp3) (okT zp0 ∧ lN (sn σ (ix zp0)) + zp1.toInt64 ≤ 60) hM) (z_cwV vX4_passes hts q788 ⟨Nat.le_of_ble_eq_true rfl, Nat.le_of_ble_eq_true rfl⟩) rfl hl.1 rfl (lv_room (Nat.le_of_ble_eq_true rfl)) dX4_scatter_46 ⟨Nat.le_of_ble_eq_true rfl, Nat.le_of_ble_eq_true rfl⟩) (fun r10 F9 H locs hp11 hI => ?_)
    obtain ⟨⟨th1, hM1, hz1⟩, rfl, ho1⟩ := hp11
    have hp1 : (okT zp0) ↔ oA_scatter σ zp0 zp1 zp2 zp3 := Iff.rfl
    have hp2 : oA_scatter σ zp0 zp1 zp2 zp3 → (((0 ≤ zp1.toInt64 ∧ zp1.toInt64 ≤ 60) ∧ (1 ≤ zp2.toInt64 ∧ zp2.toInt64 ≤ 100) ∧ 0 ≤ zp3) ↔ oB_scatter σ zp0 zp1 zp2 zp3) := fun _ => ⟨fun z => ⟨(in_c (a := 0) (b := 60) (by decide) (by decide)).mp z.1, (in_c (a := 1) (b := 100) (by decide) (by decide)).mp z.2.1, z.2.2⟩, fun z => ⟨(in_c (a := 0) (b := 60) (by decide) (by decide)).mpr z.1, (in_c (a := 1) (b := 100) (by decide) (by decide)).mpr z.2.1, z.2.2⟩⟩
    have hp3 : oA_scatter σ zp0 zp1 zp2 zp3 → oB_scatter σ zp0 zp1 zp2 zp3 → ((okT zp0 ∧ lN (sn σ (ix zp0)) + zp1.toInt64 ≤ 60) ↔ oC_scatter σ zp0 zp1 zp2 zp3) := fun hA9 hB9 => ⟨fun z => (rm_x (sg_le hK hA9) (i_le_n.mpr hB9.1.1)).mp z.2, fun z => ⟨hA9, (rm_x (sg_le hK hA9) (i_le_n.mpr hB9.1.1)).mpr z⟩⟩
    have hz2 := zTh_cg hp1 hp2 hp3 hz1
    refine z_topi (pI_cg (zC_cg hp1 hp2 hp3)) ?_
    have hmf1 : zMf B0 F F9 := fun q hq => ho1 q (by omega)
    obtain ⟨m012, ⟨ma12, m112, me112⟩, ⟨mb12, m212, me212⟩, ⟨mc12, m312, me312⟩, ⟨n912, t912, m412⟩, mT12, mP12⟩ := id hM1
    refine z_ifp_ne (tgt := 54) hx hb dX4_scatter_49 (by decide) (fun hq13 => ?_) (fun hq13 => ?_)
    · obtain ⟨hA, hB, hC0⟩ := id hq13
      have hc0 := hA
      obtain ⟨i14, hi15, rfl⟩ := id hc0
      have hix16 : ix (nI i14) = i14 := ix_nI (by omega)
      have hl : lv_has ls 8 [(0, .ref (B0 + 23)), (1, .int (nI i14)), (2, .int zp1), (3, .int zp2), (4, .int zp3)] := hl
      have hsbi14 := (hK.1 i14 hi15).1
      have hx17 := mT12 i14 hi15
      obtain ⟨xnhx17, xrhx17, fhx17, xwhx17, xfhx17⟩ := id hx17
      obtain ⟨⟨hw1, hw1b⟩, ⟨hw2, hw2b⟩, hw3⟩ := id hB
      have hC2 := hC0
      simp only [oC_scatter, hix16] at hC2
      obtain ⟨mm, hmm, rfl⟩ := sc_in (k := 60) (by decide) hw1 hw1b
      have hix18 : ix (nI mm) = mm := ix_nI (by omega)
      have hl : lv_has ls 8 [(0, .ref (B0 + 23)), (1, .int (nI i14)), (2, .int (nI mm)), (3, .int zp2), (4, .int zp3)] := hl
      have hrn := (nI_leI (by omega) (by omega)).mp hC2
      obtain ⟨rr9, hr1, hr2, rfl⟩ := sc_in1 (k := 100) (by decide) hw2 hw2b
      have hix19 : ix (nI rr9) = rr9 := ix_nI (by omega)
      have hl : lv_has ls 8 [(0, .ref (B0 + 23)), (1, .int (nI i14)), (2, .int (nI mm)), (3, .int (nI rr9)), (4, .int zp3)] := hl
      obtain ⟨ss9, hss, rfl⟩ := nI_of (show ¬ zp3 < 0 from i_le_n.mp hw3)
      have hix20 : ix (nI ss9) = ss9 := ix_nI (by omega)
      have hl : lv_has ls 8 [(0, .ref (B0 + 23)), (1, .int (nI i14)), (2, .int (nI mm)), (3, .int (nI rr9)), (4, .int (nI ss9))] := hl
      refine lv_iload hx hb dX4_scatter_54 (lv_at hl 4 rfl) ?_
      refine lv_i2l hx hb dX4_scatter_56 rfl ?_
      refine z_top (congrArg Value.long (show _ = lN ss9 from nI_l (n := ss9) (by omega))) ?_
      refine lv_lstore (lv' := [(5, .long (lN ss9)), (0, .ref (B0 + 23)), (1, .int (nI i14)), (2, .int (nI mm)), (3, .int (nI rr9)), (4, .int (nI ss9))]) hx hb dX4_scatter_57 hl (by decide) rfl (fun ls hl => ?_)
      refine lv_iconst (v := nI 0) hx hb dX4_scatter_59 (by decide) ?_
      refine lv_istore (lv' := [(7, .int (nI 0)), (5, .long (lN ss9)), (0, .ref (B0 + 23)), (1, .int (nI i14)), (2, .int (nI mm)), (3, .int (nI rr9)), (4, .int (nI ss9))]) hx hb dX4_scatter_60 hl (by decide) rfl (fun ls hl => ?_)
      refine z_loop (σ := Nat × Int64) (fun xx : Nat × Int64 => match xx with | (k, x) => [(0, .ref (B0 + 23)), (1, .int (nI i14)), (2, .int (nI mm)), (3, .int (nI rr9)), (4, .int (nI ss9)), (7, .int (nI k)), (5, .long x)]) (fun (xx : Nat × Int64) (Fx : zM) => match xx with | (k, x) => RA G 3 Fx (B0 + 25 + 2 * i14) (B0 + 26 + 2 * i14) 60 (sn σ i14 + k) (catt (st σ i14) (sn σ i14) (scw rr9 ss9)) ∧ zSm F9 Fx (B0 + 25 + 2 * i14) (B0 + 26 + 2 * i14) ∧ k ≤ mm ∧ x = lN (lcg ss9 k)) (fun xx : Nat × Int64 => match xx with | (k, x) => mm - k) (0, lN ss9) (nL := 8) (st := []) ?_ (lv_sub hl [2, 3, 4, 5, 6, 0, 1] rfl) hI ?_
      · exact ⟨RA.cg ⟨xnhx17, xrhx17, fhx17, xwhx17, xfhx17⟩ (fun j hj => (catt_lo (by omega)).symm), zSm.rf, Nat.zero_le _, rfl⟩
      · intro xx F21 ls H locs hi hl hI ih
        obtain ⟨k, x⟩ := xx
        have hl : lv_has ls 8 [(0, .ref (B0 + 23)), (1, .int (nI i14)), (2, .int (nI mm)), (3, .int (nI rr9)), (4, .int (nI ss9)), (7, .int (nI k)), (5, .long x)] := hl
        obtain ⟨ha0, hs0, hk, hxx⟩ := hi
        have hM2 := MS.setT hM1 hi15 hs0 ha0
        obtain ⟨m022, ⟨ma22, m122, me122⟩, ⟨mb22, m222, me222⟩, ⟨mc22, m322, me322⟩, ⟨n922, t922, m422⟩, mT22, mP22⟩ := id hM2
        obtain ⟨xn_, xr_, f_, xw_, xf_⟩ := id ha0
        have hlc := lcg_lt (s := ss9) (by omega) k
        have hlc1 := lcg_lt (s := ss9) (by omega) (k + 1)
        refine lv_iload hx hb dX4_scatter_62 (lv_at hl 5 rfl) ?_
        refine lv_iload_n hx hb dX4_scatter_64 rfl (lv_at hl 2 rfl) ?_
        refine z_icmp_ge (tgt := 109) (a := k) (b := mm) hx hb dX4_scatter_65 (by decide) (by omega) (fun hq23 => ?_) (fun hq23 => ?_)
        · refine lv_aload_n hx hb dX4_scatter_109 rfl (lv_at hl 0 rfl) ?_
          refine z_get hx hb hts hown zlX4 rfl 1 (by decide) (hts _ q753) rfl hI m022 rfl dX4_scatter_110 ?_
          refine lv_iload_n hx hb dX4_scatter_113 rfl (lv_at hl 1 rfl) ?_
          refine z_ald3 (k := i14) (v := B0 + 25 + 2 * i14) hx hb hI m122 (by omega) (by omega) (me122 i14 (by omega)) dX4_scatter_114 ?_
          refine z_getN hx hb hts hown zlX3 rfl 1 (by decide) (List.mem_of_getElem? (i := 2) rfl) rfl hI xr_ rfl dX4_scatter_115 ?_
          refine z_ri hx hb hr hlocks hI ?_ (Nat.le_of_ble_eq_true rfl) (Nat.le_of_ble_eq_true rfl) dX4_scatter_118
          have hkn : k = mm := by omega
          refine ⟨_, rfl, th1, _, (MS.setT hM1 hi15 hs0 (hkn ▸ ha0)), hz2, fun _ => ⟨(by simp only [oA_scatter, oB_scatter, oC_scatter, rr_scatter, ss_scatter, hix16, hix18, hix19, hix20] <;> exact rfl), (by simp only [oA_scatter, oB_scatter, oC_scatter, rr_scatter, ss_scatter, hix16, hix18, hix19, hix20] <;> (rw [hkn]))⟩, fun q => absurd ⟨hA, hB, hC0⟩ q, zMf.tr hmf1 (zMf.sm hs0 (by omega) (by omega))⟩
        · refine lv_lload hx hb dX4_scatter_68 (lv_at hl 6 rfl) ?_
          refine lv_ldc2 (v := 1103515245) hx hb hown (hts _ q805) dX4_scatter_70 ?_
          refine lv_lmul hx hb dX4_scatter_73 ?_
          refine lv_ldc2 (v := 12345) hx hb hown (hts _ q806) dX4_scatter_74 ?_
          refine lv_ladd hx hb dX4_scatter_77 ?_
          refine z_top (congrArg Value.long (show _ = lN (lcg ss9 k * 1103515245 + 12345) from by rw [hxx]; exact (congrArg (· + lN 12345) (lN_mul _ _)).trans (lN_add _ _))) ?_
          refine lv_ldc2 (v := 2147483648) hx hb hown (hts _ q807) dX4_scatter_78 ?_
          refine lv_lrem hx hb dX4_scatter_81 (by decide) ?_
          refine z_top (congrArg Value.long (show _ = lN (lcg ss9 (k + 1)) from pk_lRem (a := lcg ss9 k * 1103515245 + 12345) (b := 2147483648) (by omega) (by decide) (by decide))) ?_
          refine lv_lstore (lv' := [(5, .long (lN (lcg ss9 (k + 1)))), (0, .ref (B0 + 23)), (1, .int (nI i14)), (2, .int (nI mm)), (3, .int (nI rr9)), (4, .int (nI ss9)), (7, .int (nI k))]) hx hb dX4_scatter_82 hl (by decide) rfl (fun ls hl => ?_)
          refine lv_aload_n hx hb dX4_scatter_84 rfl (lv_at hl 1 rfl) ?_
          refine z_get hx hb hts hown zlX4 rfl 1 (by decide) (hts _ q753) rfl hI m022 rfl dX4_scatter_85 ?_
          refine lv_iload_n hx hb dX4_scatter_88 rfl (lv_at hl 2 rfl) ?_
          refine z_ald3 (k := i14) (v := B0 + 25 + 2 * i14) hx hb hI m122 (by omega) (by omega) (me122 i14 (by omega)) dX4_scatter_89 ?_
          refine lv_lload hx hb dX4_scatter_90 (lv_at hl 0 rfl) ?_
          refine lv_ldc2 (v := 65536) hx hb hown (hts _ q808) dX4_scatter_92 ?_
          refine lv_ldiv hx hb dX4_scatter_95 (by decide) ?_
          refine z_top (congrArg Value.long (show _ = lN (lcg ss9 (k + 1) / 65536) from pk_lDiv (by omega) (by decide) (by decide))) ?_
          refine lv_iload_n hx hb dX4_scatter_96 rfl (lv_at hl 4 rfl) ?_
          refine lv_i2l hx hb dX4_scatter_97 rfl ?_
          refine z_top (congrArg Value.long (show _ = lN rr9 from nI_l (n := rr9) (by omega))) ?_
          refine lv_lrem hx hb dX4_scatter_98 (sc_nz hr1 (by omega)) ?_
          refine z_top (congrArg Value.long (show _ = lN (lcg ss9 (k + 1) / 65536 % rr9) from pk_lRem (a := lcg ss9 (k + 1) / 65536) (b := rr9) (by omega) hr1 (by omega))) ?_
          refine lv_l2i hx hb dX4_scatter_99 rfl ?_
          refine z_topi (show _ = scw rr9 ss9 k from lN_i _) ?_
          refine z_callv hI (z_V (As := [.int (scw rr9 ss9 k)]) (rest := []) ⟨hx, hb, hml, hown, hts⟩ hI xr_ rfl (c_X3_add l G B0 F21 (B0 + 25 + 2 * i14) (B0 + 26 + 2 * i14) 60 (sn σ i14 + k) (catt (st σ i14) (sn σ i14) (scw rr9 ss9)) (scw rr9 ss9 k) ⟨xn_, xr_, f_, xw_, xf_⟩ (by omega) (by omega)) (z_cwV vX3_add hts q792 ⟨Nat.le_of_ble_eq_true rfl, Nat.le_of_ble_eq_true rfl⟩) rfl hl.1 rfl (lv_room (Nat.le_of_ble_eq_true rfl)) dX4_scatter_100 ⟨Nat.le_of_ble_eq_true rfl, Nat.le_of_ble_eq_true rfl⟩) (fun F24 H locs hp26 hI => ?_)
          obtain ⟨ha27, hs27⟩ := hp26
          have hc28 : F24 (B0 + 23) = some (zO 4 [.int th1, .ref (B0 + 24), .ref (B0 + 33), .ref (B0 + 38), .ref (B0 + 40)]) := (hs27 _ (zne m022 xr_ (fun q => by cases q)) (zne m022 xw_ (fun q => by cases q))).trans m022
          have hc29 : F24 (B0 + 24) = some (zA3 G 4 ma22) := (hs27 _ (zne m122 xr_ (fun q => by cases q)) (by omega)).trans m122
          have hc30 : F24 (B0 + 33) = some (zA3 G 2 mb22) := (hs27 _ (zne m222 xr_ (fun q => by cases q)) (by omega)).trans m222
          have hc31 : F24 (B0 + 40) = some (zAI G 100 mc22) := (hs27 _ (zne m322 xr_ (fun q => by cases q)) (by omega)).trans m322
          obtain ⟨xn_27, xr_27, f_27, xw_27, xf_27⟩ := id ha27
          refine lv_iinc (k := 6) (v := nI (k + 1)) (lv' := [(7, .int (nI (k + 1))), (5, .long (lN (lcg ss9 (k + 1)))), (0, .ref (B0 + 23)), (1, .int (nI i14)), (2, .int (nI mm)), (3, .int (nI rr9)), (4, .int (nI ss9))]) hx hb dX4_scatter_103 hl rfl (nI_add k 1) (by decide) rfl (fun ls hl => ?_)
          refine lv_goto (tgt := 62) hx hb dX4_scatter_106 (by decide) ?_
          refine ih (k + 1, lN (lcg ss9 (k + 1))) _ ls H locs (by first | omega | (dsimp only; omega)) ?_ (lv_sub hl [2, 3, 4, 5, 6, 0, 1] rfl) hI
          refine ⟨RA.cg ha27 (fun j hj => ?_), (zSm.tr hs0 hs27), by omega, rfl⟩
          by_cases q : j = sn σ i14 + k
          · subst q; rw [pk_us, catt_hi]
          · rw [pk_un q]
    · refine lv_iconst (v := nI 0) hx hb dX4_scatter_52 (by decide) ?_
      refine z_ri hx hb hr hlocks hI ?_ (Nat.le_of_ble_eq_true rfl) (Nat.le_of_ble_eq_true rfl) dX4_scatter_53
      exact ⟨_, rfl, th1, σ, hM1, hz2, fun q => absurd q hq13, fun _ => rfl, hmf1⟩
  · refine lv_iload_n hx hb dX4_scatter_5 rfl (lv_at hl 2 rfl) ?_
    refine lv_i2l hx hb dX4_scatter_6 rfl ?_
    refine lv_lconst (v := 0) hx hb dX4_scatter_7 (by decide) ?_
    refine lv_ldc2 (v := 60) hx hb hown (hts _ q787) dX4_scatter_8 ?_
    refine z_calli hI (z_S (As := [.long zp1.toInt64, .long 0, .long 60]) (rest := [.int (pI (okT zp0)), .ref (B0 + 23)]) ⟨hx, hb, hml, hown, hts⟩ hI (c_X4_in l G B0 F zp1.toInt64 0 60) (z_cwS vX4_in hts q776 ⟨Nat.le_of_ble_eq_true rfl, Nat.le_of_ble_eq_true rfl⟩) rfl hl.1 rfl (lv_room (Nat.le_of_ble_eq_true rfl)) dX4_scatter_11 ⟨Nat.le_of_ble_eq_true rfl, Nat.le_of_ble_eq_true rfl⟩) (fun r33 F32 H locs hp34 hI => ?_)
    obtain ⟨rfl, rfl⟩ := hp34
    refine z_ifp_eq (tgt := 38) hx hb dX4_scatter_14 (by decide) (fun hq35 => ?_) (fun hq35 => ?_)
    · refine lv_iconst (v := nI 0) hx hb dX4_scatter_38 (by decide) ?_
      refine jn39 (nI 0) _ ls H locs ?_ (lv_sub hl [0, 1, 2, 3, 4] rfl) hI
      exact ⟨rfl, pI_f (fun z => by have z2 := z.1; first | exact hq35 z2 | (first | exact hq35 z2 | exact i_le_n.mp z2 hq35 | exact l_le_n.mp z2 (lg_gt.mp hq35) | exact l_le_n.mp z2 (lg_lt.mp hq35) | exact hq35 ((in_pl1 (by omega)).mpr z2) | omega))⟩
    · refine lv_iload_n hx hb dX4_scatter_17 rfl (lv_at hl 3 rfl) ?_
      refine lv_i2l hx hb dX4_scatter_18 rfl ?_
      refine lv_lconst (v := 1) hx hb dX4_scatter_19 (by decide) ?_
      refine lv_ldc2 (v := 100) hx hb hown (hts _ q804) dX4_scatter_20 ?_
      refine z_calli hI (z_S (As := [.long zp2.toInt64, .long 1, .long 100]) (rest := [.int (pI (okT zp0)), .ref (B0 + 23)]) ⟨hx, hb, hml, hown, hts⟩ hI (c_X4_in l G B0 F zp2.toInt64 1 100) (z_cwS vX4_in hts q776 ⟨Nat.le_of_ble_eq_true rfl, Nat.le_of_ble_eq_true rfl⟩) rfl hl.1 rfl (lv_room (Nat.le_of_ble_eq_true rfl)) dX4_scatter_23 ⟨Nat.le_of_ble_eq_true rfl, Nat.le_of_ble_eq_true rfl⟩) (fun r37 F36 H locs hp38 hI => ?_)
      obtain ⟨rfl, rfl⟩ := hp38
      refine z_ifp_eq (tgt := 38) hx hb dX4_scatter_26 (by decide) (fun hq39 => ?_) (fun hq39 => ?_)
      · refine lv_iconst (v := nI 0) hx hb dX4_scatter_38 (by decide) ?_
        refine jn39 (nI 0) _ ls H locs ?_ (lv_sub hl [0, 1, 2, 3, 4] rfl) hI
        exact ⟨rfl, pI_f (fun z => by have z2 := z.2.1; first | exact hq39 z2 | (first | exact hq39 z2 | exact i_le_n.mp z2 hq39 | exact l_le_n.mp z2 (lg_gt.mp hq39) | exact l_le_n.mp z2 (lg_lt.mp hq39) | exact hq39 ((in_pl1 (by omega)).mpr z2) | omega))⟩
      · refine lv_iload hx hb dX4_scatter_29 (lv_at hl 4 rfl) ?_
        refine lv_if_lt (tgt := 38) hx hb dX4_scatter_31 (by decide) (fun hq40 => ?_) (fun hq40 => ?_)
        · refine lv_iconst (v := nI 0) hx hb dX4_scatter_38 (by decide) ?_
          refine jn39 (nI 0) _ ls H locs ?_ (lv_sub hl [0, 1, 2, 3, 4] rfl) hI
          exact ⟨rfl, pI_f (fun z => by have z2 := z.2.2; first | exact hq40 z2 | (first | exact hq40 z2 | exact i_le_n.mp z2 hq40 | exact l_le_n.mp z2 (lg_gt.mp hq40) | exact l_le_n.mp z2 (lg_lt.mp hq40) | exact hq40 ((in_pl1 (by omega)).mpr z2) | omega))⟩
        · refine lv_iconst (v := nI 1) hx hb dX4_scatter_34 (by decide) ?_
          refine lv_goto (tgt := 39) hx hb dX4_scatter_35 (by decide) ?_
          refine jn39 (nI 1) _ ls H locs ?_ (lv_sub hl [0, 1, 2, 3, 4] rfl) hI
          exact ⟨rfl, pI_t ⟨(by first | exact hq35 | exact i_le_n.mpr hq35 | exact l_le_n.mpr (fun q => hq35 (lg_gt.mpr q)) | exact l_le_n.mpr (fun q => hq35 (lg_lt.mpr q)) | exact (in_pl1 (by omega)).mp hq35 | omega), (by first | exact hq39 | exact i_le_n.mpr hq39 | exact l_le_n.mpr (fun q => hq39 (lg_gt.mpr q)) | exact l_le_n.mpr (fun q => hq39 (lg_lt.mpr q)) | exact (in_pl1 (by omega)).mp hq39 | omega), (by first | exact hq40 | exact i_le_n.mpr hq40 | exact l_le_n.mpr (fun q => hq40 (lg_gt.mpr q)) | exact l_le_n.mpr (fun q => hq40 (lg_lt.mpr q)) | exact (in_pl1 (by omega)).mp hq40 | omega)⟩⟩

set_option maxHeartbeats 4000000 in
set_option maxRecDepth 100000 in
theorem c_X4_replaceWord (l : Launch) (G : zK) (B0 : Nat) (F : zM) (σ : Sg) (th zp0 zp1 zp2 : Int32) (hM : MS G B0 F σ th) (hK : SgOk σ) : Met l yX4_replaceWord (Cond.code yX4_replaceWord cX4_replaceWord 6 (some FieldType.boolean) :: zW) (zRm 2 45 0 0) (va_Pc [.ref (B0 + 23), .int zp0, .int zp1, .int zp2] (zPre G B0 F)) (zQi G B0 (zRP G B0 F σ (oA_replaceWord σ zp0 zp1 zp2) (oB_replaceWord σ zp0 zp1 zp2) (oC_replaceWord σ zp0 zp1 zp2) (ss_replaceWord σ zp0 zp1 zp2) (rr_replaceWord σ zp0 zp1 zp2))) 0 0 (zA B0) := by
  refine z_of (own := RX4) (by decide) rfl (Nat.le_of_ble_eq_true rfl) ?_
  intro p e s m below meth c ls hx hb hr hml hown hlocks hnm hts hl hI
  have hl : lv_has ls 6 [(0, .ref (B0 + 23)), (1, .int zp0), (2, .int zp1), (3, .int zp2)] := hl
  obtain ⟨m01, ⟨ma1, m11, me11⟩, ⟨mb1, m21, me21⟩, ⟨mc1, m31, me31⟩, ⟨n91, t91, m41⟩, mT1, mP1⟩ := id hM
  refine lv_aload_n hx hb dX4_replaceWord_0 rfl (lv_at hl 0 rfl) ?_
  refine z_join (σ := Int32) (fun x : Int32 => [(0, .ref (B0 + 23)), (1, .int zp0), (2, .int zp1), (3, .int zp2)]) (fun x : Int32 => [.int x, .ref (B0 + 23)]) (fun (x : Int32) (Fx : zM) => F = Fx ∧ x = pI (okT zp0 ∧ okW zp1 ∧ okW zp2)) 27 6 G B0 ?_ (fun jn27 => ?_)
  · intro x F2 ls H locs hi hl hI
    have hl : lv_has ls 6 [(0, .ref (B0 + 23)), (1, .int zp0), (2, .int zp1), (3, .int zp2)] := hl
    obtain ⟨hF, hx9⟩ := hi
    subst hF
    subst hx9
    refine lv_iconst (v := nI 1) hx hb dX4_replaceWord_27 (by decide) ?_
    refine z_topi (pI_1 (P := True) trivial) ?_
    refine lv_iconst (v := nI 1) hx hb dX4_replaceWord_28 (by decide) ?_
    refine z_topi (pI_1 (P := True) trivial) ?_
    refine z_calli hI (z_V (As := [.int (pI (okT zp0 ∧ okW zp1 ∧ okW zp2)), .int (pI (True)), .int (pI (True))]) (rest := []) ⟨hx, hb, hml, hown, hts⟩ hI m01 rfl (c_X4_passes l G B0 F σ th (okT zp0 ∧ okW zp1 ∧ okW zp2) (True) (True) hM) (z_cwV vX4_passes hts q788 ⟨Nat.le_of_ble_eq_true rfl, Nat.le_of_ble_eq_true rfl⟩) rfl hl.1 rfl (lv_room (Nat.le_of_ble_eq_true rfl)) dX4_replaceWord_29 ⟨Nat.le_of_ble_eq_true rfl, Nat.le_of_ble_eq_true rfl⟩) (fun r4 F3 H locs hp5 hI => ?_)
    obtain ⟨⟨th1, hM1, hz1⟩, rfl, ho1⟩ := hp5
    have hp1 : (okT zp0 ∧ okW zp1 ∧ okW zp2) ↔ oA_replaceWord σ zp0 zp1 zp2 := Iff.rfl
    have hp2 : oA_replaceWord σ zp0 zp1 zp2 → ((True) ↔ oB_replaceWord σ zp0 zp1 zp2) := fun _ => Iff.rfl
    have hp3 : oA_replaceWord σ zp0 zp1 zp2 → oB_replaceWord σ zp0 zp1 zp2 → ((True) ↔ oC_replaceWord σ zp0 zp1 zp2) := fun _ _ => Iff.rfl
    have hz2 := zTh_cg hp1 hp2 hp3 hz1
    refine z_topi (pI_cg (zC_cg hp1 hp2 hp3)) ?_
    have hmf1 : zMf B0 F F3 := fun q hq => ho1 q (by omega)
    obtain ⟨m06, ⟨ma6, m16, me16⟩, ⟨mb6, m26, me26⟩, ⟨mc6, m36, me36⟩, ⟨n96, t96, m46⟩, mT6, mP6⟩ := id hM1
    refine z_ifp_ne (tgt := 37) hx hb dX4_replaceWord_32 (by decide) (fun hq7 => ?_) (fun hq7 => ?_)
    · obtain ⟨hA, hB, hC0⟩ := id hq7
      obtain ⟨hc0, hc1, hc2⟩ := id hA
      obtain ⟨i8, hi9, rfl⟩ := id hc0
      have hix10 : ix (nI i8) = i8 := ix_nI (by omega)
      have hl : lv_has ls 6 [(0, .ref (B0 + 23)), (1, .int (nI i8)), (2, .int zp1), (3, .int zp2)] := hl
      have hsbi8 := (hK.1 i8 hi9).1
      have hx11 := mT6 i8 hi9
      obtain ⟨xnhx11, xrhx11, fhx11, xwhx11, xfhx11⟩ := id hx11
      refine lv_aload_n hx hb dX4_replaceWord_37 rfl (lv_at hl 0 rfl) ?_
      refine z_get hx hb hts hown zlX4 rfl 1 (by decide) (hts _ q753) rfl hI m06 rfl dX4_replaceWord_38 ?_
      refine lv_iload_n hx hb dX4_replaceWord_41 rfl (lv_at hl 1 rfl) ?_
      refine z_ald3 (k := i8) (v := B0 + 25 + 2 * i8) hx hb hI m16 (by omega) (by omega) (me16 i8 (by omega)) dX4_replaceWord_42 ?_
      refine lv_iload_n hx hb dX4_replaceWord_43 rfl (lv_at hl 2 rfl) ?_
      refine z_calli hI (z_V (As := [.int zp1]) (rest := []) ⟨hx, hb, hml, hown, hts⟩ hI xrhx11 rfl (c_X3_often l G B0 F3 (B0 + 25 + 2 * i8) (B0 + 26 + 2 * i8) 60 (sn σ i8) (st σ i8) zp1 ⟨xnhx11, xrhx11, fhx11, xwhx11, xfhx11⟩ (by omega)) (z_cwV vX3_often hts q931 ⟨Nat.le_of_ble_eq_true rfl, Nat.le_of_ble_eq_true rfl⟩) rfl hl.1 rfl (lv_room (Nat.le_of_ble_eq_true rfl)) dX4_replaceWord_44 ⟨Nat.le_of_ble_eq_true rfl, Nat.le_of_ble_eq_true rfl⟩) (fun r13 F12 H locs hp14 hI => ?_)
      obtain ⟨rfl, rfl⟩ := hp14
      have hcn := cnt_le (st σ i8) zp1 (sn σ i8)
      refine z_if_le (tgt := 54) (a := cnt (st σ i8) zp1 (sn σ i8)) hx hb dX4_replaceWord_47 (by decide) (by omega) (fun hq15 => ?_) (fun hq15 => ?_)
      · refine lv_iconst (v := nI 0) hx hb dX4_replaceWord_54 (by decide) ?_
        refine z_topi (show _ = pI (0 < cnt (st σ i8) zp1 (sn σ i8)) from pI_f (by omega)) ?_
        refine lv_istore (lv' := [(4, .int (pI (0 < cnt (st σ i8) zp1 (sn σ i8)))), (0, .ref (B0 + 23)), (1, .int (nI i8)), (2, .int zp1), (3, .int zp2)]) hx hb dX4_replaceWord_55 hl (by decide) rfl (fun ls hl => ?_)
        refine lv_iconst (v := nI 0) hx hb dX4_replaceWord_57 (by decide) ?_
        refine lv_istore (lv' := [(5, .int (nI 0)), (4, .int (pI (0 < cnt (st σ i8) zp1 (sn σ i8)))), (0, .ref (B0 + 23)), (1, .int (nI i8)), (2, .int zp1), (3, .int zp2)]) hx hb dX4_replaceWord_58 hl (by decide) rfl (fun ls hl => ?_)
        refine z_loop (σ := Nat) (fun k : Nat => [(0, .ref (B0 + 23)), (1, .int (nI i8)), (2, .int zp1), (3, .int zp2), (4, .int (pI (0 < cnt (st σ i8) zp1 (sn σ i8)))), (5, .int (nI k))]) (fun (k : Nat) (Fx : zM) => RA G 3 Fx (B0 + 25 + 2 * i8) (B0 + 26 + 2 * i8) 60 (sn σ i8) (fun j => if j < k ∧ st σ i8 j = zp1 then zp2 else st σ i8 j) ∧ zSm F3 Fx (B0 + 25 + 2 * i8) (B0 + 26 + 2 * i8) ∧ k ≤ sn σ i8) (fun k : Nat => sn σ i8 - k) 0 (nL := 6) (st := []) ?_ (lv_sub hl [2, 3, 4, 5, 1, 0] rfl) hI ?_
        · exact ⟨RA.cg ⟨xnhx11, xrhx11, fhx11, xwhx11, xfhx11⟩ (fun j hj => (if_neg (fun q => absurd q.1 (Nat.not_lt_zero _))).symm), zSm.rf, Nat.zero_le _⟩
        · intro k F16 ls H locs hi hl hI ih
          have hl : lv_has ls 6 [(0, .ref (B0 + 23)), (1, .int (nI i8)), (2, .int zp1), (3, .int zp2), (4, .int (pI (0 < cnt (st σ i8) zp1 (sn σ i8)))), (5, .int (nI k))] := hl
          obtain ⟨ha0, hs0, hk⟩ := hi
          have hM2 := MS.setT hM1 hi9 hs0 ha0
          obtain ⟨m017, ⟨ma17, m117, me117⟩, ⟨mb17, m217, me217⟩, ⟨mc17, m317, me317⟩, ⟨n917, t917, m417⟩, mT17, mP17⟩ := id hM2
          obtain ⟨xn_, xr_, f_, xw_, xf_⟩ := id ha0
          have htk : (if k < k ∧ st σ i8 k = zp1 then zp2 else st σ i8 k) = st σ i8 k := if_neg (fun q => absurd q.1 (Nat.lt_irrefl _))
          refine lv_iload hx hb dX4_replaceWord_60 (lv_at hl 5 rfl) ?_
          refine lv_aload_n hx hb dX4_replaceWord_62 rfl (lv_at hl 0 rfl) ?_
          refine z_get hx hb hts hown zlX4 rfl 1 (by decide) (hts _ q753) rfl hI m017 rfl dX4_replaceWord_63 ?_
          refine lv_iload_n hx hb dX4_replaceWord_66 rfl (lv_at hl 1 rfl) ?_
          refine z_ald3 (k := i8) (v := B0 + 25 + 2 * i8) hx hb hI m117 (by omega) (by omega) (me117 i8 (by omega)) dX4_replaceWord_67 ?_
          refine z_getN hx hb hts hown zlX3 rfl 1 (by decide) (List.mem_of_getElem? (i := 2) rfl) rfl hI xr_ rfl dX4_replaceWord_68 ?_
          refine z_icmp_ge (tgt := 122) (a := k) (b := sn σ i8) hx hb dX4_replaceWord_71 (by decide) (by omega) (fun hq18 => ?_) (fun hq18 => ?_)
          · refine lv_iload hx hb dX4_replaceWord_122 (lv_at hl 4 rfl) ?_
            refine z_rz hx hb hr hlocks pI_or hI ?_ (Nat.le_of_ble_eq_true rfl) (Nat.le_of_ble_eq_true rfl) dX4_replaceWord_124
            have hkn : k = sn σ i8 := by omega
            refine ⟨_, rfl, th1, _, (MS.setT hM1 hi9 hs0 (RA.cg (t' := fun j => if st σ i8 j = zp1 then zp2 else st σ i8 j) ha0 (fun j hj => by rw [hkn]; by_cases e : st σ i8 j = zp1 <;> simp [e, hj]))), hz2, fun _ => ⟨(by simp only [oA_replaceWord, oB_replaceWord, oC_replaceWord, rr_replaceWord, ss_replaceWord, hix10] <;> exact rfl), (by simp only [oA_replaceWord, oB_replaceWord, oC_replaceWord, rr_replaceWord, ss_replaceWord, hix10] <;> exact rfl)⟩, fun q => absurd ⟨hA, hB, hC0⟩ q, zMf.tr hmf1 (zMf.sm hs0 (by omega) (by omega))⟩
          · refine lv_aload_n hx hb dX4_replaceWord_74 rfl (lv_at hl 0 rfl) ?_
            refine z_get hx hb hts hown zlX4 rfl 1 (by decide) (hts _ q753) rfl hI m017 rfl dX4_replaceWord_75 ?_
            refine lv_iload_n hx hb dX4_replaceWord_78 rfl (lv_at hl 1 rfl) ?_
            refine z_ald3 (k := i8) (v := B0 + 25 + 2 * i8) hx hb hI m117 (by omega) (by omega) (me117 i8 (by omega)) dX4_replaceWord_79 ?_
            refine z_getN hx hb hts hown zlX3 rfl 0 (by decide) (List.mem_of_getElem? (i := 3) rfl) rfl hI xr_ rfl dX4_replaceWord_80 ?_
            refine lv_iload hx hb dX4_replaceWord_83 (lv_at hl 5 rfl) ?_
            refine lv_aload_n hx hb dX4_replaceWord_85 rfl (lv_at hl 0 rfl) ?_
            refine z_get hx hb hts hown zlX4 rfl 1 (by decide) (hts _ q753) rfl hI m017 rfl dX4_replaceWord_86 ?_
            refine lv_iload_n hx hb dX4_replaceWord_89 rfl (lv_at hl 1 rfl) ?_
            refine z_ald3 (k := i8) (v := B0 + 25 + 2 * i8) hx hb hI m117 (by omega) (by omega) (me117 i8 (by omega)) dX4_replaceWord_90 ?_
            refine lv_iload hx hb dX4_replaceWord_91 (lv_at hl 5 rfl) ?_
            refine z_calli hI (z_V (As := [.int (nI k)]) (rest := [.int (nI k), .ref (B0 + 26 + 2 * i8)]) ⟨hx, hb, hml, hown, hts⟩ hI xr_ rfl (c_X3_at l G B0 F16 (B0 + 25 + 2 * i8) (B0 + 26 + 2 * i8) 60 (sn σ i8) (fun j => if j < k ∧ st σ i8 j = zp1 then zp2 else st σ i8 j) k ⟨xn_, xr_, f_, xw_, xf_⟩ (by omega) (by omega)) (z_cwV vX3_at hts q829 ⟨Nat.le_of_ble_eq_true rfl, Nat.le_of_ble_eq_true rfl⟩) rfl hl.1 rfl (lv_room (Nat.le_of_ble_eq_true rfl)) dX4_replaceWord_93 ⟨Nat.le_of_ble_eq_true rfl, Nat.le_of_ble_eq_true rfl⟩) (fun r20 F19 H locs hp21 hI => ?_)
            obtain ⟨rfl, rfl⟩ := hp21
            refine lv_iload_n hx hb dX4_replaceWord_96 rfl (lv_at hl 2 rfl) ?_
            refine lv_icmp_ne (tgt := 104) hx hb dX4_replaceWord_97 (by decide) (fun hq22 => ?_) (fun hq22 => ?_)
            · rw [htk] at hq22
              refine lv_aload_n hx hb dX4_replaceWord_104 rfl (lv_at hl 0 rfl) ?_
              refine z_get hx hb hts hown zlX4 rfl 1 (by decide) (hts _ q753) rfl hI m017 rfl dX4_replaceWord_105 ?_
              refine lv_iload_n hx hb dX4_replaceWord_108 rfl (lv_at hl 1 rfl) ?_
              refine z_ald3 (k := i8) (v := B0 + 25 + 2 * i8) hx hb hI m117 (by omega) (by omega) (me117 i8 (by omega)) dX4_replaceWord_109 ?_
              refine lv_iload hx hb dX4_replaceWord_110 (lv_at hl 5 rfl) ?_
              refine z_calli hI (z_V (As := [.int (nI k)]) (rest := [.int (nI k), .ref (B0 + 26 + 2 * i8)]) ⟨hx, hb, hml, hown, hts⟩ hI xr_ rfl (c_X3_at l G B0 F16 (B0 + 25 + 2 * i8) (B0 + 26 + 2 * i8) 60 (sn σ i8) (fun j => if j < k ∧ st σ i8 j = zp1 then zp2 else st σ i8 j) k ⟨xn_, xr_, f_, xw_, xf_⟩ (by omega) (by omega)) (z_cwV vX3_at hts q829 ⟨Nat.le_of_ble_eq_true rfl, Nat.le_of_ble_eq_true rfl⟩) rfl hl.1 rfl (lv_room (Nat.le_of_ble_eq_true rfl)) dX4_replaceWord_112 ⟨Nat.le_of_ble_eq_true rfl, Nat.le_of_ble_eq_true rfl⟩) (fun r24 F23 H locs hp25 hI => ?_)
              obtain ⟨rfl, rfl⟩ := hp25
              refine z_ist (k := k) hx hb hI xw_ (by omega) (by omega) dX4_replaceWord_115 (fun H locs F26 hw27 ho28 hI => ?_)
              have hc29 : F26 (B0 + 23) = some (zO 4 [.int th1, .ref (B0 + 24), .ref (B0 + 33), .ref (B0 + 38), .ref (B0 + 40)]) := (ho28 _ (zne m017 xw_ (fun q => by cases q))).trans m017
              have hc30 : F26 (B0 + 24) = some (zA3 G 4 ma17) := (ho28 _ (by omega)).trans m117
              have hc31 : F26 (B0 + 33) = some (zA3 G 2 mb17) := (ho28 _ (by omega)).trans m217
              have hc32 : F26 (B0 + 40) = some (zAI G 100 mc17) := (ho28 _ (by omega)).trans m317
              have hc33 : F26 (B0 + 25 + 2 * i8) = some (zO 3 [.ref (B0 + 26 + 2 * i8), .int (nI (sn σ i8))]) := (ho28 _ (zne xr_ xw_ (fun q => by cases q))).trans xr_
              refine lv_iinc (k := 5) (v := nI (k + 1)) (lv' := [(5, .int (nI (k + 1))), (0, .ref (B0 + 23)), (1, .int (nI i8)), (2, .int zp1), (3, .int zp2), (4, .int (pI (0 < cnt (st σ i8) zp1 (sn σ i8))))]) hx hb dX4_replaceWord_116 hl rfl (nI_add k 1) (by decide) rfl (fun ls hl => ?_)
              refine lv_goto (tgt := 60) hx hb dX4_replaceWord_119 (by decide) ?_
              refine ih (k + 1) _ ls H locs (by first | omega | (dsimp only; omega)) ?_ (lv_sub hl [1, 2, 3, 4, 5, 0] rfl) hI
              refine ⟨⟨xn_, hc33, _, hw27, fun j hj => ?_⟩, (zSm.tr hs0 (zSm.r ho28)), by omega⟩
              refine (upd_cg xf_ j hj).trans ?_
              refine (congrArg (fun z => upd (fun j => if j < k ∧ st σ i8 j = zp1 then zp2 else st σ i8 j) k z j) (htk.trans (if_neg hq22).symm)).trans rpw_k
            · rw [htk] at hq22
              refine lv_iload_n hx hb dX4_replaceWord_100 rfl (lv_at hl 3 rfl) ?_
              refine lv_goto (tgt := 115) hx hb dX4_replaceWord_101 (by decide) ?_
              refine z_ist (k := k) hx hb hI xw_ (by omega) (by omega) dX4_replaceWord_115 (fun H locs F34 hw35 ho36 hI => ?_)
              have hc37 : F34 (B0 + 23) = some (zO 4 [.int th1, .ref (B0 + 24), .ref (B0 + 33), .ref (B0 + 38), .ref (B0 + 40)]) := (ho36 _ (zne m017 xw_ (fun q => by cases q))).trans m017
              have hc38 : F34 (B0 + 24) = some (zA3 G 4 ma17) := (ho36 _ (by omega)).trans m117
              have hc39 : F34 (B0 + 33) = some (zA3 G 2 mb17) := (ho36 _ (by omega)).trans m217
              have hc40 : F34 (B0 + 40) = some (zAI G 100 mc17) := (ho36 _ (by omega)).trans m317
              have hc41 : F34 (B0 + 25 + 2 * i8) = some (zO 3 [.ref (B0 + 26 + 2 * i8), .int (nI (sn σ i8))]) := (ho36 _ (zne xr_ xw_ (fun q => by cases q))).trans xr_
              refine lv_iinc (k := 5) (v := nI (k + 1)) (lv' := [(5, .int (nI (k + 1))), (0, .ref (B0 + 23)), (1, .int (nI i8)), (2, .int zp1), (3, .int zp2), (4, .int (pI (0 < cnt (st σ i8) zp1 (sn σ i8))))]) hx hb dX4_replaceWord_116 hl rfl (nI_add k 1) (by decide) rfl (fun ls hl => ?_)
              refine lv_goto (tgt := 60) hx hb dX4_replaceWord_119 (by decide) ?_
              refine ih (k + 1) _ ls H locs (by first | omega | (dsimp only; omega)) ?_ (lv_sub hl [1, 2, 3, 4, 5, 0] rfl) hI
              refine ⟨⟨xn_, hc41, _, hw35, fun j hj => ?_⟩, (zSm.tr hs0 (zSm.r ho36)), by omega⟩
              refine (upd_cg xf_ j hj).trans ?_
              refine (congrArg (fun z => upd (fun j => if j < k ∧ st σ i8 j = zp1 then zp2 else st σ i8 j) k z j) (if_pos hq22).symm).trans rpw_k
      · refine lv_iconst (v := nI 1) hx hb dX4_replaceWord_50 (by decide) ?_
        refine lv_goto (tgt := 55) hx hb dX4_replaceWord_51 (by decide) ?_
        refine z_topi (show _ = pI (0 < cnt (st σ i8) zp1 (sn σ i8)) from pI_t hq15) ?_
        refine lv_istore (lv' := [(4, .int (pI (0 < cnt (st σ i8) zp1 (sn σ i8)))), (0, .ref (B0 + 23)), (1, .int (nI i8)), (2, .int zp1), (3, .int zp2)]) hx hb dX4_replaceWord_55 hl (by decide) rfl (fun ls hl => ?_)
        refine lv_iconst (v := nI 0) hx hb dX4_replaceWord_57 (by decide) ?_
        refine lv_istore (lv' := [(5, .int (nI 0)), (4, .int (pI (0 < cnt (st σ i8) zp1 (sn σ i8)))), (0, .ref (B0 + 23)), (1, .int (nI i8)), (2, .int zp1), (3, .int zp2)]) hx hb dX4_replaceWord_58 hl (by decide) rfl (fun ls hl => ?_)
        refine z_loop (σ := Nat) (fun k : Nat => [(0, .ref (B0 + 23)), (1, .int (nI i8)), (2, .int zp1), (3, .int zp2), (4, .int (pI (0 < cnt (st σ i8) zp1 (sn σ i8)))), (5, .int (nI k))]) (fun (k : Nat) (Fx : zM) => RA G 3 Fx (B0 + 25 + 2 * i8) (B0 + 26 + 2 * i8) 60 (sn σ i8) (fun j => if j < k ∧ st σ i8 j = zp1 then zp2 else st σ i8 j) ∧ zSm F3 Fx (B0 + 25 + 2 * i8) (B0 + 26 + 2 * i8) ∧ k ≤ sn σ i8) (fun k : Nat => sn σ i8 - k) 0 (nL := 6) (st := []) ?_ (lv_sub hl [2, 3, 4, 5, 1, 0] rfl) hI ?_
        · exact ⟨RA.cg ⟨xnhx11, xrhx11, fhx11, xwhx11, xfhx11⟩ (fun j hj => (if_neg (fun q => absurd q.1 (Nat.not_lt_zero _))).symm), zSm.rf, Nat.zero_le _⟩
        · intro k F42 ls H locs hi hl hI ih
          have hl : lv_has ls 6 [(0, .ref (B0 + 23)), (1, .int (nI i8)), (2, .int zp1), (3, .int zp2), (4, .int (pI (0 < cnt (st σ i8) zp1 (sn σ i8)))), (5, .int (nI k))] := hl
          obtain ⟨ha0, hs0, hk⟩ := hi
          have hM2 := MS.setT hM1 hi9 hs0 ha0
          obtain ⟨m043, ⟨ma43, m143, me143⟩, ⟨mb43, m243, me243⟩, ⟨mc43, m343, me343⟩, ⟨n943, t943, m443⟩, mT43, mP43⟩ := id hM2
          obtain ⟨xn_, xr_, f_, xw_, xf_⟩ := id ha0
          have htk : (if k < k ∧ st σ i8 k = zp1 then zp2 else st σ i8 k) = st σ i8 k := if_neg (fun q => absurd q.1 (Nat.lt_irrefl _))
          refine lv_iload hx hb dX4_replaceWord_60 (lv_at hl 5 rfl) ?_
          refine lv_aload_n hx hb dX4_replaceWord_62 rfl (lv_at hl 0 rfl) ?_
          refine z_get hx hb hts hown zlX4 rfl 1 (by decide) (hts _ q753) rfl hI m043 rfl dX4_replaceWord_63 ?_
          refine lv_iload_n hx hb dX4_replaceWord_66 rfl (lv_at hl 1 rfl) ?_
          refine z_ald3 (k := i8) (v := B0 + 25 + 2 * i8) hx hb hI m143 (by omega) (by omega) (me143 i8 (by omega)) dX4_replaceWord_67 ?_
          refine z_getN hx hb hts hown zlX3 rfl 1 (by decide) (List.mem_of_getElem? (i := 2) rfl) rfl hI xr_ rfl dX4_replaceWord_68 ?_
          refine z_icmp_ge (tgt := 122) (a := k) (b := sn σ i8) hx hb dX4_replaceWord_71 (by decide) (by omega) (fun hq44 => ?_) (fun hq44 => ?_)
          · refine lv_iload hx hb dX4_replaceWord_122 (lv_at hl 4 rfl) ?_
            refine z_rz hx hb hr hlocks pI_or hI ?_ (Nat.le_of_ble_eq_true rfl) (Nat.le_of_ble_eq_true rfl) dX4_replaceWord_124
            have hkn : k = sn σ i8 := by omega
            refine ⟨_, rfl, th1, _, (MS.setT hM1 hi9 hs0 (RA.cg (t' := fun j => if st σ i8 j = zp1 then zp2 else st σ i8 j) ha0 (fun j hj => by rw [hkn]; by_cases e : st σ i8 j = zp1 <;> simp [e, hj]))), hz2, fun _ => ⟨(by simp only [oA_replaceWord, oB_replaceWord, oC_replaceWord, rr_replaceWord, ss_replaceWord, hix10] <;> exact rfl), (by simp only [oA_replaceWord, oB_replaceWord, oC_replaceWord, rr_replaceWord, ss_replaceWord, hix10] <;> exact rfl)⟩, fun q => absurd ⟨hA, hB, hC0⟩ q, zMf.tr hmf1 (zMf.sm hs0 (by omega) (by omega))⟩
          · refine lv_aload_n hx hb dX4_replaceWord_74 rfl (lv_at hl 0 rfl) ?_
            refine z_get hx hb hts hown zlX4 rfl 1 (by decide) (hts _ q753) rfl hI m043 rfl dX4_replaceWord_75 ?_
            refine lv_iload_n hx hb dX4_replaceWord_78 rfl (lv_at hl 1 rfl) ?_
            refine z_ald3 (k := i8) (v := B0 + 25 + 2 * i8) hx hb hI m143 (by omega) (by omega) (me143 i8 (by omega)) dX4_replaceWord_79 ?_
            refine z_getN hx hb hts hown zlX3 rfl 0 (by decide) (List.mem_of_getElem? (i := 3) rfl) rfl hI xr_ rfl dX4_replaceWord_80 ?_
            refine lv_iload hx hb dX4_replaceWord_83 (lv_at hl 5 rfl) ?_
            refine lv_aload_n hx hb dX4_replaceWord_85 rfl (lv_at hl 0 rfl) ?_
            refine z_get hx hb hts hown zlX4 rfl 1 (by decide) (hts _ q753) rfl hI m043 rfl dX4_replaceWord_86 ?_
            refine lv_iload_n hx hb dX4_replaceWord_89 rfl (lv_at hl 1 rfl) ?_
            refine z_ald3 (k := i8) (v := B0 + 25 + 2 * i8) hx hb hI m143 (by omega) (by omega) (me143 i8 (by omega)) dX4_replaceWord_90 ?_
            refine lv_iload hx hb dX4_replaceWord_91 (lv_at hl 5 rfl) ?_
            refine z_calli hI (z_V (As := [.int (nI k)]) (rest := [.int (nI k), .ref (B0 + 26 + 2 * i8)]) ⟨hx, hb, hml, hown, hts⟩ hI xr_ rfl (c_X3_at l G B0 F42 (B0 + 25 + 2 * i8) (B0 + 26 + 2 * i8) 60 (sn σ i8) (fun j => if j < k ∧ st σ i8 j = zp1 then zp2 else st σ i8 j) k ⟨xn_, xr_, f_, xw_, xf_⟩ (by omega) (by omega)) (z_cwV vX3_at hts q829 ⟨Nat.le_of_ble_eq_true rfl, Nat.le_of_ble_eq_true rfl⟩) rfl hl.1 rfl (lv_room (Nat.le_of_ble_eq_true rfl)) dX4_replaceWord_93 ⟨Nat.le_of_ble_eq_true rfl, Nat.le_of_ble_eq_true rfl⟩) (fun r46 F45 H locs hp47 hI => ?_)
            obtain ⟨rfl, rfl⟩ := hp47
            refine lv_iload_n hx hb dX4_replaceWord_96 rfl (lv_at hl 2 rfl) ?_
            refine lv_icmp_ne (tgt := 104) hx hb dX4_replaceWord_97 (by decide) (fun hq48 => ?_) (fun hq48 => ?_)
            · rw [htk] at hq48
              refine lv_aload_n hx hb dX4_replaceWord_104 rfl (lv_at hl 0 rfl) ?_
              refine z_get hx hb hts hown zlX4 rfl 1 (by decide) (hts _ q753) rfl hI m043 rfl dX4_replaceWord_105 ?_
              refine lv_iload_n hx hb dX4_replaceWord_108 rfl (lv_at hl 1 rfl) ?_
              refine z_ald3 (k := i8) (v := B0 + 25 + 2 * i8) hx hb hI m143 (by omega) (by omega) (me143 i8 (by omega)) dX4_replaceWord_109 ?_
              refine lv_iload hx hb dX4_replaceWord_110 (lv_at hl 5 rfl) ?_
              refine z_calli hI (z_V (As := [.int (nI k)]) (rest := [.int (nI k), .ref (B0 + 26 + 2 * i8)]) ⟨hx, hb, hml, hown, hts⟩ hI xr_ rfl (c_X3_at l G B0 F42 (B0 + 25 + 2 * i8) (B0 + 26 + 2 * i8) 60 (sn σ i8) (fun j => if j < k ∧ st σ i8 j = zp1 then zp2 else st σ i8 j) k ⟨xn_, xr_, f_, xw_, xf_⟩ (by omega) (by omega)) (z_cwV vX3_at hts q829 ⟨Nat.le_of_ble_eq_true rfl, Nat.le_of_ble_eq_true rfl⟩) rfl hl.1 rfl (lv_room (Nat.le_of_ble_eq_true rfl)) dX4_replaceWord_112 ⟨Nat.le_of_ble_eq_true rfl, Nat.le_of_ble_eq_true rfl⟩) (fun r50 F49 H locs hp51 hI => ?_)
              obtain ⟨rfl, rfl⟩ := hp51
              refine z_ist (k := k) hx hb hI xw_ (by omega) (by omega) dX4_replaceWord_115 (fun H locs F52 hw53 ho54 hI => ?_)
              have hc55 : F52 (B0 + 23) = some (zO 4 [.int th1, .ref (B0 + 24), .ref (B0 + 33), .ref (B0 + 38), .ref (B0 + 40)]) := (ho54 _ (zne m043 xw_ (fun q => by cases q))).trans m043
              have hc56 : F52 (B0 + 24) = some (zA3 G 4 ma43) := (ho54 _ (by omega)).trans m143
              have hc57 : F52 (B0 + 33) = some (zA3 G 2 mb43) := (ho54 _ (by omega)).trans m243
              have hc58 : F52 (B0 + 40) = some (zAI G 100 mc43) := (ho54 _ (by omega)).trans m343
              have hc59 : F52 (B0 + 25 + 2 * i8) = some (zO 3 [.ref (B0 + 26 + 2 * i8), .int (nI (sn σ i8))]) := (ho54 _ (zne xr_ xw_ (fun q => by cases q))).trans xr_
              refine lv_iinc (k := 5) (v := nI (k + 1)) (lv' := [(5, .int (nI (k + 1))), (0, .ref (B0 + 23)), (1, .int (nI i8)), (2, .int zp1), (3, .int zp2), (4, .int (pI (0 < cnt (st σ i8) zp1 (sn σ i8))))]) hx hb dX4_replaceWord_116 hl rfl (nI_add k 1) (by decide) rfl (fun ls hl => ?_)
              refine lv_goto (tgt := 60) hx hb dX4_replaceWord_119 (by decide) ?_
              refine ih (k + 1) _ ls H locs (by first | omega | (dsimp only; omega)) ?_ (lv_sub hl [1, 2, 3, 4, 5, 0] rfl) hI
              refine ⟨⟨xn_, hc59, _, hw53, fun j hj => ?_⟩, (zSm.tr hs0 (zSm.r ho54)), by omega⟩
              refine (upd_cg xf_ j hj).trans ?_
              refine (congrArg (fun z => upd (fun j => if j < k ∧ st σ i8 j = zp1 then zp2 else st σ i8 j) k z j) (htk.trans (if_neg hq48).symm)).trans rpw_k
            · rw [htk] at hq48
              refine lv_iload_n hx hb dX4_replaceWord_100 rfl (lv_at hl 3 rfl) ?_
              refine lv_goto (tgt := 115) hx hb dX4_replaceWord_101 (by decide) ?_
              refine z_ist (k := k) hx hb hI xw_ (by omega) (by omega) dX4_replaceWord_115 (fun H locs F60 hw61 ho62 hI => ?_)
              have hc63 : F60 (B0 + 23) = some (zO 4 [.int th1, .ref (B0 + 24), .ref (B0 + 33), .ref (B0 + 38), .ref (B0 + 40)]) := (ho62 _ (zne m043 xw_ (fun q => by cases q))).trans m043
              have hc64 : F60 (B0 + 24) = some (zA3 G 4 ma43) := (ho62 _ (by omega)).trans m143
              have hc65 : F60 (B0 + 33) = some (zA3 G 2 mb43) := (ho62 _ (by omega)).trans m243
              have hc66 : F60 (B0 + 40) = some (zAI G 100 mc43) := (ho62 _ (by omega)).trans m343
              have hc67 : F60 (B0 + 25 + 2 * i8) = some (zO 3 [.ref (B0 + 26 + 2 * i8), .int (nI (sn σ i8))]) := (ho62 _ (zne xr_ xw_ (fun q => by cases q))).trans xr_
              refine lv_iinc (k := 5) (v := nI (k + 1)) (lv' := [(5, .int (nI (k + 1))), (0, .ref (B0 + 23)), (1, .int (nI i8)), (2, .int zp1), (3, .int zp2), (4, .int (pI (0 < cnt (st σ i8) zp1 (sn σ i8))))]) hx hb dX4_replaceWord_116 hl rfl (nI_add k 1) (by decide) rfl (fun ls hl => ?_)
              refine lv_goto (tgt := 60) hx hb dX4_replaceWord_119 (by decide) ?_
              refine ih (k + 1) _ ls H locs (by first | omega | (dsimp only; omega)) ?_ (lv_sub hl [1, 2, 3, 4, 5, 0] rfl) hI
              refine ⟨⟨xn_, hc67, _, hw61, fun j hj => ?_⟩, (zSm.tr hs0 (zSm.r ho62)), by omega⟩
              refine (upd_cg xf_ j hj).trans ?_
              refine (congrArg (fun z => upd (fun j => if j < k ∧ st σ i8 j = zp1 then zp2 else st σ i8 j) k z j) (if_pos hq48).symm).trans rpw_k
    · refine lv_iconst (v := nI 0) hx hb dX4_replaceWord_35 (by decide) ?_
      refine z_rz hx hb hr hlocks (Or.inl rfl) hI ?_ (Nat.le_of_ble_eq_true rfl) (Nat.le_of_ble_eq_true rfl) dX4_replaceWord_36
      exact ⟨_, rfl, th1, σ, hM1, hz2, fun q => absurd q hq7, fun _ => rfl, hmf1⟩
  · refine lv_iload_n hx hb dX4_replaceWord_1 rfl (lv_at hl 1 rfl) ?_
    refine z_calli hI (z_S (As := [.int zp0]) (rest := [.ref (B0 + 23)]) ⟨hx, hb, hml, hown, hts⟩ hI (c_X4_isText l G B0 F zp0) (z_cwS vX4_isText hts q772 ⟨Nat.le_of_ble_eq_true rfl, Nat.le_of_ble_eq_true rfl⟩) rfl hl.1 rfl (lv_room (Nat.le_of_ble_eq_true rfl)) dX4_replaceWord_2 ⟨Nat.le_of_ble_eq_true rfl, Nat.le_of_ble_eq_true rfl⟩) (fun r69 F68 H locs hp70 hI => ?_)
    obtain ⟨rfl, rfl⟩ := hp70
    refine z_ifp_eq (tgt := 26) hx hb dX4_replaceWord_5 (by decide) (fun hq71 => ?_) (fun hq71 => ?_)
    · refine lv_iconst (v := nI 0) hx hb dX4_replaceWord_26 (by decide) ?_
      refine jn27 (nI 0) _ ls H locs ?_ (lv_sub hl [0, 1, 2, 3] rfl) hI
      exact ⟨rfl, pI_f (fun z => by have z2 := z.1; first | exact hq71 z2 | (first | exact hq71 z2 | exact i_le_n.mp z2 hq71 | exact l_le_n.mp z2 (lg_gt.mp hq71) | exact l_le_n.mp z2 (lg_lt.mp hq71) | exact hq71 ((in_pl1 (by omega)).mpr z2) | omega))⟩
    · refine lv_iload_n hx hb dX4_replaceWord_8 rfl (lv_at hl 2 rfl) ?_
      refine z_calli hI (z_S (As := [.int zp1]) (rest := [.ref (B0 + 23)]) ⟨hx, hb, hml, hown, hts⟩ hI (c_X4_isWord l G B0 F zp1) (z_cwS vX4_isWord hts q779 ⟨Nat.le_of_ble_eq_true rfl, Nat.le_of_ble_eq_true rfl⟩) rfl hl.1 rfl (lv_room (Nat.le_of_ble_eq_true rfl)) dX4_replaceWord_9 ⟨Nat.le_of_ble_eq_true rfl, Nat.le_of_ble_eq_true rfl⟩) (fun r73 F72 H locs hp74 hI => ?_)
      obtain ⟨rfl, rfl⟩ := hp74
      refine z_ifp_eq (tgt := 26) hx hb dX4_replaceWord_12 (by decide) (fun hq75 => ?_) (fun hq75 => ?_)
      · refine lv_iconst (v := nI 0) hx hb dX4_replaceWord_26 (by decide) ?_
        refine jn27 (nI 0) _ ls H locs ?_ (lv_sub hl [0, 1, 2, 3] rfl) hI
        exact ⟨rfl, pI_f (fun z => by have z2 := z.2.1; first | exact hq75 z2 | (first | exact hq75 z2 | exact i_le_n.mp z2 hq75 | exact l_le_n.mp z2 (lg_gt.mp hq75) | exact l_le_n.mp z2 (lg_lt.mp hq75) | exact hq75 ((in_pl1 (by omega)).mpr z2) | omega))⟩
      · refine lv_iload_n hx hb dX4_replaceWord_15 rfl (lv_at hl 3 rfl) ?_
        refine z_calli hI (z_S (As := [.int zp2]) (rest := [.ref (B0 + 23)]) ⟨hx, hb, hml, hown, hts⟩ hI (c_X4_isWord l G B0 F zp2) (z_cwS vX4_isWord hts q779 ⟨Nat.le_of_ble_eq_true rfl, Nat.le_of_ble_eq_true rfl⟩) rfl hl.1 rfl (lv_room (Nat.le_of_ble_eq_true rfl)) dX4_replaceWord_16 ⟨Nat.le_of_ble_eq_true rfl, Nat.le_of_ble_eq_true rfl⟩) (fun r77 F76 H locs hp78 hI => ?_)
        obtain ⟨rfl, rfl⟩ := hp78
        refine z_ifp_eq (tgt := 26) hx hb dX4_replaceWord_19 (by decide) (fun hq79 => ?_) (fun hq79 => ?_)
        · refine lv_iconst (v := nI 0) hx hb dX4_replaceWord_26 (by decide) ?_
          refine jn27 (nI 0) _ ls H locs ?_ (lv_sub hl [0, 1, 2, 3] rfl) hI
          exact ⟨rfl, pI_f (fun z => by have z2 := z.2.2; first | exact hq79 z2 | (first | exact hq79 z2 | exact i_le_n.mp z2 hq79 | exact l_le_n.mp z2 (lg_gt.mp hq79) | exact l_le_n.mp z2 (lg_lt.mp hq79) | exact hq79 ((in_pl1 (by omega)).mpr z2) | omega))⟩
        · refine lv_iconst (v := nI 1) hx hb dX4_replaceWord_22 (by decide) ?_
          refine lv_goto (tgt := 27) hx hb dX4_replaceWord_23 (by decide) ?_
          refine jn27 (nI 1) _ ls H locs ?_ (lv_sub hl [0, 1, 2, 3] rfl) hI
          exact ⟨rfl, pI_t ⟨(by first | exact hq71 | exact i_le_n.mpr hq71 | exact l_le_n.mpr (fun q => hq71 (lg_gt.mpr q)) | exact l_le_n.mpr (fun q => hq71 (lg_lt.mpr q)) | exact (in_pl1 (by omega)).mp hq71 | omega), (by first | exact hq75 | exact i_le_n.mpr hq75 | exact l_le_n.mpr (fun q => hq75 (lg_gt.mpr q)) | exact l_le_n.mpr (fun q => hq75 (lg_lt.mpr q)) | exact (in_pl1 (by omega)).mp hq75 | omega), (by first | exact hq79 | exact i_le_n.mpr hq79 | exact l_le_n.mpr (fun q => hq79 (lg_gt.mpr q)) | exact l_le_n.mpr (fun q => hq79 (lg_lt.mpr q)) | exact (in_pl1 (by omega)).mp hq79 | omega)⟩⟩

set_option maxHeartbeats 4000000 in
set_option maxRecDepth 100000 in
theorem c_X4_isSorted (l : Launch) (G : zK) (B0 : Nat) (F : zM) (σ : Sg) (th zp0 zp1 : Int32) (hM : MS G B0 F σ th) (hK : SgOk σ) : Met l yX4_isSorted (Cond.code yX4_isSorted cX4_isSorted 3 (some FieldType.boolean) :: zW) (zRm 2 45 0 0) (va_Pc [.ref (B0 + 23), .int zp0, .int zp1] (zPre G B0 F)) (zQi G B0 (zRP G B0 F σ (oA_isSorted σ zp0 zp1) (oB_isSorted σ zp0 zp1) (oC_isSorted σ zp0 zp1) (ss_isSorted σ zp0 zp1) (rr_isSorted σ zp0 zp1))) 0 0 (zA B0) := by
  refine z_of (own := RX4) (by decide) rfl (Nat.le_of_ble_eq_true rfl) ?_
  intro p e s m below meth c ls hx hb hr hml hown hlocks hnm hts hl hI
  have hl : lv_has ls 3 [(0, .ref (B0 + 23)), (1, .int zp0), (2, .int zp1)] := hl
  obtain ⟨m01, ⟨ma1, m11, me11⟩, ⟨mb1, m21, me21⟩, ⟨mc1, m31, me31⟩, ⟨n91, t91, m41⟩, mT1, mP1⟩ := id hM
  refine lv_aload_n hx hb dX4_isSorted_0 rfl (lv_at hl 0 rfl) ?_
  refine lv_iload_n hx hb dX4_isSorted_1 rfl (lv_at hl 1 rfl) ?_
  refine z_calli hI (z_S (As := [.int zp0]) (rest := [.ref (B0 + 23)]) ⟨hx, hb, hml, hown, hts⟩ hI (c_X4_isText l G B0 F zp0) (z_cwS vX4_isText hts q772 ⟨Nat.le_of_ble_eq_true rfl, Nat.le_of_ble_eq_true rfl⟩) rfl hl.1 rfl (lv_room (Nat.le_of_ble_eq_true rfl)) dX4_isSorted_2 ⟨Nat.le_of_ble_eq_true rfl, Nat.le_of_ble_eq_true rfl⟩) (fun r3 F2 H locs hp4 hI => ?_)
  obtain ⟨rfl, rfl⟩ := hp4
  refine lv_iload_n hx hb dX4_isSorted_5 rfl (lv_at hl 2 rfl) ?_
  refine z_calli hI (z_S (As := [.int zp1]) (rest := [.int (pI (okT zp0)), .ref (B0 + 23)]) ⟨hx, hb, hml, hown, hts⟩ hI (c_X4_isOrder l G B0 F zp1) (z_cwS vX4_isOrder hts q959 ⟨Nat.le_of_ble_eq_true rfl, Nat.le_of_ble_eq_true rfl⟩) rfl hl.1 rfl (lv_room (Nat.le_of_ble_eq_true rfl)) dX4_isSorted_6 ⟨Nat.le_of_ble_eq_true rfl, Nat.le_of_ble_eq_true rfl⟩) (fun r6 F5 H locs hp7 hI => ?_)
  obtain ⟨rfl, rfl⟩ := hp7
  refine lv_iconst (v := nI 1) hx hb dX4_isSorted_9 (by decide) ?_
  refine z_topi (pI_1 (P := True) trivial) ?_
  refine z_calli hI (z_V (As := [.int (pI (okT zp0)), .int (pI (okB zp1)), .int (pI (True))]) (rest := []) ⟨hx, hb, hml, hown, hts⟩ hI m01 rfl (c_X4_passes l G B0 F σ th (okT zp0) (okB zp1) (True) hM) (z_cwV vX4_passes hts q788 ⟨Nat.le_of_ble_eq_true rfl, Nat.le_of_ble_eq_true rfl⟩) rfl hl.1 rfl (lv_room (Nat.le_of_ble_eq_true rfl)) dX4_isSorted_10 ⟨Nat.le_of_ble_eq_true rfl, Nat.le_of_ble_eq_true rfl⟩) (fun r9 F8 H locs hp10 hI => ?_)
  obtain ⟨⟨th1, hM1, hz1⟩, rfl, ho1⟩ := hp10
  have hp1 : (okT zp0) ↔ oA_isSorted σ zp0 zp1 := Iff.rfl
  have hp2 : oA_isSorted σ zp0 zp1 → ((okB zp1) ↔ oB_isSorted σ zp0 zp1) := fun _ => Iff.rfl
  have hp3 : oA_isSorted σ zp0 zp1 → oB_isSorted σ zp0 zp1 → ((True) ↔ oC_isSorted σ zp0 zp1) := fun _ _ => Iff.rfl
  have hz2 := zTh_cg hp1 hp2 hp3 hz1
  refine z_topi (pI_cg (zC_cg hp1 hp2 hp3)) ?_
  have hmf1 : zMf B0 F F8 := fun q hq => ho1 q (by omega)
  obtain ⟨m011, ⟨ma11, m111, me111⟩, ⟨mb11, m211, me211⟩, ⟨mc11, m311, me311⟩, ⟨n911, t911, m411⟩, mT11, mP11⟩ := id hM1
  refine z_ifp_eq (tgt := 34) hx hb dX4_isSorted_13 (by decide) (fun hq12 => ?_) (fun hq12 => ?_)
  · refine lv_iconst (v := nI 0) hx hb dX4_isSorted_34 (by decide) ?_
    refine z_rz hx hb hr hlocks (Or.inl rfl) hI ?_ (Nat.le_of_ble_eq_true rfl) (Nat.le_of_ble_eq_true rfl) dX4_isSorted_35
    exact ⟨_, rfl, th1, σ, hM1, hz2, fun q => absurd q hq12, fun _ => rfl, hmf1⟩
  · obtain ⟨hA, hB, hC0⟩ := id hq12
    have hc0 := hA
    obtain ⟨i13, hi14, rfl⟩ := id hc0
    have hix15 : ix (nI i13) = i13 := ix_nI (by omega)
    have hl : lv_has ls 3 [(0, .ref (B0 + 23)), (1, .int (nI i13)), (2, .int zp1)] := hl
    have hsbi13 := (hK.1 i13 hi14).1
    have hx16 := mT11 i13 hi14
    obtain ⟨xnhx16, xrhx16, fhx16, xwhx16, xfhx16⟩ := id hx16
    refine lv_aload_n hx hb dX4_isSorted_16 rfl (lv_at hl 0 rfl) ?_
    refine lv_aload_n hx hb dX4_isSorted_17 rfl (lv_at hl 0 rfl) ?_
    refine z_get hx hb hts hown zlX4 rfl 1 (by decide) (hts _ q753) rfl hI m011 rfl dX4_isSorted_18 ?_
    refine lv_iload_n hx hb dX4_isSorted_21 rfl (lv_at hl 1 rfl) ?_
    refine z_ald3 (k := i13) (v := B0 + 25 + 2 * i13) hx hb hI m111 (by omega) (by omega) (me111 i13 (by omega)) dX4_isSorted_22 ?_
    refine lv_iload_n hx hb dX4_isSorted_23 rfl (lv_at hl 2 rfl) ?_
    refine z_calli hI (z_V (As := [.ref (B0 + 25 + 2 * i13), .int zp1]) (rest := []) ⟨hx, hb, hml, hown, hts⟩ hI m011 rfl (c_X4_areInOrder l G B0 F8 σ th1 (B0 + 25 + 2 * i13) (B0 + 26 + 2 * i13) 60 (sn σ i13) (st σ i13) zp1 hM1 hB ⟨xnhx16, xrhx16, fhx16, xwhx16, xfhx16⟩ (by decide) (hK.w hi14)) (z_cwV vX4_areInOrder hts q992 ⟨Nat.le_of_ble_eq_true rfl, Nat.le_of_ble_eq_true rfl⟩) rfl hl.1 rfl (lv_room (Nat.le_of_ble_eq_true rfl)) dX4_isSorted_24 ⟨Nat.le_of_ble_eq_true rfl, Nat.le_of_ble_eq_true rfl⟩) (fun r18 F17 H locs hp19 hI => ?_)
    obtain ⟨rfl, rfl⟩ := hp19
    refine z_ifp_eq (tgt := 34) hx hb dX4_isSorted_27 (by decide) (fun hq20 => ?_) (fun hq20 => ?_)
    · refine lv_iconst (v := nI 0) hx hb dX4_isSorted_34 (by decide) ?_
      refine z_rz hx hb hr hlocks (Or.inl rfl) hI ?_ (Nat.le_of_ble_eq_true rfl) (Nat.le_of_ble_eq_true rfl) dX4_isSorted_35
      refine ⟨_, rfl, th1, _, hM1, hz2, fun _ => ⟨(by simp only [oA_isSorted, oB_isSorted, oC_isSorted, rr_isSorted, ss_isSorted, hix15] <;> exact rfl), (by simp only [oA_isSorted, oB_isSorted, oC_isSorted, rr_isSorted, ss_isSorted, hix15] <;> exact (pI_f hq20))⟩, fun q => absurd ⟨hA, hB, hC0⟩ q, hmf1⟩
    · refine lv_iconst (v := nI 1) hx hb dX4_isSorted_30 (by decide) ?_
      refine lv_goto (tgt := 35) hx hb dX4_isSorted_31 (by decide) ?_
      refine z_rz hx hb hr hlocks (Or.inr rfl) hI ?_ (Nat.le_of_ble_eq_true rfl) (Nat.le_of_ble_eq_true rfl) dX4_isSorted_35
      refine ⟨_, rfl, th1, _, hM1, hz2, fun _ => ⟨(by simp only [oA_isSorted, oB_isSorted, oC_isSorted, rr_isSorted, ss_isSorted, hix15] <;> exact rfl), (by simp only [oA_isSorted, oB_isSorted, oC_isSorted, rr_isSorted, ss_isSorted, hix15] <;> exact (pI_t hq20))⟩, fun q => absurd ⟨hA, hB, hC0⟩ q, hmf1⟩

set_option maxHeartbeats 4000000 in
set_option maxRecDepth 100000 in
theorem c_X4_greatest (l : Launch) (G : zK) (B0 : Nat) (F : zM) (σ : Sg) (th zp0 zp1 : Int32) (hM : MS G B0 F σ th) (hK : SgOk σ) : Met l yX4_greatest (Cond.code yX4_greatest cX4_greatest 3 (some FieldType.int) :: zW) (zRm 2 48 0 0) (va_Pc [.ref (B0 + 23), .int zp0, .int zp1] (zPre G B0 F)) (zQi G B0 (zRP G B0 F σ (oA_greatest σ zp0 zp1) (oB_greatest σ zp0 zp1) (oC_greatest σ zp0 zp1) (ss_greatest σ zp0 zp1) (rr_greatest σ zp0 zp1))) 0 0 (zA B0) := by
  refine z_of (own := RX4) (by decide) rfl (Nat.le_of_ble_eq_true rfl) ?_
  intro p e s m below meth c ls hx hb hr hml hown hlocks hnm hts hl hI
  have hl : lv_has ls 3 [(0, .ref (B0 + 23)), (1, .int zp0), (2, .int zp1)] := hl
  obtain ⟨m01, ⟨ma1, m11, me11⟩, ⟨mb1, m21, me21⟩, ⟨mc1, m31, me31⟩, ⟨n91, t91, m41⟩, mT1, mP1⟩ := id hM
  refine lv_aload_n hx hb dX4_greatest_0 rfl (lv_at hl 0 rfl) ?_
  refine lv_iload_n hx hb dX4_greatest_1 rfl (lv_at hl 1 rfl) ?_
  refine z_calli hI (z_S (As := [.int zp0]) (rest := [.ref (B0 + 23)]) ⟨hx, hb, hml, hown, hts⟩ hI (c_X4_isText l G B0 F zp0) (z_cwS vX4_isText hts q772 ⟨Nat.le_of_ble_eq_true rfl, Nat.le_of_ble_eq_true rfl⟩) rfl hl.1 rfl (lv_room (Nat.le_of_ble_eq_true rfl)) dX4_greatest_2 ⟨Nat.le_of_ble_eq_true rfl, Nat.le_of_ble_eq_true rfl⟩) (fun r3 F2 H locs hp4 hI => ?_)
  obtain ⟨rfl, rfl⟩ := hp4
  refine lv_iload_n hx hb dX4_greatest_5 rfl (lv_at hl 2 rfl) ?_
  refine z_calli hI (z_S (As := [.int zp1]) (rest := [.int (pI (okT zp0)), .ref (B0 + 23)]) ⟨hx, hb, hml, hown, hts⟩ hI (c_X4_isOrder l G B0 F zp1) (z_cwS vX4_isOrder hts q959 ⟨Nat.le_of_ble_eq_true rfl, Nat.le_of_ble_eq_true rfl⟩) rfl hl.1 rfl (lv_room (Nat.le_of_ble_eq_true rfl)) dX4_greatest_6 ⟨Nat.le_of_ble_eq_true rfl, Nat.le_of_ble_eq_true rfl⟩) (fun r6 F5 H locs hp7 hI => ?_)
  obtain ⟨rfl, rfl⟩ := hp7
  refine z_join (σ := Int32) (fun x : Int32 => [(0, .ref (B0 + 23)), (1, .int zp0), (2, .int zp1)]) (fun x : Int32 => [.int x, .int (pI (okB zp1)), .int (pI (okT zp0)), .ref (B0 + 23)]) (fun (x : Int32) (Fx : zM) => F = Fx ∧ x = pI (okT zp0 ∧ 0 < sn σ (ix zp0))) 33 3 G B0 ?_ (fun jn33 => ?_)
  · intro x F8 ls H locs hi hl hI
    have hl : lv_has ls 3 [(0, .ref (B0 + 23)), (1, .int zp0), (2, .int zp1)] := hl
    obtain ⟨hF, hx9⟩ := hi
    subst hF
    subst hx9
    refine z_calli hI (z_V (As := [.int (pI (okT zp0)), .int (pI (okB zp1)), .int (pI (okT zp0 ∧ 0 < sn σ (ix zp0)))]) (rest := []) ⟨hx, hb, hml, hown, hts⟩ hI m01 rfl (c_X4_passes l G B0 F σ th (okT zp0) (okB zp1) (okT zp0 ∧ 0 < sn σ (ix zp0)) hM) (z_cwV vX4_passes hts q788 ⟨Nat.le_of_ble_eq_true rfl, Nat.le_of_ble_eq_true rfl⟩) rfl hl.1 rfl (lv_room (Nat.le_of_ble_eq_true rfl)) dX4_greatest_33 ⟨Nat.le_of_ble_eq_true rfl, Nat.le_of_ble_eq_true rfl⟩) (fun r10 F9 H locs hp11 hI => ?_)
    obtain ⟨⟨th1, hM1, hz1⟩, rfl, ho1⟩ := hp11
    have hp1 : (okT zp0) ↔ oA_greatest σ zp0 zp1 := Iff.rfl
    have hp2 : oA_greatest σ zp0 zp1 → ((okB zp1) ↔ oB_greatest σ zp0 zp1) := fun _ => Iff.rfl
    have hp3 : oA_greatest σ zp0 zp1 → oB_greatest σ zp0 zp1 → ((okT zp0 ∧ 0 < sn σ (ix zp0)) ↔ oC_greatest σ zp0 zp1) := fun h _ => ⟨fun z => z.2, fun z => ⟨h, z⟩⟩
    have hz2 := zTh_cg hp1 hp2 hp3 hz1
    refine z_topi (pI_cg (zC_cg hp1 hp2 hp3)) ?_
    have hmf1 : zMf B0 F F9 := fun q hq => ho1 q (by omega)
    obtain ⟨m012, ⟨ma12, m112, me112⟩, ⟨mb12, m212, me212⟩, ⟨mc12, m312, me312⟩, ⟨n912, t912, m412⟩, mT12, mP12⟩ := id hM1
    refine z_ifp_eq (tgt := 49) hx hb dX4_greatest_36 (by decide) (fun hq13 => ?_) (fun hq13 => ?_)
    · refine lv_iconst (v := nI 0) hx hb dX4_greatest_49 (by decide) ?_
      refine z_ri hx hb hr hlocks hI ?_ (Nat.le_of_ble_eq_true rfl) (Nat.le_of_ble_eq_true rfl) dX4_greatest_50
      exact ⟨_, rfl, th1, σ, hM1, hz2, fun q => absurd q hq13, fun _ => rfl, hmf1⟩
    · obtain ⟨hA, hB, hC0⟩ := id hq13
      have hc0 := hA
      obtain ⟨i14, hi15, rfl⟩ := id hc0
      have hix16 : ix (nI i14) = i14 := ix_nI (by omega)
      have hl : lv_has ls 3 [(0, .ref (B0 + 23)), (1, .int (nI i14)), (2, .int zp1)] := hl
      have hsbi14 := (hK.1 i14 hi15).1
      have hC2 := hC0
      simp only [oC_greatest, hix16] at hC2
      refine lv_aload_n hx hb dX4_greatest_39 rfl (lv_at hl 0 rfl) ?_
      refine lv_iload_n hx hb dX4_greatest_40 rfl (lv_at hl 1 rfl) ?_
      refine lv_iload_n hx hb dX4_greatest_41 rfl (lv_at hl 2 rfl) ?_
      refine lv_iconst (v := nI 1) hx hb dX4_greatest_42 (by decide) ?_
      refine z_calli hI (z_V (As := [.int (nI i14), .int zp1, .int (nI 1)]) (rest := []) ⟨hx, hb, hml, hown, hts⟩ hI m012 rfl (c_X4_outermost l G B0 F9 σ th1 i14 zp1 (nI 1) hM1 hK hi15 hC2 hB) (z_cwV vX4_outermost hts q962 ⟨Nat.le_of_ble_eq_true rfl, Nat.le_of_ble_eq_true rfl⟩) rfl hl.1 rfl (lv_room (Nat.le_of_ble_eq_true rfl)) dX4_greatest_43 ⟨Nat.le_of_ble_eq_true rfl, Nat.le_of_ble_eq_true rfl⟩) (fun r18 F17 H locs hp19 hI => ?_)
      obtain ⟨rfl, rfl⟩ := hp19
      refine lv_goto (tgt := 50) hx hb dX4_greatest_46 (by decide) ?_
      refine z_ri hx hb hr hlocks hI ?_ (Nat.le_of_ble_eq_true rfl) (Nat.le_of_ble_eq_true rfl) dX4_greatest_50
      refine ⟨_, rfl, th1, _, hM1, hz2, fun _ => ⟨(by simp only [oA_greatest, oB_greatest, oC_greatest, rr_greatest, ss_greatest, hix16] <;> exact rfl), (by simp only [oA_greatest, oB_greatest, oC_greatest, rr_greatest, ss_greatest, hix16] <;> exact om_1)⟩, fun q => absurd ⟨hA, hB, hC0⟩ q, hmf1⟩
  · refine lv_iload_n hx hb dX4_greatest_9 rfl (lv_at hl 1 rfl) ?_
    refine z_calli hI (z_S (As := [.int zp0]) (rest := [.int (pI (okB zp1)), .int (pI (okT zp0)), .ref (B0 + 23)]) ⟨hx, hb, hml, hown, hts⟩ hI (c_X4_isText l G B0 F zp0) (z_cwS vX4_isText hts q772 ⟨Nat.le_of_ble_eq_true rfl, Nat.le_of_ble_eq_true rfl⟩) rfl hl.1 rfl (lv_room (Nat.le_of_ble_eq_true rfl)) dX4_greatest_10 ⟨Nat.le_of_ble_eq_true rfl, Nat.le_of_ble_eq_true rfl⟩) (fun r21 F20 H locs hp22 hI => ?_)
    obtain ⟨rfl, rfl⟩ := hp22
    refine z_ifp_eq (tgt := 32) hx hb dX4_greatest_13 (by decide) (fun hq23 => ?_) (fun hq23 => ?_)
    · refine lv_iconst (v := nI 0) hx hb dX4_greatest_32 (by decide) ?_
      refine jn33 (nI 0) _ ls H locs ?_ (lv_sub hl [0, 1, 2] rfl) hI
      exact ⟨rfl, pI_f (fun z => by have z2 := z.1; first | exact hq23 z2 | (first | exact hq23 z2 | exact i_le_n.mp z2 hq23 | exact l_le_n.mp z2 (lg_gt.mp hq23) | exact l_le_n.mp z2 (lg_lt.mp hq23) | exact hq23 ((in_pl1 (by omega)).mpr z2) | omega))⟩
    · obtain ⟨i24, hi25, rfl⟩ := id hq23
      have hix26 : ix (nI i24) = i24 := ix_nI (by omega)
      have hl : lv_has ls 3 [(0, .ref (B0 + 23)), (1, .int (nI i24)), (2, .int zp1)] := hl
      obtain ⟨m027, ⟨ma27, m127, me127⟩, ⟨mb27, m227, me227⟩, ⟨mc27, m327, me327⟩, ⟨n927, t927, m427⟩, mT27, mP27⟩ := id hM
      have hx28 := mT27 i24 hi25
      obtain ⟨xnhx28, xrhx28, fhx28, xwhx28, xfhx28⟩ := id hx28
      refine lv_aload_n hx hb dX4_greatest_16 rfl (lv_at hl 0 rfl) ?_
      refine z_get hx hb hts hown zlX4 rfl 1 (by decide) (hts _ q753) rfl hI m027 rfl dX4_greatest_17 ?_
      refine lv_iload_n hx hb dX4_greatest_20 rfl (lv_at hl 1 rfl) ?_
      refine z_ald3 (k := i24) (v := B0 + 25 + 2 * i24) hx hb hI m127 (by omega) (by omega) (me127 i24 (by omega)) dX4_greatest_21 ?_
      refine z_getN hx hb hts hown zlX3 rfl 1 (by decide) (List.mem_of_getElem? (i := 2) rfl) rfl hI xrhx28 rfl dX4_greatest_22 ?_
      refine z_if_le (tgt := 32) (a := sn σ i24) hx hb dX4_greatest_25 (by decide) (by omega) (fun hq29 => ?_) (fun hq29 => ?_)
      · refine lv_iconst (v := nI 0) hx hb dX4_greatest_32 (by decide) ?_
        refine jn33 (nI 0) _ ls H locs ?_ (lv_sub hl [0, 1, 2] rfl) hI
        exact ⟨rfl, pI_f (fun z => by have z2 := z.2; first | exact hq29 z2 | ((try rw [hix26] at z2); (first | exact hq29 z2 | exact i_le_n.mp z2 hq29 | exact l_le_n.mp z2 (lg_gt.mp hq29) | exact l_le_n.mp z2 (lg_lt.mp hq29) | exact hq29 ((in_pl1 (by omega)).mpr z2) | omega)) | (first | exact hq29 z2 | exact i_le_n.mp z2 hq29 | exact l_le_n.mp z2 (lg_gt.mp hq29) | exact l_le_n.mp z2 (lg_lt.mp hq29) | exact hq29 ((in_pl1 (by omega)).mpr z2) | omega))⟩
      · refine lv_iconst (v := nI 1) hx hb dX4_greatest_28 (by decide) ?_
        refine lv_goto (tgt := 33) hx hb dX4_greatest_29 (by decide) ?_
        refine jn33 (nI 1) _ ls H locs ?_ (lv_sub hl [0, 1, 2] rfl) hI
        exact ⟨rfl, pI_t ⟨(by first | exact hq23 | (rw [hix26]; first | exact hq23 | exact i_le_n.mpr hq23 | exact l_le_n.mpr (fun q => hq23 (lg_gt.mpr q)) | exact l_le_n.mpr (fun q => hq23 (lg_lt.mpr q)) | exact (in_pl1 (by omega)).mp hq23 | omega) | (first | exact hq23 | exact i_le_n.mpr hq23 | exact l_le_n.mpr (fun q => hq23 (lg_gt.mpr q)) | exact l_le_n.mpr (fun q => hq23 (lg_lt.mpr q)) | exact (in_pl1 (by omega)).mp hq23 | omega)), (by first | exact hq29 | (rw [hix26]; first | exact hq29 | exact i_le_n.mpr hq29 | exact l_le_n.mpr (fun q => hq29 (lg_gt.mpr q)) | exact l_le_n.mpr (fun q => hq29 (lg_lt.mpr q)) | exact (in_pl1 (by omega)).mp hq29 | omega) | (first | exact hq29 | exact i_le_n.mpr hq29 | exact l_le_n.mpr (fun q => hq29 (lg_gt.mpr q)) | exact l_le_n.mpr (fun q => hq29 (lg_lt.mpr q)) | exact (in_pl1 (by omega)).mp hq29 | omega))⟩⟩

set_option maxHeartbeats 4000000 in
set_option maxRecDepth 100000 in
theorem c_X4_least (l : Launch) (G : zK) (B0 : Nat) (F : zM) (σ : Sg) (th zp0 zp1 : Int32) (hM : MS G B0 F σ th) (hK : SgOk σ) : Met l yX4_least (Cond.code yX4_least cX4_least 3 (some FieldType.int) :: zW) (zRm 2 48 0 0) (va_Pc [.ref (B0 + 23), .int zp0, .int zp1] (zPre G B0 F)) (zQi G B0 (zRP G B0 F σ (oA_least σ zp0 zp1) (oB_least σ zp0 zp1) (oC_least σ zp0 zp1) (ss_least σ zp0 zp1) (rr_least σ zp0 zp1))) 0 0 (zA B0) := by
  refine z_of (own := RX4) (by decide) rfl (Nat.le_of_ble_eq_true rfl) ?_
  intro p e s m below meth c ls hx hb hr hml hown hlocks hnm hts hl hI
  have hl : lv_has ls 3 [(0, .ref (B0 + 23)), (1, .int zp0), (2, .int zp1)] := hl
  obtain ⟨m01, ⟨ma1, m11, me11⟩, ⟨mb1, m21, me21⟩, ⟨mc1, m31, me31⟩, ⟨n91, t91, m41⟩, mT1, mP1⟩ := id hM
  refine lv_aload_n hx hb dX4_least_0 rfl (lv_at hl 0 rfl) ?_
  refine lv_iload_n hx hb dX4_least_1 rfl (lv_at hl 1 rfl) ?_
  refine z_calli hI (z_S (As := [.int zp0]) (rest := [.ref (B0 + 23)]) ⟨hx, hb, hml, hown, hts⟩ hI (c_X4_isText l G B0 F zp0) (z_cwS vX4_isText hts q772 ⟨Nat.le_of_ble_eq_true rfl, Nat.le_of_ble_eq_true rfl⟩) rfl hl.1 rfl (lv_room (Nat.le_of_ble_eq_true rfl)) dX4_least_2 ⟨Nat.le_of_ble_eq_true rfl, Nat.le_of_ble_eq_true rfl⟩) (fun r3 F2 H locs hp4 hI => ?_)
  obtain ⟨rfl, rfl⟩ := hp4
  refine lv_iload_n hx hb dX4_least_5 rfl (lv_at hl 2 rfl) ?_
  refine z_calli hI (z_S (As := [.int zp1]) (rest := [.int (pI (okT zp0)), .ref (B0 + 23)]) ⟨hx, hb, hml, hown, hts⟩ hI (c_X4_isOrder l G B0 F zp1) (z_cwS vX4_isOrder hts q959 ⟨Nat.le_of_ble_eq_true rfl, Nat.le_of_ble_eq_true rfl⟩) rfl hl.1 rfl (lv_room (Nat.le_of_ble_eq_true rfl)) dX4_least_6 ⟨Nat.le_of_ble_eq_true rfl, Nat.le_of_ble_eq_true rfl⟩) (fun r6 F5 H locs hp7 hI => ?_)
  obtain ⟨rfl, rfl⟩ := hp7
  refine z_join (σ := Int32) (fun x : Int32 => [(0, .ref (B0 + 23)), (1, .int zp0), (2, .int zp1)]) (fun x : Int32 => [.int x, .int (pI (okB zp1)), .int (pI (okT zp0)), .ref (B0 + 23)]) (fun (x : Int32) (Fx : zM) => F = Fx ∧ x = pI (okT zp0 ∧ 0 < sn σ (ix zp0))) 33 3 G B0 ?_ (fun jn33 => ?_)
  · intro x F8 ls H locs hi hl hI
    have hl : lv_has ls 3 [(0, .ref (B0 + 23)), (1, .int zp0), (2, .int zp1)] := hl
    obtain ⟨hF, hx9⟩ := hi
    subst hF
    subst hx9
    refine z_calli hI (z_V (As := [.int (pI (okT zp0)), .int (pI (okB zp1)), .int (pI (okT zp0 ∧ 0 < sn σ (ix zp0)))]) (rest := []) ⟨hx, hb, hml, hown, hts⟩ hI m01 rfl (c_X4_passes l G B0 F σ th (okT zp0) (okB zp1) (okT zp0 ∧ 0 < sn σ (ix zp0)) hM) (z_cwV vX4_passes hts q788 ⟨Nat.le_of_ble_eq_true rfl, Nat.le_of_ble_eq_true rfl⟩) rfl hl.1 rfl (lv_room (Nat.le_of_ble_eq_true rfl)) dX4_least_33 ⟨Nat.le_of_ble_eq_true rfl, Nat.le_of_ble_eq_true rfl⟩) (fun r10 F9 H locs hp11 hI => ?_)
    obtain ⟨⟨th1, hM1, hz1⟩, rfl, ho1⟩ := hp11
    have hp1 : (okT zp0) ↔ oA_least σ zp0 zp1 := Iff.rfl
    have hp2 : oA_least σ zp0 zp1 → ((okB zp1) ↔ oB_least σ zp0 zp1) := fun _ => Iff.rfl
    have hp3 : oA_least σ zp0 zp1 → oB_least σ zp0 zp1 → ((okT zp0 ∧ 0 < sn σ (ix zp0)) ↔ oC_least σ zp0 zp1) := fun h _ => ⟨fun z => z.2, fun z => ⟨h, z⟩⟩
    have hz2 := zTh_cg hp1 hp2 hp3 hz1
    refine z_topi (pI_cg (zC_cg hp1 hp2 hp3)) ?_
    have hmf1 : zMf B0 F F9 := fun q hq => ho1 q (by omega)
    obtain ⟨m012, ⟨ma12, m112, me112⟩, ⟨mb12, m212, me212⟩, ⟨mc12, m312, me312⟩, ⟨n912, t912, m412⟩, mT12, mP12⟩ := id hM1
    refine z_ifp_eq (tgt := 49) hx hb dX4_least_36 (by decide) (fun hq13 => ?_) (fun hq13 => ?_)
    · refine lv_iconst (v := nI 0) hx hb dX4_least_49 (by decide) ?_
      refine z_ri hx hb hr hlocks hI ?_ (Nat.le_of_ble_eq_true rfl) (Nat.le_of_ble_eq_true rfl) dX4_least_50
      exact ⟨_, rfl, th1, σ, hM1, hz2, fun q => absurd q hq13, fun _ => rfl, hmf1⟩
    · obtain ⟨hA, hB, hC0⟩ := id hq13
      have hc0 := hA
      obtain ⟨i14, hi15, rfl⟩ := id hc0
      have hix16 : ix (nI i14) = i14 := ix_nI (by omega)
      have hl : lv_has ls 3 [(0, .ref (B0 + 23)), (1, .int (nI i14)), (2, .int zp1)] := hl
      have hsbi14 := (hK.1 i14 hi15).1
      have hC2 := hC0
      simp only [oC_least, hix16] at hC2
      refine lv_aload_n hx hb dX4_least_39 rfl (lv_at hl 0 rfl) ?_
      refine lv_iload_n hx hb dX4_least_40 rfl (lv_at hl 1 rfl) ?_
      refine lv_iload_n hx hb dX4_least_41 rfl (lv_at hl 2 rfl) ?_
      refine lv_iconst (v := nI 0) hx hb dX4_least_42 (by decide) ?_
      refine z_calli hI (z_V (As := [.int (nI i14), .int zp1, .int (nI 0)]) (rest := []) ⟨hx, hb, hml, hown, hts⟩ hI m012 rfl (c_X4_outermost l G B0 F9 σ th1 i14 zp1 (nI 0) hM1 hK hi15 hC2 hB) (z_cwV vX4_outermost hts q962 ⟨Nat.le_of_ble_eq_true rfl, Nat.le_of_ble_eq_true rfl⟩) rfl hl.1 rfl (lv_room (Nat.le_of_ble_eq_true rfl)) dX4_least_43 ⟨Nat.le_of_ble_eq_true rfl, Nat.le_of_ble_eq_true rfl⟩) (fun r18 F17 H locs hp19 hI => ?_)
      obtain ⟨rfl, rfl⟩ := hp19
      refine lv_goto (tgt := 50) hx hb dX4_least_46 (by decide) ?_
      refine z_ri hx hb hr hlocks hI ?_ (Nat.le_of_ble_eq_true rfl) (Nat.le_of_ble_eq_true rfl) dX4_least_50
      refine ⟨_, rfl, th1, _, hM1, hz2, fun _ => ⟨(by simp only [oA_least, oB_least, oC_least, rr_least, ss_least, hix16] <;> exact rfl), (by simp only [oA_least, oB_least, oC_least, rr_least, ss_least, hix16] <;> exact om_0)⟩, fun q => absurd ⟨hA, hB, hC0⟩ q, hmf1⟩
  · refine lv_iload_n hx hb dX4_least_9 rfl (lv_at hl 1 rfl) ?_
    refine z_calli hI (z_S (As := [.int zp0]) (rest := [.int (pI (okB zp1)), .int (pI (okT zp0)), .ref (B0 + 23)]) ⟨hx, hb, hml, hown, hts⟩ hI (c_X4_isText l G B0 F zp0) (z_cwS vX4_isText hts q772 ⟨Nat.le_of_ble_eq_true rfl, Nat.le_of_ble_eq_true rfl⟩) rfl hl.1 rfl (lv_room (Nat.le_of_ble_eq_true rfl)) dX4_least_10 ⟨Nat.le_of_ble_eq_true rfl, Nat.le_of_ble_eq_true rfl⟩) (fun r21 F20 H locs hp22 hI => ?_)
    obtain ⟨rfl, rfl⟩ := hp22
    refine z_ifp_eq (tgt := 32) hx hb dX4_least_13 (by decide) (fun hq23 => ?_) (fun hq23 => ?_)
    · refine lv_iconst (v := nI 0) hx hb dX4_least_32 (by decide) ?_
      refine jn33 (nI 0) _ ls H locs ?_ (lv_sub hl [0, 1, 2] rfl) hI
      exact ⟨rfl, pI_f (fun z => by have z2 := z.1; first | exact hq23 z2 | (first | exact hq23 z2 | exact i_le_n.mp z2 hq23 | exact l_le_n.mp z2 (lg_gt.mp hq23) | exact l_le_n.mp z2 (lg_lt.mp hq23) | exact hq23 ((in_pl1 (by omega)).mpr z2) | omega))⟩
    · obtain ⟨i24, hi25, rfl⟩ := id hq23
      have hix26 : ix (nI i24) = i24 := ix_nI (by omega)
      have hl : lv_has ls 3 [(0, .ref (B0 + 23)), (1, .int (nI i24)), (2, .int zp1)] := hl
      obtain ⟨m027, ⟨ma27, m127, me127⟩, ⟨mb27, m227, me227⟩, ⟨mc27, m327, me327⟩, ⟨n927, t927, m427⟩, mT27, mP27⟩ := id hM
      have hx28 := mT27 i24 hi25
      obtain ⟨xnhx28, xrhx28, fhx28, xwhx28, xfhx28⟩ := id hx28
      refine lv_aload_n hx hb dX4_least_16 rfl (lv_at hl 0 rfl) ?_
      refine z_get hx hb hts hown zlX4 rfl 1 (by decide) (hts _ q753) rfl hI m027 rfl dX4_least_17 ?_
      refine lv_iload_n hx hb dX4_least_20 rfl (lv_at hl 1 rfl) ?_
      refine z_ald3 (k := i24) (v := B0 + 25 + 2 * i24) hx hb hI m127 (by omega) (by omega) (me127 i24 (by omega)) dX4_least_21 ?_
      refine z_getN hx hb hts hown zlX3 rfl 1 (by decide) (List.mem_of_getElem? (i := 2) rfl) rfl hI xrhx28 rfl dX4_least_22 ?_
      refine z_if_le (tgt := 32) (a := sn σ i24) hx hb dX4_least_25 (by decide) (by omega) (fun hq29 => ?_) (fun hq29 => ?_)
      · refine lv_iconst (v := nI 0) hx hb dX4_least_32 (by decide) ?_
        refine jn33 (nI 0) _ ls H locs ?_ (lv_sub hl [0, 1, 2] rfl) hI
        exact ⟨rfl, pI_f (fun z => by have z2 := z.2; first | exact hq29 z2 | ((try rw [hix26] at z2); (first | exact hq29 z2 | exact i_le_n.mp z2 hq29 | exact l_le_n.mp z2 (lg_gt.mp hq29) | exact l_le_n.mp z2 (lg_lt.mp hq29) | exact hq29 ((in_pl1 (by omega)).mpr z2) | omega)) | (first | exact hq29 z2 | exact i_le_n.mp z2 hq29 | exact l_le_n.mp z2 (lg_gt.mp hq29) | exact l_le_n.mp z2 (lg_lt.mp hq29) | exact hq29 ((in_pl1 (by omega)).mpr z2) | omega))⟩
      · refine lv_iconst (v := nI 1) hx hb dX4_least_28 (by decide) ?_
        refine lv_goto (tgt := 33) hx hb dX4_least_29 (by decide) ?_
        refine jn33 (nI 1) _ ls H locs ?_ (lv_sub hl [0, 1, 2] rfl) hI
        exact ⟨rfl, pI_t ⟨(by first | exact hq23 | (rw [hix26]; first | exact hq23 | exact i_le_n.mpr hq23 | exact l_le_n.mpr (fun q => hq23 (lg_gt.mpr q)) | exact l_le_n.mpr (fun q => hq23 (lg_lt.mpr q)) | exact (in_pl1 (by omega)).mp hq23 | omega) | (first | exact hq23 | exact i_le_n.mpr hq23 | exact l_le_n.mpr (fun q => hq23 (lg_gt.mpr q)) | exact l_le_n.mpr (fun q => hq23 (lg_lt.mpr q)) | exact (in_pl1 (by omega)).mp hq23 | omega)), (by first | exact hq29 | (rw [hix26]; first | exact hq29 | exact i_le_n.mpr hq29 | exact l_le_n.mpr (fun q => hq29 (lg_gt.mpr q)) | exact l_le_n.mpr (fun q => hq29 (lg_lt.mpr q)) | exact (in_pl1 (by omega)).mp hq29 | omega) | (first | exact hq29 | exact i_le_n.mpr hq29 | exact l_le_n.mpr (fun q => hq29 (lg_gt.mpr q)) | exact l_le_n.mpr (fun q => hq29 (lg_lt.mpr q)) | exact (in_pl1 (by omega)).mp hq29 | omega))⟩⟩

set_option maxHeartbeats 4000000 in
set_option maxRecDepth 100000 in
theorem c_X4_turn (l : Launch) (G : zK) (B0 : Nat) (F : zM) (σ : Sg) (th zp0 zp1 zp2 : Int32) (hM : MS G B0 F σ th) (hK : SgOk σ) : Met l yX4_turn (Cond.code yX4_turn cX4_turn 5 (some FieldType.int) :: zW) (zRm 3 68 0 0) (va_Pc [.ref (B0 + 23), .int zp0, .int zp1, .int zp2] (zPre G B0 F)) (zQi G B0 (zRP G B0 F σ (oA_turn σ zp0 zp1 zp2) (oB_turn σ zp0 zp1 zp2) (oC_turn σ zp0 zp1 zp2) (ss_turn σ zp0 zp1 zp2) (rr_turn σ zp0 zp1 zp2))) 0 0 (zA B0) := by
  refine z_of (own := RX4) (by decide) rfl (Nat.le_of_ble_eq_true rfl) ?_
  intro p e s m below meth c ls hx hb hr hml hown hlocks hnm hts hl hI
  have hl : lv_has ls 5 [(0, .ref (B0 + 23)), (1, .int zp0), (2, .int zp1), (3, .int zp2)] := hl
  obtain ⟨m01, ⟨ma1, m11, me11⟩, ⟨mb1, m21, me21⟩, ⟨mc1, m31, me31⟩, ⟨n91, t91, m41⟩, mT1, mP1⟩ := id hM
  refine lv_aload_n hx hb dX4_turn_0 rfl (lv_at hl 0 rfl) ?_
  refine lv_aload_n hx hb dX4_turn_1 rfl (lv_at hl 0 rfl) ?_
  refine lv_iload_n hx hb dX4_turn_2 rfl (lv_at hl 1 rfl) ?_
  refine lv_iload_n hx hb dX4_turn_3 rfl (lv_at hl 2 rfl) ?_
  refine lv_iload_n hx hb dX4_turn_4 rfl (lv_at hl 3 rfl) ?_
  refine z_calli hI (z_V (As := [.int zp0, .int zp1, .int zp2]) (rest := [.ref (B0 + 23)]) ⟨hx, hb, hml, hown, hts⟩ hI m01 rfl (c_X4_isPart l G B0 F σ th zp0 zp1 zp2 hM hK) (z_cwV vX4_isPart hts q813 ⟨Nat.le_of_ble_eq_true rfl, Nat.le_of_ble_eq_true rfl⟩) rfl hl.1 rfl (lv_room (Nat.le_of_ble_eq_true rfl)) dX4_turn_5 ⟨Nat.le_of_ble_eq_true rfl, Nat.le_of_ble_eq_true rfl⟩) (fun r3 F2 H locs hp4 hI => ?_)
  obtain ⟨rfl, rfl⟩ := hp4
  refine lv_iconst (v := nI 1) hx hb dX4_turn_8 (by decide) ?_
  refine z_topi (pI_1 (P := True) trivial) ?_
  refine lv_iconst (v := nI 1) hx hb dX4_turn_9 (by decide) ?_
  refine z_topi (pI_1 (P := True) trivial) ?_
  refine z_calli hI (z_V (As := [.int (pI (okT zp0 ∧ okR (sn σ (ix zp0)) zp1 zp2)), .int (pI (True)), .int (pI (True))]) (rest := []) ⟨hx, hb, hml, hown, hts⟩ hI m01 rfl (c_X4_passes l G B0 F σ th (okT zp0 ∧ okR (sn σ (ix zp0)) zp1 zp2) (True) (True) hM) (z_cwV vX4_passes hts q788 ⟨Nat.le_of_ble_eq_true rfl, Nat.le_of_ble_eq_true rfl⟩) rfl hl.1 rfl (lv_room (Nat.le_of_ble_eq_true rfl)) dX4_turn_10 ⟨Nat.le_of_ble_eq_true rfl, Nat.le_of_ble_eq_true rfl⟩) (fun r6 F5 H locs hp7 hI => ?_)
  obtain ⟨⟨th1, hM1, hz1⟩, rfl, ho1⟩ := hp7
  have hp1 : (okT zp0 ∧ okR (sn σ (ix zp0)) zp1 zp2) ↔ oA_turn σ zp0 zp1 zp2 := Iff.rfl
  have hp2 : oA_turn σ zp0 zp1 zp2 → ((True) ↔ oB_turn σ zp0 zp1 zp2) := fun _ => Iff.rfl
  have hp3 : oA_turn σ zp0 zp1 zp2 → oB_turn σ zp0 zp1 zp2 → ((True) ↔ oC_turn σ zp0 zp1 zp2) := fun _ _ => Iff.rfl
  have hz2 := zTh_cg hp1 hp2 hp3 hz1
  refine z_topi (pI_cg (zC_cg hp1 hp2 hp3)) ?_
  have hmf1 : zMf B0 F F5 := fun q hq => ho1 q (by omega)
  obtain ⟨m08, ⟨ma8, m18, me18⟩, ⟨mb8, m28, me28⟩, ⟨mc8, m38, me38⟩, ⟨n98, t98, m48⟩, mT8, mP8⟩ := id hM1
  refine z_ifp_ne (tgt := 18) hx hb dX4_turn_13 (by decide) (fun hq9 => ?_) (fun hq9 => ?_)
  · obtain ⟨hA, hB, hC0⟩ := id hq9
    obtain ⟨hc0, hc1⟩ := id hA
    obtain ⟨i10, hi11, rfl⟩ := id hc0
    have hix12 : ix (nI i10) = i10 := ix_nI (by omega)
    have hl : lv_has ls 5 [(0, .ref (B0 + 23)), (1, .int (nI i10)), (2, .int zp1), (3, .int zp2)] := hl
    have hsbi10 := (hK.1 i10 hi11).1
    obtain ⟨a13, b14, hab15, hbn16, rfl, rfl⟩ := id hc1
    simp only [hix12] at hbn16
    have hl : lv_has ls 5 [(0, .ref (B0 + 23)), (1, .int (nI i10)), (2, .int (nI a13)), (3, .int (nI b14))] := hl
    have hx17 := mT8 i10 hi11
    obtain ⟨xnhx17, xrhx17, fhx17, xwhx17, xfhx17⟩ := id hx17
    have hix18 : ix (nI a13) = a13 := ix_nI (by omega)
    have hix19 : ix (nI b14) = b14 := ix_nI (by omega)
    refine lv_iconst (v := nI 0) hx hb dX4_turn_18 (by decide) ?_
    refine lv_istore (lv' := [(4, .int (nI 0)), (0, .ref (B0 + 23)), (1, .int (nI i10)), (2, .int (nI a13)), (3, .int (nI b14))]) hx hb dX4_turn_19 hl (by decide) rfl (fun ls hl => ?_)
    refine z_loop (σ := Nat) (fun k : Nat => [(0, .ref (B0 + 23)), (1, .int (nI i10)), (2, .int (nI a13)), (3, .int (nI b14)), (4, .int (nI k))]) (fun (k : Nat) (Fx : zM) => RA G 3 Fx (B0 + 25 + 2 * i10) (B0 + 26 + 2 * i10) 60 (sn σ i10) (revk (st σ i10) a13 b14 k) ∧ zSm F5 Fx (B0 + 25 + 2 * i10) (B0 + 26 + 2 * i10) ∧ k ≤ (b14 - a13) / 2) (fun k : Nat => (b14 - a13) / 2 - k) 0 (nL := 5) (st := []) ?_ (lv_sub hl [1, 2, 3, 4, 0] rfl) hI ?_
    · exact ⟨RA.cg ⟨xnhx17, xrhx17, fhx17, xwhx17, xfhx17⟩ (fun j hj => revk_0 j), zSm.rf, Nat.zero_le _⟩
    · intro k F20 ls H locs hi hl hI ih
      have hl : lv_has ls 5 [(0, .ref (B0 + 23)), (1, .int (nI i10)), (2, .int (nI a13)), (3, .int (nI b14)), (4, .int (nI k))] := hl
      obtain ⟨ha0, hs0, hk⟩ := hi
      have hM2 := MS.setT hM1 hi11 hs0 ha0
      obtain ⟨m021, ⟨ma21, m121, me121⟩, ⟨mb21, m221, me221⟩, ⟨mc21, m321, me321⟩, ⟨n921, t921, m421⟩, mT21, mP21⟩ := id hM2
      obtain ⟨xn_, xr_, f_, xw_, xf_⟩ := id ha0
      refine lv_iload hx hb dX4_turn_21 (lv_at hl 4 rfl) ?_
      refine lv_iload_n hx hb dX4_turn_23 rfl (lv_at hl 3 rfl) ?_
      refine lv_iload_n hx hb dX4_turn_24 rfl (lv_at hl 2 rfl) ?_
      refine lv_isub hx hb dX4_turn_25 ?_
      refine z_topi (pk_sub (a := b14) (b := a13) (by omega)) ?_
      refine lv_iconst (v := nI 2) hx hb dX4_turn_26 (by decide) ?_
      refine lv_idiv hx hb dX4_turn_27 (nI_ne0 (by omega) (by omega)) ?_
      refine z_topi (pk_div (a := b14 - a13) (d := 2) (by omega) (by omega) (by omega)) ?_
      refine z_icmp_ge (tgt := 56) (a := k) (b := (b14 - a13) / 2) hx hb dX4_turn_28 (by decide) (by omega) (fun hq22 => ?_) (fun hq22 => ?_)
      · refine lv_iload_n hx hb dX4_turn_56 rfl (lv_at hl 3 rfl) ?_
        refine lv_iload_n hx hb dX4_turn_57 rfl (lv_at hl 2 rfl) ?_
        refine lv_isub hx hb dX4_turn_58 ?_
        refine z_topi (pk_sub (a := b14) (b := a13) (by omega)) ?_
        refine z_ri hx hb hr hlocks hI ?_ (Nat.le_of_ble_eq_true rfl) (Nat.le_of_ble_eq_true rfl) dX4_turn_59
        have hkn : k = (b14 - a13) / 2 := by omega
        refine ⟨_, rfl, th1, _, (MS.setT hM1 hi11 hs0 (RA.cg (t' := revt (st σ i10) a13 b14) ha0 (fun j hj => by rw [hkn]; exact revk_e (by omega) j))), hz2, fun _ => ⟨(by simp only [oA_turn, oB_turn, oC_turn, rr_turn, ss_turn, hix12, hix18, hix19] <;> exact rfl), (by simp only [oA_turn, oB_turn, oC_turn, rr_turn, ss_turn, hix12, hix18, hix19] <;> exact rfl)⟩, fun q => absurd ⟨hA, hB, hC0⟩ q, zMf.tr hmf1 (zMf.sm hs0 (by omega) (by omega))⟩
      · refine lv_aload_n hx hb dX4_turn_31 rfl (lv_at hl 0 rfl) ?_
        refine z_get hx hb hts hown zlX4 rfl 1 (by decide) (hts _ q753) rfl hI m021 rfl dX4_turn_32 ?_
        refine lv_iload_n hx hb dX4_turn_35 rfl (lv_at hl 1 rfl) ?_
        refine z_ald3 (k := i10) (v := B0 + 25 + 2 * i10) hx hb hI m121 (by omega) (by omega) (me121 i10 (by omega)) dX4_turn_36 ?_
        refine lv_iload_n hx hb dX4_turn_37 rfl (lv_at hl 2 rfl) ?_
        refine lv_iload hx hb dX4_turn_38 (lv_at hl 4 rfl) ?_
        refine lv_iadd hx hb dX4_turn_40 ?_
        refine z_topi (nI_add a13 k) ?_
        refine lv_iload_n hx hb dX4_turn_41 rfl (lv_at hl 3 rfl) ?_
        refine lv_iconst (v := nI 1) hx hb dX4_turn_42 (by decide) ?_
        refine lv_isub hx hb dX4_turn_43 ?_
        refine z_topi (pk_sub (a := b14) (b := 1) (by omega)) ?_
        refine lv_iload hx hb dX4_turn_44 (lv_at hl 4 rfl) ?_
        refine lv_isub hx hb dX4_turn_46 ?_
        refine z_topi (pk_sub (a := b14 - 1) (b := k) (by omega)) ?_
        refine z_callv hI (z_V (As := [.int (nI (a13 + k)), .int (nI (b14 - 1 - k))]) (rest := []) ⟨hx, hb, hml, hown, hts⟩ hI xr_ rfl (c_X3_swap l G B0 F20 (B0 + 25 + 2 * i10) (B0 + 26 + 2 * i10) 60 (sn σ i10) (revk (st σ i10) a13 b14 k) (a13 + k) (b14 - 1 - k) ⟨xn_, xr_, f_, xw_, xf_⟩ (by omega) (by omega) (by omega)) (z_cwV vX3_swap hts q980 ⟨Nat.le_of_ble_eq_true rfl, Nat.le_of_ble_eq_true rfl⟩) rfl hl.1 rfl (lv_room (Nat.le_of_ble_eq_true rfl)) dX4_turn_47 ⟨Nat.le_of_ble_eq_true rfl, Nat.le_of_ble_eq_true rfl⟩) (fun F23 H locs hp25 hI => ?_)
        obtain ⟨ha26, hs26⟩ := hp25
        have hc27 : F23 (B0 + 23) = some (zO 4 [.int th1, .ref (B0 + 24), .ref (B0 + 33), .ref (B0 + 38), .ref (B0 + 40)]) := (hs26 _ (zne m021 xr_ (fun q => by cases q)) (zne m021 xw_ (fun q => by cases q))).trans m021
        have hc28 : F23 (B0 + 24) = some (zA3 G 4 ma21) := (hs26 _ (zne m121 xr_ (fun q => by cases q)) (by omega)).trans m121
        have hc29 : F23 (B0 + 33) = some (zA3 G 2 mb21) := (hs26 _ (zne m221 xr_ (fun q => by cases q)) (by omega)).trans m221
        have hc30 : F23 (B0 + 40) = some (zAI G 100 mc21) := (hs26 _ (zne m321 xr_ (fun q => by cases q)) (by omega)).trans m321
        obtain ⟨xn_26, xr_26, f_26, xw_26, xf_26⟩ := id ha26
        refine lv_iinc (k := 4) (v := nI (k + 1)) (lv' := [(4, .int (nI (k + 1))), (0, .ref (B0 + 23)), (1, .int (nI i10)), (2, .int (nI a13)), (3, .int (nI b14))]) hx hb dX4_turn_50 hl rfl (nI_add k 1) (by decide) rfl (fun ls hl => ?_)
        refine lv_goto (tgt := 21) hx hb dX4_turn_53 (by decide) ?_
        refine ih (k + 1) _ ls H locs (by first | omega | (dsimp only; omega)) ?_ (lv_sub hl [1, 2, 3, 4, 0] rfl) hI
        exact ⟨RA.cg ha26 (fun j hj => revk_s (by omega) j), (zSm.tr hs0 hs26), by omega⟩
  · refine lv_iconst (v := nI 0) hx hb dX4_turn_16 (by decide) ?_
    refine z_ri hx hb hr hlocks hI ?_ (Nat.le_of_ble_eq_true rfl) (Nat.le_of_ble_eq_true rfl) dX4_turn_17
    exact ⟨_, rfl, th1, σ, hM1, hz2, fun q => absurd q hq9, fun _ => rfl, hmf1⟩

set_option maxHeartbeats 4000000 in
set_option maxRecDepth 100000 in
theorem c_X4_swap (l : Launch) (G : zK) (B0 : Nat) (F : zM) (σ : Sg) (th zp0 zp1 zp2 : Int32) (hM : MS G B0 F σ th) (hK : SgOk σ) : Met l yX4_swap (Cond.code yX4_swap cX4_swap 4 (some FieldType.int) :: zW) (zRm 3 67 0 0) (va_Pc [.ref (B0 + 23), .int zp0, .int zp1, .int zp2] (zPre G B0 F)) (zQi G B0 (zRP G B0 F σ (oA_swap σ zp0 zp1 zp2) (oB_swap σ zp0 zp1 zp2) (oC_swap σ zp0 zp1 zp2) (ss_swap σ zp0 zp1 zp2) (rr_swap σ zp0 zp1 zp2))) 0 0 (zA B0) := by
  refine z_of (own := RX4) (by decide) rfl (Nat.le_of_ble_eq_true rfl) ?_
  intro p e s m below meth c ls hx hb hr hml hown hlocks hnm hts hl hI
  have hl : lv_has ls 4 [(0, .ref (B0 + 23)), (1, .int zp0), (2, .int zp1), (3, .int zp2)] := hl
  obtain ⟨m01, ⟨ma1, m11, me11⟩, ⟨mb1, m21, me21⟩, ⟨mc1, m31, me31⟩, ⟨n91, t91, m41⟩, mT1, mP1⟩ := id hM
  refine lv_aload_n hx hb dX4_swap_0 rfl (lv_at hl 0 rfl) ?_
  refine z_join (σ := Int32) (fun x : Int32 => [(0, .ref (B0 + 23)), (1, .int zp0), (2, .int zp1), (3, .int zp2)]) (fun x : Int32 => [.int x, .ref (B0 + 23)]) (fun (x : Int32) (Fx : zM) => F = Fx ∧ x = pI ((okT zp0 ∧ okL (sn σ (ix zp0)) zp1) ∧ (okT zp0 ∧ okL (sn σ (ix zp0)) zp2))) 24 4 G B0 ?_ (fun jn24 => ?_)
  · intro x F2 ls H locs hi hl hI
    have hl : lv_has ls 4 [(0, .ref (B0 + 23)), (1, .int zp0), (2, .int zp1), (3, .int zp2)] := hl
    obtain ⟨hF, hx9⟩ := hi
    subst hF
    subst hx9
    refine lv_iconst (v := nI 1) hx hb dX4_swap_24 (by decide) ?_
    refine z_topi (pI_1 (P := True) trivial) ?_
    refine lv_iconst (v := nI 1) hx hb dX4_swap_25 (by decide) ?_
    refine z_topi (pI_1 (P := True) trivial) ?_
    refine z_calli hI (z_V (As := [.int (pI ((okT zp0 ∧ okL (sn σ (ix zp0)) zp1) ∧ (okT zp0 ∧ okL (sn σ (ix zp0)) zp2))), .int (pI (True)), .int (pI (True))]) (rest := []) ⟨hx, hb, hml, hown, hts⟩ hI m01 rfl (c_X4_passes l G B0 F σ th ((okT zp0 ∧ okL (sn σ (ix zp0)) zp1) ∧ (okT zp0 ∧ okL (sn σ (ix zp0)) zp2)) (True) (True) hM) (z_cwV vX4_passes hts q788 ⟨Nat.le_of_ble_eq_true rfl, Nat.le_of_ble_eq_true rfl⟩) rfl hl.1 rfl (lv_room (Nat.le_of_ble_eq_true rfl)) dX4_swap_26 ⟨Nat.le_of_ble_eq_true rfl, Nat.le_of_ble_eq_true rfl⟩) (fun r4 F3 H locs hp5 hI => ?_)
    obtain ⟨⟨th1, hM1, hz1⟩, rfl, ho1⟩ := hp5
    have hp1 : ((okT zp0 ∧ okL (sn σ (ix zp0)) zp1) ∧ (okT zp0 ∧ okL (sn σ (ix zp0)) zp2)) ↔ oA_swap σ zp0 zp1 zp2 := ⟨fun z => ⟨z.1.1, z.1.2, z.2.2⟩, fun z => ⟨⟨z.1, z.2.1⟩, z.1, z.2.2⟩⟩
    have hp2 : oA_swap σ zp0 zp1 zp2 → ((True) ↔ oB_swap σ zp0 zp1 zp2) := fun _ => Iff.rfl
    have hp3 : oA_swap σ zp0 zp1 zp2 → oB_swap σ zp0 zp1 zp2 → ((True) ↔ oC_swap σ zp0 zp1 zp2) := fun _ _ => Iff.rfl
    have hz2 := zTh_cg hp1 hp2 hp3 hz1
    refine z_topi (pI_cg (zC_cg hp1 hp2 hp3)) ?_
    have hmf1 : zMf B0 F F3 := fun q hq => ho1 q (by omega)
    obtain ⟨m06, ⟨ma6, m16, me16⟩, ⟨mb6, m26, me26⟩, ⟨mc6, m36, me36⟩, ⟨n96, t96, m46⟩, mT6, mP6⟩ := id hM1
    refine z_ifp_ne (tgt := 34) hx hb dX4_swap_29 (by decide) (fun hq7 => ?_) (fun hq7 => ?_)
    · obtain ⟨hA, hB, hC0⟩ := id hq7
      obtain ⟨hc0, hc1, hc2⟩ := id hA
      obtain ⟨i8, hi9, rfl⟩ := id hc0
      have hix10 : ix (nI i8) = i8 := ix_nI (by omega)
      have hl : lv_has ls 4 [(0, .ref (B0 + 23)), (1, .int (nI i8)), (2, .int zp1), (3, .int zp2)] := hl
      have hsbi8 := (hK.1 i8 hi9).1
      obtain ⟨j11, hj12, rfl⟩ := id hc1
      simp only [hix10] at hj12
      have hix13 : ix (nI j11) = j11 := ix_nI (by omega)
      have hl : lv_has ls 4 [(0, .ref (B0 + 23)), (1, .int (nI i8)), (2, .int (nI j11)), (3, .int zp2)] := hl
      obtain ⟨j14, hj15, rfl⟩ := id hc2
      simp only [hix10, hix13] at hj15
      have hix16 : ix (nI j14) = j14 := ix_nI (by omega)
      have hl : lv_has ls 4 [(0, .ref (B0 + 23)), (1, .int (nI i8)), (2, .int (nI j11)), (3, .int (nI j14))] := hl
      have hx17 := mT6 i8 hi9
      obtain ⟨xnhx17, xrhx17, fhx17, xwhx17, xfhx17⟩ := id hx17
      refine lv_aload_n hx hb dX4_swap_34 rfl (lv_at hl 0 rfl) ?_
      refine z_get hx hb hts hown zlX4 rfl 1 (by decide) (hts _ q753) rfl hI m06 rfl dX4_swap_35 ?_
      refine lv_iload_n hx hb dX4_swap_38 rfl (lv_at hl 1 rfl) ?_
      refine z_ald3 (k := i8) (v := B0 + 25 + 2 * i8) hx hb hI m16 (by omega) (by omega) (me16 i8 (by omega)) dX4_swap_39 ?_
      refine lv_iload_n hx hb dX4_swap_40 rfl (lv_at hl 2 rfl) ?_
      refine lv_iload_n hx hb dX4_swap_41 rfl (lv_at hl 3 rfl) ?_
      refine z_callv hI (z_V (As := [.int (nI j11), .int (nI j14)]) (rest := []) ⟨hx, hb, hml, hown, hts⟩ hI xrhx17 rfl (c_X3_swap l G B0 F3 (B0 + 25 + 2 * i8) (B0 + 26 + 2 * i8) 60 (sn σ i8) (st σ i8) j11 j14 ⟨xnhx17, xrhx17, fhx17, xwhx17, xfhx17⟩ (by omega) (by omega) (by omega)) (z_cwV vX3_swap hts q980 ⟨Nat.le_of_ble_eq_true rfl, Nat.le_of_ble_eq_true rfl⟩) rfl hl.1 rfl (lv_room (Nat.le_of_ble_eq_true rfl)) dX4_swap_42 ⟨Nat.le_of_ble_eq_true rfl, Nat.le_of_ble_eq_true rfl⟩) (fun F18 H locs hp20 hI => ?_)
      obtain ⟨ha21, hs21⟩ := hp20
      have hc22 : F18 (B0 + 23) = some (zO 4 [.int th1, .ref (B0 + 24), .ref (B0 + 33), .ref (B0 + 38), .ref (B0 + 40)]) := (hs21 _ (zne m06 xrhx17 (fun q => by cases q)) (zne m06 xwhx17 (fun q => by cases q))).trans m06
      have hc23 : F18 (B0 + 24) = some (zA3 G 4 ma6) := (hs21 _ (zne m16 xrhx17 (fun q => by cases q)) (by omega)).trans m16
      have hc24 : F18 (B0 + 33) = some (zA3 G 2 mb6) := (hs21 _ (zne m26 xrhx17 (fun q => by cases q)) (by omega)).trans m26
      have hc25 : F18 (B0 + 40) = some (zAI G 100 mc6) := (hs21 _ (zne m36 xrhx17 (fun q => by cases q)) (by omega)).trans m36
      obtain ⟨xn_21, xr_21, f_21, xw_21, xf_21⟩ := id ha21
      refine lv_aload_n hx hb dX4_swap_45 rfl (lv_at hl 0 rfl) ?_
      refine z_get hx hb hts hown zlX4 rfl 1 (by decide) (hts _ q753) rfl hI hc22 rfl dX4_swap_46 ?_
      refine lv_iload_n hx hb dX4_swap_49 rfl (lv_at hl 1 rfl) ?_
      refine z_ald3 (k := i8) (v := B0 + 25 + 2 * i8) hx hb hI hc23 (by omega) (by omega) (me16 i8 (by omega)) dX4_swap_50 ?_
      refine lv_iload_n hx hb dX4_swap_51 rfl (lv_at hl 2 rfl) ?_
      refine z_calli hI (z_V (As := [.int (nI j11)]) (rest := []) ⟨hx, hb, hml, hown, hts⟩ hI xr_21 rfl (c_X3_at l G B0 F18 (B0 + 25 + 2 * i8) (B0 + 26 + 2 * i8) 60 (sn σ i8) (swpt (st σ i8) j11 j14) j11 ⟨xn_21, xr_21, f_21, xw_21, xf_21⟩ (by omega) (by omega)) (z_cwV vX3_at hts q829 ⟨Nat.le_of_ble_eq_true rfl, Nat.le_of_ble_eq_true rfl⟩) rfl hl.1 rfl (lv_room (Nat.le_of_ble_eq_true rfl)) dX4_swap_52 ⟨Nat.le_of_ble_eq_true rfl, Nat.le_of_ble_eq_true rfl⟩) (fun r27 F26 H locs hp28 hI => ?_)
      obtain ⟨rfl, rfl⟩ := hp28
      refine z_ri hx hb hr hlocks hI ?_ (Nat.le_of_ble_eq_true rfl) (Nat.le_of_ble_eq_true rfl) dX4_swap_55
      refine ⟨_, rfl, th1, _, (MS.setT hM1 hi9 hs21 ⟨xn_21, xr_21, f_21, xw_21, xf_21⟩), hz2, fun _ => ⟨(by simp only [oA_swap, oB_swap, oC_swap, rr_swap, ss_swap, hix10, hix13, hix16] <;> exact rfl), (by simp only [oA_swap, oB_swap, oC_swap, rr_swap, ss_swap, hix10, hix13, hix16] <;> exact swpt_l)⟩, fun q => absurd ⟨hA, hB, hC0⟩ q, zMf.tr hmf1 (zMf.sm (a := B0 + 25 + 2 * i8) (b := B0 + 26 + 2 * i8) hs21 (by omega) (by omega))⟩
    · refine lv_iconst (v := nI 0) hx hb dX4_swap_32 (by decide) ?_
      refine z_ri hx hb hr hlocks hI ?_ (Nat.le_of_ble_eq_true rfl) (Nat.le_of_ble_eq_true rfl) dX4_swap_33
      exact ⟨_, rfl, th1, σ, hM1, hz2, fun q => absurd q hq7, fun _ => rfl, hmf1⟩
  · refine lv_aload_n hx hb dX4_swap_1 rfl (lv_at hl 0 rfl) ?_
    refine lv_iload_n hx hb dX4_swap_2 rfl (lv_at hl 1 rfl) ?_
    refine lv_iload_n hx hb dX4_swap_3 rfl (lv_at hl 2 rfl) ?_
    refine z_calli hI (z_V (As := [.int zp0, .int zp1]) (rest := [.ref (B0 + 23)]) ⟨hx, hb, hml, hown, hts⟩ hI m01 rfl (c_X4_isPlace l G B0 F σ th zp0 zp1 hM hK) (z_cwV vX4_isPlace hts q825 ⟨Nat.le_of_ble_eq_true rfl, Nat.le_of_ble_eq_true rfl⟩) rfl hl.1 rfl (lv_room (Nat.le_of_ble_eq_true rfl)) dX4_swap_4 ⟨Nat.le_of_ble_eq_true rfl, Nat.le_of_ble_eq_true rfl⟩) (fun r30 F29 H locs hp31 hI => ?_)
    obtain ⟨rfl, rfl⟩ := hp31
    refine z_ifp_eq (tgt := 23) hx hb dX4_swap_7 (by decide) (fun hq32 => ?_) (fun hq32 => ?_)
    · refine lv_iconst (v := nI 0) hx hb dX4_swap_23 (by decide) ?_
      refine jn24 (nI 0) _ ls H locs ?_ (lv_sub hl [0, 1, 2, 3] rfl) hI
      exact ⟨rfl, pI_f (fun z => by have z2 := z.1; first | exact hq32 z2 | (first | exact hq32 z2 | exact i_le_n.mp z2 hq32 | exact l_le_n.mp z2 (lg_gt.mp hq32) | exact l_le_n.mp z2 (lg_lt.mp hq32) | exact hq32 ((in_pl1 (by omega)).mpr z2) | omega))⟩
    · refine lv_aload_n hx hb dX4_swap_10 rfl (lv_at hl 0 rfl) ?_
      refine lv_iload_n hx hb dX4_swap_11 rfl (lv_at hl 1 rfl) ?_
      refine lv_iload_n hx hb dX4_swap_12 rfl (lv_at hl 3 rfl) ?_
      refine z_calli hI (z_V (As := [.int zp0, .int zp2]) (rest := [.ref (B0 + 23)]) ⟨hx, hb, hml, hown, hts⟩ hI m01 rfl (c_X4_isPlace l G B0 F σ th zp0 zp2 hM hK) (z_cwV vX4_isPlace hts q825 ⟨Nat.le_of_ble_eq_true rfl, Nat.le_of_ble_eq_true rfl⟩) rfl hl.1 rfl (lv_room (Nat.le_of_ble_eq_true rfl)) dX4_swap_13 ⟨Nat.le_of_ble_eq_true rfl, Nat.le_of_ble_eq_true rfl⟩) (fun r34 F33 H locs hp35 hI => ?_)
      obtain ⟨rfl, rfl⟩ := hp35
      refine z_ifp_eq (tgt := 23) hx hb dX4_swap_16 (by decide) (fun hq36 => ?_) (fun hq36 => ?_)
      · refine lv_iconst (v := nI 0) hx hb dX4_swap_23 (by decide) ?_
        refine jn24 (nI 0) _ ls H locs ?_ (lv_sub hl [0, 1, 2, 3] rfl) hI
        exact ⟨rfl, pI_f (fun z => by have z2 := z.2; first | exact hq36 z2 | (first | exact hq36 z2 | exact i_le_n.mp z2 hq36 | exact l_le_n.mp z2 (lg_gt.mp hq36) | exact l_le_n.mp z2 (lg_lt.mp hq36) | exact hq36 ((in_pl1 (by omega)).mpr z2) | omega))⟩
      · refine lv_iconst (v := nI 1) hx hb dX4_swap_19 (by decide) ?_
        refine lv_goto (tgt := 24) hx hb dX4_swap_20 (by decide) ?_
        refine jn24 (nI 1) _ ls H locs ?_ (lv_sub hl [0, 1, 2, 3] rfl) hI
        exact ⟨rfl, pI_t ⟨(by first | exact hq32 | exact i_le_n.mpr hq32 | exact l_le_n.mpr (fun q => hq32 (lg_gt.mpr q)) | exact l_le_n.mpr (fun q => hq32 (lg_lt.mpr q)) | exact (in_pl1 (by omega)).mp hq32 | omega), (by first | exact hq36 | exact i_le_n.mpr hq36 | exact l_le_n.mpr (fun q => hq36 (lg_gt.mpr q)) | exact l_le_n.mpr (fun q => hq36 (lg_lt.mpr q)) | exact (in_pl1 (by omega)).mp hq36 | omega)⟩⟩

set_option maxHeartbeats 4000000 in
set_option maxRecDepth 100000 in
theorem c_X4_fill (l : Launch) (G : zK) (B0 : Nat) (F : zM) (σ : Sg) (th zp0 zp1 zp2 zp3 : Int32) (hM : MS G B0 F σ th) (hK : SgOk σ) : Met l yX4_fill (Cond.code yX4_fill cX4_fill 7 (some FieldType.int) :: zW) (zRm 3 68 0 0) (va_Pc [.ref (B0 + 23), .int zp0, .int zp1, .int zp2, .int zp3] (zPre G B0 F)) (zQi G B0 (zRP G B0 F σ (oA_fill σ zp0 zp1 zp2 zp3) (oB_fill σ zp0 zp1 zp2 zp3) (oC_fill σ zp0 zp1 zp2 zp3) (ss_fill σ zp0 zp1 zp2 zp3) (rr_fill σ zp0 zp1 zp2 zp3))) 0 0 (zA B0) := by
  refine z_of (own := RX4) (by decide) rfl (Nat.le_of_ble_eq_true rfl) ?_
  intro p e s m below meth c ls hx hb hr hml hown hlocks hnm hts hl hI
  have hl : lv_has ls 7 [(0, .ref (B0 + 23)), (1, .int zp0), (2, .int zp1), (3, .int zp2), (4, .int zp3)] := hl
  obtain ⟨m01, ⟨ma1, m11, me11⟩, ⟨mb1, m21, me21⟩, ⟨mc1, m31, me31⟩, ⟨n91, t91, m41⟩, mT1, mP1⟩ := id hM
  refine lv_aload_n hx hb dX4_fill_0 rfl (lv_at hl 0 rfl) ?_
  refine z_join (σ := Int32) (fun x : Int32 => [(0, .ref (B0 + 23)), (1, .int zp0), (2, .int zp1), (3, .int zp2), (4, .int zp3)]) (fun x : Int32 => [.int x, .ref (B0 + 23)]) (fun (x : Int32) (Fx : zM) => F = Fx ∧ x = pI ((okT zp0 ∧ okR (sn σ (ix zp0)) zp1 zp2) ∧ okW zp3)) 24 7 G B0 ?_ (fun jn24 => ?_)
  · intro x F2 ls H locs hi hl hI
    have hl : lv_has ls 7 [(0, .ref (B0 + 23)), (1, .int zp0), (2, .int zp1), (3, .int zp2), (4, .int zp3)] := hl
    obtain ⟨hF, hx9⟩ := hi
    subst hF
    subst hx9
    refine lv_iconst (v := nI 1) hx hb dX4_fill_24 (by decide) ?_
    refine z_topi (pI_1 (P := True) trivial) ?_
    refine lv_iconst (v := nI 1) hx hb dX4_fill_25 (by decide) ?_
    refine z_topi (pI_1 (P := True) trivial) ?_
    refine z_calli hI (z_V (As := [.int (pI ((okT zp0 ∧ okR (sn σ (ix zp0)) zp1 zp2) ∧ okW zp3)), .int (pI (True)), .int (pI (True))]) (rest := []) ⟨hx, hb, hml, hown, hts⟩ hI m01 rfl (c_X4_passes l G B0 F σ th ((okT zp0 ∧ okR (sn σ (ix zp0)) zp1 zp2) ∧ okW zp3) (True) (True) hM) (z_cwV vX4_passes hts q788 ⟨Nat.le_of_ble_eq_true rfl, Nat.le_of_ble_eq_true rfl⟩) rfl hl.1 rfl (lv_room (Nat.le_of_ble_eq_true rfl)) dX4_fill_26 ⟨Nat.le_of_ble_eq_true rfl, Nat.le_of_ble_eq_true rfl⟩) (fun r4 F3 H locs hp5 hI => ?_)
    obtain ⟨⟨th1, hM1, hz1⟩, rfl, ho1⟩ := hp5
    have hp1 : ((okT zp0 ∧ okR (sn σ (ix zp0)) zp1 zp2) ∧ okW zp3) ↔ oA_fill σ zp0 zp1 zp2 zp3 := ⟨fun z => ⟨z.1.1, z.1.2, z.2⟩, fun z => ⟨⟨z.1, z.2.1⟩, z.2.2⟩⟩
    have hp2 : oA_fill σ zp0 zp1 zp2 zp3 → ((True) ↔ oB_fill σ zp0 zp1 zp2 zp3) := fun _ => Iff.rfl
    have hp3 : oA_fill σ zp0 zp1 zp2 zp3 → oB_fill σ zp0 zp1 zp2 zp3 → ((True) ↔ oC_fill σ zp0 zp1 zp2 zp3) := fun _ _ => Iff.rfl
    have hz2 := zTh_cg hp1 hp2 hp3 hz1
    refine z_topi (pI_cg (zC_cg hp1 hp2 hp3)) ?_
    have hmf1 : zMf B0 F F3 := fun q hq => ho1 q (by omega)
    obtain ⟨m06, ⟨ma6, m16, me16⟩, ⟨mb6, m26, me26⟩, ⟨mc6, m36, me36⟩, ⟨n96, t96, m46⟩, mT6, mP6⟩ := id hM1
    refine z_ifp_ne (tgt := 34) hx hb dX4_fill_29 (by decide) (fun hq7 => ?_) (fun hq7 => ?_)
    · obtain ⟨hA, hB, hC0⟩ := id hq7
      obtain ⟨hc0, hc1, hc2⟩ := id hA
      obtain ⟨i8, hi9, rfl⟩ := id hc0
      have hix10 : ix (nI i8) = i8 := ix_nI (by omega)
      have hl : lv_has ls 7 [(0, .ref (B0 + 23)), (1, .int (nI i8)), (2, .int zp1), (3, .int zp2), (4, .int zp3)] := hl
      have hsbi8 := (hK.1 i8 hi9).1
      obtain ⟨a11, b12, hab13, hbn14, rfl, rfl⟩ := id hc1
      simp only [hix10] at hbn14
      have hl : lv_has ls 7 [(0, .ref (B0 + 23)), (1, .int (nI i8)), (2, .int (nI a11)), (3, .int (nI b12)), (4, .int zp3)] := hl
      have hx15 := mT6 i8 hi9
      obtain ⟨xnhx15, xrhx15, fhx15, xwhx15, xfhx15⟩ := id hx15
      have hix16 : ix (nI a11) = a11 := ix_nI (by omega)
      have hix17 : ix (nI b12) = b12 := ix_nI (by omega)
      refine lv_iconst (v := nI 0) hx hb dX4_fill_34 (by decide) ?_
      refine lv_istore (lv' := [(5, .int (nI 0)), (0, .ref (B0 + 23)), (1, .int (nI i8)), (2, .int (nI a11)), (3, .int (nI b12)), (4, .int zp3)]) hx hb dX4_fill_35 hl (by decide) rfl (fun ls hl => ?_)
      refine lv_iload_n hx hb dX4_fill_37 rfl (lv_at hl 3 rfl) ?_
      refine lv_istore (lv' := [(6, .int (nI a11)), (5, .int (nI 0)), (0, .ref (B0 + 23)), (1, .int (nI i8)), (2, .int (nI a11)), (3, .int (nI b12)), (4, .int zp3)]) hx hb dX4_fill_38 hl (by decide) rfl (fun ls hl => ?_)
      refine z_loop (σ := Nat × Nat) (fun xx : Nat × Nat => match xx with | (k, b) => [(0, .ref (B0 + 23)), (1, .int (nI i8)), (2, .int (nI a11)), (3, .int (nI b12)), (4, .int zp3), (6, .int (nI k)), (5, .int (nI b))]) (fun (xx : Nat × Nat) (Fx : zM) => match xx with | (k, b) => RA G 3 Fx (B0 + 25 + 2 * i8) (B0 + 26 + 2 * i8) 60 (sn σ i8) (fun j => if a11 ≤ j ∧ j < k then zp3 else st σ i8 j) ∧ zSm F3 Fx (B0 + 25 + 2 * i8) (B0 + 26 + 2 * i8) ∧ a11 ≤ k ∧ k ≤ b12 ∧ b = fild (st σ i8) zp3 a11 (k - a11)) (fun xx : Nat × Nat => match xx with | (k, b) => b12 - k) (a11, 0) (nL := 7) (st := []) ?_ (lv_sub hl [2, 3, 4, 5, 6, 0, 1] rfl) hI ?_
      · refine ⟨RA.cg ⟨xnhx15, xrhx15, fhx15, xwhx15, xfhx15⟩ (fun j hj => (if_neg (fun q => by omega)).symm), zSm.rf, Nat.le_refl _, by omega, ?_⟩
        rw [Nat.sub_self]; rfl
      · intro xx F18 ls H locs hi hl hI ih
        obtain ⟨k, b⟩ := xx
        have hl : lv_has ls 7 [(0, .ref (B0 + 23)), (1, .int (nI i8)), (2, .int (nI a11)), (3, .int (nI b12)), (4, .int zp3), (6, .int (nI k)), (5, .int (nI b))] := hl
        obtain ⟨ha0, hs0, hk1, hk2, hbf⟩ := hi
        have hM2 := MS.setT hM1 hi9 hs0 ha0
        obtain ⟨m019, ⟨ma19, m119, me119⟩, ⟨mb19, m219, me219⟩, ⟨mc19, m319, me319⟩, ⟨n919, t919, m419⟩, mT19, mP19⟩ := id hM2
        obtain ⟨xn_, xr_, f_, xw_, xf_⟩ := id ha0
        have htk : (if a11 ≤ k ∧ k < k then zp3 else st σ i8 k) = st σ i8 k := if_neg (fun q => absurd q.2 (Nat.lt_irrefl _))
        have hfl := fild_le (st σ i8) zp3 a11 (k - a11)
        refine lv_iload hx hb dX4_fill_40 (lv_at hl 5 rfl) ?_
        refine lv_iload_n hx hb dX4_fill_42 rfl (lv_at hl 3 rfl) ?_
        refine z_icmp_ge (tgt := 92) (a := k) (b := b12) hx hb dX4_fill_43 (by decide) (by omega) (fun hq20 => ?_) (fun hq20 => ?_)
        · refine lv_iload hx hb dX4_fill_92 (lv_at hl 6 rfl) ?_
          refine z_ri hx hb hr hlocks hI ?_ (Nat.le_of_ble_eq_true rfl) (Nat.le_of_ble_eq_true rfl) dX4_fill_94
          have hkn : k = b12 := by omega
          refine ⟨_, rfl, th1, _, (MS.setT hM1 hi9 hs0 (hkn ▸ ha0)), hz2, fun _ => ⟨(by simp only [oA_fill, oB_fill, oC_fill, rr_fill, ss_fill, hix10, hix16, hix17] <;> exact rfl), (by simp only [oA_fill, oB_fill, oC_fill, rr_fill, ss_fill, hix10, hix16, hix17] <;> (rw [hbf, hkn]))⟩, fun q => absurd ⟨hA, hB, hC0⟩ q, zMf.tr hmf1 (zMf.sm hs0 (by omega) (by omega))⟩
        · refine lv_iload hx hb dX4_fill_46 (lv_at hl 6 rfl) ?_
          refine lv_aload_n hx hb dX4_fill_48 rfl (lv_at hl 0 rfl) ?_
          refine z_get hx hb hts hown zlX4 rfl 1 (by decide) (hts _ q753) rfl hI m019 rfl dX4_fill_49 ?_
          refine lv_iload_n hx hb dX4_fill_52 rfl (lv_at hl 1 rfl) ?_
          refine z_ald3 (k := i8) (v := B0 + 25 + 2 * i8) hx hb hI m119 (by omega) (by omega) (me119 i8 (by omega)) dX4_fill_53 ?_
          refine lv_iload hx hb dX4_fill_54 (lv_at hl 5 rfl) ?_
          refine z_calli hI (z_V (As := [.int (nI k)]) (rest := [.int (nI b)]) ⟨hx, hb, hml, hown, hts⟩ hI xr_ rfl (c_X3_at l G B0 F18 (B0 + 25 + 2 * i8) (B0 + 26 + 2 * i8) 60 (sn σ i8) (fun j => if a11 ≤ j ∧ j < k then zp3 else st σ i8 j) k ⟨xn_, xr_, f_, xw_, xf_⟩ (by omega) (by omega)) (z_cwV vX3_at hts q829 ⟨Nat.le_of_ble_eq_true rfl, Nat.le_of_ble_eq_true rfl⟩) rfl hl.1 rfl (lv_room (Nat.le_of_ble_eq_true rfl)) dX4_fill_56 ⟨Nat.le_of_ble_eq_true rfl, Nat.le_of_ble_eq_true rfl⟩) (fun r22 F21 H locs hp23 hI => ?_)
          obtain ⟨rfl, rfl⟩ := hp23
          refine lv_iload hx hb dX4_fill_59 (lv_at hl 4 rfl) ?_
          refine lv_icmp_ne (tgt := 68) hx hb dX4_fill_61 (by decide) (fun hq24 => ?_) (fun hq24 => ?_)
          · rw [htk] at hq24
            refine lv_iconst (v := nI 1) hx hb dX4_fill_68 (by decide) ?_
            refine lv_iadd hx hb dX4_fill_69 ?_
            refine z_topi (nI_add b 1) ?_
            refine lv_istore (lv' := [(5, .int (nI (b + 1))), (0, .ref (B0 + 23)), (1, .int (nI i8)), (2, .int (nI a11)), (3, .int (nI b12)), (4, .int zp3), (6, .int (nI k))]) hx hb dX4_fill_70 hl (by decide) rfl (fun ls hl => ?_)
            refine lv_aload_n hx hb dX4_fill_72 rfl (lv_at hl 1 rfl) ?_
            refine z_get hx hb hts hown zlX4 rfl 1 (by decide) (hts _ q753) rfl hI m019 rfl dX4_fill_73 ?_
            refine lv_iload_n hx hb dX4_fill_76 rfl (lv_at hl 2 rfl) ?_
            refine z_ald3 (k := i8) (v := B0 + 25 + 2 * i8) hx hb hI m119 (by omega) (by omega) (me119 i8 (by omega)) dX4_fill_77 ?_
            refine z_getN hx hb hts hown zlX3 rfl 0 (by decide) (List.mem_of_getElem? (i := 3) rfl) rfl hI xr_ rfl dX4_fill_78 ?_
            refine lv_iload hx hb dX4_fill_81 (lv_at hl 6 rfl) ?_
            refine lv_iload hx hb dX4_fill_83 (lv_at hl 5 rfl) ?_
            refine z_ist (k := k) hx hb hI xw_ (by omega) (by omega) dX4_fill_85 (fun H locs F25 hw26 ho27 hI => ?_)
            have hc28 : F25 (B0 + 23) = some (zO 4 [.int th1, .ref (B0 + 24), .ref (B0 + 33), .ref (B0 + 38), .ref (B0 + 40)]) := (ho27 _ (zne m019 xw_ (fun q => by cases q))).trans m019
            have hc29 : F25 (B0 + 24) = some (zA3 G 4 ma19) := (ho27 _ (by omega)).trans m119
            have hc30 : F25 (B0 + 33) = some (zA3 G 2 mb19) := (ho27 _ (by omega)).trans m219
            have hc31 : F25 (B0 + 40) = some (zAI G 100 mc19) := (ho27 _ (by omega)).trans m319
            have hc32 : F25 (B0 + 25 + 2 * i8) = some (zO 3 [.ref (B0 + 26 + 2 * i8), .int (nI (sn σ i8))]) := (ho27 _ (zne xr_ xw_ (fun q => by cases q))).trans xr_
            refine lv_iinc (k := 6) (v := nI (k + 1)) (lv' := [(6, .int (nI (k + 1))), (5, .int (nI (b + 1))), (0, .ref (B0 + 23)), (1, .int (nI i8)), (2, .int (nI a11)), (3, .int (nI b12)), (4, .int zp3)]) hx hb dX4_fill_86 hl rfl (nI_add k 1) (by decide) rfl (fun ls hl => ?_)
            refine lv_goto (tgt := 40) hx hb dX4_fill_89 (by decide) ?_
            refine ih (k + 1, b + 1) _ ls H locs (by first | omega | (dsimp only; omega)) ?_ (lv_sub hl [2, 3, 4, 5, 6, 0, 1] rfl) hI
            refine ⟨⟨xn_, hc32, _, hw26, fun j hj => (upd_cg xf_ j hj).trans (fil_k hk1)⟩, (zSm.tr hs0 (zSm.r ho27)), by omega, by omega, ?_⟩
            rw [show k + 1 - a11 = (k - a11) + 1 by omega]; simp only [fild]; rw [show a11 + (k - a11) = k by omega, if_neg hq24, hbf]
          · rw [htk] at hq24
            refine lv_iconst (v := nI 0) hx hb dX4_fill_64 (by decide) ?_
            refine lv_goto (tgt := 69) hx hb dX4_fill_65 (by decide) ?_
            refine lv_iadd hx hb dX4_fill_69 ?_
            refine z_topi (nI_add b 0) ?_
            refine lv_istore (lv' := [(5, .int (nI (b + 0))), (0, .ref (B0 + 23)), (1, .int (nI i8)), (2, .int (nI a11)), (3, .int (nI b12)), (4, .int zp3), (6, .int (nI k))]) hx hb dX4_fill_70 hl (by decide) rfl (fun ls hl => ?_)
            refine lv_aload_n hx hb dX4_fill_72 rfl (lv_at hl 1 rfl) ?_
            refine z_get hx hb hts hown zlX4 rfl 1 (by decide) (hts _ q753) rfl hI m019 rfl dX4_fill_73 ?_
            refine lv_iload_n hx hb dX4_fill_76 rfl (lv_at hl 2 rfl) ?_
            refine z_ald3 (k := i8) (v := B0 + 25 + 2 * i8) hx hb hI m119 (by omega) (by omega) (me119 i8 (by omega)) dX4_fill_77 ?_
            refine z_getN hx hb hts hown zlX3 rfl 0 (by decide) (List.mem_of_getElem? (i := 3) rfl) rfl hI xr_ rfl dX4_fill_78 ?_
            refine lv_iload hx hb dX4_fill_81 (lv_at hl 6 rfl) ?_
            refine lv_iload hx hb dX4_fill_83 (lv_at hl 5 rfl) ?_
            refine z_ist (k := k) hx hb hI xw_ (by omega) (by omega) dX4_fill_85 (fun H locs F33 hw34 ho35 hI => ?_)
            have hc36 : F33 (B0 + 23) = some (zO 4 [.int th1, .ref (B0 + 24), .ref (B0 + 33), .ref (B0 + 38), .ref (B0 + 40)]) := (ho35 _ (zne m019 xw_ (fun q => by cases q))).trans m019
            have hc37 : F33 (B0 + 24) = some (zA3 G 4 ma19) := (ho35 _ (by omega)).trans m119
            have hc38 : F33 (B0 + 33) = some (zA3 G 2 mb19) := (ho35 _ (by omega)).trans m219
            have hc39 : F33 (B0 + 40) = some (zAI G 100 mc19) := (ho35 _ (by omega)).trans m319
            have hc40 : F33 (B0 + 25 + 2 * i8) = some (zO 3 [.ref (B0 + 26 + 2 * i8), .int (nI (sn σ i8))]) := (ho35 _ (zne xr_ xw_ (fun q => by cases q))).trans xr_
            refine lv_iinc (k := 6) (v := nI (k + 1)) (lv' := [(6, .int (nI (k + 1))), (5, .int (nI (b + 0))), (0, .ref (B0 + 23)), (1, .int (nI i8)), (2, .int (nI a11)), (3, .int (nI b12)), (4, .int zp3)]) hx hb dX4_fill_86 hl rfl (nI_add k 1) (by decide) rfl (fun ls hl => ?_)
            refine lv_goto (tgt := 40) hx hb dX4_fill_89 (by decide) ?_
            refine ih (k + 1, b + 0) _ ls H locs (by first | omega | (dsimp only; omega)) ?_ (lv_sub hl [2, 3, 4, 5, 6, 0, 1] rfl) hI
            refine ⟨⟨xn_, hc40, _, hw34, fun j hj => (upd_cg xf_ j hj).trans (fil_k hk1)⟩, (zSm.tr hs0 (zSm.r ho35)), by omega, by omega, ?_⟩
            rw [show k + 1 - a11 = (k - a11) + 1 by omega]; simp only [fild]; rw [show a11 + (k - a11) = k by omega, if_pos hq24, hbf]
    · refine lv_iconst (v := nI 0) hx hb dX4_fill_32 (by decide) ?_
      refine z_ri hx hb hr hlocks hI ?_ (Nat.le_of_ble_eq_true rfl) (Nat.le_of_ble_eq_true rfl) dX4_fill_33
      exact ⟨_, rfl, th1, σ, hM1, hz2, fun q => absurd q hq7, fun _ => rfl, hmf1⟩
  · refine lv_aload_n hx hb dX4_fill_1 rfl (lv_at hl 0 rfl) ?_
    refine lv_iload_n hx hb dX4_fill_2 rfl (lv_at hl 1 rfl) ?_
    refine lv_iload_n hx hb dX4_fill_3 rfl (lv_at hl 2 rfl) ?_
    refine lv_iload_n hx hb dX4_fill_4 rfl (lv_at hl 3 rfl) ?_
    refine z_calli hI (z_V (As := [.int zp0, .int zp1, .int zp2]) (rest := [.ref (B0 + 23)]) ⟨hx, hb, hml, hown, hts⟩ hI m01 rfl (c_X4_isPart l G B0 F σ th zp0 zp1 zp2 hM hK) (z_cwV vX4_isPart hts q813 ⟨Nat.le_of_ble_eq_true rfl, Nat.le_of_ble_eq_true rfl⟩) rfl hl.1 rfl (lv_room (Nat.le_of_ble_eq_true rfl)) dX4_fill_5 ⟨Nat.le_of_ble_eq_true rfl, Nat.le_of_ble_eq_true rfl⟩) (fun r42 F41 H locs hp43 hI => ?_)
    obtain ⟨rfl, rfl⟩ := hp43
    refine z_ifp_eq (tgt := 23) hx hb dX4_fill_8 (by decide) (fun hq44 => ?_) (fun hq44 => ?_)
    · refine lv_iconst (v := nI 0) hx hb dX4_fill_23 (by decide) ?_
      refine jn24 (nI 0) _ ls H locs ?_ (lv_sub hl [0, 1, 2, 3, 4] rfl) hI
      exact ⟨rfl, pI_f (fun z => by have z2 := z.1; first | exact hq44 z2 | (first | exact hq44 z2 | exact i_le_n.mp z2 hq44 | exact l_le_n.mp z2 (lg_gt.mp hq44) | exact l_le_n.mp z2 (lg_lt.mp hq44) | exact hq44 ((in_pl1 (by omega)).mpr z2) | omega))⟩
    · refine lv_iload hx hb dX4_fill_11 (lv_at hl 4 rfl) ?_
      refine z_calli hI (z_S (As := [.int zp3]) (rest := [.ref (B0 + 23)]) ⟨hx, hb, hml, hown, hts⟩ hI (c_X4_isWord l G B0 F zp3) (z_cwS vX4_isWord hts q779 ⟨Nat.le_of_ble_eq_true rfl, Nat.le_of_ble_eq_true rfl⟩) rfl hl.1 rfl (lv_room (Nat.le_of_ble_eq_true rfl)) dX4_fill_13 ⟨Nat.le_of_ble_eq_true rfl, Nat.le_of_ble_eq_true rfl⟩) (fun r46 F45 H locs hp47 hI => ?_)
      obtain ⟨rfl, rfl⟩ := hp47
      refine z_ifp_eq (tgt := 23) hx hb dX4_fill_16 (by decide) (fun hq48 => ?_) (fun hq48 => ?_)
      · refine lv_iconst (v := nI 0) hx hb dX4_fill_23 (by decide) ?_
        refine jn24 (nI 0) _ ls H locs ?_ (lv_sub hl [0, 1, 2, 3, 4] rfl) hI
        exact ⟨rfl, pI_f (fun z => by have z2 := z.2; first | exact hq48 z2 | (first | exact hq48 z2 | exact i_le_n.mp z2 hq48 | exact l_le_n.mp z2 (lg_gt.mp hq48) | exact l_le_n.mp z2 (lg_lt.mp hq48) | exact hq48 ((in_pl1 (by omega)).mpr z2) | omega))⟩
      · refine lv_iconst (v := nI 1) hx hb dX4_fill_19 (by decide) ?_
        refine lv_goto (tgt := 24) hx hb dX4_fill_20 (by decide) ?_
        refine jn24 (nI 1) _ ls H locs ?_ (lv_sub hl [0, 1, 2, 3, 4] rfl) hI
        exact ⟨rfl, pI_t ⟨(by first | exact hq44 | exact i_le_n.mpr hq44 | exact l_le_n.mpr (fun q => hq44 (lg_gt.mpr q)) | exact l_le_n.mpr (fun q => hq44 (lg_lt.mpr q)) | exact (in_pl1 (by omega)).mp hq44 | omega), (by first | exact hq48 | exact i_le_n.mpr hq48 | exact l_le_n.mpr (fun q => hq48 (lg_gt.mpr q)) | exact l_le_n.mpr (fun q => hq48 (lg_lt.mpr q)) | exact (in_pl1 (by omega)).mp hq48 | omega)⟩⟩

set_option maxHeartbeats 4000000 in
set_option maxRecDepth 100000 in
theorem c_X4_near (l : Launch) (G : zK) (B0 : Nat) (F : zM) (σ : Sg) (th zp0 zp1 zp2 : Int32) (hM : MS G B0 F σ th) (hK : SgOk σ) : Met l yX4_near (Cond.code yX4_near cX4_near 7 (some FieldType.int) :: zW) (zRm 3 67 0 0) (va_Pc [.ref (B0 + 23), .int zp0, .int zp1, .int zp2] (zPre G B0 F)) (zQi G B0 (zRP G B0 F σ (oA_near σ zp0 zp1 zp2) (oB_near σ zp0 zp1 zp2) (oC_near σ zp0 zp1 zp2) (ss_near σ zp0 zp1 zp2) (rr_near σ zp0 zp1 zp2))) 0 0 (zA B0) := by
  refine z_of (own := RX4) (by decide) rfl (Nat.le_of_ble_eq_true rfl) ?_
  intro p e s m below meth c ls hx hb hr hml hown hlocks hnm hts hl hI
  have hl : lv_has ls 7 [(0, .ref (B0 + 23)), (1, .int zp0), (2, .int zp1), (3, .int zp2)] := hl
  obtain ⟨m01, ⟨ma1, m11, me11⟩, ⟨mb1, m21, me21⟩, ⟨mc1, m31, me31⟩, ⟨n91, t91, m41⟩, mT1, mP1⟩ := id hM
  refine lv_aload_n hx hb dX4_near_0 rfl (lv_at hl 0 rfl) ?_
  refine z_join (σ := Int32) (fun x : Int32 => [(0, .ref (B0 + 23)), (1, .int zp0), (2, .int zp1), (3, .int zp2)]) (fun x : Int32 => [.int x, .ref (B0 + 23)]) (fun (x : Int32) (Fx : zM) => F = Fx ∧ x = pI ((okT zp0 ∧ okL (sn σ (ix zp0)) zp1) ∧ okW zp2)) 22 7 G B0 ?_ (fun jn22 => ?_)
  · intro x F2 ls H locs hi hl hI
    have hl : lv_has ls 7 [(0, .ref (B0 + 23)), (1, .int zp0), (2, .int zp1), (3, .int zp2)] := hl
    obtain ⟨hF, hx9⟩ := hi
    subst hF
    subst hx9
    refine lv_iconst (v := nI 1) hx hb dX4_near_22 (by decide) ?_
    refine z_topi (pI_1 (P := True) trivial) ?_
    refine lv_iconst (v := nI 1) hx hb dX4_near_23 (by decide) ?_
    refine z_topi (pI_1 (P := True) trivial) ?_
    refine z_calli hI (z_V (As := [.int (pI ((okT zp0 ∧ okL (sn σ (ix zp0)) zp1) ∧ okW zp2)), .int (pI (True)), .int (pI (True))]) (rest := []) ⟨hx, hb, hml, hown, hts⟩ hI m01 rfl (c_X4_passes l G B0 F σ th ((okT zp0 ∧ okL (sn σ (ix zp0)) zp1) ∧ okW zp2) (True) (True) hM) (z_cwV vX4_passes hts q788 ⟨Nat.le_of_ble_eq_true rfl, Nat.le_of_ble_eq_true rfl⟩) rfl hl.1 rfl (lv_room (Nat.le_of_ble_eq_true rfl)) dX4_near_24 ⟨Nat.le_of_ble_eq_true rfl, Nat.le_of_ble_eq_true rfl⟩) (fun r4 F3 H locs hp5 hI => ?_)
    obtain ⟨⟨th1, hM1, hz1⟩, rfl, ho1⟩ := hp5
    have hp1 : ((okT zp0 ∧ okL (sn σ (ix zp0)) zp1) ∧ okW zp2) ↔ oA_near σ zp0 zp1 zp2 := ⟨fun z => ⟨z.1.1, z.1.2, z.2⟩, fun z => ⟨⟨z.1, z.2.1⟩, z.2.2⟩⟩
    have hp2 : oA_near σ zp0 zp1 zp2 → ((True) ↔ oB_near σ zp0 zp1 zp2) := fun _ => Iff.rfl
    have hp3 : oA_near σ zp0 zp1 zp2 → oB_near σ zp0 zp1 zp2 → ((True) ↔ oC_near σ zp0 zp1 zp2) := fun _ _ => Iff.rfl
    have hz2 := zTh_cg hp1 hp2 hp3 hz1
    refine z_topi (pI_cg (zC_cg hp1 hp2 hp3)) ?_
    have hmf1 : zMf B0 F F3 := fun q hq => ho1 q (by omega)
    obtain ⟨m06, ⟨ma6, m16, me16⟩, ⟨mb6, m26, me26⟩, ⟨mc6, m36, me36⟩, ⟨n96, t96, m46⟩, mT6, mP6⟩ := id hM1
    refine z_ifp_ne (tgt := 32) hx hb dX4_near_27 (by decide) (fun hq7 => ?_) (fun hq7 => ?_)
    · obtain ⟨hA, hB, hC0⟩ := id hq7
      obtain ⟨hc0, hc1, hc2⟩ := id hA
      obtain ⟨i8, hi9, rfl⟩ := id hc0
      have hix10 : ix (nI i8) = i8 := ix_nI (by omega)
      have hl : lv_has ls 7 [(0, .ref (B0 + 23)), (1, .int (nI i8)), (2, .int zp1), (3, .int zp2)] := hl
      have hsbi8 := (hK.1 i8 hi9).1
      obtain ⟨j11, hj12, rfl⟩ := id hc1
      simp only [hix10] at hj12
      have hix13 : ix (nI j11) = j11 := ix_nI (by omega)
      have hl : lv_has ls 7 [(0, .ref (B0 + 23)), (1, .int (nI i8)), (2, .int (nI j11)), (3, .int zp2)] := hl
      have hx14 := mT6 i8 hi9
      obtain ⟨xnhx14, xrhx14, fhx14, xwhx14, xfhx14⟩ := id hx14
      refine lv_iconst (v := -1) hx hb dX4_near_32 (by decide) ?_
      refine lv_istore (lv' := [(4, .int (-1)), (0, .ref (B0 + 23)), (1, .int (nI i8)), (2, .int (nI j11)), (3, .int zp2)]) hx hb dX4_near_33 hl (by decide) rfl (fun ls hl => ?_)
      refine lv_iconst (v := nI 0) hx hb dX4_near_35 (by decide) ?_
      refine lv_istore (lv' := [(5, .int (nI 0)), (4, .int (-1)), (0, .ref (B0 + 23)), (1, .int (nI i8)), (2, .int (nI j11)), (3, .int zp2)]) hx hb dX4_near_36 hl (by decide) rfl (fun ls hl => ?_)
      refine z_loop (σ := Nat × Int32) (fun xx : Nat × Int32 => match xx with | (k, a) => [(0, .ref (B0 + 23)), (1, .int (nI i8)), (2, .int (nI j11)), (3, .int zp2), (5, .int (nI k)), (4, .int a)]) (fun (xx : Nat × Int32) (Fx : zM) => match xx with | (k, a) => F3 = Fx ∧ k ≤ sn σ i8 ∧ a = rI (nrt (st σ i8) zp2 j11 k)) (fun xx : Nat × Int32 => match xx with | (k, a) => sn σ i8 - k) (0, -1) (nL := 7) (st := []) ?_ (lv_sub hl [2, 3, 4, 5, 0, 1] rfl) hI ?_
      · exact ⟨rfl, Nat.zero_le _, rfl⟩
      · intro xx F15 ls H locs hi hl hI ih
        obtain ⟨k, a⟩ := xx
        have hl : lv_has ls 7 [(0, .ref (B0 + 23)), (1, .int (nI i8)), (2, .int (nI j11)), (3, .int zp2), (5, .int (nI k)), (4, .int a)] := hl
        obtain ⟨hF, hk, ha⟩ := hi
        subst hF
        refine lv_iload hx hb dX4_near_38 (lv_at hl 4 rfl) ?_
        refine lv_aload_n hx hb dX4_near_40 rfl (lv_at hl 0 rfl) ?_
        refine z_get hx hb hts hown zlX4 rfl 1 (by decide) (hts _ q753) rfl hI m06 rfl dX4_near_41 ?_
        refine lv_iload_n hx hb dX4_near_44 rfl (lv_at hl 1 rfl) ?_
        refine z_ald3 (k := i8) (v := B0 + 25 + 2 * i8) hx hb hI m16 (by omega) (by omega) (me16 i8 (by omega)) dX4_near_45 ?_
        refine z_getN hx hb hts hown zlX3 rfl 1 (by decide) (List.mem_of_getElem? (i := 2) rfl) rfl hI xrhx14 rfl dX4_near_46 ?_
        refine z_icmp_ge (tgt := 117) (a := k) (b := sn σ i8) hx hb dX4_near_49 (by decide) (by omega) (fun hq16 => ?_) (fun hq16 => ?_)
        · refine lv_iload hx hb dX4_near_117 (lv_at hl 5 rfl) ?_
          refine z_ri hx hb hr hlocks hI ?_ (Nat.le_of_ble_eq_true rfl) (Nat.le_of_ble_eq_true rfl) dX4_near_119
          have hkn : k = sn σ i8 := by omega
          refine ⟨_, rfl, th1, _, hM1, hz2, fun _ => ⟨(by simp only [oA_near, oB_near, oC_near, rr_near, ss_near, hix10, hix13] <;> exact rfl), (by simp only [oA_near, oB_near, oC_near, rr_near, ss_near, hix10, hix13] <;> (rw [ha, hkn]))⟩, fun q => absurd ⟨hA, hB, hC0⟩ q, hmf1⟩
        · refine lv_aload_n hx hb dX4_near_52 rfl (lv_at hl 0 rfl) ?_
          refine z_get hx hb hts hown zlX4 rfl 1 (by decide) (hts _ q753) rfl hI m06 rfl dX4_near_53 ?_
          refine lv_iload_n hx hb dX4_near_56 rfl (lv_at hl 1 rfl) ?_
          refine z_ald3 (k := i8) (v := B0 + 25 + 2 * i8) hx hb hI m16 (by omega) (by omega) (me16 i8 (by omega)) dX4_near_57 ?_
          refine lv_iload hx hb dX4_near_58 (lv_at hl 4 rfl) ?_
          refine z_calli hI (z_V (As := [.int (nI k)]) (rest := []) ⟨hx, hb, hml, hown, hts⟩ hI xrhx14 rfl (c_X3_at l G B0 F3 (B0 + 25 + 2 * i8) (B0 + 26 + 2 * i8) 60 (sn σ i8) (st σ i8) k ⟨xnhx14, xrhx14, fhx14, xwhx14, xfhx14⟩ (by omega) (by omega)) (z_cwV vX3_at hts q829 ⟨Nat.le_of_ble_eq_true rfl, Nat.le_of_ble_eq_true rfl⟩) rfl hl.1 rfl (lv_room (Nat.le_of_ble_eq_true rfl)) dX4_near_60 ⟨Nat.le_of_ble_eq_true rfl, Nat.le_of_ble_eq_true rfl⟩) (fun r18 F17 H locs hp19 hI => ?_)
          obtain ⟨rfl, rfl⟩ := hp19
          refine lv_iload_n hx hb dX4_near_63 rfl (lv_at hl 3 rfl) ?_
          refine lv_icmp_ne (tgt := 71) hx hb dX4_near_64 (by decide) (fun hq20 => ?_) (fun hq20 => ?_)
          · refine lv_iconst (v := nI 0) hx hb dX4_near_71 (by decide) ?_
            refine lv_istore (lv' := [(6, .int (nI 0)), (0, .ref (B0 + 23)), (1, .int (nI i8)), (2, .int (nI j11)), (3, .int zp2), (5, .int (nI k)), (4, .int a)]) hx hb dX4_near_72 hl (by decide) rfl (fun ls hl => ?_)
            refine lv_iload hx hb dX4_near_74 (lv_at hl 0 rfl) ?_
            refine z_if_eq (tgt := 107) (a := 0) hx hb dX4_near_76 (by decide) (by omega) (fun hq21 => ?_) (fun hq21 => ?_)
            · refine lv_iload hx hb dX4_near_107 (lv_at hl 6 rfl) ?_
              refine lv_istore (lv' := [(4, .int a), (6, .int (nI 0)), (0, .ref (B0 + 23)), (1, .int (nI i8)), (2, .int (nI j11)), (3, .int zp2), (5, .int (nI k))]) hx hb dX4_near_109 hl (by decide) rfl (fun ls hl => ?_)
              refine lv_iinc (k := 6) (v := nI (k + 1)) (lv' := [(5, .int (nI (k + 1))), (4, .int a), (6, .int (nI 0)), (0, .ref (B0 + 23)), (1, .int (nI i8)), (2, .int (nI j11)), (3, .int zp2)]) hx hb dX4_near_111 hl rfl (nI_add k 1) (by decide) rfl (fun ls hl => ?_)
              refine lv_goto (tgt := 38) hx hb dX4_near_114 (by decide) ?_
              refine ih (k + 1, a) _ ls H locs (by first | omega | (dsimp only; omega)) ?_ (lv_sub hl [3, 4, 5, 6, 0, 1] rfl) hI
              exact ⟨rfl, by omega, by rw [nrt_no hq20]; exact ha⟩
            · omega
          · refine lv_iconst (v := nI 1) hx hb dX4_near_67 (by decide) ?_
            refine lv_goto (tgt := 72) hx hb dX4_near_68 (by decide) ?_
            refine lv_istore (lv' := [(6, .int (nI 1)), (0, .ref (B0 + 23)), (1, .int (nI i8)), (2, .int (nI j11)), (3, .int zp2), (5, .int (nI k)), (4, .int a)]) hx hb dX4_near_72 hl (by decide) rfl (fun ls hl => ?_)
            refine lv_iload hx hb dX4_near_74 (lv_at hl 0 rfl) ?_
            refine z_if_eq (tgt := 107) (a := 1) hx hb dX4_near_76 (by decide) (by omega) (fun hq22 => ?_) (fun hq22 => ?_)
            · omega
            · refine lv_iload hx hb dX4_near_79 (lv_at hl 6 rfl) ?_
              refine lv_iconst (v := -1) hx hb dX4_near_81 (by decide) ?_
              refine lv_icmp_eq (tgt := 102) hx hb dX4_near_82 (by decide) (fun hq23 => ?_) (fun hq23 => ?_)
              · have hno : nrt (st σ i8) zp2 j11 k = none := (rI_m1 (b := 61) (fun j hj => by have := nrt_lt hj; omega) (by decide)).mp (ha ▸ hq23)
                refine lv_iload hx hb dX4_near_102 (lv_at hl 5 rfl) ?_
                refine lv_goto (tgt := 109) hx hb dX4_near_104 (by decide) ?_
                refine lv_istore (lv' := [(4, .int (nI k)), (6, .int (nI 1)), (0, .ref (B0 + 23)), (1, .int (nI i8)), (2, .int (nI j11)), (3, .int zp2), (5, .int (nI k))]) hx hb dX4_near_109 hl (by decide) rfl (fun ls hl => ?_)
                refine lv_iinc (k := 6) (v := nI (k + 1)) (lv' := [(5, .int (nI (k + 1))), (4, .int (nI k)), (6, .int (nI 1)), (0, .ref (B0 + 23)), (1, .int (nI i8)), (2, .int (nI j11)), (3, .int zp2)]) hx hb dX4_near_111 hl rfl (nI_add k 1) (by decide) rfl (fun ls hl => ?_)
                refine lv_goto (tgt := 38) hx hb dX4_near_114 (by decide) ?_
                refine ih (k + 1, nI k) _ ls H locs (by first | omega | (dsimp only; omega)) ?_ (lv_sub hl [3, 4, 5, 6, 0, 1] rfl) hI
                exact ⟨rfl, by omega, by rw [nrt_n hq20 hno]; rfl⟩
              · obtain ⟨bb, hno⟩ : ∃ bb, nrt (st σ i8) zp2 j11 k = some bb := by
                  cases hz : nrt (st σ i8) zp2 j11 k with
                  | none => exact absurd (ha.trans (by rw [hz]; rfl)) hq23
                  | some z => exact ⟨z, rfl⟩
                have hbb := nrt_lt hno
                rw [hno] at ha
                subst ha
                have hd1 : dst k j11 ≤ 60 := by unfold dst; omega
                have hd2 : dst bb j11 ≤ 60 := by unfold dst; omega
                have hl : lv_has ls 7 [(6, .int (nI 1)), (0, .ref (B0 + 23)), (1, .int (nI i8)), (2, .int (nI j11)), (3, .int zp2), (5, .int (nI k)), (4, .int (nI bb))] := hl
                refine lv_iload hx hb dX4_near_85 (lv_at hl 5 rfl) ?_
                refine lv_iload_n hx hb dX4_near_87 rfl (lv_at hl 3 rfl) ?_
                refine lv_isub hx hb dX4_near_88 ?_
                refine z_calli hI (z_S (As := [.int ((nI k) - (nI j11))]) (rest := []) ⟨hx, hb, hml, hown, hts⟩ hI (c_J9_abs_0f7a4 l G B0 F3 ((nI k) - (nI j11))) (z_cwS vJ9_abs_0f7a4 hts q1028 ⟨Nat.le_of_ble_eq_true rfl, Nat.le_of_ble_eq_true rfl⟩) rfl hl.1 rfl (lv_room (Nat.le_of_ble_eq_true rfl)) dX4_near_89 ⟨Nat.le_of_ble_eq_true rfl, Nat.le_of_ble_eq_true rfl⟩) (fun r25 F24 H locs hp26 hI => ?_)
                obtain ⟨rfl, rfl⟩ := hp26
                refine z_topi (zabs_dst (a := k) (b := j11) (by omega) (by omega)) ?_
                refine lv_iload hx hb dX4_near_92 (lv_at hl 6 rfl) ?_
                refine lv_iload_n hx hb dX4_near_94 rfl (lv_at hl 3 rfl) ?_
                refine lv_isub hx hb dX4_near_95 ?_
                refine z_calli hI (z_S (As := [.int ((nI bb) - (nI j11))]) (rest := [.int (nI (dst k j11))]) ⟨hx, hb, hml, hown, hts⟩ hI (c_J9_abs_0f7a4 l G B0 F3 ((nI bb) - (nI j11))) (z_cwS vJ9_abs_0f7a4 hts q1028 ⟨Nat.le_of_ble_eq_true rfl, Nat.le_of_ble_eq_true rfl⟩) rfl hl.1 rfl (lv_room (Nat.le_of_ble_eq_true rfl)) dX4_near_96 ⟨Nat.le_of_ble_eq_true rfl, Nat.le_of_ble_eq_true rfl⟩) (fun r28 F27 H locs hp29 hI => ?_)
                obtain ⟨rfl, rfl⟩ := hp29
                refine z_topi (zabs_dst (a := bb) (b := j11) (by omega) (by omega)) ?_
                refine z_icmp_ge (tgt := 107) (a := dst k j11) (b := dst bb j11) hx hb dX4_near_99 (by decide) (by omega) (fun hq30 => ?_) (fun hq30 => ?_)
                · refine lv_iload hx hb dX4_near_107 (lv_at hl 6 rfl) ?_
                  refine lv_istore (lv' := [(4, .int (nI bb)), (6, .int (nI 1)), (0, .ref (B0 + 23)), (1, .int (nI i8)), (2, .int (nI j11)), (3, .int zp2), (5, .int (nI k))]) hx hb dX4_near_109 hl (by decide) rfl (fun ls hl => ?_)
                  refine lv_iinc (k := 6) (v := nI (k + 1)) (lv' := [(5, .int (nI (k + 1))), (4, .int (nI bb)), (6, .int (nI 1)), (0, .ref (B0 + 23)), (1, .int (nI i8)), (2, .int (nI j11)), (3, .int zp2)]) hx hb dX4_near_111 hl rfl (nI_add k 1) (by decide) rfl (fun ls hl => ?_)
                  refine lv_goto (tgt := 38) hx hb dX4_near_114 (by decide) ?_
                  refine ih (k + 1, nI bb) _ ls H locs (by first | omega | (dsimp only; omega)) ?_ (lv_sub hl [3, 4, 5, 6, 0, 1] rfl) hI
                  exact ⟨rfl, by omega, by rw [nrt_f hno hq30]; rfl⟩
                · refine lv_iload hx hb dX4_near_102 (lv_at hl 5 rfl) ?_
                  refine lv_goto (tgt := 109) hx hb dX4_near_104 (by decide) ?_
                  refine lv_istore (lv' := [(4, .int (nI k)), (6, .int (nI 1)), (0, .ref (B0 + 23)), (1, .int (nI i8)), (2, .int (nI j11)), (3, .int zp2), (5, .int (nI k))]) hx hb dX4_near_109 hl (by decide) rfl (fun ls hl => ?_)
                  refine lv_iinc (k := 6) (v := nI (k + 1)) (lv' := [(5, .int (nI (k + 1))), (4, .int (nI k)), (6, .int (nI 1)), (0, .ref (B0 + 23)), (1, .int (nI i8)), (2, .int (nI j11)), (3, .int zp2)]) hx hb dX4_near_111 hl rfl (nI_add k 1) (by decide) rfl (fun ls hl => ?_)
                  refine lv_goto (tgt := 38) hx hb dX4_near_114 (by decide) ?_
                  refine ih (k + 1, nI k) _ ls H locs (by first | omega | (dsimp only; omega)) ?_ (lv_sub hl [3, 4, 5, 6, 0, 1] rfl) hI
                  exact ⟨rfl, by omega, by rw [nrt_s hq20 hno hq30]; rfl⟩
    · refine lv_iconst (v := nI 0) hx hb dX4_near_30 (by decide) ?_
      refine z_ri hx hb hr hlocks hI ?_ (Nat.le_of_ble_eq_true rfl) (Nat.le_of_ble_eq_true rfl) dX4_near_31
      exact ⟨_, rfl, th1, σ, hM1, hz2, fun q => absurd q hq7, fun _ => rfl, hmf1⟩
  · refine lv_aload_n hx hb dX4_near_1 rfl (lv_at hl 0 rfl) ?_
    refine lv_iload_n hx hb dX4_near_2 rfl (lv_at hl 1 rfl) ?_
    refine lv_iload_n hx hb dX4_near_3 rfl (lv_at hl 2 rfl) ?_
    refine z_calli hI (z_V (As := [.int zp0, .int zp1]) (rest := [.ref (B0 + 23)]) ⟨hx, hb, hml, hown, hts⟩ hI m01 rfl (c_X4_isPlace l G B0 F σ th zp0 zp1 hM hK) (z_cwV vX4_isPlace hts q825 ⟨Nat.le_of_ble_eq_true rfl, Nat.le_of_ble_eq_true rfl⟩) rfl hl.1 rfl (lv_room (Nat.le_of_ble_eq_true rfl)) dX4_near_4 ⟨Nat.le_of_ble_eq_true rfl, Nat.le_of_ble_eq_true rfl⟩) (fun r32 F31 H locs hp33 hI => ?_)
    obtain ⟨rfl, rfl⟩ := hp33
    refine z_ifp_eq (tgt := 21) hx hb dX4_near_7 (by decide) (fun hq34 => ?_) (fun hq34 => ?_)
    · refine lv_iconst (v := nI 0) hx hb dX4_near_21 (by decide) ?_
      refine jn22 (nI 0) _ ls H locs ?_ (lv_sub hl [0, 1, 2, 3] rfl) hI
      exact ⟨rfl, pI_f (fun z => by have z2 := z.1; first | exact hq34 z2 | (first | exact hq34 z2 | exact i_le_n.mp z2 hq34 | exact l_le_n.mp z2 (lg_gt.mp hq34) | exact l_le_n.mp z2 (lg_lt.mp hq34) | exact hq34 ((in_pl1 (by omega)).mpr z2) | omega))⟩
    · refine lv_iload_n hx hb dX4_near_10 rfl (lv_at hl 3 rfl) ?_
      refine z_calli hI (z_S (As := [.int zp2]) (rest := [.ref (B0 + 23)]) ⟨hx, hb, hml, hown, hts⟩ hI (c_X4_isWord l G B0 F zp2) (z_cwS vX4_isWord hts q779 ⟨Nat.le_of_ble_eq_true rfl, Nat.le_of_ble_eq_true rfl⟩) rfl hl.1 rfl (lv_room (Nat.le_of_ble_eq_true rfl)) dX4_near_11 ⟨Nat.le_of_ble_eq_true rfl, Nat.le_of_ble_eq_true rfl⟩) (fun r36 F35 H locs hp37 hI => ?_)
      obtain ⟨rfl, rfl⟩ := hp37
      refine z_ifp_eq (tgt := 21) hx hb dX4_near_14 (by decide) (fun hq38 => ?_) (fun hq38 => ?_)
      · refine lv_iconst (v := nI 0) hx hb dX4_near_21 (by decide) ?_
        refine jn22 (nI 0) _ ls H locs ?_ (lv_sub hl [0, 1, 2, 3] rfl) hI
        exact ⟨rfl, pI_f (fun z => by have z2 := z.2; first | exact hq38 z2 | (first | exact hq38 z2 | exact i_le_n.mp z2 hq38 | exact l_le_n.mp z2 (lg_gt.mp hq38) | exact l_le_n.mp z2 (lg_lt.mp hq38) | exact hq38 ((in_pl1 (by omega)).mpr z2) | omega))⟩
      · refine lv_iconst (v := nI 1) hx hb dX4_near_17 (by decide) ?_
        refine lv_goto (tgt := 22) hx hb dX4_near_18 (by decide) ?_
        refine jn22 (nI 1) _ ls H locs ?_ (lv_sub hl [0, 1, 2, 3] rfl) hI
        exact ⟨rfl, pI_t ⟨(by first | exact hq34 | exact i_le_n.mpr hq34 | exact l_le_n.mpr (fun q => hq34 (lg_gt.mpr q)) | exact l_le_n.mpr (fun q => hq34 (lg_lt.mpr q)) | exact (in_pl1 (by omega)).mp hq34 | omega), (by first | exact hq38 | exact i_le_n.mpr hq38 | exact l_le_n.mpr (fun q => hq38 (lg_gt.mpr q)) | exact l_le_n.mpr (fun q => hq38 (lg_lt.mpr q)) | exact (in_pl1 (by omega)).mp hq38 | omega)⟩⟩

