theorem stV_q {σ : Sg} {w : Int32} {T q : Nat} (hp : q < 100) : stV σ w (100 * T + q) ↔ q < sn σ T ∧ st σ T q = w := by
  unfold stV
  rw [show (100 * T + q) % 100 = q by omega, show (100 * T + q) / 100 = T by omega]
theorem st_end {σ : Sg} {w : Int32} {T n : Nat} (hn : sn σ T ≤ n) (h : n ≤ 60) : zct (stV σ w) (100 * (T + 1)) = zct (stV σ w) (100 * T + n) := by
  refine zct_run (i := 100 * T + n) (by omega) (fun j h1 h2 z => ?_)
  have h3 := z.1
  rw [show j / 100 = T by omega] at h3
  omega
theorem st_fnd {P : Nat → Prop} {q v N : Nat} (hq : P q) (hc : zct P q = v) (h : q < N) : zfst (fun j => P j ∧ zct P j = v) 0 N = some q := by
  refine zfst_eq ⟨hq, hc⟩ (Nat.zero_le _) (by omega) (fun j _ hj z => ?_)
  have h1 := zct_t z.1
  have h2 := zct_mono P (show j + 1 ≤ q by omega)
  omega
theorem st_lt {P : Nat → Prop} {q v N : Nat} (hq : P q) (hc : zct P q = v) (h : q < N) : v < zct P N := by
  have h1 := zct_t hq
  have h2 := zct_mono P (show q + 1 ≤ N by omega)
  omega
/-- what is known at a place q: not found, so many left; or found -/
def stI (σ : Sg) (w : Int32) (v q : Nat) (f a : Int32) : Prop := (f = -1 ∧ a = nI (v - zct (stV σ w) q) ∧ zct (stV σ w) q ≤ v) ∨ ∃ q0, q0 < 400 ∧ f = nI q0 ∧ stV σ w q0 ∧ zct (stV σ w) q0 = v
theorem stI_no {σ : Sg} {w : Int32} {v T q : Nat} {a : Int32} (h : stI σ w v (100 * T + q) (-1) a) (hp : q < 100) (hq : ¬ st σ T q = w) : stI σ w v (100 * T + (q + 1)) (-1) a := by
  rcases h with ⟨h1, h2, h3⟩ | ⟨q0, h0, h1, -⟩
  · have e : zct (stV σ w) (100 * T + q + 1) = zct (stV σ w) (100 * T + q) := zct_f (fun z => hq ((stV_q hp).mp z).2)
    exact Or.inl ⟨rfl, by rw [← Nat.add_assoc, e]; exact h2, by rw [← Nat.add_assoc, e]; exact h3⟩
  · exact absurd h1.symm (nI_m1 (by omega))
theorem stI_a {σ : Sg} {w : Int32} {v q : Nat} {a : Int32} (h : stI σ w v q (-1) a) : a = nI (v - zct (stV σ w) q) ∧ zct (stV σ w) q ≤ v := by
  rcases h with ⟨h1, h2, h3⟩ | ⟨q0, h0, h1, -⟩
  · exact ⟨h2, h3⟩
  · exact absurd h1.symm (nI_m1 (by omega))
theorem stI_up {σ : Sg} {w : Int32} {v T q : Nat} {a : Int32} (h : stI σ w v (100 * T + q) (-1) a) (hp : q < 100) (hn : q < sn σ T) (hq : st σ T q = w) (ha : ¬ a = 0) (hv : v < 2 ^ 31) : stI σ w v (100 * T + (q + 1)) (-1) (a + (-1)) := by
  obtain ⟨h2, h3⟩ := stI_a h
  have e : zct (stV σ w) (100 * T + q + 1) = zct (stV σ w) (100 * T + q) + 1 := zct_t ((stV_q hp).mpr ⟨hn, hq⟩)
  have h4 : v - zct (stV σ w) (100 * T + q) ≠ 0 := fun z => ha (by rw [h2, z]; rfl)
  obtain ⟨d, hd⟩ : ∃ d, v - zct (stV σ w) (100 * T + q) = d + 1 := ⟨v - zct (stV σ w) (100 * T + q) - 1, by omega⟩
  refine Or.inl ⟨rfl, ?_, by rw [← Nat.add_assoc, e]; omega⟩
  rw [← Nat.add_assoc, e, h2, hd, show v - (zct (stV σ w) (100 * T + q) + 1) = d by omega]
  exact pk_m1 d
theorem stI_f {σ : Sg} {w : Int32} {v T q : Nat} {a b : Int32} {q1 : Nat} (h : stI σ w v (100 * T + q) (-1) a) (hT : T < 4) (hp : q < 100) (hn : q < sn σ T) (hq : st σ T q = w) (ha : a = 0) (hv : v < 2 ^ 31) : stI σ w v q1 (nI (100 * T + q)) b := by
  obtain ⟨h2, h3⟩ := stI_a h
  have h4 : v - zct (stV σ w) (100 * T + q) = 0 := (nI_eq (by omega) (by decide)).mp (h2.symm.trans (ha.trans nI_0.symm))
  exact Or.inr ⟨_, by omega, rfl, (stV_q hp).mpr ⟨hn, hq⟩, by omega⟩
theorem stI_mv {σ : Sg} {w : Int32} {v q q1 : Nat} {f a : Int32} (h : stI σ w v q f a) (hc : f = -1 → zct (stV σ w) q1 = zct (stV σ w) q) : stI σ w v q1 f a := by
  rcases h with ⟨h1, h2, h3⟩ | h
  · exact Or.inl ⟨h1, by rw [hc h1]; exact h2, by rw [hc h1]; exact h3⟩
  · exact Or.inr h
theorem stI_e {σ : Sg} {zp0 : Int32} {v q : Nat} {f a : Int32} (hv : v < 2 ^ 31) (h : stI σ zp0 v q f a) (hq : 400 ≤ q) : (¬ f = -1 ↔ oB_stands σ zp0 (nI v)) ∧ (¬ f = -1 → f = rr_stands σ zp0 (nI v)) := by
  unfold oB_stands rr_stands
  rw [ix_nI hv]
  rcases h with ⟨h1, h2, h3⟩ | ⟨q0, h0, h1, h2, h3⟩
  · have h4 := zct_mono (stV σ zp0) hq
    exact ⟨⟨fun z => absurd h1 z, fun z => by have := z.2; omega⟩, fun z => absurd h1 z⟩
  · refine ⟨⟨fun _ => ⟨nI_pos' hv, st_lt h2 h3 h0⟩, fun _ z => nI_m1 (show q0 < 2 ^ 31 by omega) (h1.symm.trans z)⟩, fun _ => ?_⟩
    rw [st_fnd h2 h3 h0, h1]
    rfl
set_option maxHeartbeats 4000000 in
set_option maxRecDepth 100000 in
theorem c_X4_stands (l : Launch) (G : zK) (B0 : Nat) (F : zM) (σ : Sg) (th zp0 zp1 : Int32) (hM : MS G B0 F σ th) (hK : SgOk σ) : Met l yX4_stands (Cond.code yX4_stands cX4_stands 7 (some FieldType.int) :: zW) (zRm 2 45 0 0) (va_Pc [.ref (B0 + 23), .int zp0, .int zp1] (zPre G B0 F)) (zQi G B0 (zRP G B0 F σ (oA_stands σ zp0 zp1) (oB_stands σ zp0 zp1) (oC_stands σ zp0 zp1) (ss_stands σ zp0 zp1) (rr_stands σ zp0 zp1))) 0 0 (zA B0) := by
  refine z_of (own := RX4) (by decide) rfl (Nat.le_of_ble_eq_true rfl) ?_
  intro p e s m below meth c ls hx hb hr hml hown hlocks hnm hts hl hI
  have hl : lv_has ls 7 [(0, .ref (B0 + 23)), (1, .int zp0), (2, .int zp1)] := hl
  obtain ⟨m01, ⟨ma1, m11, me11⟩, ⟨mb1, m21, me21⟩, ⟨mc1, m31, me31⟩, ⟨n91, t91, m41⟩, mT1, mP1⟩ := id hM
  refine lv_iload_n hx hb dX4_stands_0 rfl (lv_at hl 2 rfl) ?_
  refine lv_istore_n (lv' := [(3, .int zp1), (0, .ref (B0 + 23)), (1, .int zp0), (2, .int zp1)]) hx hb dX4_stands_1 rfl hl (by decide) rfl (fun ls hl => ?_)
  refine lv_iconst (v := -1) hx hb dX4_stands_2 (by decide) ?_
  refine lv_istore (lv' := [(4, .int (-1)), (3, .int zp1), (0, .ref (B0 + 23)), (1, .int zp0), (2, .int zp1)]) hx hb dX4_stands_3 hl (by decide) rfl (fun ls hl => ?_)
  refine lv_iconst (v := nI 0) hx hb dX4_stands_5 (by decide) ?_
  refine lv_istore (lv' := [(5, .int (nI 0)), (4, .int (-1)), (3, .int zp1), (0, .ref (B0 + 23)), (1, .int zp0), (2, .int zp1)]) hx hb dX4_stands_6 hl (by decide) rfl (fun ls hl => ?_)
  refine z_join (σ := Int32) (fun f : Int32 => [(0, .ref (B0 + 23)), (1, .int zp0), (2, .int zp1), (4, .int f)]) (fun f : Int32 => []) (fun (f : Int32) (Fx : zM) => F = Fx ∧ (okW zp0 → (¬ f = -1 ↔ oB_stands σ zp0 zp1) ∧ (¬ f = -1 → f = rr_stands σ zp0 zp1))) 98 7 G B0 ?_ (fun jn98 => ?_)
  · intro f F2 ls H locs hi hl hI
    obtain ⟨hF, hE⟩ := hi
    subst hF
    have hl : lv_has ls 7 [(0, .ref (B0 + 23)), (1, .int zp0), (2, .int zp1), (4, .int f)] := hl
    refine lv_aload_n hx hb dX4_stands_98 rfl (lv_at hl 0 rfl) ?_
    refine lv_iload_n hx hb dX4_stands_99 rfl (lv_at hl 1 rfl) ?_
    refine z_calli hI (z_S (As := [.int zp0]) (rest := [.ref (B0 + 23)]) ⟨hx, hb, hml, hown, hts⟩ hI (c_X4_isWord l G B0 F zp0) (z_cwS vX4_isWord hts q779 ⟨Nat.le_of_ble_eq_true rfl, Nat.le_of_ble_eq_true rfl⟩) rfl hl.1 rfl (lv_room (Nat.le_of_ble_eq_true rfl)) dX4_stands_100 ⟨Nat.le_of_ble_eq_true rfl, Nat.le_of_ble_eq_true rfl⟩) (fun r4 F3 H locs hp5 hI => ?_)
    obtain ⟨rfl, rfl⟩ := hp5
    refine z_join (σ := Int32) (fun xj : Int32 => [(0, .ref (B0 + 23)), (1, .int zp0), (2, .int zp1), (4, .int f)]) (fun xj : Int32 => [.int xj, .int (pI (okW zp0)), .ref (B0 + 23)]) (fun (xj : Int32) (Fx : zM) => F = Fx ∧ xj = pI (¬ f = -1)) 114 7 G B0 ?_ (fun jn114 => ?_)
    · intro xj F6 ls H locs hi hl hI
      have hl : lv_has ls 7 [(0, .ref (B0 + 23)), (1, .int zp0), (2, .int zp1), (4, .int f)] := hl
      obtain ⟨hF, hx9⟩ := hi
      subst hF
      subst hx9
      refine lv_iconst (v := nI 1) hx hb dX4_stands_114 (by decide) ?_
      refine z_topi (pI_1 (P := True) trivial) ?_
      refine z_calli hI (z_V (As := [.int (pI (okW zp0)), .int (pI (¬ f = -1)), .int (pI (True))]) (rest := []) ⟨hx, hb, hml, hown, hts⟩ hI m01 rfl (c_X4_passes l G B0 F σ th (okW zp0) (¬ f = -1) (True) hM) (z_cwV vX4_passes hts q788 ⟨Nat.le_of_ble_eq_true rfl, Nat.le_of_ble_eq_true rfl⟩) rfl hl.1 rfl (lv_room (Nat.le_of_ble_eq_true rfl)) dX4_stands_115 ⟨Nat.le_of_ble_eq_true rfl, Nat.le_of_ble_eq_true rfl⟩) (fun r8 F7 H locs hp9 hI => ?_)
      obtain ⟨⟨th1, hM1, hz1⟩, rfl, ho1⟩ := hp9
      have hp1 : (okW zp0) ↔ oA_stands σ zp0 zp1 := Iff.rfl
      have hp2 : oA_stands σ zp0 zp1 → ((¬ f = -1) ↔ oB_stands σ zp0 zp1) := fun h => (hE h).1
      have hp3 : oA_stands σ zp0 zp1 → oB_stands σ zp0 zp1 → ((True) ↔ oC_stands σ zp0 zp1) := fun _ _ => Iff.rfl
      have hz2 := zTh_cg hp1 hp2 hp3 hz1
      refine z_topi (pI_cg (zC_cg hp1 hp2 hp3)) ?_
      have hmf1 : zMf B0 F F7 := fun q hq => ho1 q (by omega)
      obtain ⟨m010, ⟨ma10, m110, me110⟩, ⟨mb10, m210, me210⟩, ⟨mc10, m310, me310⟩, ⟨n910, t910, m410⟩, mT10, mP10⟩ := id hM1
      refine z_ifp_eq (tgt := 126) hx hb dX4_stands_118 (by decide) (fun hq11 => ?_) (fun hq11 => ?_)
      · refine lv_iconst (v := nI 0) hx hb dX4_stands_126 (by decide) ?_
        refine z_ri hx hb hr hlocks hI ?_ (Nat.le_of_ble_eq_true rfl) (Nat.le_of_ble_eq_true rfl) dX4_stands_127
        exact ⟨_, rfl, th1, σ, hM1, hz2, fun q => absurd q hq11, fun _ => rfl, hmf1⟩
      · obtain ⟨hA, hB, hC0⟩ := id hq11
        have hc0 := hA
        refine lv_iload hx hb dX4_stands_121 (lv_at hl 3 rfl) ?_
        refine lv_goto (tgt := 127) hx hb dX4_stands_123 (by decide) ?_
        refine z_ri hx hb hr hlocks hI ?_ (Nat.le_of_ble_eq_true rfl) (Nat.le_of_ble_eq_true rfl) dX4_stands_127
        refine ⟨_, rfl, th1, _, hM1, hz2, fun _ => ⟨(by simp only [oA_stands, oB_stands, oC_stands, rr_stands, ss_stands] <;> exact rfl), (by simp only [oA_stands, oB_stands, oC_stands, rr_stands, ss_stands] <;> exact (hE hA).2 ((hE hA).1.mpr hB))⟩, fun q => absurd ⟨hA, hB, hC0⟩ q, hmf1⟩
    · refine lv_iload hx hb dX4_stands_103 (lv_at hl 3 rfl) ?_
      refine lv_iconst (v := -1) hx hb dX4_stands_105 (by decide) ?_
      refine lv_icmp_eq (tgt := 113) hx hb dX4_stands_106 (by decide) (fun hq12 => ?_) (fun hq12 => ?_)
      · refine lv_iconst (v := nI 0) hx hb dX4_stands_113 (by decide) ?_
        refine jn114 (nI 0) _ ls H locs ?_ (lv_sub hl [0, 1, 2, 3] rfl) hI
        exact ⟨rfl, pI_f (fun z => z hq12)⟩
      · refine lv_iconst (v := nI 1) hx hb dX4_stands_109 (by decide) ?_
        refine lv_goto (tgt := 114) hx hb dX4_stands_110 (by decide) ?_
        refine jn114 (nI 1) _ ls H locs ?_ (lv_sub hl [0, 1, 2, 3] rfl) hI
        exact ⟨rfl, pI_t hq12⟩
  · by_cases hgo : okW zp0 ∧ 0 ≤ zp1
    · obtain ⟨hw0, hp1⟩ := hgo
      obtain ⟨v, hv, rfl⟩ := nI_of (show ¬ zp1 < 0 from i_le_n.mp hp1)
      have hl : lv_has ls 7 [(5, .int (nI 0)), (4, .int (-1)), (3, .int (nI v)), (0, .ref (B0 + 23)), (1, .int zp0), (2, .int (nI v))] := hl
      refine z_loop (σ := Nat × Int32 × Int32) (fun xx : Nat × Int32 × Int32 => match xx with | (T, f, a) => [(0, .ref (B0 + 23)), (1, .int zp0), (2, .int (nI v)), (5, .int (nI T)), (4, .int f), (3, .int a)]) (fun (xx : Nat × Int32 × Int32) (Fx : zM) => match xx with | (T, f, a) => F = Fx ∧ T ≤ 4 ∧ stI σ zp0 v (100 * T) f a) (fun xx : Nat × Int32 × Int32 => match xx with | (T, f, a) => 4 - T) (0, -1, nI v) (nL := 7) (st := []) ?_ (lv_sub hl [3, 4, 5, 0, 1, 2] rfl) hI ?_
      · exact ⟨rfl, Nat.zero_le _, Or.inl ⟨rfl, rfl, Nat.zero_le _⟩⟩
      · intro xx F13 ls H locs hi hl hI ih
        obtain ⟨T, f, a⟩ := xx
        have hl : lv_has ls 7 [(0, .ref (B0 + 23)), (1, .int zp0), (2, .int (nI v)), (5, .int (nI T)), (4, .int f), (3, .int a)] := hl
        obtain ⟨hF, hT4, hst⟩ := hi
        subst hF
        refine lv_iload_n hx hb dX4_stands_8 rfl (lv_at hl 1 rfl) ?_
        refine z_calli hI (z_S (As := [.int zp0]) (rest := []) ⟨hx, hb, hml, hown, hts⟩ hI (c_X4_isWord l G B0 F zp0) (z_cwS vX4_isWord hts q779 ⟨Nat.le_of_ble_eq_true rfl, Nat.le_of_ble_eq_true rfl⟩) rfl hl.1 rfl (lv_room (Nat.le_of_ble_eq_true rfl)) dX4_stands_9 ⟨Nat.le_of_ble_eq_true rfl, Nat.le_of_ble_eq_true rfl⟩) (fun r15 F14 H locs hp16 hI => ?_)
        obtain ⟨rfl, rfl⟩ := hp16
        refine z_ifp_eq (tgt := 98) hx hb dX4_stands_12 (by decide) (fun hq17 => ?_) (fun hq17 => ?_)
        · exact absurd hw0 hq17
        · refine lv_iload_n hx hb dX4_stands_15 rfl (lv_at hl 2 rfl) ?_
          refine z_if_lt (tgt := 98) (a := v) hx hb dX4_stands_16 (by decide) (by omega) ?_
          refine lv_iload hx hb dX4_stands_19 (lv_at hl 3 rfl) ?_
          refine lv_iconst (v := nI 4) hx hb dX4_stands_21 (by decide) ?_
          refine z_icmp_ge (tgt := 98) (a := T) (b := 4) hx hb dX4_stands_22 (by decide) (by omega) (fun hq19 => ?_) (fun hq19 => ?_)
          · refine jn98 f _ ls H locs ?_ (lv_sub hl [0, 1, 2, 4] rfl) hI
            exact ⟨rfl, fun _ => stI_e hv hst (by omega)⟩
          · have hT : T < 4 := by omega
            have hx20 := mT1 T hT
            obtain ⟨xnhx20, xrhx20, fhx20, xwhx20, xfhx20⟩ := id hx20
            refine lv_iconst (v := nI 0) hx hb dX4_stands_25 (by decide) ?_
            refine lv_istore (lv' := [(6, .int (nI 0)), (0, .ref (B0 + 23)), (1, .int zp0), (2, .int (nI v)), (5, .int (nI T)), (4, .int f), (3, .int a)]) hx hb dX4_stands_26 hl (by decide) rfl (fun ls hl => ?_)
            refine z_loop (σ := Nat × Int32 × Int32) (fun xx : Nat × Int32 × Int32 => match xx with | (q, f2, a2) => [(0, .ref (B0 + 23)), (1, .int zp0), (2, .int (nI v)), (5, .int (nI T)), (6, .int (nI q)), (4, .int f2), (3, .int a2)]) (fun (xx : Nat × Int32 × Int32) (Fx : zM) => match xx with | (q, f2, a2) => F = Fx ∧ q ≤ sn σ T ∧ stI σ zp0 v (100 * T + q) f2 a2) (fun xx : Nat × Int32 × Int32 => match xx with | (q, f2, a2) => sn σ T - q) (0, f, a) (nL := 7) (st := []) ?_ (lv_sub hl [1, 2, 3, 4, 0, 5, 6] rfl) hI ?_
            · exact ⟨rfl, Nat.zero_le _, hst⟩
            · intro xx F21 ls H locs hi hl hI ih28
              obtain ⟨q, f2, a2⟩ := xx
              have hl : lv_has ls 7 [(0, .ref (B0 + 23)), (1, .int zp0), (2, .int (nI v)), (5, .int (nI T)), (6, .int (nI q)), (4, .int f2), (3, .int a2)] := hl
              obtain ⟨hF, hq4, hs2⟩ := hi
              subst hF
              refine lv_iload hx hb dX4_stands_28 (lv_at hl 4 rfl) ?_
              refine lv_aload_n hx hb dX4_stands_30 rfl (lv_at hl 0 rfl) ?_
              refine z_get hx hb hts hown zlX4 rfl 1 (by decide) (hts _ q753) rfl hI m01 rfl dX4_stands_31 ?_
              refine lv_iload hx hb dX4_stands_34 (lv_at hl 3 rfl) ?_
              refine z_ald3 (k := T) (v := B0 + 25 + 2 * T) hx hb hI m11 (by omega) (by omega) (me11 T (by omega)) dX4_stands_36 ?_
              refine z_getN hx hb hts hown zlX3 rfl 1 (by decide) (List.mem_of_getElem? (i := 2) rfl) rfl hI xrhx20 rfl dX4_stands_37 ?_
              refine z_icmp_ge (tgt := 92) (a := q) (b := sn σ T) hx hb dX4_stands_40 (by decide) (by omega) (fun hq22 => ?_) (fun hq22 => ?_)
              · refine lv_iinc (k := 3) (v := nI (T + 1)) (lv' := [(5, .int (nI (T + 1))), (0, .ref (B0 + 23)), (1, .int zp0), (2, .int (nI v)), (6, .int (nI q)), (4, .int f2), (3, .int a2)]) hx hb dX4_stands_92 hl rfl (nI_add T 1) (by decide) rfl (fun ls hl => ?_)
                refine lv_goto (tgt := 8) hx hb dX4_stands_95 (by decide) ?_
                refine ih (T + 1, f2, a2) _ ls H locs (by first | omega | (dsimp only; omega)) ?_ (lv_sub hl [1, 2, 3, 0, 5, 6] rfl) hI
                exact ⟨rfl, by omega, stI_mv hs2 (fun _ => st_end (by omega) (by omega))⟩
              · refine lv_iload hx hb dX4_stands_43 (lv_at hl 5 rfl) ?_
                refine lv_iconst (v := -1) hx hb dX4_stands_45 (by decide) ?_
                refine lv_icmp_ne (tgt := 92) hx hb dX4_stands_46 (by decide) (fun hq23 => ?_) (fun hq23 => ?_)
                · refine lv_iinc (k := 3) (v := nI (T + 1)) (lv' := [(5, .int (nI (T + 1))), (0, .ref (B0 + 23)), (1, .int zp0), (2, .int (nI v)), (6, .int (nI q)), (4, .int f2), (3, .int a2)]) hx hb dX4_stands_92 hl rfl (nI_add T 1) (by decide) rfl (fun ls hl => ?_)
                  refine lv_goto (tgt := 8) hx hb dX4_stands_95 (by decide) ?_
                  refine ih (T + 1, f2, a2) _ ls H locs (by first | omega | (dsimp only; omega)) ?_ (lv_sub hl [1, 2, 3, 0, 5, 6] rfl) hI
                  exact ⟨rfl, by omega, stI_mv hs2 (fun z => absurd z hq23)⟩
                · have hs3 := hs2
                  rw [hq23] at hs3
                  refine lv_aload_n hx hb dX4_stands_49 rfl (lv_at hl 0 rfl) ?_
                  refine z_get hx hb hts hown zlX4 rfl 1 (by decide) (hts _ q753) rfl hI m01 rfl dX4_stands_50 ?_
                  refine lv_iload hx hb dX4_stands_53 (lv_at hl 3 rfl) ?_
                  refine z_ald3 (k := T) (v := B0 + 25 + 2 * T) hx hb hI m11 (by omega) (by omega) (me11 T (by omega)) dX4_stands_55 ?_
                  refine lv_iload hx hb dX4_stands_56 (lv_at hl 4 rfl) ?_
                  refine z_calli hI (z_V (As := [.int (nI q)]) (rest := []) ⟨hx, hb, hml, hown, hts⟩ hI xrhx20 rfl (c_X3_at l G B0 F (B0 + 25 + 2 * T) (B0 + 26 + 2 * T) 60 (sn σ T) (st σ T) q ⟨xnhx20, xrhx20, fhx20, xwhx20, xfhx20⟩ (by omega) (by omega)) (z_cwV vX3_at hts q829 ⟨Nat.le_of_ble_eq_true rfl, Nat.le_of_ble_eq_true rfl⟩) rfl hl.1 rfl (lv_room (Nat.le_of_ble_eq_true rfl)) dX4_stands_58 ⟨Nat.le_of_ble_eq_true rfl, Nat.le_of_ble_eq_true rfl⟩) (fun r25 F24 H locs hp26 hI => ?_)
                  obtain ⟨rfl, rfl⟩ := hp26
                  refine lv_iload_n hx hb dX4_stands_61 rfl (lv_at hl 1 rfl) ?_
                  refine lv_icmp_ne (tgt := 86) hx hb dX4_stands_62 (by decide) (fun hq27 => ?_) (fun hq27 => ?_)
                  · refine lv_iinc (k := 4) (v := nI (q + 1)) (lv' := [(6, .int (nI (q + 1))), (0, .ref (B0 + 23)), (1, .int zp0), (2, .int (nI v)), (5, .int (nI T)), (4, .int f2), (3, .int a2)]) hx hb dX4_stands_86 hl rfl (nI_add q 1) (by decide) rfl (fun ls hl => ?_)
                    refine lv_goto (tgt := 28) hx hb dX4_stands_89 (by decide) ?_
                    refine ih28 (q + 1, f2, a2) _ ls H locs (by first | omega | (dsimp only; omega)) ?_ (lv_sub hl [1, 2, 3, 4, 0, 5, 6] rfl) hI
                    exact ⟨rfl, by omega, by rw [hq23]; exact stI_no hs3 (by omega) hq27⟩
                  · refine lv_iload_n hx hb dX4_stands_65 rfl (lv_at hl 6 rfl) ?_
                    refine lv_if_ne (tgt := 80) hx hb dX4_stands_66 (by decide) (fun hq28 => ?_) (fun hq28 => ?_)
                    · refine lv_iconst (v := -1) hx hb dX4_stands_80 (by decide) ?_
                      refine lv_istore (lv' := [(4, .int (-1)), (0, .ref (B0 + 23)), (1, .int zp0), (2, .int (nI v)), (5, .int (nI T)), (6, .int (nI q)), (3, .int a2)]) hx hb dX4_stands_81 hl (by decide) rfl (fun ls hl => ?_)
                      refine lv_iinc (k := 6) (v := a2 + (-1)) (lv' := [(3, .int (a2 + (-1))), (4, .int (-1)), (0, .ref (B0 + 23)), (1, .int zp0), (2, .int (nI v)), (5, .int (nI T)), (6, .int (nI q))]) hx hb dX4_stands_83 hl rfl rfl (by decide) rfl (fun ls hl => ?_)
                      refine lv_iinc (k := 6) (v := nI (q + 1)) (lv' := [(6, .int (nI (q + 1))), (3, .int (a2 + (-1))), (4, .int (-1)), (0, .ref (B0 + 23)), (1, .int zp0), (2, .int (nI v)), (5, .int (nI T))]) hx hb dX4_stands_86 hl rfl (nI_add q 1) (by decide) rfl (fun ls hl => ?_)
                      refine lv_goto (tgt := 28) hx hb dX4_stands_89 (by decide) ?_
                      refine ih28 (q + 1, -1, a2 + (-1)) _ ls H locs (by first | omega | (dsimp only; omega)) ?_ (lv_sub hl [3, 4, 5, 6, 0, 2, 1] rfl) hI
                      exact ⟨rfl, by omega, stI_up hs3 (by omega) (by omega) hq27 hq28 hv⟩
                    · refine lv_bipush (v := nI 100) hx hb dX4_stands_69 (by decide) ?_
                      refine lv_iload hx hb dX4_stands_71 (lv_at hl 3 rfl) ?_
                      refine lv_imul hx hb dX4_stands_73 ?_
                      refine z_topi (pk_mul 100 T) ?_
                      refine lv_iload hx hb dX4_stands_74 (lv_at hl 4 rfl) ?_
                      refine lv_iadd hx hb dX4_stands_76 ?_
                      refine z_topi (nI_add (100 * T) q) ?_
                      refine lv_goto (tgt := 81) hx hb dX4_stands_77 (by decide) ?_
                      refine lv_istore (lv' := [(4, .int (nI ((100 * T) + q))), (0, .ref (B0 + 23)), (1, .int zp0), (2, .int (nI v)), (5, .int (nI T)), (6, .int (nI q)), (3, .int a2)]) hx hb dX4_stands_81 hl (by decide) rfl (fun ls hl => ?_)
                      refine lv_iinc (k := 6) (v := a2 + (-1)) (lv' := [(3, .int (a2 + (-1))), (4, .int (nI ((100 * T) + q))), (0, .ref (B0 + 23)), (1, .int zp0), (2, .int (nI v)), (5, .int (nI T)), (6, .int (nI q))]) hx hb dX4_stands_83 hl rfl rfl (by decide) rfl (fun ls hl => ?_)
                      refine lv_iinc (k := 6) (v := nI (q + 1)) (lv' := [(6, .int (nI (q + 1))), (3, .int (a2 + (-1))), (4, .int (nI ((100 * T) + q))), (0, .ref (B0 + 23)), (1, .int zp0), (2, .int (nI v)), (5, .int (nI T))]) hx hb dX4_stands_86 hl rfl (nI_add q 1) (by decide) rfl (fun ls hl => ?_)
                      refine lv_goto (tgt := 28) hx hb dX4_stands_89 (by decide) ?_
                      refine ih28 (q + 1, nI ((100 * T) + q), a2 + (-1)) _ ls H locs (by first | omega | (dsimp only; omega)) ?_ (lv_sub hl [3, 4, 5, 6, 0, 2, 1] rfl) hI
                      exact ⟨rfl, by omega, stI_f hs3 hT (by omega) (by omega) hq27 hq28 hv⟩
    · refine lv_iload_n hx hb dX4_stands_8 rfl (lv_at hl 4 rfl) ?_
      refine z_calli hI (z_S (As := [.int zp0]) (rest := []) ⟨hx, hb, hml, hown, hts⟩ hI (c_X4_isWord l G B0 F zp0) (z_cwS vX4_isWord hts q779 ⟨Nat.le_of_ble_eq_true rfl, Nat.le_of_ble_eq_true rfl⟩) rfl hl.1 rfl (lv_room (Nat.le_of_ble_eq_true rfl)) dX4_stands_9 ⟨Nat.le_of_ble_eq_true rfl, Nat.le_of_ble_eq_true rfl⟩) (fun r30 F29 H locs hp31 hI => ?_)
      obtain ⟨rfl, rfl⟩ := hp31
      refine z_ifp_eq (tgt := 98) hx hb dX4_stands_12 (by decide) (fun hq32 => ?_) (fun hq32 => ?_)
      · refine jn98 (-1) _ ls H locs ?_ (lv_sub hl [3, 4, 5, 1] rfl) hI
        exact ⟨rfl, fun z => absurd z hq32⟩
      · refine lv_iload_n hx hb dX4_stands_15 rfl (lv_at hl 5 rfl) ?_
        refine lv_if_lt (tgt := 98) hx hb dX4_stands_16 (by decide) (fun hq33 => ?_) (fun hq33 => ?_)
        · refine jn98 (-1) _ ls H locs ?_ (lv_sub hl [3, 4, 5, 1] rfl) hI
          exact ⟨rfl, fun _ => ⟨⟨fun z => absurd rfl z, fun z => absurd hq33 (i_le_n.mp z.1)⟩, fun z => absurd rfl z⟩⟩
        · exact absurd ⟨hq32, i_le_n.mpr hq33⟩ hgo

