/-! the start: what the Statement gives of the machine, as zG says it -/
theorem zg_arr {s : State} {args : Array Value} {ty : FieldType} (h : (Cond.arrayClass ty).before args s = true) : ∃ cA, ArrOfT s cA ty ∧ s.vm.findClass ("[" ++ ty.toString) = some cA := by
  obtain ⟨cA, kA, comp, hfind, hk, hkind⟩ := Cond.arrayClass_spec h
  exact ⟨cA, fun n z => ⟨fun k h => (by cases h), kA, hk, comp, hkind⟩, hfind⟩
theorem zg_obj {s : State} {C : String} (h : va_AO C s) : ∃ cA, ArrOfT s cA (.object C) ∧ va_RA s cA (.object C) := by
  obtain ⟨comp, c, k, h1, h2, h3, h4, h5⟩ := Cond.arrayOver_spec h
  exact ⟨c, fun n z => ⟨fun k h => (by cases h), k, h3, comp, h4⟩, k, comp, h3, h4, h1, h5⟩
theorem zg_str {s : State} {args : Array Value} {own tx : String} {k : Nat} (h1 : (Cond.stringRef own k tx).before args s = true) (h2 : (Cond.exactly (Term.string own k) "java/lang/String").before args s = true) : ∃ a, vk_R own k tx a s := by
  obtain ⟨a, c, cell, k', ha, -⟩ := Cond.exactly_spec h2
  exact ⟨a, vk_R.of h1 ha⟩
theorem zg_nest : ∀ w ∈ zNest, w ∈ lw_tbl ∧ w.onTables = true := by decide +kernel
theorem zg_strs : ∀ q ∈ zStr, Cond.stringRef q.1 q.2.1 q.2.2 ∈ lw_tbl ∧ Cond.exactly (Term.string q.1 q.2.1) "java/lang/String" ∈ flatC (Jvm.Cond.and given_1 narrow_1) := by decide +kernel
theorem zg_ncs : ∀ q ∈ zNcs, Cond.not (.castable q.1 q.2) ∈ flatC (Jvm.Cond.and given_1 narrow_1) := by decide +kernel
theorem zg_cs : ∀ E ∈ zEx, Cond.castable E E ∈ lw_tbl := by decide +kernel
theorem zg_o1 : Cond.arrayOver (.object RX1) ∈ lw_tbl := by decide +kernel
theorem zg_o3 : Cond.arrayOver (.object RX3) ∈ lw_tbl := by decide +kernel
theorem zg_l1 : Cond.laysStatic Bundle.tN "UNASSIGNED_STACK" Bundle.steD ∈ lw_tbl ∧ Cond.isRef (.static Bundle.tN "UNASSIGNED_STACK" Bundle.steD) ∈ flatC (Jvm.Cond.and given_1 narrow_1) := by decide +kernel
theorem zg_l2 : Cond.laysStatic Bundle.tN "SUPPRESSED_SENTINEL" Bundle.listD ∈ lw_tbl ∧ Cond.isRef (.static Bundle.tN "SUPPRESSED_SENTINEL" Bundle.listD) ∈ flatC (Jvm.Cond.and given_1 narrow_1) := by decide +kernel
theorem zg_it : Cond.initialized Bundle.tN ∈ lw_tbl := by decide +kernel
theorem zg_start {s : State} {b : Nat} (hts : ∀ w ∈ lw_tbl, w.before #[Value.ref b] s = true) (hgv : (Jvm.Cond.and given_1 narrow_1).before #[Value.ref b] s = true) : ∃ G : zK, zG G s.heap.size s := by
  have hn := flat_of_before _ hgv
  have hzw : ∀ w ∈ zW, w.before #[Value.ref b] s = true := fun w h => hts w (zW_in h)
  obtain ⟨c0, i0, k0⟩ := u_known (C := RX0) (T := TX0) (N := 2) (n := 2) hzw zlX0 (hzw _ q638)
  obtain ⟨c1, i1, k1⟩ := u_known (C := RX1) (T := TX1) (N := 2) (n := 2) hzw zlX1 (hzw _ q25)
  obtain ⟨c2, i2, k2⟩ := u_known (C := RX2) (T := TX2) (N := 7) (n := 7) hzw zlX2 (hzw _ q16)
  obtain ⟨c3, i3, k3⟩ := u_known (C := RX3) (T := TX3) (N := 2) (n := 2) hzw zlX3 (hzw _ q738)
  obtain ⟨c4, i4, k4⟩ := u_known (C := RX4) (T := TX4) (N := 5) (n := 5) hzw zlX4 (hzw _ q731)
  obtain ⟨aI, hI1, hI2⟩ := zg_arr (hzw _ q39)
  obtain ⟨aJ, hJ1, hJ2⟩ := zg_arr (hzw _ q1055)
  obtain ⟨aD, hD1, hD2⟩ := zg_arr (hzw _ q1056)
  have ho1 : va_AO RX1 s := va_AO.of (hts _ zg_o1)
  have ho3 : va_AO RX3 s := va_AO.of (hts _ zg_o3)
  obtain ⟨a1, h11, h12⟩ := zg_obj ho1
  obtain ⟨a3, h31, h32⟩ := zg_obj ho3
  refine ⟨((fun k => match k with | 0 => c0 | 1 => c1 | 2 => c2 | 3 => c3 | _ => c4, fun k => match k with | 0 => i0 | 1 => i1 | 2 => i2 | 3 => i3 | _ => i4), fun k => match k with | 0 => aI | 1 => a1 | 2 => a3 | 3 => aJ | _ => aD), ⟨fun k q hq => ?_, fun k q hq => ?_⟩, fun w hw => ?_, fun q hq => ?_, ?_, ?_, ho1, ho3, fun q hq => ?_, fun E hE => ?_⟩
  · match k, hq with
    | 0, hq => cases hq; exact k0
    | 1, hq => cases hq; exact k1
    | 2, hq => cases hq; exact k2
    | 3, hq => cases hq; exact k3
    | 4, hq => cases hq; exact k4
    | k + 5, hq => simp [vwCl] at hq
  · match k, hq with
    | 0, hq => cases hq; exact ⟨hI1, hI2⟩
    | 1, hq => cases hq; exact ⟨h11, h12⟩
    | 2, hq => cases hq; exact ⟨h31, h32⟩
    | 3, hq => cases hq; exact ⟨hJ1, hJ2⟩
    | 4, hq => cases hq; exact ⟨hD1, hD2⟩
    | k + 5, hq => simp [zt] at hq
  · obtain ⟨h1, h2⟩ := zg_nest w hw
    exact va_Nw.of h2 (hts w h1)
  · obtain ⟨h1, h2⟩ := zg_strs q hq
    exact zg_str (hts _ h1) (hn _ h2)
  · exact vx_Zqof (hts _ zg_l1.1) (hts _ zg_it) (hn _ zg_l1.2) (fun a h => Nat.not_le.mpr h)
  · exact vx_Zqof (hts _ zg_l2.1) (hts _ zg_it) (hn _ zg_l2.2) (fun a h => Nat.not_le.mpr h)
  · exact va_Nc.of (hn _ (zg_ncs q hq))
  · exact zCs.of (hts _ (zg_cs E hE))
/-! the words are 0 to 99 behind every call -/
def zWk (σ : Sg) : Prop := (∀ i, i < 4 → wok (st σ i) (sn σ i)) ∧ ∀ i, i < 2 → wok (pt σ i) (pn σ i)
theorem zWk.T {σ : Sg} (h : zWk σ) {i n : Nat} {t : Nat → Int32} (ht : wok t n) : zWk (sT σ i n t) := by
  refine ⟨fun j hj => ?_, h.2⟩
  by_cases q : j = i
  · subst q; rw [sT_n, sT_t]; exact ht
  · rw [sT_no q, sT_to q]; exact h.1 j hj
theorem zWk.P {σ : Sg} (h : zWk σ) {i n : Nat} {t : Nat → Int32} (ht : wok t n) : zWk (sP σ i n t) := by
  refine ⟨h.1, fun j hj => ?_⟩
  by_cases q : j = i
  · subst q; rw [sP_n, sP_t]; exact ht
  · rw [sP_no q, sP_to q]; exact h.2 j hj
theorem zWk.t {σ : Sg} (h : zWk σ) {p : Int32} (hp : okT p) : wok (st σ (ix p)) (sn σ (ix p)) := by
  obtain ⟨i, hi, rfl⟩ := hp
  rw [ix_nI (by omega)]; exact h.1 i hi
theorem zWk.p {σ : Sg} (h : zWk σ) {p : Int32} (hp : okB p) : wok (pt σ (ix p)) (pn σ (ix p)) := by
  obtain ⟨i, hi, rfl⟩ := hp
  rw [ix_nI (by omega)]; exact h.2 i hi
theorem okL_ix {n : Nat} {p : Int32} (hn : n ≤ 100) (h : okL n p) : ix p < n := by
  obtain ⟨i, hi, rfl⟩ := h
  rw [ix_nI (by omega)]; exact hi
theorem okR_ix {n : Nat} {p q : Int32} (hn : n ≤ 100) (h : okR n p q) : ix p ≤ ix q ∧ ix q ≤ n := by
  obtain ⟨i, j, h1, h2, rfl, rfl⟩ := h
  rw [ix_nI (by omega), ix_nI (by omega)]; exact ⟨h1, h2⟩
theorem wok_upd {t : Nat → Int32} {n k : Nat} {x : Int32} (h : wok t n) (hx : okW x) : wok (upd t k x) n := by
  intro j hj
  by_cases q : j = k
  · subst q; rw [pk_us]; exact hx
  · rw [pk_un q]; exact h j hj
theorem wok_app {t : Nat → Int32} {n : Nat} {x : Int32} (h : wok t n) (hx : okW x) : wok (upd t n x) (n + 1) := by
  intro j hj
  by_cases q : j = n
  · subst q; rw [pk_us]; exact hx
  · rw [pk_un q]; exact h j (by omega)
theorem wok_catt {t q : Nat → Int32} {n m : Nat} (h : wok t n) (h' : wok q m) : wok (catt t n q) (n + m) := by
  intro j hj
  simp only [catt]
  by_cases e : j < n
  · rw [if_pos e]; exact h j e
  · rw [if_neg e]; exact h' _ (by omega)
theorem wok_inst {t : Nat → Int32} {n p : Nat} {x : Int32} (h : wok t n) (hx : okW x) (hp : p ≤ n) : wok (inst t p x) (n + 1) := by
  intro j hj
  simp only [inst]
  by_cases e : j < p
  · rw [if_pos e]; exact h j (by omega)
  · rw [if_neg e]
    by_cases e2 : j = p
    · rw [if_pos e2]; exact hx
    · rw [if_neg e2]; exact h _ (by omega)
theorem wok_clot {t : Nat → Int32} {n a b : Nat} (h : wok t n) (hab : a ≤ b) (hb : b ≤ n) : wok (clot t a b) (n - (b - a)) := by
  intro j hj
  simp only [clot]
  by_cases e : j < a
  · rw [if_pos e]; exact h j (by omega)
  · rw [if_neg e]; exact h _ (by omega)
theorem wok_revt {t : Nat → Int32} {n a b : Nat} (h : wok t n) (hb : b ≤ n) : wok (revt t a b) n := by
  intro j hj
  simp only [revt]
  by_cases e : a ≤ j ∧ j < b
  · rw [if_pos e]; exact h _ (by omega)
  · rw [if_neg e]; exact h j hj
theorem wok_swpt {t : Nat → Int32} {n a b : Nat} (h : wok t n) (ha : a < n) (hb : b < n) : wok (swpt t a b) n := by
  intro j hj
  simp only [swpt]
  by_cases e : j = b
  · rw [if_pos e]; exact h _ ha
  · rw [if_neg e]
    by_cases e2 : j = a
    · rw [if_pos e2]; exact h _ hb
    · rw [if_neg e2]; exact h j hj
theorem wok_if {t q : Nat → Int32} {n : Nat} {P : Nat → Prop} [∀ j, Decidable (P j)] (h : wok t n) (h' : ∀ j, j < n → P j → ∃ k, k < 100 ∧ q j = nI k) : wok (fun j => if P j then q j else t j) n := by
  intro j hj
  by_cases e : P j
  · show ∃ k, k < 100 ∧ (if P j then q j else t j) = nI k
    rw [if_pos e]; exact h' j hj e
  · show ∃ k, k < 100 ∧ (if P j then q j else t j) = nI k
    rw [if_neg e]; exact h j hj
theorem wok_mvt {t : Nat → Int32} {n a b u : Nat} (h : wok t n) (hb : b ≤ n) : wok (mvt t a b u) n := by
  intro j hj
  simp only [mvt]
  by_cases e : a ≤ j ∧ j < b
  · rw [if_pos e]
    have := Nat.mod_lt (j - a + ((b - a) - u)) (show 0 < b - a by omega)
    exact h _ (by omega)
  · rw [if_neg e]; exact h j hj
theorem wok_scw {r s m : Nat} (h0 : 0 < r) (h1 : r ≤ 100) : wok (scw r s) m := fun j _ => ⟨_, Nat.lt_of_lt_of_le (Nat.mod_lt _ h0) h1, rfl⟩
theorem wok_rpl {P : Nat → Prop} {t q' : Nat → Int32} {m m' n : Nat} (h : wok t n) (h' : wok q' m') : ∀ {k : Nat}, k ≤ n → wok (rpl P t m q' m' k).2 (rpl P t m q' m' k).1
  | 0, _ => fun j hj => absurd hj (Nat.not_lt_zero _)
  | k + 1, hk => by
    have ih := wok_rpl (P := P) (m := m) h h' (k := k) (by omega)
    by_cases e : k < (zap P m k).2
    · rw [rpl_s e]; exact ih
    · by_cases hP : P k
      · rw [rpl_y e hP]; exact wok_catt ih h'
      · rw [rpl_n e hP]; exact wok_app ih (h k (by omega))
theorem CS.ok {G : zK} {B0 : Nat} {F : zM} {σ : Sg} (h : CS G B0 F σ) (hw : zWk σ) : SgOk σ := ⟨fun i hi => ⟨(h.2.2.2.2.2.2.2.2.1 i hi).1, hw.1 i hi⟩, fun i hi => (h.2.2.2.2.2.2.2.2.2 i hi).1⟩
theorem wk_add {σ : Sg} {zp0 zp1 : Int32} (hK : SgOk σ) (hw : zWk σ) (h1 : oA_add σ zp0 zp1) (h2 : oB_add σ zp0 zp1) : zWk (ss_add σ zp0 zp1) := by
  simp only [oA_add] at h1
  simp only [oB_add] at h2
  show zWk (sT σ (ix zp0) (sn σ (ix zp0) + 1) (upd (st σ (ix zp0)) (sn σ (ix zp0)) zp1))
  exact hw.T (wok_app (hw.t h1.1) h1.2)
theorem wk_addMany {σ : Sg} {zp0 zp1 zp2 : Int32} (hK : SgOk σ) (hw : zWk σ) (h1 : oA_addMany σ zp0 zp1 zp2) (h2 : oB_addMany σ zp0 zp1 zp2) : zWk (ss_addMany σ zp0 zp1 zp2) := by
  simp only [oA_addMany] at h1
  simp only [oB_addMany] at h2
  show zWk (sT σ (ix zp0) (sn σ (ix zp0) + ix zp2) (catt (st σ (ix zp0)) (sn σ (ix zp0)) (fun _ => zp1)))
  exact hw.T (wok_catt (hw.t h1.1) (fun _ _ => h1.2))
theorem wk_scatter {σ : Sg} {zp0 zp1 zp2 zp3 : Int32} (hK : SgOk σ) (hw : zWk σ) (h1 : oA_scatter σ zp0 zp1 zp2 zp3) (h2 : oB_scatter σ zp0 zp1 zp2 zp3) : zWk (ss_scatter σ zp0 zp1 zp2 zp3) := by
  simp only [oA_scatter] at h1
  simp only [oB_scatter] at h2
  show zWk (sT σ (ix zp0) (sn σ (ix zp0) + ix zp1) (catt (st σ (ix zp0)) (sn σ (ix zp0)) (scw (ix zp2) (ix zp3))))
  obtain ⟨j, hj, e⟩ := nI_of (show ¬ zp2 < 0 from fun q => h2.2.1.1 (by rw [Int32.lt_iff_toInt_lt] at q ⊢; have h3 : (0 : Int32).toInt = 0 := rfl; have h4 : (nI 1).toInt = 1 := rfl; omega))
  have h5 := h2.2.1
  rw [e] at h5
  have h6 := (nI_leI hj (by decide)).mp h5.2
  have h7 : ¬ j < 1 := fun z => h5.1 ((nI_ltI hj (by decide)).mpr z)
  refine hw.T (wok_catt (hw.t h1) (wok_scw ?_ ?_))
  · rw [e, ix_nI hj]; omega
  · rw [e, ix_nI hj]; exact h6
theorem wk_insert {σ : Sg} {zp0 zp1 zp2 : Int32} (hK : SgOk σ) (hw : zWk σ) (h1 : oA_insert σ zp0 zp1 zp2) (h2 : oB_insert σ zp0 zp1 zp2) : zWk (ss_insert σ zp0 zp1 zp2) := by
  simp only [oA_insert] at h1
  simp only [oB_insert] at h2
  show zWk (sT σ (ix zp0) (sn σ (ix zp0) + 1) (inst (st σ (ix zp0)) (ix zp1) zp2))
  have h5 := okL_ix (by have := sg_le hK h1.1; omega) h1.2.2; exact hw.T (wok_inst (hw.t h1.1) h1.2.1 (by omega))
theorem wk_set {σ : Sg} {zp0 zp1 zp2 : Int32} (hK : SgOk σ) (hw : zWk σ) (h1 : oA_set σ zp0 zp1 zp2) (h2 : oB_set σ zp0 zp1 zp2) : zWk (ss_set σ zp0 zp1 zp2) := by
  simp only [oA_set] at h1
  simp only [oB_set] at h2
  show zWk (sT σ (ix zp0) (sn σ (ix zp0)) (upd (st σ (ix zp0)) (ix zp1) zp2))
  exact hw.T (wok_upd (hw.t h1.1) h1.2.2)
theorem wk_remove {σ : Sg} {zp0 zp1 : Int32} (hK : SgOk σ) (hw : zWk σ) (h1 : oA_remove σ zp0 zp1) (h2 : oB_remove σ zp0 zp1) : zWk (ss_remove σ zp0 zp1) := by
  simp only [oA_remove] at h1
  simp only [oB_remove] at h2
  show zWk (sT σ (ix zp0) (sn σ (ix zp0) - 1) (clot (st σ (ix zp0)) (ix zp1) (ix zp1 + 1)))
  have h5 := okL_ix (by have := sg_le hK h1.1; omega) h1.2; have h6 := wok_clot (hw.t h1.1) (a := ix zp1) (b := ix zp1 + 1) (by omega) (by omega); rw [show ix zp1 + 1 - ix zp1 = 1 by omega] at h6; exact hw.T h6
theorem wk_cut {σ : Sg} {zp0 zp1 zp2 : Int32} (hK : SgOk σ) (hw : zWk σ) (h1 : oA_cut σ zp0 zp1 zp2) (h2 : oB_cut σ zp0 zp1 zp2) : zWk (ss_cut σ zp0 zp1 zp2) := by
  simp only [oA_cut] at h1
  simp only [oB_cut] at h2
  show zWk (sT σ (ix zp0) (sn σ (ix zp0) - (ix zp2 - ix zp1)) (clot (st σ (ix zp0)) (ix zp1) (ix zp2)))
  have h5 := okR_ix (by have := sg_le hK h1.1; omega) h1.2; exact hw.T (wok_clot (hw.t h1.1) h5.1 h5.2)
theorem wk_size {σ : Sg} {zp0 : Int32} (hK : SgOk σ) (hw : zWk σ) (h1 : oA_size σ zp0) (h2 : oB_size σ zp0) : zWk (ss_size σ zp0) := by
  simp only [oA_size] at h1
  simp only [oB_size] at h2
  show zWk (σ)
  exact hw
theorem wk_at {σ : Sg} {zp0 zp1 : Int32} (hK : SgOk σ) (hw : zWk σ) (h1 : oA_at σ zp0 zp1) (h2 : oB_at σ zp0 zp1) : zWk (ss_at σ zp0 zp1) := by
  simp only [oA_at] at h1
  simp only [oB_at] at h2
  show zWk (σ)
  exact hw
theorem wk_digest {σ : Sg} {zp0 : Int32} (hK : SgOk σ) (hw : zWk σ) (h1 : oA_digest σ zp0) (h2 : oB_digest σ zp0) : zWk (ss_digest σ zp0) := by
  simp only [oA_digest] at h1
  simp only [oB_digest] at h2
  show zWk (σ)
  exact hw
theorem wk_setRank {σ : Sg} {zp0 zp1 : Int32} (hK : SgOk σ) (hw : zWk σ) (h1 : oA_setRank σ zp0 zp1) (h2 : oB_setRank σ zp0 zp1) : zWk (ss_setRank σ zp0 zp1) := by
  simp only [oA_setRank] at h1
  simp only [oB_setRank] at h2
  show zWk (sR σ (ix zp0) zp1)
  exact hw
theorem wk_say {σ : Sg} {zp0 zp1 : Int32} (hK : SgOk σ) (hw : zWk σ) (h1 : oA_say σ zp0 zp1) (h2 : oB_say σ zp0 zp1) : zWk (ss_say σ zp0 zp1) := by
  simp only [oA_say] at h1
  simp only [oB_say] at h2
  show zWk (sP σ (ix zp0) (pn σ (ix zp0) + 1) (upd (pt σ (ix zp0)) (pn σ (ix zp0)) zp1))
  exact hw.P (wok_app (hw.p h1.1) h1.2)
theorem wk_quote {σ : Sg} {zp0 zp1 zp2 zp3 : Int32} (hK : SgOk σ) (hw : zWk σ) (h1 : oA_quote σ zp0 zp1 zp2 zp3) (h2 : oB_quote σ zp0 zp1 zp2 zp3) : zWk (ss_quote σ zp0 zp1 zp2 zp3) := by
  simp only [oA_quote] at h1
  simp only [oB_quote] at h2
  show zWk (sP σ (ix zp0) (ix zp3 - ix zp2) (fun j => st σ (ix zp1) (ix zp2 + j)))
  have h5 := okR_ix (by have := sg_le hK h1.2.1; omega) h1.2.2; exact hw.P (fun j hj => hw.t h1.2.1 _ (by omega))
theorem wk_hush {σ : Sg} {zp0 : Int32} (hK : SgOk σ) (hw : zWk σ) (h1 : oA_hush σ zp0) (h2 : oB_hush σ zp0) : zWk (ss_hush σ zp0) := by
  simp only [oA_hush] at h1
  simp only [oB_hush] at h2
  show zWk (sP σ (ix zp0) 0 (pt σ (ix zp0)))
  exact hw.P (fun j hj => absurd hj (Nat.not_lt_zero _))
theorem wk_wordOf {σ : Sg} {zp0 zp1 : Int32} (hK : SgOk σ) (hw : zWk σ) (h1 : oA_wordOf σ zp0 zp1) (h2 : oB_wordOf σ zp0 zp1) : zWk (ss_wordOf σ zp0 zp1) := by
  simp only [oA_wordOf] at h1
  simp only [oB_wordOf] at h2
  show zWk (σ)
  exact hw
theorem wk_find {σ : Sg} {zp0 : Int32} (hK : SgOk σ) (hw : zWk σ) (h1 : oA_find σ zp0) (h2 : oB_find σ zp0) : zWk (ss_find σ zp0) := by
  simp only [oA_find] at h1
  simp only [oB_find] at h2
  show zWk (σ)
  exact hw
theorem wk_findLast {σ : Sg} {zp0 : Int32} (hK : SgOk σ) (hw : zWk σ) (h1 : oA_findLast σ zp0) (h2 : oB_findLast σ zp0) : zWk (ss_findLast σ zp0) := by
  simp only [oA_findLast] at h1
  simp only [oB_findLast] at h2
  show zWk (σ)
  exact hw
theorem wk_findIn {σ : Sg} {zp0 zp1 zp2 : Int32} (hK : SgOk σ) (hw : zWk σ) (h1 : oA_findIn σ zp0 zp1 zp2) (h2 : oB_findIn σ zp0 zp1 zp2) : zWk (ss_findIn σ zp0 zp1 zp2) := by
  simp only [oA_findIn] at h1
  simp only [oB_findIn] at h2
  show zWk (σ)
  exact hw
theorem wk_count {σ : Sg} {zp0 zp1 : Int32} (hK : SgOk σ) (hw : zWk σ) (h1 : oA_count σ zp0 zp1) (h2 : oB_count σ zp0 zp1) : zWk (ss_count σ zp0 zp1) := by
  simp only [oA_count] at h1
  simp only [oB_count] at h2
  show zWk (σ)
  exact hw
theorem wk_replace {σ : Sg} {zp0 : Int32} (hK : SgOk σ) (hw : zWk σ) (h1 : oA_replace σ zp0) (h2 : oB_replace σ zp0) : zWk (ss_replace σ zp0) := by
  simp only [oA_replace] at h1
  simp only [oB_replace] at h2
  show zWk (sT σ (ix zp0) (sn σ (ix zp0) + tms (st σ (ix zp0)) (sn σ (ix zp0)) (pt σ 0) (pn σ 0) * pn σ 1 - tms (st σ (ix zp0)) (sn σ (ix zp0)) (pt σ 0) (pn σ 0) * pn σ 0) (rpt (st σ (ix zp0)) (sn σ (ix zp0)) (pt σ 0) (pn σ 0) (pt σ 1) (pn σ 1)))
  refine hw.T ?_
  have h5 := rpt_n (t := st σ (ix zp0)) (q := pt σ 0) (q' := pt σ 1) (n := sn σ (ix zp0)) (m' := pn σ 1) h2.1
  have h6 := wok_rpl (P := hld (st σ (ix zp0)) (sn σ (ix zp0)) (pt σ 0) (pn σ 0)) (m := pn σ 0) (hw.t h1) (hw.2 1 (by decide)) (Nat.le_refl (sn σ (ix zp0)))
  rw [show (rpl (hld (st σ (ix zp0)) (sn σ (ix zp0)) (pt σ 0) (pn σ 0)) (st σ (ix zp0)) (pn σ 0) (pt σ 1) (pn σ 1) (sn σ (ix zp0))).1 = sn σ (ix zp0) + tms (st σ (ix zp0)) (sn σ (ix zp0)) (pt σ 0) (pn σ 0) * pn σ 1 - tms (st σ (ix zp0)) (sn σ (ix zp0)) (pt σ 0) (pn σ 0) * pn σ 0 by omega] at h6
  exact h6
theorem wk_replaceWord {σ : Sg} {zp0 zp1 zp2 : Int32} (hK : SgOk σ) (hw : zWk σ) (h1 : oA_replaceWord σ zp0 zp1 zp2) (h2 : oB_replaceWord σ zp0 zp1 zp2) : zWk (ss_replaceWord σ zp0 zp1 zp2) := by
  simp only [oA_replaceWord] at h1
  simp only [oB_replaceWord] at h2
  show zWk (sT σ (ix zp0) (sn σ (ix zp0)) (fun j => if st σ (ix zp0) j = zp1 then zp2 else st σ (ix zp0) j))
  exact hw.T (wok_if (q := fun _ => zp2) (hw.t h1.1) (fun _ _ _ => h1.2.2))
theorem wk_frequency {σ : Sg} {zp0 zp1 : Int32} (hK : SgOk σ) (hw : zWk σ) (h1 : oA_frequency σ zp0 zp1) (h2 : oB_frequency σ zp0 zp1) : zWk (ss_frequency σ zp0 zp1) := by
  simp only [oA_frequency] at h1
  simp only [oB_frequency] at h2
  show zWk (σ)
  exact hw
theorem wk_different {σ : Sg} {zp0 : Int32} (hK : SgOk σ) (hw : zWk σ) (h1 : oA_different σ zp0) (h2 : oB_different σ zp0) : zWk (ss_different σ zp0) := by
  simp only [oA_different] at h1
  simp only [oB_different] at h2
  show zWk (σ)
  exact hw
theorem wk_most {σ : Sg} {zp0 : Int32} (hK : SgOk σ) (hw : zWk σ) (h1 : oA_most σ zp0) (h2 : oB_most σ zp0) : zWk (ss_most σ zp0) := by
  simp only [oA_most] at h1
  simp only [oB_most] at h2
  show zWk (σ)
  exact hw
theorem wk_isApart {σ : Sg} {zp0 zp1 : Int32} (hK : SgOk σ) (hw : zWk σ) (h1 : oA_isApart σ zp0 zp1) (h2 : oB_isApart σ zp0 zp1) : zWk (ss_isApart σ zp0 zp1) := by
  simp only [oA_isApart] at h1
  simp only [oB_isApart] at h2
  show zWk (σ)
  exact hw
theorem wk_alone {σ : Sg} {zp0 zp1 : Int32} (hK : SgOk σ) (hw : zWk σ) (h1 : oA_alone σ zp0 zp1) (h2 : oB_alone σ zp0 zp1) : zWk (ss_alone σ zp0 zp1) := by
  simp only [oA_alone] at h1
  simp only [oB_alone] at h2
  show zWk (σ)
  exact hw
theorem wk_greatest {σ : Sg} {zp0 zp1 : Int32} (hK : SgOk σ) (hw : zWk σ) (h1 : oA_greatest σ zp0 zp1) (h2 : oB_greatest σ zp0 zp1) : zWk (ss_greatest σ zp0 zp1) := by
  simp only [oA_greatest] at h1
  simp only [oB_greatest] at h2
  show zWk (σ)
  exact hw
theorem wk_least {σ : Sg} {zp0 zp1 : Int32} (hK : SgOk σ) (hw : zWk σ) (h1 : oA_least σ zp0 zp1) (h2 : oB_least σ zp0 zp1) : zWk (ss_least σ zp0 zp1) := by
  simp only [oA_least] at h1
  simp only [oB_least] at h2
  show zWk (σ)
  exact hw
theorem wk_sort {σ : Sg} {zp0 zp1 zp2 : Int32} (hK : SgOk σ) (hw : zWk σ) (h1 : oA_sort σ zp0 zp1 zp2) (h2 : oB_sort σ zp0 zp1 zp2) : zWk (ss_sort σ zp0 zp1 zp2) := by
  simp only [oA_sort] at h1
  simp only [oB_sort] at h2
  show zWk (sT σ (ix zp0) (sn σ (ix zp0)) (srt (psd (rk σ) zp1 zp2) (st σ (ix zp0)) (sn σ (ix zp0) - 1)))
  by_cases e : 0 < sn σ (ix zp0)
  · exact hw.T (srt_wok (hw.t h1) (by omega))
  · exact hw.T (fun j hj => absurd hj (by omega))
theorem wk_isSorted {σ : Sg} {zp0 zp1 : Int32} (hK : SgOk σ) (hw : zWk σ) (h1 : oA_isSorted σ zp0 zp1) (h2 : oB_isSorted σ zp0 zp1) : zWk (ss_isSorted σ zp0 zp1) := by
  simp only [oA_isSorted] at h1
  simp only [oB_isSorted] at h2
  show zWk (σ)
  exact hw
theorem wk_search {σ : Sg} {zp0 zp1 zp2 : Int32} (hK : SgOk σ) (hw : zWk σ) (h1 : oA_search σ zp0 zp1 zp2) (h2 : oB_search σ zp0 zp1 zp2) : zWk (ss_search σ zp0 zp1 zp2) := by
  simp only [oA_search] at h1
  simp only [oB_search] at h2
  show zWk (σ)
  exact hw
theorem wk_turn {σ : Sg} {zp0 zp1 zp2 : Int32} (hK : SgOk σ) (hw : zWk σ) (h1 : oA_turn σ zp0 zp1 zp2) (h2 : oB_turn σ zp0 zp1 zp2) : zWk (ss_turn σ zp0 zp1 zp2) := by
  simp only [oA_turn] at h1
  simp only [oB_turn] at h2
  show zWk (sT σ (ix zp0) (sn σ (ix zp0)) (revt (st σ (ix zp0)) (ix zp1) (ix zp2)))
  have h5 := okR_ix (by have := sg_le hK h1.1; omega) h1.2; exact hw.T (wok_revt (hw.t h1.1) h5.2)
theorem wk_move {σ : Sg} {zp0 zp1 zp2 zp3 : Int32} (hK : SgOk σ) (hw : zWk σ) (h1 : oA_move σ zp0 zp1 zp2 zp3) (h2 : oB_move σ zp0 zp1 zp2 zp3) : zWk (ss_move σ zp0 zp1 zp2 zp3) := by
  simp only [oA_move] at h1
  simp only [oB_move] at h2
  show zWk (sT σ (ix zp0) (sn σ (ix zp0)) (mvt (st σ (ix zp0)) (ix zp1) (ix zp2) (mby zp3 (ix zp2 - ix zp1))))
  have h5 := okR_ix (by have := sg_le hK h1.1; omega) h1.2; exact hw.T (wok_mvt (hw.t h1.1) h5.2)
theorem wk_swap {σ : Sg} {zp0 zp1 zp2 : Int32} (hK : SgOk σ) (hw : zWk σ) (h1 : oA_swap σ zp0 zp1 zp2) (h2 : oB_swap σ zp0 zp1 zp2) : zWk (ss_swap σ zp0 zp1 zp2) := by
  simp only [oA_swap] at h1
  simp only [oB_swap] at h2
  show zWk (sT σ (ix zp0) (sn σ (ix zp0)) (swpt (st σ (ix zp0)) (ix zp1) (ix zp2)))
  have h5 := okL_ix (by have := sg_le hK h1.1; omega) h1.2.1; have h6 := okL_ix (by have := sg_le hK h1.1; omega) h1.2.2; exact hw.T (wok_swpt (hw.t h1.1) h5 h6)
theorem wk_fill {σ : Sg} {zp0 zp1 zp2 zp3 : Int32} (hK : SgOk σ) (hw : zWk σ) (h1 : oA_fill σ zp0 zp1 zp2 zp3) (h2 : oB_fill σ zp0 zp1 zp2 zp3) : zWk (ss_fill σ zp0 zp1 zp2 zp3) := by
  simp only [oA_fill] at h1
  simp only [oB_fill] at h2
  show zWk (sT σ (ix zp0) (sn σ (ix zp0)) (fun j => if ix zp1 ≤ j ∧ j < ix zp2 then zp3 else st σ (ix zp0) j))
  exact hw.T (wok_if (q := fun _ => zp3) (hw.t h1.1) (fun _ _ _ => h1.2.2))
theorem wk_copy {σ : Sg} {zp0 zp1 : Int32} (hK : SgOk σ) (hw : zWk σ) (h1 : oA_copy σ zp0 zp1) (h2 : oB_copy σ zp0 zp1) : zWk (ss_copy σ zp0 zp1) := by
  simp only [oA_copy] at h1
  simp only [oB_copy] at h2
  show zWk (sT σ (ix zp1) (sn σ (ix zp1)) (fun j => if j < sn σ (ix zp0) then st σ (ix zp0) j else st σ (ix zp1) j))
  exact hw.T (wok_if (q := st σ (ix zp0)) (hw.t h1.2) (fun j _ hj => hw.t h1.1 j hj))
theorem wk_stands {σ : Sg} {zp0 zp1 : Int32} (hK : SgOk σ) (hw : zWk σ) (h1 : oA_stands σ zp0 zp1) (h2 : oB_stands σ zp0 zp1) : zWk (ss_stands σ zp0 zp1) := by
  simp only [oA_stands] at h1
  simp only [oB_stands] at h2
  show zWk (σ)
  exact hw
theorem wk_near {σ : Sg} {zp0 zp1 zp2 : Int32} (hK : SgOk σ) (hw : zWk σ) (h1 : oA_near σ zp0 zp1 zp2) (h2 : oB_near σ zp0 zp1 zp2) : zWk (ss_near σ zp0 zp1 zp2) := by
  simp only [oA_near] at h1
  simp only [oB_near] at h2
  show zWk (σ)
  exact hw
theorem wk_common {σ : Sg} {zp0 zp1 zp2 : Int32} (hK : SgOk σ) (hw : zWk σ) (h1 : oA_common σ zp0 zp1 zp2) (h2 : oB_common σ zp0 zp1 zp2) : zWk (ss_common σ zp0 zp1 zp2) := by
  simp only [oA_common] at h1
  simp only [oB_common] at h2
  show zWk (σ)
  exact hw
theorem wk_refuses {σ : Sg} {zp0 : Int32} (hK : SgOk σ) (hw : zWk σ) (h1 : oA_refuses σ zp0) (h2 : oB_refuses σ zp0) : zWk (ss_refuses σ zp0) := by
  simp only [oA_refuses] at h1
  simp only [oB_refuses] at h2
  show zWk (σ)
  exact hw
theorem wk_errors {σ : Sg} {zp0 : Int32} (hK : SgOk σ) (hw : zWk σ) (h1 : oA_errors σ zp0) (h2 : oB_errors σ zp0) : zWk (ss_errors σ zp0) := by
  simp only [oA_errors] at h1
  simp only [oB_errors] at h2
  show zWk (σ)
  exact hw
theorem wk_meanWord {σ : Sg} {zp0 : Int32} (hK : SgOk σ) (hw : zWk σ) (h1 : oA_meanWord σ zp0) (h2 : oB_meanWord σ zp0) : zWk (ss_meanWord σ zp0) := by
  simp only [oA_meanWord] at h1
  simp only [oB_meanWord] at h2
  show zWk (σ)
  exact hw
theorem wk_share {σ : Sg} {zp0 zp1 : Int32} (hK : SgOk σ) (hw : zWk σ) (h1 : oA_share σ zp0 zp1) (h2 : oB_share σ zp0 zp1) : zWk (ss_share σ zp0 zp1) := by
  simp only [oA_share] at h1
  simp only [oB_share] at h2
  show zWk (σ)
  exact hw
