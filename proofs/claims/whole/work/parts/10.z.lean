/-! The worlds of this claim as one partial function: zM says what lies at which address; a method's contract speaks of any zM in which the cells that it uses lie, and says the zM behind it. What may change: all cells from B0 on (B0: the heap's size at the law's entry), so no frame rule is wanted. -/
abbrev zM : Type := Nat → Option va_E
abbrev zK : Type := va_G × (Nat → ClassId)
def zA (B0 : Nat) : Nat → Prop := fun q => B0 ≤ q
def zu (F : zM) (a : Nat) (e : va_E) : zM := fun q => if q = a then some e else F q
theorem zu_s {F : zM} {a : Nat} {e : va_E} : zu F a e a = some e := if_pos rfl
theorem zu_n {F : zM} {a b : Nat} {e : va_E} (h : b ≠ a) : zu F a e b = F b := if_neg h
theorem zu_k {F : zM} {a b : Nat} {e e0 e1 : va_E} (ha : F a = some e0) (hb : F b = some e1) (h : e1 ≠ e0) : zu F a e b = some e1 := by
  rw [zu_n (fun q => h ?_), hb]
  subst q
  exact Option.some.inj (hb.symm.trans ha)
def zH (D : va_G) (F : zM) (H : Heap) : Prop := ∀ (a : Nat) (e : va_E), F a = some e → va_at D vwCl (a, e) H
def zt (G : zK) : List (ClassId × FieldType) := [(G.2 0, .int), (G.2 1, .object RX1), (G.2 2, .object RX3), (G.2 3, .long), (G.2 4, .double)]
abbrev zAI (G : zK) (n : Nat) (f : Nat → Int32) : va_E := .inl (G.2 0, n, .inl f)
abbrev zA1 (G : zK) (n : Nat) (f : Nat → Option Nat) : va_E := .inl (G.2 1, n, .inr (.inr (.inr (.inr f))))
abbrev zA3 (G : zK) (n : Nat) (f : Nat → Option Nat) : va_E := .inl (G.2 2, n, .inr (.inr (.inr (.inr f))))
abbrev zAL (G : zK) (n : Nat) (f : Nat → Int64) : va_E := .inl (G.2 3, n, .inr (.inl f))
abbrev zAD (G : zK) (n : Nat) (f : Nat → UInt64) : va_E := .inl (G.2 4, n, .inr (.inr (.inr (.inl f))))
abbrev zO (ci : Nat) (fs : List Value) : va_E := .inr (ci, fs)
def zNest : List Cond := [.fieldLinkNest RX2 53 "WordConcordance$Row" "length" "I" RX2, .fieldLinkNest RX2 83 "WordConcordance$Row" "words" "[I" RX2, .fieldLinkNest RX4 43 "WordConcordanceModel$Row" "many" "I" RX4, .fieldLinkNest RX4 89 "WordConcordanceModel$Row" "words" "[I" RX4, .methodLinkNest RX4 23 yX3_init RX4, .declares (Bundle.initS "java/lang/RuntimeException"), .declares (Bundle.initS "java/lang/Exception"), .declares (Bundle.initS Bundle.tN)]
def zStr : List (String × Nat × String) := [(RX2, 113, "the wanted phrase has no words"), (RX2, 168, "the text is not sorted"), (RX2, 187, "the other text has fewer words"), (RX2, 191, "the word does not stand so often"), (RX2, 248, "no such text"), (RX2, 251, "no such phrase"), (RX2, 253, "no such word"), (RX2, 255, "no such place"), (RX2, 257, "no such part"), (RX2, 259, "out of range"), (RX2, 262, "less than 0"), (RX2, 264, "no such order"), (RX2, 266, "too many words"), (RX2, 268, "the text has no words"), (RX2, 94, "too many words for a phrase"), (RX0, 18, "fewer than no copies"), (RX0, 28, "no such place"), (RX0, 33, "the copies never change")]
def zNcs : List (String × String) := [(zES, zEI), (zEA, zEI), (zEN, zEI), (zEU, zEI), (zEI, zES), (zEA, zES), (zEN, zES), (zEU, zES), (zEI, zEA), (zES, zEA), (zEN, zEA), (zEU, zEA), (zEI, zEN), (zES, zEN), (zEA, zEN), (zEI, zEU), (zES, zEU), (zEA, zEU), (zEN, zEU)]
def zEx : List String := [zEI, zES, zEA, zEN, zEU]
def zCs (E : String) (U : State) : Prop := ∃ c t : ClassId, U.vm.findClass E = some c ∧ U.vm.findClass E = some t ∧ U.vm.assignable c t = true
theorem zCs.moved {E : String} {u U : State} (hvm : u.vm.Alike U.vm) (h : zCs E u) : zCs E U := by
  obtain ⟨c, t, h1, h2, h3⟩ := h
  exact ⟨c, t, by rw [hvm.findClass]; exact h1, by rw [hvm.findClass]; exact h2, by rw [hvm.assignable]; exact h3⟩
theorem zCs.of {E : String} {args : Array Value} {s : State} (h : (Cond.castable E E).before args s = true) : zCs E s := by
  obtain ⟨c, t, h1, h2, h3⟩ := Cond.castable_spec h
  exact ⟨c, t, h1, h2, h3⟩
theorem zCs.use {E : String} {args : Array Value} {s : State} (h : zCs E s) : (Cond.castable E E).before args s = true := by
  obtain ⟨c, t, h1, h2, h3⟩ := h
  cases Option.some.inj (h1.symm.trans h2)
  simp [Cond.before, Cond.holds, Cond.value, h1, h3]
/-- what the tables give at every state of the run -/
def zG (G : zK) (B0 : Nat) (U : State) : Prop := va_K G.1 vwCl (zt G) U ∧ (∀ w ∈ zNest, va_Nw w U) ∧ (∀ q ∈ zStr, ∃ a, vk_R q.1 q.2.1 q.2.2 a U) ∧ vx_Zq Bundle.tN "UNASSIGNED_STACK" Bundle.steD (zA B0) U U.heap ∧ vx_Zq Bundle.tN "SUPPRESSED_SENTINEL" Bundle.listD (zA B0) U U.heap ∧ va_AO RX1 U ∧ va_AO RX3 U ∧ (∀ q ∈ zNcs, va_Nc q.1 q.2 U) ∧ (∀ E ∈ zEx, zCs E U)
theorem zNw_go {s U : State} (hW : s.WarmedH U.vm) (h : ∀ w ∈ zNest, va_Nw w s) : ∀ w ∈ zNest, va_Nw w U := by
  intro w hw
  have h1 := h w hw
  simp only [zNest, List.mem_cons, List.not_mem_nil, or_false] at hw
  rcases hw with rfl | rfl | rfl | rfl | rfl | rfl | rfl | rfl
  · exact va_Nw.warmF hW h1
  · exact va_Nw.warmF hW h1
  · exact va_Nw.warmF hW h1
  · exact va_Nw.warmF hW h1
  · exact va_Nw.warmM hW h1
  · exact va_Nw.warmD hW h1
  · exact va_Nw.warmD hW h1
  · exact va_Nw.warmD hW h1
theorem zG.go {G : zK} {B0 : Nat} {s U : State} (h : zG G B0 s) (hW : s.WarmedH U.vm) (hk : ∀ a : Nat, a < s.heap.size → ¬ zA B0 a → U.heap[a]? = s.heap[a]?) : zG G B0 U := by
  obtain ⟨h1, h2, h3, h4, h5, h6, h7, h8, h9⟩ := h
  refine ⟨va_K.moved hW.alike h1, zNw_go hW h2, fun q hq => ?_, (h4.moved hW.alike).kept hk, (h5.moved hW.alike).kept hk, h6.moved hW.alike, h7.moved hW.alike, fun q hq => (h8 q hq).moved hW.alike, fun q hq => (h9 q hq).moved hW.alike⟩
  obtain ⟨a, ha⟩ := h3 q hq
  exact ⟨a, ha.warm hW⟩
/-- at a point of a walk: the tables, what has been kept, the world -/
def zI (G : zK) (B0 : Nat) (s : State) (H : Heap) (locs : List Loc) (F : zM) : Prop := zG G B0 s ∧ va_S (zA B0) s.heap H locs ∧ zH G.1 F H ∧ (∀ (a : Nat) (e : va_E), F a = some e → B0 ≤ a) ∧ B0 ≤ s.heap.size
theorem zI.P {G : zK} {B0 : Nat} {s : State} {H : Heap} {locs : List Loc} {F : zM} (h : zI G B0 s H locs F) {a : Nat} {e : va_E} (he : F a = some e) : va_P G.1 vwCl [(a, e)] H := by
  intro k q hk
  have hz : k < 1 := (List.getElem?_eq_some_iff.mp hk).1
  rw [show k = 0 by omega] at hk
  cases hk
  exact h.2.2.1 a e he
theorem zI.lt {G : zK} {B0 : Nat} {s : State} {H : Heap} {locs : List Loc} {F : zM} (h : zI G B0 s H locs F) {a : Nat} {e : va_E} (he : F a = some e) : a < H.size := (h.2.2.1 a e he).lt
theorem zH.put {D : va_G} {F : zM} {H H1 : Heap} {a : Nat} {e : va_E} (h : zH D F H) (he : va_at D vwCl (a, e) H1) (oq : ∀ q : Nat, q ≠ a → H1[q]? = H[q]?) : zH D (zu F a e) H1 := by
  intro b e' hb
  by_cases hba : b = a
  · subst hba
    rw [zu_s] at hb
    cases hb
    exact he
  · rw [zu_n hba] at hb
    exact (h b e' hb).kept (oq b hba)
theorem zI.put {G : zK} {B0 : Nat} {s : State} {H H1 : Heap} {locs : List Loc} {F : zM} (h : zI G B0 s H locs F) {a k : Nat} {e0 e : va_E} (h0 : F a = some e0) (he : va_at G.1 vwCl (a, e) H1) (z : H1.size = H.size) (oq : ∀ q : Nat, q ≠ a → H1[q]? = H[q]?) : zI G B0 s H1 (locs ++ [⟨a, k⟩]) (zu F a e) := by
  refine ⟨h.1, h.2.1.put z oq (h.2.2.2.1 a e0 h0), h.2.2.1.put he oq, fun b e' hb => ?_, h.2.2.2.2⟩
  by_cases hba : b = a
  · subst hba
    exact h.2.2.2.1 b e0 h0
  · rw [zu_n hba] at hb
    exact h.2.2.2.1 b e' hb
theorem zI.new {G : zK} {B0 : Nat} {s : State} {H H1 : Heap} {locs : List Loc} {F : zM} (h : zI G B0 s H locs F) {e : va_E} (he : va_at G.1 vwCl (H.size, e) H1) (z : H.size ≤ H1.size) (oq : ∀ q : Nat, q < H.size → H1[q]? = H[q]?) : zI G B0 s H1 locs (zu F H.size e) := by
  refine ⟨h.1, ⟨Nat.le_trans h.2.1.1 z, fun q h1 h2 => (oq q (Nat.lt_of_lt_of_le h1 h.2.1.1)).trans (h.2.1.2.1 q h1 h2), h.2.1.2.2⟩, fun b e' hb => ?_, fun b e' hb => ?_, h.2.2.2.2⟩
  · by_cases hba : b = H.size
    · subst hba
      rw [zu_s] at hb
      cases hb
      exact he
    · rw [zu_n hba] at hb
      exact (h.2.2.1 b e' hb).kept (oq b (h.lt hb))
  · by_cases hba : b = H.size
    · subst hba
      exact Nat.le_trans h.2.2.2.2 h.2.1.1
    · rw [zu_n hba] at hb
      exact h.2.2.2.1 b e' hb
/-- what every contract asks of the state, and says of the world behind -/
def zPre (G : zK) (B0 : Nat) (F : zM) (U : State) : Prop := zG G B0 U ∧ zH G.1 F U.heap ∧ (∀ (a : Nat) (e : va_E), F a = some e → B0 ≤ a) ∧ B0 ≤ U.heap.size
def zQ (G : zK) (B0 : Nat) (F : zM) (t : State) : Prop := zH G.1 F t.heap ∧ ∀ (a : Nat) (e : va_E), F a = some e → B0 ≤ a
theorem zPre.I {G : zK} {B0 : Nat} {F : zM} {s : State} (h : zPre G B0 F s) : zI G B0 s s.heap [] F := ⟨h.1, va_S.rf, h.2.1, h.2.2.1, h.2.2.2⟩
theorem zI.pre {G : zK} {B0 : Nat} {s : State} {H : Heap} {locs : List Loc} {F : zM} (h : zI G B0 s H locs F) {U : State} (hU : U.heap = H) (hW : s.WarmedH U.vm) : zPre G B0 F U := by
  refine ⟨h.1.go hW (fun a h1 h2 => by rw [hU]; exact h.2.1.2.1 a h1 h2), by rw [hU]; exact h.2.2.1, h.2.2.2.1, Nat.le_trans h.2.2.2.2 (by rw [hU]; exact h.2.1.1)⟩
theorem z_blind {G : zK} {B0 : Nat} {F : zM} {av : List Value} : FrameBlind (va_Pc av (zPre G B0 F)) := by
  intro a U g mk q
  obtain ⟨q0, q1, q2, q3, q4⟩ := q
  exact ⟨q0, q1.go (s := U) (U := U.calling g mk a) (State.WarmedH.refl U) (fun _ _ _ => rfl), q2, q3, q4⟩
theorem zI.call {G : zK} {B0 : Nat} {s : State} {H H1 : Heap} {locs locs1 : List Loc} {F F' : zM} (h : zI G B0 s H locs F) {t : State} (ht : t.heap = H1) (hq : zQ G B0 F' t) (hS : va_S (zA B0) s.heap H1 locs1) : zI G B0 s H1 locs1 F' := ⟨h.1, hS, by rw [← ht]; exact hq.1, hq.2, h.2.2.2.2⟩
section ZR
variable {p : Program} {l : Launch} {e : Env} {R : Room} {s : State} {m : MethodId} {args : Array Value} {below : List Frame} {meth : Method} {c : Code} {H : Heap} {locs : List Loc} {cells slots : Nat} {Q : State → Prop}
variable {cc : ByteArray} {pc : Nat} {ls : Array Slot} {rest : List Value} {a : Nat} {G : zK} {B0 : Nat} {F : zM}
theorem z_get (hexec : p.tables.exec = Jvm.exec) (hb : c.code = cc) {own ref C : String} {T : u_T} {N ci index : Nat} {Ts : List Cond} (hts : ∀ w ∈ Ts, w.before args s = true) (hown : s.vm.findClass own = some m.cls) (hin : ∀ w ∈ u_ws C T N, w ∈ Ts) (hc : vwCl[ci]? = some (C, T, N)) (k : Nat) (hk : k < N) (hlink : (Cond.fieldLink own index ref (T k).2.1 (T k).2.2.1).before args s = true) (hsame : ref = (T k).1) (hI : zI G B0 s H locs F) {fs : List Value} (he : F a = some (zO ci fs)) {v : Value} (hv : fs[k]? = some v) (hdg : decode cc pc = .ok (.getfield index, 3))
    (kk : W p l e R s m args below meth c H locs cells slots Q (F0 m (pc + 3) ls (v :: rest))) : W p l e R s m args below meth c H locs cells slots Q (F0 m pc ls (.ref a :: rest)) :=
  va_get hexec hb hts hin hown hI.1.1 (hI.P he) 0 rfl hc k hk hlink (fun _ h => by rw [hsame]; exact h) hv hdg kk
theorem z_getN (hexec : p.tables.exec = Jvm.exec) (hb : c.code = cc) {own ref C host : String} {T : u_T} {N ci index : Nat} {Ts : List Cond} (hts : ∀ w ∈ Ts, w.before args s = true) (hown : s.vm.findClass own = some m.cls) (hin : ∀ w ∈ u_ws C T N, w ∈ Ts) (hc : vwCl[ci]? = some (C, T, N)) (k : Nat) (hk : k < N) (hlink : Cond.fieldLinkNest own index ref (T k).2.1 (T k).2.2.1 host ∈ zNest) (hsame : ref = (T k).1) (hI : zI G B0 s H locs F) {fs : List Value} (he : F a = some (zO ci fs)) {v : Value} (hv : fs[k]? = some v) (hdg : decode cc pc = .ok (.getfield index, 3))
    (kk : W p l e R s m args below meth c H locs cells slots Q (F0 m (pc + 3) ls (v :: rest))) : W p l e R s m args below meth c H locs cells slots Q (F0 m pc ls (.ref a :: rest)) :=
  va_getN hexec hb hts hin hown hI.1.1 (hI.P he) 0 rfl hc k hk (va_Nw.use rfl (hI.1.2.1 _ hlink)) (fun _ h => by rw [hsame]; exact h) hv hdg kk
theorem z_put (hexec : p.tables.exec = Jvm.exec) (hb : c.code = cc) {own ref C : String} {T : u_T} {N ci index : Nat} {Ts : List Cond} (hts : ∀ w ∈ Ts, w.before args s = true) (hown : s.vm.findClass own = some m.cls) (hin : ∀ w ∈ u_ws C T N, w ∈ Ts) (ty0 : Nat → FieldType) (hty : ∀ k, k < N → parseFieldDescriptor (T k).2.2.1 = some (ty0 k)) (hnm : ∀ a, a < N → ∀ b, b < N → a ≠ b → (T a).2.1 ≠ (T b).2.1) (hc : vwCl[ci]? = some (C, T, N)) (k : Nat) (hk : k < N) (hlink : (Cond.fieldLink own index ref (T k).2.1 (T k).2.2.1).before args s = true) (hsame : ref = (T k).1) (hI : zI G B0 s H locs F) {fs : List Value} (he : F a = some (zO ci fs)) (hfin : (T k).2.2.2 = false) {ty : FieldType} {v : Value} (hd : parseFieldDescriptor (T k).2.2.1 = some ty) (hn : narrow ty v = v) (hfit : fits ty v = true) (hl : k < fs.length)
    (hdg : decode cc pc = .ok (.putfield index, 3)) (kk : ∀ (H1 : Heap) (locs1 : List Loc), ∀ F1 : zM, F1 a = some (zO ci (fs.set k v)) → (∀ b, b ≠ a → F1 b = F b) → zI G B0 s H1 locs1 F1 → W p l e R s m args below meth c H1 locs1 cells slots Q (F0 m (pc + 3) ls rest)) : W p l e R s m args below meth c H locs cells slots Q (F0 m pc ls (v :: .ref a :: rest)) := by
  have hap := va_apart (own := own) hts hin ty0 hty hnm hI.1.1 hc
  obtain ⟨r, h1, cell, q1, q2, q3, q4⟩ := hI.2.2.1 a _ he
  have hr : r = (C, T, N) := Option.some.inj (h1.symm.trans hc)
  subst hr
  obtain ⟨hS, hfc, kC, hkC, hkind⟩ := hI.1.1.1 ci _ hc
  obtain ⟨cf, kf, fi, f, hi, hsl⟩ := hS k hk
  have hlay := hts _ (hin _ (u_in_lay hk))
  unfold u_lay at hlay
  rw [if_neg (by rw [hfin]; decide)] at hlay
  have hst := (u_facts hfc hkC (u_lays hts hin hk) hi).1
  have h6 := u_store hfc hkC hkind hlay hi hd hn hfit
  refine W.putK hexec hb (f := f) ⟨hown, hlink, ⟨_, _, _, (by rw [hsame]; exact hi)⟩, hst⟩ (by rw [q2]; exact h6) q1 q3 (by rw [hsl]; exact k2_hasslot (q4 k hk)) rfl rfl hdg fun H' e1 e2 e3 => ?_
  rw [hsl] at e1 ⊢
  exact kk H' _ _ zu_s (fun b h => zu_n h) (hI.put he ⟨_, hc, t_OB.to (V := updV (vp_V fs) k v) ⟨_, e1, q2, q3, t_set q4 hap hk v⟩ (fun j _ => vp_updV_set hl v j)⟩ e2 e3)
theorem z_putN (hexec : p.tables.exec = Jvm.exec) (hb : c.code = cc) {own ref C host : String} {T : u_T} {N ci index : Nat} {Ts : List Cond} (hts : ∀ w ∈ Ts, w.before args s = true) (hown : s.vm.findClass own = some m.cls) (hin : ∀ w ∈ u_ws C T N, w ∈ Ts) (ty0 : Nat → FieldType) (hty : ∀ k, k < N → parseFieldDescriptor (T k).2.2.1 = some (ty0 k)) (hnm : ∀ a, a < N → ∀ b, b < N → a ≠ b → (T a).2.1 ≠ (T b).2.1) (hc : vwCl[ci]? = some (C, T, N)) (k : Nat) (hk : k < N) (hlink : Cond.fieldLinkNest own index ref (T k).2.1 (T k).2.2.1 host ∈ zNest) (hsame : ref = (T k).1) (hI : zI G B0 s H locs F) {fs : List Value} (he : F a = some (zO ci fs)) (hfin : (T k).2.2.2 = false) {ty : FieldType} {v : Value} (hd : parseFieldDescriptor (T k).2.2.1 = some ty) (hn : narrow ty v = v) (hfit : fits ty v = true) (hl : k < fs.length)
    (hdg : decode cc pc = .ok (.putfield index, 3)) (kk : ∀ (H1 : Heap) (locs1 : List Loc), ∀ F1 : zM, F1 a = some (zO ci (fs.set k v)) → (∀ b, b ≠ a → F1 b = F b) → zI G B0 s H1 locs1 F1 → W p l e R s m args below meth c H1 locs1 cells slots Q (F0 m (pc + 3) ls rest)) : W p l e R s m args below meth c H locs cells slots Q (F0 m pc ls (v :: .ref a :: rest)) := by
  have hap := va_apart (own := own) hts hin ty0 hty hnm hI.1.1 hc
  obtain ⟨r, h1, cell, q1, q2, q3, q4⟩ := hI.2.2.1 a _ he
  have hr : r = (C, T, N) := Option.some.inj (h1.symm.trans hc)
  subst hr
  obtain ⟨hS, hfc, kC, hkC, hkind⟩ := hI.1.1.1 ci _ hc
  obtain ⟨cf, kf, fi, f, hi, hsl⟩ := hS k hk
  have hlay := hts _ (hin _ (u_in_lay hk))
  unfold u_lay at hlay
  rw [if_neg (by rw [hfin]; decide)] at hlay
  have hst := (u_facts hfc hkC (u_lays hts hin hk) hi).1
  have h6 := u_store hfc hkC hkind hlay hi hd hn hfit
  refine va_WputK hexec hb (f := f) hown (va_Nw.use rfl (hI.1.2.1 _ hlink)) (by rw [hsame]; exact hi) hst (by rw [q2]; exact h6) q1 q3 (by rw [hsl]; exact k2_hasslot (q4 k hk)) rfl rfl hdg fun H' e1 e2 e3 => ?_
  rw [hsl] at e1 ⊢
  exact kk H' _ _ zu_s (fun b h => zu_n h) (hI.put he ⟨_, hc, t_OB.to (V := updV (vp_V fs) k v) ⟨_, e1, q2, q3, t_set q4 hap hk v⟩ (fun j _ => vp_updV_set hl v j)⟩ e2 e3)
theorem z_putF (hexec : p.tables.exec = Jvm.exec) (hb : c.code = cc) {own ref C : String} {T : u_T} {N ci index : Nat} {Ts : List Cond} (hts : ∀ w ∈ Ts, w.before args s = true) (hown : s.vm.findClass own = some m.cls) (hin : ∀ w ∈ u_ws C T N, w ∈ Ts) (ty0 : Nat → FieldType) (hty : ∀ k, k < N → parseFieldDescriptor (T k).2.2.1 = some (ty0 k)) (hnm : ∀ a, a < N → ∀ b, b < N → a ≠ b → (T a).2.1 ≠ (T b).2.1) (hc : vwCl[ci]? = some (C, T, N)) (k : Nat) (hk : k < N) (hlink : (Cond.fieldLink own index ref (T k).2.1 (T k).2.2.1).before args s = true) (hsame : ref = (T k).1) (hI : zI G B0 s H locs F) {fs : List Value} (he : F a = some (zO ci fs)) (hfin : (T k).2.2.2 = true) (hin2 : meth.name = "<init>") (hdecl : (T k).1 = own) {ty : FieldType} {v : Value} (hd : parseFieldDescriptor (T k).2.2.1 = some ty) (hn : narrow ty v = v) (hfit : fits ty v = true) (hl : k < fs.length)
    (hdg : decode cc pc = .ok (.putfield index, 3)) (kk : ∀ (H1 : Heap) (locs1 : List Loc), H1.size = H.size → ∀ F1 : zM, F1 a = some (zO ci (fs.set k v)) → (∀ b, b ≠ a → F1 b = F b) → zI G B0 s H1 locs1 F1 → W p l e R s m args below meth c H1 locs1 cells slots Q (F0 m (pc + 3) ls rest)) : W p l e R s m args below meth c H locs cells slots Q (F0 m pc ls (v :: .ref a :: rest)) := by
  have hap := va_apart (own := own) hts hin ty0 hty hnm hI.1.1 hc
  obtain ⟨r, h1, cell, q1, q2, q3, q4⟩ := hI.2.2.1 a _ he
  have hr : r = (C, T, N) := Option.some.inj (h1.symm.trans hc)
  subst hr
  obtain ⟨hS, hfc, kC, hkC, hkind⟩ := hI.1.1.1 ci _ hc
  obtain ⟨cf, kf, fi, f, hi, hsl⟩ := hS k hk
  have hlay := hts _ (hin _ (u_in_lay hk))
  unfold u_lay at hlay
  rw [if_pos hfin] at hlay
  have hst := (u_facts hfc hkC (u_lays hts hin hk) hi).1
  have hcf : m.cls = cf := by
    obtain ⟨_, _, c', _, _, _, -, -, hf', -, -, -, hown2, -⟩ := Cond.laysFinal_spec hlay
    have e1 : c' = cf := by have := hi.symm.trans hf'; simp at this; exact this.1.symm
    rw [hdecl] at hown2
    rw [← e1]; exact Option.some.inj (hown.symm.trans hown2)
  have h6 := u_fits hfc hkC hkind (Or.inr hlay) hi hd hn hfit
  refine W.putFinK hexec hb hown hlink (by rw [hsame]; exact hi) hst hcf hin2 (by rw [q2]; exact h6) q1 q3 (by rw [hsl]; exact k2_hasslot (q4 k hk)) rfl rfl hdg fun H' e1 e2 e3 => ?_
  rw [hsl] at e1 ⊢
  exact kk H' _ e2 _ zu_s (fun b h => zu_n h) (hI.put he ⟨_, hc, t_OB.to (V := updV (vp_V fs) k v) ⟨_, e1, q2, q3, t_set q4 hap hk v⟩ (fun j _ => vp_updV_set hl v j)⟩ e2 e3)
theorem z_ild (hexec : p.tables.exec = Jvm.exec) (hb : c.code = cc) (hI : zI G B0 s H locs F) {n : Nat} {f : Nat → Int32} (he : F a = some (zAI G n f)) {k : Nat} (hk : k < n) (hn : n < 2 ^ 31) {v : Int32} (hv : f k = v) (hdg : decode cc pc = .ok (.iaload, 1))
    (kk : W p l e R s m args below meth c H locs cells slots Q (F0 m (pc + 1) ls (.int v :: rest))) : W p l e R s m args below meth c H locs cells slots Q (F0 m pc ls (.int (nI k) :: .ref a :: rest)) := by
  subst hv
  refine va_iald hexec hb hI.1.1 (hI.P he) 0 0 rfl rfl (vp_in_nI hk hn) hdg ?_
  rw [nI_clamp (by omega)]
  exact kk
theorem z_alenI (hexec : p.tables.exec = Jvm.exec) (hb : c.code = cc) (hI : zI G B0 s H locs F) {n : Nat} {f : Nat → Int32} (he : F a = some (zAI G n f)) (hdg : decode cc pc = .ok (.arraylength, 1))
    (kk : W p l e R s m args below meth c H locs cells slots Q (F0 m (pc + 1) ls (.int (nI n) :: rest))) : W p l e R s m args below meth c H locs cells slots Q (F0 m pc ls (.ref a :: rest)) :=
  va_alen hexec hb hI.1.1 (hI.P he) 0 0 rfl rfl rfl hdg kk
theorem z_ald1 (hexec : p.tables.exec = Jvm.exec) (hb : c.code = cc) (hI : zI G B0 s H locs F) {n : Nat} {f : Nat → Option Nat} (he : F a = some (zA1 G n f)) {k : Nat} (hk : k < n) (hn : n < 2 ^ 31) {v : Nat} (hv : f k = some v) (hdg : decode cc pc = .ok (.aaload, 1))
    (kk : W p l e R s m args below meth c H locs cells slots Q (F0 m (pc + 1) ls (.ref v :: rest))) : W p l e R s m args below meth c H locs cells slots Q (F0 m pc ls (.int (nI k) :: .ref a :: rest)) := by
  refine va_aldq hexec hb hI.1.1 (hI.P he) 0 1 rfl rfl (vp_in_nI hk hn) hdg ?_
  rw [nI_clamp (by omega), hv]
  exact kk
theorem z_ald3 (hexec : p.tables.exec = Jvm.exec) (hb : c.code = cc) (hI : zI G B0 s H locs F) {n : Nat} {f : Nat → Option Nat} (he : F a = some (zA3 G n f)) {k : Nat} (hk : k < n) (hn : n < 2 ^ 31) {v : Nat} (hv : f k = some v) (hdg : decode cc pc = .ok (.aaload, 1))
    (kk : W p l e R s m args below meth c H locs cells slots Q (F0 m (pc + 1) ls (.ref v :: rest))) : W p l e R s m args below meth c H locs cells slots Q (F0 m pc ls (.int (nI k) :: .ref a :: rest)) := by
  refine va_aldq hexec hb hI.1.1 (hI.P he) 0 2 rfl rfl (vp_in_nI hk hn) hdg ?_
  rw [nI_clamp (by omega), hv]
  exact kk
theorem z_lld (hexec : p.tables.exec = Jvm.exec) (hb : c.code = cc) (hI : zI G B0 s H locs F) {n : Nat} {f : Nat → Int64} (he : F a = some (zAL G n f)) {k : Nat} (hk : k < n) (hn : n < 2 ^ 31) (hdg : decode cc pc = .ok (.laload, 1))
    (kk : W p l e R s m args below meth c H locs cells slots Q (F0 m (pc + 1) ls (.long (f k) :: rest))) : W p l e R s m args below meth c H locs cells slots Q (F0 m pc ls (.int (nI k) :: .ref a :: rest)) := by
  refine va_lald hexec hb hI.1.1 (hI.P he) 0 3 rfl rfl (vp_in_nI hk hn) hdg ?_
  rw [nI_clamp (by omega)]
  exact kk
theorem z_dld (hexec : p.tables.exec = Jvm.exec) (hb : c.code = cc) (hI : zI G B0 s H locs F) {n : Nat} {f : Nat → UInt64} (he : F a = some (zAD G n f)) {k : Nat} (hk : k < n) (hn : n < 2 ^ 31) (hdg : decode cc pc = .ok (.daload, 1))
    (kk : W p l e R s m args below meth c H locs cells slots Q (F0 m (pc + 1) ls (.double (f k) :: rest))) : W p l e R s m args below meth c H locs cells slots Q (F0 m pc ls (.int (nI k) :: .ref a :: rest)) := by
  refine va_dald hexec hb hI.1.1 (hI.P he) 0 4 rfl rfl (vp_in_nI hk hn) hdg ?_
  rw [nI_clamp (by omega)]
  exact kk
theorem z_ist (hexec : p.tables.exec = Jvm.exec) (hb : c.code = cc) (hI : zI G B0 s H locs F) {n : Nat} {f : Nat → Int32} (he : F a = some (zAI G n f)) {k : Nat} (hk : k < n) (hn : n < 2 ^ 31) {x : Int32} (hdg : decode cc pc = .ok (.iastore, 1))
    (kk : ∀ (H1 : Heap) (locs1 : List Loc), ∀ F1 : zM, F1 a = some (zAI G n (upd f k x)) → (∀ b, b ≠ a → F1 b = F b) → zI G B0 s H1 locs1 F1 → W p l e R s m args below meth c H1 locs1 cells slots Q (F0 m (pc + 1) ls rest)) : W p l e R s m args below meth c H locs cells slots Q (F0 m pc ls (.int x :: .int (nI k) :: .ref a :: rest)) := by
  have hin : vp_in (nI k) n := vp_in_nI hk hn
  have hcl : (nI k).toNatClampNeg = k := nI_clamp (by omega)
  refine W.iast hexec hb (hI.P he 0 _ rfl) ((hI.1.1.2 0 _ rfl).1 n (fun j => .int (f j))) (fun q => by cases q) (by show ¬ ((nI k) < 0 ∨ (arrV _ _ _).slots.size ≤ _); rw [arrV_size]; exact hin) rfl rfl hdg fun H1 e z oq => ?_
  refine kk H1 _ _ zu_s (fun b h => zu_n h) (hI.put he ?_ z oq)
  show H1[a]? = some (vp_cell _ _)
  rw [e, hcl]
  rw [vp_cell_i, vp_cell_i, arrV_store]
  congr 2
  funext q
  by_cases hq : q = k
  · subst hq
    simp [updV, upd]
  · simp [updV, upd, hq]
theorem z_lst (hexec : p.tables.exec = Jvm.exec) (hb : c.code = cc) (hI : zI G B0 s H locs F) {n : Nat} {f : Nat → Int64} (he : F a = some (zAL G n f)) {k : Nat} (hk : k < n) (hn : n < 2 ^ 31) {x : Int64} (hdg : decode cc pc = .ok (.lastore, 1))
    (kk : ∀ (H1 : Heap) (locs1 : List Loc), ∀ F1 : zM, F1 a = some (zAL G n (vp_updL f k x)) → (∀ b, b ≠ a → F1 b = F b) → zI G B0 s H1 locs1 F1 → W p l e R s m args below meth c H1 locs1 cells slots Q (F0 m (pc + 1) ls rest)) : W p l e R s m args below meth c H locs cells slots Q (F0 m pc ls (.long x :: .int (nI k) :: .ref a :: rest)) := by
  have hin : vp_in (nI k) n := vp_in_nI hk hn
  have hcl : (nI k).toNatClampNeg = k := nI_clamp (by omega)
  refine W.last hexec hb (hI.P he 0 _ rfl) ((hI.1.1.2 3 _ rfl).1 n (fun j => .long (f j))) (fun q => by cases q) (by show ¬ ((nI k) < 0 ∨ (arrV _ _ _).slots.size ≤ _); rw [arrV_size]; exact hin) rfl rfl hdg fun H1 e z oq => ?_
  refine kk H1 _ _ zu_s (fun b h => zu_n h) (hI.put he ?_ z oq)
  show H1[a]? = some (vp_cell _ _)
  rw [e, hcl]
  rw [vp_cell_l, vp_cell_l, arrV_store]
  congr 2
  funext q
  by_cases hq : q = k
  · subst hq
    simp [updV, vp_updL]
  · simp [updV, vp_updL, hq]
theorem z_dst (hexec : p.tables.exec = Jvm.exec) (hb : c.code = cc) (hI : zI G B0 s H locs F) {n : Nat} {f : Nat → UInt64} (he : F a = some (zAD G n f)) {k : Nat} (hk : k < n) (hn : n < 2 ^ 31) {x : UInt64} (hdg : decode cc pc = .ok (.dastore, 1))
    (kk : ∀ (H1 : Heap) (locs1 : List Loc), ∀ F1 : zM, F1 a = some (zAD G n (vf_upd f k x)) → (∀ b, b ≠ a → F1 b = F b) → zI G B0 s H1 locs1 F1 → W p l e R s m args below meth c H1 locs1 cells slots Q (F0 m (pc + 1) ls rest)) : W p l e R s m args below meth c H locs cells slots Q (F0 m pc ls (.double x :: .int (nI k) :: .ref a :: rest)) := by
  have hin : vp_in (nI k) n := vp_in_nI hk hn
  have hcl : (nI k).toNatClampNeg = k := nI_clamp (by omega)
  refine W.dast hexec hb (hI.P he 0 _ rfl) ((hI.1.1.2 4 _ rfl).1 n (fun j => .double (f j))) (fun q => by cases q) (by show ¬ ((nI k) < 0 ∨ (arrV _ _ _).slots.size ≤ _); rw [arrV_size]; exact hin) rfl rfl hdg fun H1 e z oq => ?_
  refine kk H1 _ _ zu_s (fun b h => zu_n h) (hI.put he ?_ z oq)
  show H1[a]? = some (vp_cell _ _)
  rw [e, hcl]
  rw [vp_cell_d, vp_cell_d, arrV_store]
  congr 2
  funext q
  by_cases hq : q = k
  · subst hq
    simp [updV, vf_upd]
  · simp [updV, vf_upd, hq]
theorem z_ast (t0 ci : Nat) {r : vw_C} {C : ClassId} (ht : (zt G)[t0]? = some (C, .object r.1)) (hc : vwCl[ci]? = some r) (hexec : p.tables.exec = Jvm.exec) (hb : c.code = cc) (hI : zI G B0 s H locs F) {n v : Nat} {vs : List Value} {f : Nat → Option Nat} (he : F a = some (.inl (C, n, .inr (.inr (.inr (.inr f)))))) (hv : F v = some (zO ci vs)) {k : Nat} (hk : k < n) (hn : n < 2 ^ 31) (hdg : decode cc pc = .ok (.aastore, 1))
    (kk : ∀ (H1 : Heap) (locs1 : List Loc), H1.size = H.size → ∀ F1 : zM, F1 a = some (.inl (C, n, .inr (.inr (.inr (.inr (va_up f k (some v))))))) → (∀ b, b ≠ a → F1 b = F b) → zI G B0 s H1 locs1 F1 → W p l e R s m args below meth c H1 locs1 cells slots Q (F0 m (pc + 1) ls rest)) : W p l e R s m args below meth c H locs cells slots Q (F0 m pc ls (.ref v :: .int (nI k) :: .ref a :: rest)) := by
  have hcl : (nI k).toNatClampNeg = k := nI_clamp (by omega)
  have h0 : ¬ nI k < 0 := fun q => vp_in_nI hk hn (Or.inl q)
  obtain ⟨r', hr', cellV, g1, g2, g3, -⟩ := hI.2.2.1 v _ hv
  have hcls := (hI.1.1.1 ci r hc).2
  obtain ⟨kA, comp, k1, k2, k3, -⟩ := (hI.1.1.2 t0 _ ht).2
  have hcomp : comp = G.1.1 ci := Option.some.inj (k3.symm.trans hcls.1)
  subst hcomp
  obtain ⟨kC, hkC, -⟩ := hcls.2
  refine W.aast hexec hb (hI.P he 0 _ rfl) (fun q h => by cases h) (fun h => by cases h) k1 k2 rfl hkC ⟨h0, by show _ < (arrV _ _ _).slots.size; rw [arrV_size, hcl]; exact hk⟩ g1 (fun q h => by rw [g3] at h; cases h) (by rw [g2]; exact hkC) (by rw [g2]; exact va_assign hcls) rfl rfl hdg fun H1 e z oq => ?_
  refine kk H1 _ z _ zu_s (fun b h => zu_n h) (hI.put he ?_ z oq)
  show H1[a]? = some (vp_cell _ _)
  rw [e, hcl]
  rw [vp_cell_q, vp_cell_q, arrV_store]
  congr 2
  funext q
  by_cases hq : q = k
  · subst hq
    simp [updV, va_up, va_rf]
  · simp [updV, va_up, hq]
theorem z_new (hexec : p.tables.exec = Jvm.exec) (hb : c.code = cc) {own C : String} {T : u_T} {N ci index : Nat} {Ts : List Cond} (hts : ∀ w ∈ Ts, w.before args s = true) (hown : s.vm.findClass own = some m.cls) (hin : ∀ w ∈ u_ws C T N, w ∈ Ts) (ty : Nat → FieldType) (hty : ∀ k, k < N → parseFieldDescriptor (T k).2.2.1 = some (ty k)) (hcl : (Cond.classLink own index C).before args s = true) (hinst : (Cond.instantiable C N).before args s = true) (hini : (Cond.initialized C).before args s = true)
    (hI : zI G B0 s H locs F) (hc : vwCl[ci]? = some (C, T, N)) {fs : List Value} (hfs : ∀ j, j < N → defaultValue (ty j) = vp_V fs j) (hcells : cells + 1 ≤ R.cells) (hslots : slots + N ≤ R.slots) (hdg : decode cc pc = .ok (.new index, 3))
    (kk : ∀ (q : Nat) (H1 : Heap), q = H.size → H1.size = q + 1 → ∀ F1 : zM, F1 q = some (zO ci fs) → (∀ b, b ≠ q → F1 b = F b) → zI G B0 s H1 locs F1 → W p l e R s m args below meth c H1 locs (cells + 1) (slots + N) Q (F0 m (pc + 3) ls (.ref q :: rest))) : W p l e R s m args below meth c H locs cells slots Q (F0 m pc ls rest) := by
  have hKn := hI.1.1.1 ci _ hc
  refine W.newcK hexec hb hown hcl hinst hini rfl hdg hcells hslots hKn.2.1 rfl fun H1 kC hkC e1 z1 o1 => ?_
  exact kk H.size H1 rfl z1 _ zu_s (fun b h => zu_n h) (hI.new ⟨_, hc, (u_born ty hts hin hKn hkC e1 hty).to hfs⟩ (by omega) o1)
theorem z_newI (hexec : p.tables.exec = Jvm.exec) (hb : c.code = cc) (harr : (Cond.arrayClass .int).before args s = true) (hI : zI G B0 s H locs F) {N' : Nat} (hN : N' < 1000) (hcells : cells + 1 ≤ R.cells) (hslots : slots + N' ≤ R.slots) (hdg : decode cc pc = .ok (.newarray .int, 2))
    (kk : ∀ (q : Nat) (H1 : Heap), q = H.size → H1.size = q + 1 → ∀ F1 : zM, F1 q = some (zAI G N' (fun _ => 0)) → (∀ b, b ≠ q → F1 b = F b) → zI G B0 s H1 locs F1 → W p l e R s m args below meth c H1 locs (cells + 1) (slots + N') Q (F0 m (pc + 2) ls (.ref q :: rest))) : W p l e R s m args below meth c H locs cells slots Q (F0 m pc ls (.int (nI N') :: rest)) := by
  refine va_newaK (atype := .int) hexec hb harr rfl hdg rfl (nI_pos (by omega)) (nI_clamp (by omega)) (by show N' * 4 ≤ 536870912; omega) hcells hslots rfl fun H1 cA e1 z1 o1 hAr hNm => ?_
  have hcA : cA = G.2 0 := by
    have h1 : s.vm.findClass ("[" ++ (FieldType.int).toString) = some (G.2 0) := (hI.1.1.2 0 _ rfl).2
    exact Option.some.inj (hNm.symm.trans h1)
  subst hcA
  exact kk H.size H1 rfl z1 _ zu_s (fun b h => zu_n h) (hI.new (by show H1[H.size]? = some (vp_cell _ _); rw [vp_cell_i]; exact e1) (by omega) o1)
theorem z_newJ (hexec : p.tables.exec = Jvm.exec) (hb : c.code = cc) (harr : (Cond.arrayClass .long).before args s = true) (hI : zI G B0 s H locs F) {N' : Nat} (hN : N' < 1000) (hcells : cells + 1 ≤ R.cells) (hslots : slots + N' ≤ R.slots) (hdg : decode cc pc = .ok (.newarray .long, 2))
    (kk : ∀ (q : Nat) (H1 : Heap), q = H.size → H1.size = q + 1 → ∀ F1 : zM, F1 q = some (zAL G N' (fun _ => 0)) → (∀ b, b ≠ q → F1 b = F b) → zI G B0 s H1 locs F1 → W p l e R s m args below meth c H1 locs (cells + 1) (slots + N') Q (F0 m (pc + 2) ls (.ref q :: rest))) : W p l e R s m args below meth c H locs cells slots Q (F0 m pc ls (.int (nI N') :: rest)) := by
  refine va_newaK (atype := .long) hexec hb harr rfl hdg rfl (nI_pos (by omega)) (nI_clamp (by omega)) (by show N' * 8 ≤ 536870912; omega) hcells hslots rfl fun H1 cA e1 z1 o1 hAr hNm => ?_
  have hcA : cA = G.2 3 := by
    have h1 : s.vm.findClass ("[" ++ (FieldType.long).toString) = some (G.2 3) := (hI.1.1.2 3 _ rfl).2
    exact Option.some.inj (hNm.symm.trans h1)
  subst hcA
  exact kk H.size H1 rfl z1 _ zu_s (fun b h => zu_n h) (hI.new (by show H1[H.size]? = some (vp_cell _ _); rw [vp_cell_l]; exact e1) (by omega) o1)
theorem z_newD (hexec : p.tables.exec = Jvm.exec) (hb : c.code = cc) (harr : (Cond.arrayClass .double).before args s = true) (hI : zI G B0 s H locs F) {N' : Nat} (hN : N' < 1000) (hcells : cells + 1 ≤ R.cells) (hslots : slots + N' ≤ R.slots) (hdg : decode cc pc = .ok (.newarray .double, 2))
    (kk : ∀ (q : Nat) (H1 : Heap), q = H.size → H1.size = q + 1 → ∀ F1 : zM, F1 q = some (zAD G N' (fun _ => 0)) → (∀ b, b ≠ q → F1 b = F b) → zI G B0 s H1 locs F1 → W p l e R s m args below meth c H1 locs (cells + 1) (slots + N') Q (F0 m (pc + 2) ls (.ref q :: rest))) : W p l e R s m args below meth c H locs cells slots Q (F0 m pc ls (.int (nI N') :: rest)) := by
  refine va_newaK (atype := .double) hexec hb harr rfl hdg rfl (nI_pos (by omega)) (nI_clamp (by omega)) (by show N' * 8 ≤ 536870912; omega) hcells hslots rfl fun H1 cA e1 z1 o1 hAr hNm => ?_
  have hcA : cA = G.2 4 := by
    have h1 : s.vm.findClass ("[" ++ (FieldType.double).toString) = some (G.2 4) := (hI.1.1.2 4 _ rfl).2
    exact Option.some.inj (hNm.symm.trans h1)
  subst hcA
  exact kk H.size H1 rfl z1 _ zu_s (fun b h => zu_n h) (hI.new (by show H1[H.size]? = some (vp_cell _ _); rw [vp_cell_d]; exact e1) (by omega) o1)
theorem z_newQ (t0 : Nat) {C : String} (ht : (zt G)[t0]? = some (G.2 t0, .object C)) (hexec : p.tables.exec = Jvm.exec) (hb : c.code = cc) {own : String} {index : Nat} (hown : s.vm.findClass own = some m.cls) (hclink : (Cond.classLink own index C).before args s = true) (hover : va_AO C s) (hI : zI G B0 s H locs F) {N' : Nat} (hN : N' < 1000) (hcells : cells + 1 ≤ R.cells) (hslots : slots + N' ≤ R.slots) (hdg : decode cc pc = .ok (.anewarray index, 3))
    (kk : ∀ (q : Nat) (H1 : Heap), q = H.size → H1.size = q + 1 → ∀ F1 : zM, F1 q = some (.inl (G.2 t0, N', .inr (.inr (.inr (.inr (fun _ => none)))))) → (∀ b, b ≠ q → F1 b = F b) → zI G B0 s H1 locs F1 → W p l e R s m args below meth c H1 locs (cells + 1) (slots + N') Q (F0 m (pc + 3) ls (.ref q :: rest))) : W p l e R s m args below meth c H locs cells slots Q (F0 m pc ls (.int (nI N') :: rest)) := by
  have hcl : (nI N').toNatClampNeg = N' := nI_clamp (by omega)
  refine W.anew hexec hb hown hclink (va_AO.use hover) rfl hdg rfl (nI_pos (by omega)) (by rw [hcl]; omega) hcells (by rw [hcl]; exact hslots) fun cA kA comp f1 f2 f3 f4 => ?_
  rw [hcl]
  generalize hH1 : H.push ({ cls := cA, slots := Array.replicate N' .null, vm := .none } : Cell) = H1
  have z1 : H1.size = H.size + 1 := by rw [← hH1, Array.size_push]
  have e1 : H1[H.size]? = some (arrV cA N' (fun _ => .null)) := by rw [← hH1, Array.getElem?_push_size, ← arrV_new]
  have o1 : ∀ q : Nat, q < H.size → H1[q]? = H[q]? := fun q hq => by rw [← hH1, Array.getElem?_push, if_neg (Nat.ne_of_lt hq)]
  have hcA : cA = G.2 t0 := by
    obtain ⟨kA', comp', k1, k2, k3, k4⟩ := (hI.1.1.2 t0 _ ht).2
    exact Option.some.inj (f1.symm.trans k4)
  subst hcA
  exact kk H.size H1 rfl z1 _ zu_s (fun b h => zu_n h) (hI.new (by show H1[H.size]? = some (vp_cell _ _); rw [vp_cell_q]; exact e1) (by omega) o1)
theorem z_top {x y : Value} (h : x = y) (k : W p l e R s m args below meth c H locs cells slots Q (F0 m pc ls (y :: rest))) : W p l e R s m args below meth c H locs cells slots Q (F0 m pc ls (x :: rest)) := by rw [h]; exact k
theorem z_topi {x y : Int32} (h : x = y) (k : W p l e R s m args below meth c H locs cells slots Q (F0 m pc ls (.int y :: rest))) : W p l e R s m args below meth c H locs cells slots Q (F0 m pc ls (.int x :: rest)) := by rw [h]; exact k
end ZR
