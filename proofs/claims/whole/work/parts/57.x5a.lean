theorem zI.less {G : zK} {B0 : Nat} {s : State} {H : Heap} {locs : List Loc} {F F0 : zM} (h : zI G B0 s H locs F) (hs : ∀ (a : Nat) (e : va_E), F0 a = some e → F a = some e) : zI G B0 s H locs F0 := ⟨h.1, h.2.1, fun a e he => h.2.2.1 a e (hs a e he), fun a e he => h.2.2.2.1 a e (hs a e he), h.2.2.2.2⟩
theorem zI.new_no {G : zK} {B0 : Nat} {s : State} {H : Heap} {locs : List Loc} {F : zM} (h : zI G B0 s H locs F) {a : Nat} (ha : H.size ≤ a) (e : va_E) : F a ≠ some e := fun q => absurd (h.lt q) (by omega)
/-! constructors: contracts that know the heap's size, so that addresses are known -/
def zPreN (G : zK) (B0 : Nat) (F : zM) (n : Nat) (U : State) : Prop := zPre G B0 F U ∧ U.heap.size = n
def zQn (G : zK) (B0 : Nat) (post : Option Value → zM → Prop) (n : Nat) : Array Value → State → Outcome → State → Prop := fun av st oc t => zQo G B0 post av st oc t ∧ t.heap.size = n
theorem z_blindN {G : zK} {B0 n : Nat} {F : zM} {av : List Value} : FrameBlind (va_Pc av (zPreN G B0 F n)) := by
  intro a U g mk q
  obtain ⟨q0, q1, q2⟩ := q
  exact ⟨q0, (z_blind (av := av) a U g mk ⟨q0, q1⟩).2, q2⟩
section
variable {p : Program} {l : Launch} {e : Env} {R : Room} {s : State} {m : MethodId} {args : Array Value} {below : List Frame} {meth : Method} {c : Code} {H : Heap} {locs : List Loc} {cells slots : Nat} {Q : State → Prop}
variable {cc : ByteArray} {pc : Nat} {ls : Array Slot} {rest st0 : List Value} {a : Nat} {G : zK} {B0 : Nat} {F : zM}
theorem z_putS (hexec : p.tables.exec = Jvm.exec) (hb : c.code = cc) {own ref C : String} {T : u_T} {N ci index : Nat} {Ts : List Cond} (hts : ∀ w ∈ Ts, w.before args s = true) (hown : s.vm.findClass own = some m.cls) (hin : ∀ w ∈ u_ws C T N, w ∈ Ts) (ty0 : Nat → FieldType) (hty : ∀ k, k < N → parseFieldDescriptor (T k).2.2.1 = some (ty0 k)) (hnm : ∀ a, a < N → ∀ b, b < N → a ≠ b → (T a).2.1 ≠ (T b).2.1) (hc : vwCl[ci]? = some (C, T, N)) (k : Nat) (hk : k < N) (hlink : (Cond.fieldLink own index ref (T k).2.1 (T k).2.2.1).before args s = true) (hsame : ref = (T k).1) (hI : zI G B0 s H locs F) {fs : List Value} (he : F a = some (zO ci fs)) (hfin : (T k).2.2.2 = false) {ty : FieldType} {v : Value} (hd : parseFieldDescriptor (T k).2.2.1 = some ty) (hn : narrow ty v = v) (hfit : fits ty v = true) (hl : k < fs.length)
    (hdg : decode cc pc = .ok (.putfield index, 3)) (kk : ∀ (H1 : Heap) (locs1 : List Loc), H1.size = H.size → ∀ F1 : zM, F1 a = some (zO ci (fs.set k v)) → (∀ b, b ≠ a → F1 b = F b) → zI G B0 s H1 locs1 F1 → W p l e R s m args below meth c H1 locs1 cells slots Q (F0 m (pc + 3) ls rest)) : W p l e R s m args below meth c H locs cells slots Q (F0 m pc ls (v :: .ref a :: rest)) := by
  have hap := va_apart (own := own) hts hin ty0 hty hnm hI.1.1 hc
  obtain ⟨r, h1, cell, q1, q2, q3, q4⟩ := hI.2.2.1 a _ he
  have hr : r = (C, T, N) := Option.some.inj (h1.symm.trans hc)
  subst hr
  obtain ⟨hS, hfc, kC, hkC, hkind⟩ := hI.1.1.1 ci _ hc
  obtain ⟨cf, kf, fi, f, hi, hsl⟩ := hS k hk
  have hlay := hts _ (hin _ (u_in_lay hk))
  unfold u_lay at hlay
  rw [if_neg (by rw [hfin]; decide)] at hlay
  have hst := (u_facts hfc hkC (u_lays hts hin hk) hi).1
  have h6 := u_store hfc hkC hkind hlay hi hd hn hfit
  refine W.putK hexec hb (f := f) ⟨hown, hlink, ⟨_, _, _, (by rw [hsame]; exact hi)⟩, hst⟩ (by rw [q2]; exact h6) q1 q3 (by rw [hsl]; exact k2_hasslot (q4 k hk)) rfl rfl hdg fun H' e1 e2 e3 => ?_
  rw [hsl] at e1 ⊢
  exact kk H' _ e2 _ zu_s (fun b h => zu_n h) (hI.put he ⟨_, hc, t_OB.to (V := updV (vp_V fs) k v) ⟨_, e1, q2, q3, t_set q4 hap hk v⟩ (fun j _ => vp_updV_set hl v j)⟩ e2 e3)
theorem z_ofN {n n' mc ms : Nat} {post : Option Value → zM → Prop} {y : MethodName} {maxL : Nat} {ret : Option FieldType} {rm : Room} {av : List Value} {own : String} (hy : plainName y.cls = true) (hown : y.cls = own) (hn : (lg_sl av).length ≤ maxL)
    (body : ∀ (p : Program) (e : Env) (s : State) (m : MethodId) (below : List Frame) (meth : Method) (c : Code) (ls : Array Slot), p.tables.exec = Jvm.exec → c.code = cc → meth.sig.returnType = ret → c.maxLocals = maxL → s.vm.findClass own = some m.cls → meth.locks = false → meth.name = y.name → (∀ w ∈ zW, w.before av.toArray s = true) → lv_has ls maxL (lv_args 0 av) → zI G B0 s s.heap [] F → s.heap.size = n →
      W p l e rm s m av.toArray below meth c s.heap [] 0 0 (MQ below (zQn G B0 post n') av.toArray s mc ms (zA B0)) (F0 m 0 ls [])) : Met l y (Cond.code y cc maxL ret :: zW) rm (va_Pc av (zPreN G B0 F n)) (zQn G B0 post n') mc ms (zA B0) := by
  subst hown
  refine Met.ofW (cc := cc) (maxL := maxL) (ret := ret) hy rfl ?_
  intro p e s m args below meth c s₁ B hml hv
  obtain ⟨rfl, hI, hsz⟩ := hv
  have hts := atoms_spec (ws := Cond.code y cc maxL ret :: zW) B.pre
  have hl := lv_entry av (n := maxL) hn
  rw [lg_entry_eq]
  exact body p e s m below meth c _ B.exec B.bytes B.returns hml (findClass_of_methodNamed B.named) B.notSynchronized (name_of_methodNamed B.named B.method).1 (fun w hw => hts w (List.mem_cons_of_mem _ hw)) hl hI.I hsz
theorem z_rvN {n' mc ms : Nat} {post : Option Value → zM → Prop} {F' : zM} (hexec : p.tables.exec = Jvm.exec) (hb : c.code = cc) (hr : meth.sig.returnType = none) (hlocks : meth.locks = false) (hI : zI G B0 s H locs F') (hz : H.size = n') (hp : post none F') (h1 : cells ≤ mc) (h2 : slots ≤ ms) (hdg : decode cc pc = .ok (.return_, 1)) : W p l e R s m args below meth c H locs cells slots (MQ below (zQn G B0 post n') args s mc ms (zA B0)) (F0 m pc ls []) :=
  W.widen h1 h2 (W.vret hexec hb hr (fun t ht hW => ⟨⟨⟨_, F', rfl, hp, zI_Q hI ht⟩, hI.2.1.F ht⟩, by rw [ht]; exact hz⟩) hI.2.1.2.2 hdg hlocks)
theorem z_InN {n n0 nL mc ms index maxL : Nat} {y : MethodName} {bytes : ByteArray} {ws Ts : List Cond} {rm : Room} {own : String} {Qc : Array Value → State → Outcome → State → Prop} {free : Addr → Prop} {b : Addr} {As : List Value} (S : CallFix p m c cc nL s args Ts own) (hI : zI G B0 s H locs F) (hsz : H.size = n0) (hM : Met l y ws rm (va_Pc (.ref b :: As) (zPreN G B0 F n0)) Qc mc ms free) (cw : CallB R s args own index y bytes maxL none ws rm mc ms n ∧ y.name = "<init>" ∧ (Cond.instanceMethod y).before args s = true) (hn : As.length = n) (hsize : ls.size = nL) (hstack : st0 = As.reverse ++ .ref b :: rest) (hW : 2 * (F0 m pc ls st0).monitorRoom + (rest.map fun v => v.category).sum ≤ 8) (hdg : decode cc pc = .ok (.invokespecial index, 3)) (hf : cells + mc ≤ R.cells ∧ slots + ms ≤ R.slots) : va_Run p l e R s m args below meth c H locs cells slots mc ms (F0 m pc ls st0) rest (Qc (Value.ref b :: As).toArray) free :=
  va_runI S hM cw ⟨z_blindN, fun U hU hW => ⟨rfl, hI.pre hU hW, by rw [hU]; exact hsz⟩⟩ rfl hn hsize hstack hW hdg hf
theorem z_INN {n n0 nL mc ms index maxL : Nat} {y : MethodName} {bytes : ByteArray} {ws Ts : List Cond} {rm : Room} {own host : String} {Qc : Array Value → State → Outcome → State → Prop} {free : Addr → Prop} {b : Addr} {As : List Value} (S : CallFix p m c cc nL s args Ts own) (hI : zI G B0 s H locs F) (hsz : H.size = n0) (hM : Met l y ws rm (va_Pc (.ref b :: As) (zPreN G B0 F n0)) Qc mc ms free) (cw : va_CN R s args own index y host bytes maxL none ws rm mc ms n ∧ y.name = "<init>" ∧ (Cond.instanceMethod y).before args s = true) (hn : As.length = n) (hsize : ls.size = nL) (hstack : st0 = As.reverse ++ .ref b :: rest) (hW : 2 * (F0 m pc ls st0).monitorRoom + (rest.map fun v => v.category).sum ≤ 8) (hdg : decode cc pc = .ok (.invokespecial index, 3)) (hf : cells + mc ≤ R.cells ∧ slots + ms ≤ R.slots) : va_Run p l e R s m args below meth c H locs cells slots mc ms (F0 m pc ls st0) rest (Qc (Value.ref b :: As).toArray) free :=
  va_runIN S hM cw ⟨z_blindN, fun U hU hW => ⟨rfl, hI.pre hU hW, by rw [hU]; exact hsz⟩⟩ rfl hn hsize hstack hW hdg hf
theorem z_cwIN {own host : String} {index maxL n : Nat} {y : MethodName} {bytes : ByteArray} {rm : Room} (hB : zMI y bytes maxL n) (ht : ∀ w ∈ zW, w.before args s = true) (hl : va_Nw (.methodLinkNest own index y host) s) (hR : rm.frames + 1 ≤ R.frames ∧ 8 + (maxL + 11) + rm.locals ≤ R.locals) : va_CN R s args own index y host bytes maxL none (Cond.code y bytes maxL none :: zW) rm rm.cells rm.slots n ∧ y.name = "<init>" ∧ (Cond.instanceMethod y).before args s = true :=
  ⟨va_cnB n ht (zW_good hB.1.1) rfl rfl rfl hl (ht _ hB.1.2.1) hB.1.2.2 hR, hB.2.1, ht _ hB.2.2⟩
theorem z_callN {n' mc ms : Nat} {post : Option Value → zM → Prop} {av : Array Value} (hI : zI G B0 s H locs F) (hr : va_Run p l e R s m args below meth c H locs cells slots mc ms (F0 m pc ls st0) rest (zQn G B0 post n' av) (zA B0))
    (kk : ∀ (v : Option Value) (F' : zM) (H1 : Heap) (locs1 : List Loc), post v F' → zI G B0 s H1 locs1 F' → H1.size = n' → W p l e R s m args below meth c H1 locs1 (cells + mc) (slots + ms) Q (F0 m (pc + 3) ls (v.toList ++ rest))) : W p l e R s m args below meth c H locs cells slots Q (F0 m pc ls st0) := by
  intro T hT X
  obtain ⟨v, st₀, t, T', L, h0, X', hL, e1, e2, ⟨⟨⟨v', F', hv, hp, hq⟩, hz, hk⟩, hsz⟩, st⟩ := hr T hT X
  cases hv
  rw [h0] at hz hk
  have hS := hI.2.1
  obtain ⟨t2, a1, b1⟩ := kk v F' T'.heap (locs ++ L) hp (hI.call e1.symm hq ⟨Nat.le_trans hS.1 (by rw [e1]; exact hz), fun q h1 h2 => by rw [e1, hk q (Nat.lt_of_lt_of_le h1 hS.1) h2]; exact hS.2.1 q h1 h2, fun q hq => by
      rcases List.mem_append.mp hq with h | h
      · exact hS.2.2 q h
      · exact hL q h⟩) (by rw [e1]; exact hsz) T' rfl X'
  exact ⟨t2, st t2 a1, b1⟩
theorem z_callvN {n' mc ms : Nat} {post : zM → Prop} {av : Array Value} (hI : zI G B0 s H locs F) (hr : va_Run p l e R s m args below meth c H locs cells slots mc ms (F0 m pc ls st0) rest (zQn G B0 (fun v F' => v = none ∧ post F') n' av) (zA B0))
    (kk : ∀ (F' : zM) (H1 : Heap) (locs1 : List Loc), post F' → zI G B0 s H1 locs1 F' → H1.size = n' → W p l e R s m args below meth c H1 locs1 (cells + mc) (slots + ms) Q (F0 m (pc + 3) ls rest)) : W p l e R s m args below meth c H locs cells slots Q (F0 m pc ls st0) :=
  z_callN hI hr (fun v F' H1 locs1 hp hI1 hz => by obtain ⟨rfl, hp⟩ := hp; exact kk F' H1 locs1 hp hI1 hz)
theorem z_obj (hexec : p.tables.exec = Jvm.exec) (hb : c.code = cc) {own : String} (hown : s.vm.findClass own = some m.cls) {idx : Nat} (hts : ∀ w ∈ zW, w.before args s = true) (hlink : Cond.methodLink own idx ⟨"java/lang/Object", "<init>", "()V"⟩ ∈ zW) (hsize : ls.size = c.maxLocals) (hdg : decode cc pc = .ok (.invokespecial idx, 3)) (hR : 1 ≤ R.frames ∧ (rest.map fun v => v.category).sum + 12 ≤ R.locals)
    (kk : W p l e R s m args below meth c H locs cells slots Q (F0 m (pc + 3) ls rest)) : W p l e R s m args below meth c H locs cells slots Q (F0 m pc ls (.ref a :: rest)) :=
  W.objInit hexec hb hown (hts _ hlink) (hts _ q21) (hts _ q22) rfl hsize rfl hdg hR.1 (by have := hR.2; show 0 + _ + 12 ≤ R.locals; omega) kk
end
