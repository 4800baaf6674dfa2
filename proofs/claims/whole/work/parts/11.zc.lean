/-! calls, ends and entries over such worlds -/
def zQo (G : zK) (B0 : Nat) (post : Option Value → zM → Prop) : Array Value → State → Outcome → State → Prop := fun _ st oc t => (∃ (v : Option Value) (F' : zM), oc = .returned v ∧ post v F' ∧ zQ G B0 F' t) ∧ va_F (zA B0) st t
abbrev zQi (G : zK) (B0 : Nat) (post : Int32 → zM → Prop) := zQo G B0 (fun v F' => ∃ r : Int32, v = some (.int r) ∧ post r F')
abbrev zQv (G : zK) (B0 : Nat) (post : zM → Prop) := zQo G B0 (fun v F' => v = none ∧ post F')
abbrev zQr (G : zK) (B0 : Nat) (post : Nat → zM → Prop) := zQo G B0 (fun v F' => ∃ r : Nat, v = some (.ref r) ∧ post r F')
abbrev zQd (G : zK) (B0 : Nat) (post : UInt64 → zM → Prop) := zQo G B0 (fun v F' => ∃ r : UInt64, v = some (.double r) ∧ post r F')
abbrev zQf (G : zK) (B0 : Nat) (post : UInt32 → zM → Prop) := zQo G B0 (fun v F' => ∃ r : UInt32, v = some (.float r) ∧ post r F')
def zXC (G : zK) (B0 : Nat) (F : zM) (PX : String → Prop) : String → State → State → Prop := vx_X (fun _ : Unit => True) (fun E _ t => PX E ∧ zQ G B0 F t) (zA B0)
theorem zW_in {w : Cond} (h : w ∈ zW) : w ∈ lw_tbl := (List.mem_filter.mp h).1
theorem zW_good {c0 : Cond} (h : c0 ∈ zW) : GoodIn zW (c0 :: zW) := fun w hw => (List.mem_cons.mp hw).elim (fun e => by rw [e]; exact ⟨h, good_of_word (List.mem_filter.mp h).2⟩) (fun h1 => ⟨h1, good_of_word (List.mem_filter.mp h1).2⟩)
def zMB (y : MethodName) (bytes : ByteArray) (maxL : Nat) (ret : Option FieldType) (n : Nat) : Prop := Cond.code y bytes maxL ret ∈ zW ∧ Cond.initialized y.cls ∈ zW ∧ (y.cls ≠ "java/lang/invoke/MethodHandle" ∧ y.cls ≠ "java/lang/invoke/VarHandle" ∧ (parseMethodDescriptor y.desc).map (fun d => d.parameters.length) = some n)
def zMV (C : String) (y : MethodName) (bytes : ByteArray) (maxL : Nat) (ret : Option FieldType) (n : Nat) : Prop := zMB y bytes maxL ret n ∧ Cond.instanceMethod y ∈ zW ∧ Cond.selects C y y ∈ zW
def zMS (y : MethodName) (bytes : ByteArray) (maxL : Nat) (ret : Option FieldType) (n : Nat) : Prop := zMB y bytes maxL ret n ∧ Cond.static y ∈ zW
def zMI (y : MethodName) (bytes : ByteArray) (maxL : Nat) (n : Nat) : Prop := zMB y bytes maxL none n ∧ y.name = "<init>" ∧ Cond.instanceMethod y ∈ zW
def zMH (y : MethodName) (bytes : ByteArray) (maxL : Nat) (ret : Option FieldType) (hh : List (Nat × Nat × Nat × Nat)) (n : Nat) : Prop := Cond.codeWith y bytes maxL ret hh ∈ zW ∧ Cond.initialized y.cls ∈ zW ∧ (y.cls ≠ "java/lang/invoke/MethodHandle" ∧ y.cls ≠ "java/lang/invoke/VarHandle" ∧ (parseMethodDescriptor y.desc).map (fun d => d.parameters.length) = some n) ∧ Cond.static y ∈ zW
section ZCW
variable {R : Room} {s : State} {args : Array Value}
theorem z_cb {own : String} {index maxL n : Nat} {y : MethodName} {bytes : ByteArray} {ret : Option FieldType} {rm : Room} (hB : zMB y bytes maxL ret n) (ht : ∀ w ∈ zW, w.before args s = true) (hl : Cond.methodLink own index y ∈ zW) (hR : rm.frames + 1 ≤ R.frames ∧ 8 + (maxL + 11) + rm.locals ≤ R.locals) : CallB R s args own index y bytes maxL ret (Cond.code y bytes maxL ret :: zW) rm rm.cells rm.slots n :=
  callB_of n ht (zW_good hB.1) rfl rfl rfl (ht _ hB.2.1) (ht _ hl) hB.2.2 hR
theorem z_cwV {own C : String} {index maxL n : Nat} {y : MethodName} {bytes : ByteArray} {ret : Option FieldType} {rm : Room} (hB : zMV C y bytes maxL ret n) (ht : ∀ w ∈ zW, w.before args s = true) (hl : Cond.methodLink own index y ∈ zW) (hR : rm.frames + 1 ≤ R.frames ∧ 8 + (maxL + 11) + rm.locals ≤ R.locals) : CallW R s args own C index y bytes maxL ret (Cond.code y bytes maxL ret :: zW) rm rm.cells rm.slots n :=
  ⟨z_cb hB.1 ht hl hR, ht _ hB.2.1, ht _ hB.2.2⟩
theorem z_cwS {own : String} {index maxL n : Nat} {y : MethodName} {bytes : ByteArray} {ret : Option FieldType} {rm : Room} (hB : zMS y bytes maxL ret n) (ht : ∀ w ∈ zW, w.before args s = true) (hl : Cond.methodLink own index y ∈ zW) (hR : rm.frames + 1 ≤ R.frames ∧ 8 + (maxL + 11) + rm.locals ≤ R.locals) : CallB R s args own index y bytes maxL ret (Cond.code y bytes maxL ret :: zW) rm rm.cells rm.slots n ∧ (Cond.static y).before args s = true :=
  ⟨z_cb hB.1 ht hl hR, ht _ hB.2⟩
theorem z_cwI {own : String} {index maxL n : Nat} {y : MethodName} {bytes : ByteArray} {rm : Room} (hB : zMI y bytes maxL n) (ht : ∀ w ∈ zW, w.before args s = true) (hl : Cond.methodLink own index y ∈ zW) (hR : rm.frames + 1 ≤ R.frames ∧ 8 + (maxL + 11) + rm.locals ≤ R.locals) : CallB R s args own index y bytes maxL none (Cond.code y bytes maxL none :: zW) rm rm.cells rm.slots n ∧ y.name = "<init>" ∧ (Cond.instanceMethod y).before args s = true :=
  ⟨z_cb hB.1 ht hl hR, hB.2.1, ht _ hB.2.2⟩
theorem z_cwH {own : String} {index maxL n : Nat} {y : MethodName} {bytes : ByteArray} {ret : Option FieldType} {hh : List (Nat × Nat × Nat × Nat)} {rm : Room} (hB : zMH y bytes maxL ret hh n) (ht : ∀ w ∈ zW, w.before args s = true) (hl : Cond.methodLink own index y ∈ zW) (hR : rm.frames + 1 ≤ R.frames ∧ 8 + (maxL + 11) + rm.locals ≤ R.locals) : vx_CSW R s args own index y bytes maxL ret hh (Cond.codeWith y bytes maxL ret hh :: zW) rm rm.cells rm.slots n := by
  obtain ⟨h1, h2, h3, h4⟩ := hB
  refine ⟨⟨rfl, rfl, hR.1, hR.2, pay_in ht (zW_good h1), List.mem_cons_self⟩, ht _ h1, ht _ h2, ⟨h3.1, h3.2.1⟩, fun sig h => ?_, ht _ hl, ht _ h4⟩
  have h5 := h3.2.2
  rw [h] at h5
  exact (Option.some.inj h5).symm
end ZCW
section ZC
variable {p : Program} {l : Launch} {e : Env} {R : Room} {s : State} {m : MethodId} {args : Array Value} {below : List Frame} {meth : Method} {c : Code} {H : Heap} {locs : List Loc} {cells slots : Nat} {Q : State → Prop}
variable {cc : ByteArray} {pc : Nat} {ls : Array Slot} {rest st0 : List Value} {G : zK} {B0 : Nat} {F : zM}
variable {y : MethodName} {bytes : ByteArray} {maxL nL mc ms n index : Nat} {ret : Option FieldType} {ws : List Cond} {rm : Room} {Qc : Array Value → State → Outcome → State → Prop} {XC : String → State → State → Prop} {free : Addr → Prop} {Ts : List Cond} {own C : String} {b : Addr} {As : List Value} {g : JFrame}
theorem z_V {T : u_T} {N ci : Nat} {fs : List Value} (S : CallFix p m c cc nL s args Ts own) (hI : zI G B0 s H locs F) (he : F b = some (zO ci fs)) (hc : vwCl[ci]? = some (C, T, N)) (hM : Met l y ws rm (va_Pc (.ref b :: As) (zPre G B0 F)) Qc mc ms free) (cw : CallW R s args own C index y bytes maxL ret ws rm mc ms n) (hn : As.length = n) (hsize : ls.size = nL) (hstack : st0 = As.reverse ++ .ref b :: rest) (hW : 2 * (F0 m pc ls st0).monitorRoom + (rest.map fun v => v.category).sum ≤ 8) (hdg : decode cc pc = .ok (.invokevirtual index, 3)) (hf : cells + mc ≤ R.cells ∧ slots + ms ≤ R.slots) : va_Run p l e R s m args below meth c H locs cells slots mc ms (F0 m pc ls st0) rest (Qc (Value.ref b :: As).toArray) free :=
  va_runV S hM cw ⟨z_blind, va_recv (q0 := 0) hI.1.1 (hI.P he) hc rfl, fun U hU hW => ⟨rfl, hI.pre hU hW⟩⟩ rfl hn hsize hstack hW hdg hf
theorem z_S (S : CallFix p m c cc nL s args Ts own) (hI : zI G B0 s H locs F) (hM : Met l y ws rm (va_Pc As (zPre G B0 F)) Qc mc ms free) (cw : CallB R s args own index y bytes maxL ret ws rm mc ms n ∧ (Cond.static y).before args s = true) (hn : As.length = n) (hsize : ls.size = nL) (hstack : st0 = As.reverse ++ rest) (hW : 2 * (F0 m pc ls st0).monitorRoom + (rest.map fun v => v.category).sum ≤ 8) (hdg : decode cc pc = .ok (.invokestatic index, 3)) (hf : cells + mc ≤ R.cells ∧ slots + ms ≤ R.slots) : va_Run p l e R s m args below meth c H locs cells slots mc ms (F0 m pc ls st0) rest (Qc As.toArray) free :=
  va_runS S hM cw ⟨z_blind, fun U hU hW => ⟨rfl, hI.pre hU hW⟩⟩ rfl hn hsize hstack hW hdg hf
theorem z_H {hh : List (Nat × Nat × Nat × Nat)} (S : CallFix p m c cc nL s args Ts own) (hI : zI G B0 s H locs F) (hM : Met l y ws rm (va_Pc As (zPre G B0 F)) Qc mc ms free) (cw : vx_CSW R s args own index y bytes maxL ret hh ws rm mc ms n) (hn : As.length = n) (hsize : ls.size = nL) (hstack : st0 = As.reverse ++ rest) (hW : 2 * (F0 m pc ls st0).monitorRoom + (rest.map fun v => v.category).sum ≤ 8) (hdg : decode cc pc = .ok (.invokestatic index, 3)) (hf : cells + mc ≤ R.cells ∧ slots + ms ≤ R.slots) : va_Run p l e R s m args below meth c H locs cells slots mc ms (F0 m pc ls st0) rest (Qc As.toArray) free :=
  vx_runSW S hM cw ⟨z_blind, fun U hU hW => ⟨rfl, hI.pre hU hW⟩⟩ rfl hn hsize hstack hW hdg hf
theorem z_In (S : CallFix p m c cc nL s args Ts own) (hI : zI G B0 s H locs F) (hM : Met l y ws rm (va_Pc (.ref b :: As) (zPre G B0 F)) Qc mc ms free) (cw : CallB R s args own index y bytes maxL none ws rm mc ms n ∧ y.name = "<init>" ∧ (Cond.instanceMethod y).before args s = true) (hn : As.length = n) (hsize : ls.size = nL) (hstack : st0 = As.reverse ++ .ref b :: rest) (hW : 2 * (F0 m pc ls st0).monitorRoom + (rest.map fun v => v.category).sum ≤ 8) (hdg : decode cc pc = .ok (.invokespecial index, 3)) (hf : cells + mc ≤ R.cells ∧ slots + ms ≤ R.slots) : va_Run p l e R s m args below meth c H locs cells slots mc ms (F0 m pc ls st0) rest (Qc (Value.ref b :: As).toArray) free :=
  va_runI S hM cw ⟨z_blind, fun U hU hW => ⟨rfl, hI.pre hU hW⟩⟩ rfl hn hsize hstack hW hdg hf
theorem z_xV {T : u_T} {N ci : Nat} {fs : List Value} (S : CallFix p m c cc nL s args Ts own) (hI : zI G B0 s H locs F) (he : F b = some (zO ci fs)) (hc : vwCl[ci]? = some (C, T, N)) (hM : vx_Met l y ws rm (va_Pc (.ref b :: As) (zPre G B0 F)) Qc XC mc ms free) (cw : CallW R s args own C index y bytes maxL ret ws rm mc ms n) (hn : As.length = n) (hsize : ls.size = nL) (hstack : st0 = As.reverse ++ .ref b :: rest) (hW : 2 * (F0 m pc ls st0).monitorRoom + (rest.map fun v => v.category).sum ≤ 8) (hdg : decode cc pc = .ok (.invokevirtual index, 3)) (hf : cells + mc ≤ R.cells ∧ slots + ms ≤ R.slots) : vx_Run p l e R s m args below meth c H locs cells slots mc ms (F0 m pc ls st0) rest (Qc (Value.ref b :: As).toArray) XC free :=
  vx_runV S hM cw ⟨z_blind, va_recv (q0 := 0) hI.1.1 (hI.P he) hc rfl, fun U hU hW => ⟨rfl, hI.pre hU hW⟩⟩ rfl hn hsize hstack hW hdg hf
theorem z_xS (S : CallFix p m c cc nL s args Ts own) (hI : zI G B0 s H locs F) (hM : vx_Met l y ws rm (va_Pc As (zPre G B0 F)) Qc XC mc ms free) (cw : CallB R s args own index y bytes maxL ret ws rm mc ms n ∧ (Cond.static y).before args s = true) (hn : As.length = n) (hsize : ls.size = nL) (hstack : st0 = As.reverse ++ rest) (hW : 2 * (F0 m pc ls st0).monitorRoom + (rest.map fun v => v.category).sum ≤ 8) (hdg : decode cc pc = .ok (.invokestatic index, 3)) (hf : cells + mc ≤ R.cells ∧ slots + ms ≤ R.slots) : vx_Run p l e R s m args below meth c H locs cells slots mc ms (F0 m pc ls st0) rest (Qc As.toArray) XC free :=
  vx_runS S hM cw ⟨z_blind, fun U hU hW => ⟨rfl, hI.pre hU hW⟩⟩ rfl hn hsize hstack hW hdg hf
variable {a : Array Value} {post : Option Value → zM → Prop}
theorem z_call (hI : zI G B0 s H locs F) (hr : va_Run p l e R s m args below meth c H locs cells slots mc ms (F0 m pc ls st0) rest (zQo G B0 post a) (zA B0))
    (kk : ∀ (v : Option Value) (F' : zM) (H1 : Heap) (locs1 : List Loc), post v F' → zI G B0 s H1 locs1 F' → H.size ≤ H1.size → W p l e R s m args below meth c H1 locs1 (cells + mc) (slots + ms) Q (F0 m (pc + 3) ls (v.toList ++ rest))) : W p l e R s m args below meth c H locs cells slots Q (F0 m pc ls st0) := by
  intro T hT X
  obtain ⟨v, st₀, t, T', L, h0, X', hL, e1, e2, ⟨⟨v', F', hv, hp, hq⟩, hz, hk⟩, st⟩ := hr T hT X
  cases hv
  rw [h0] at hz hk
  have hS := hI.2.1
  obtain ⟨t2, a1, b1⟩ := kk v F' T'.heap (locs ++ L) hp (hI.call e1.symm hq ⟨Nat.le_trans hS.1 (by rw [e1]; exact hz), fun q h1 h2 => by rw [e1, hk q (Nat.lt_of_lt_of_le h1 hS.1) h2]; exact hS.2.1 q h1 h2, fun q hq => by
      rcases List.mem_append.mp hq with h | h
      · exact hS.2.2 q h
      · exact hL q h⟩) (by rw [e1]; exact hz) T' rfl X'
  exact ⟨t2, st t2 a1, b1⟩
theorem z_calli {post : Int32 → zM → Prop} (hI : zI G B0 s H locs F) (hr : va_Run p l e R s m args below meth c H locs cells slots mc ms (F0 m pc ls st0) rest (zQi G B0 post a) (zA B0))
    (kk : ∀ (r : Int32) (F' : zM) (H1 : Heap) (locs1 : List Loc), post r F' → zI G B0 s H1 locs1 F' → W p l e R s m args below meth c H1 locs1 (cells + mc) (slots + ms) Q (F0 m (pc + 3) ls (.int r :: rest))) : W p l e R s m args below meth c H locs cells slots Q (F0 m pc ls st0) :=
  z_call hI hr (fun v F' H1 locs1 hp hI1 _ => by obtain ⟨r, rfl, hp⟩ := hp; exact kk r F' H1 locs1 hp hI1)
theorem z_callv {post : zM → Prop} (hI : zI G B0 s H locs F) (hr : va_Run p l e R s m args below meth c H locs cells slots mc ms (F0 m pc ls st0) rest (zQv G B0 post a) (zA B0))
    (kk : ∀ (F' : zM) (H1 : Heap) (locs1 : List Loc), post F' → zI G B0 s H1 locs1 F' → W p l e R s m args below meth c H1 locs1 (cells + mc) (slots + ms) Q (F0 m (pc + 3) ls rest)) : W p l e R s m args below meth c H locs cells slots Q (F0 m pc ls st0) :=
  z_call hI hr (fun v F' H1 locs1 hp hI1 _ => by obtain ⟨rfl, hp⟩ := hp; exact kk F' H1 locs1 hp hI1)
theorem z_callr {post : Nat → zM → Prop} (hI : zI G B0 s H locs F) (hr : va_Run p l e R s m args below meth c H locs cells slots mc ms (F0 m pc ls st0) rest (zQr G B0 post a) (zA B0))
    (kk : ∀ (r : Nat) (F' : zM) (H1 : Heap) (locs1 : List Loc), post r F' → zI G B0 s H1 locs1 F' → W p l e R s m args below meth c H1 locs1 (cells + mc) (slots + ms) Q (F0 m (pc + 3) ls (.ref r :: rest))) : W p l e R s m args below meth c H locs cells slots Q (F0 m pc ls st0) :=
  z_call hI hr (fun v F' H1 locs1 hp hI1 _ => by obtain ⟨r, rfl, hp⟩ := hp; exact kk r F' H1 locs1 hp hI1)
theorem z_calld {post : UInt64 → zM → Prop} (hI : zI G B0 s H locs F) (hr : va_Run p l e R s m args below meth c H locs cells slots mc ms (F0 m pc ls st0) rest (zQd G B0 post a) (zA B0))
    (kk : ∀ (r : UInt64) (F' : zM) (H1 : Heap) (locs1 : List Loc), post r F' → zI G B0 s H1 locs1 F' → W p l e R s m args below meth c H1 locs1 (cells + mc) (slots + ms) Q (F0 m (pc + 3) ls (.double r :: rest))) : W p l e R s m args below meth c H locs cells slots Q (F0 m pc ls st0) :=
  z_call hI hr (fun v F' H1 locs1 hp hI1 _ => by obtain ⟨r, rfl, hp⟩ := hp; exact kk r F' H1 locs1 hp hI1)
theorem z_callf {post : UInt32 → zM → Prop} (hI : zI G B0 s H locs F) (hr : va_Run p l e R s m args below meth c H locs cells slots mc ms (F0 m pc ls st0) rest (zQf G B0 post a) (zA B0))
    (kk : ∀ (r : UInt32) (F' : zM) (H1 : Heap) (locs1 : List Loc), post r F' → zI G B0 s H1 locs1 F' → W p l e R s m args below meth c H1 locs1 (cells + mc) (slots + ms) Q (F0 m (pc + 3) ls (.float r :: rest))) : W p l e R s m args below meth c H locs cells slots Q (F0 m pc ls st0) :=
  z_call hI hr (fun v F' H1 locs1 hp hI1 _ => by obtain ⟨r, rfl, hp⟩ := hp; exact kk r F' H1 locs1 hp hI1)
/-- a callee that may throw, called where nothing catches -/
theorem z_xcallG {PX : String → Prop} (hI : zI G B0 s H locs F) (hr : vx_Run p l e R s m args below meth c H locs cells slots mc ms (F0 m pc ls st0) rest (zQo G B0 post a) (zXC G B0 F PX) (zA B0))
    (kx : ∀ (E : String) (ce : Cell) (q9 : Addr) (H1 : Heap) (locs1 : List Loc), PX E → zI G B0 s H1 locs1 F → H1[q9]? = some ce → ce.vm = .none → s.vm.findClass E = some ce.cls → vx_W p l e R s m args below meth c H1 locs1 (cells + mc) (slots + ms) Q (F0 m pc ls rest) q9)
    (kk : ∀ (v : Option Value) (F' : zM) (H1 : Heap) (locs1 : List Loc), post v F' → zI G B0 s H1 locs1 F' → W p l e R s m args below meth c H1 locs1 (cells + mc) (slots + ms) Q (F0 m (pc + 3) ls (v.toList ++ rest))) : W p l e R s m args below meth c H locs cells slots Q (F0 m pc ls st0) := by
  intro T hT X
  rcases hr T hT X with ⟨v, st₀, t, T', L, h0, X', hL, e1, e2, ⟨⟨v', F', hv, hp, hq⟩, hF⟩, st⟩ | ⟨q, st₀, t, T', L, E, ce, h0, X', hL, e1, e2, ⟨u, -, ⟨hp, hq⟩, hF⟩, hce, hcv, hcl, st⟩
  · cases hv
    obtain ⟨k1, k2, k3⟩ := vx_keep (A0 := zA B0) h0 e1 hI.2.1 (fun q _ h => h) (fun q h => h) hL hF
    obtain ⟨t2, a1, b1⟩ := kk v F' T'.heap (locs ++ L) hp (hI.call e1.symm hq k3) T' rfl X'
    exact ⟨t2, st t2 a1, b1⟩
  · obtain ⟨k1, k2, k3⟩ := vx_keep (A0 := zA B0) h0 e1 hI.2.1 (fun q _ h => h) (fun q h => h) hL hF
    obtain ⟨t2, a1, b1⟩ := kx E ce q T'.heap (locs ++ L) hp (hI.call e1.symm hq k3) (by rw [e1]; exact hce) hcv hcl T' rfl X'
    exact ⟨t2, st.trans a1, b1⟩
end ZC
section ZE
variable {p : Program} {l : Launch} {e : Env} {R : Room} {s : State} {m : MethodId} {args : Array Value} {below : List Frame} {meth : Method} {c : Code} {H : Heap} {locs : List Loc} {cells slots : Nat} {Q : State → Prop}
variable {cc : ByteArray} {pc : Nat} {ls : Array Slot} {rest st0 : List Value} {G : zK} {B0 : Nat} {F F' : zM} {mc ms : Nat} {post : Option Value → zM → Prop} {PX : String → Prop}
theorem zI_Q (h : zI G B0 s H locs F) {t : State} (ht : t.heap = H) : zQ G B0 F t := ⟨by rw [ht]; exact h.2.2.1, h.2.2.2.1⟩
/-- the ends: what is answered, and the world behind -/
theorem z_ri {v : Int32} (hexec : p.tables.exec = Jvm.exec) (hb : c.code = cc) (hr : meth.sig.returnType = some .int) (hlocks : meth.locks = false) (hI : zI G B0 s H locs F') (hp : post (some (.int v)) F') (h1 : cells ≤ mc) (h2 : slots ≤ ms) (hdg : decode cc pc = .ok (.ireturn, 1)) : W p l e R s m args below meth c H locs cells slots (MQ below (zQo G B0 post) args s mc ms (zA B0)) (F0 m pc ls [.int v]) :=
  W.widen h1 h2 (W.iret hexec hb hr (fun t ht hW => ⟨⟨_, F', rfl, hp, zI_Q hI ht⟩, hI.2.1.F ht⟩) hI.2.1.2.2 hdg hlocks)
theorem z_rz {v : Int32} (hexec : p.tables.exec = Jvm.exec) (hb : c.code = cc) (hr : meth.sig.returnType = some .boolean) (hlocks : meth.locks = false) (hv : v = 0 ∨ v = 1) (hI : zI G B0 s H locs F') (hp : post (some (.int v)) F') (h1 : cells ≤ mc) (h2 : slots ≤ ms) (hdg : decode cc pc = .ok (.ireturn, 1)) : W p l e R s m args below meth c H locs cells slots (MQ below (zQo G B0 post) args s mc ms (zA B0)) (F0 m pc ls [.int v]) :=
  W.widen h1 h2 (W.zret hexec hb hr (by rcases hv with rfl | rfl <;> rfl) (fun t ht hW => ⟨⟨_, F', rfl, hp, zI_Q hI ht⟩, hI.2.1.F ht⟩) hI.2.1.2.2 hdg hlocks)
theorem z_rv (hexec : p.tables.exec = Jvm.exec) (hb : c.code = cc) (hr : meth.sig.returnType = none) (hlocks : meth.locks = false) (hI : zI G B0 s H locs F') (hp : post none F') (h1 : cells ≤ mc) (h2 : slots ≤ ms) (hdg : decode cc pc = .ok (.return_, 1)) : W p l e R s m args below meth c H locs cells slots (MQ below (zQo G B0 post) args s mc ms (zA B0)) (F0 m pc ls []) :=
  W.widen h1 h2 (W.vret hexec hb hr (fun t ht hW => ⟨⟨_, F', rfl, hp, zI_Q hI ht⟩, hI.2.1.F ht⟩) hI.2.1.2.2 hdg hlocks)
theorem z_rr {v : Nat} {rt : FieldType} (hrt : (∃ n, rt = .object n) ∨ ∃ t, rt = .array t) (hexec : p.tables.exec = Jvm.exec) (hb : c.code = cc) (hr : meth.sig.returnType = some rt) (hlocks : meth.locks = false) (hI : zI G B0 s H locs F') (hp : post (some (.ref v)) F') (h1 : cells ≤ mc) (h2 : slots ≤ ms) (hdg : decode cc pc = .ok (.areturn, 1)) : W p l e R s m args below meth c H locs cells slots (MQ below (zQo G B0 post) args s mc ms (zA B0)) (F0 m pc ls [.ref v]) :=
  W.widen h1 h2 (W.aret hexec hb hr hrt (Or.inr ⟨v, rfl⟩) (fun t ht hW => ⟨⟨_, F', rfl, hp, zI_Q hI ht⟩, hI.2.1.F ht⟩) hI.2.1.2.2 hdg hlocks)
theorem z_rd {v : UInt64} (hexec : p.tables.exec = Jvm.exec) (hb : c.code = cc) (hr : meth.sig.returnType = some .double) (hlocks : meth.locks = false) (hI : zI G B0 s H locs F') (hp : post (some (.double v)) F') (h1 : cells ≤ mc) (h2 : slots ≤ ms) (hdg : decode cc pc = .ok (.dreturn, 1)) : W p l e R s m args below meth c H locs cells slots (MQ below (zQo G B0 post) args s mc ms (zA B0)) (F0 m pc ls [.double v]) :=
  W.widen h1 h2 (W.dret hexec hb hr (fun t ht hW => ⟨⟨_, F', rfl, hp, zI_Q hI ht⟩, hI.2.1.F ht⟩) hI.2.1.2.2 hdg hlocks)
theorem z_rf {v : UInt32} (hexec : p.tables.exec = Jvm.exec) (hb : c.code = cc) (hr : meth.sig.returnType = some .float) (hlocks : meth.locks = false) (hI : zI G B0 s H locs F') (hp : post (some (.float v)) F') (h1 : cells ≤ mc) (h2 : slots ≤ ms) (hdg : decode cc pc = .ok (.freturn, 1)) : W p l e R s m args below meth c H locs cells slots (MQ below (zQo G B0 post) args s mc ms (zA B0)) (F0 m pc ls [.float v]) :=
  W.widen h1 h2 (W.fret hexec hb hr (fun t ht hW => ⟨⟨_, F', rfl, hp, zI_Q hI ht⟩, hI.2.1.F ht⟩) hI.2.1.2.2 hdg hlocks)
/-- what a callee threw goes on to the caller -/
theorem z_out {PX PX' : String → Prop} {Qc : Array Value → State → Outcome → State → Prop} (hout : ∀ x ∈ c.exceptionTable.toList, False) (hlocks : meth.locks = false) {F0' : zM} (hPX : ∀ E, PX E → PX' E) (h1 : cells ≤ mc) (h2 : slots ≤ ms) : ∀ (E : String) (ce : Cell) (q9 : Addr) (H1 : Heap) (locs1 : List Loc), PX E → zI G B0 s H1 locs1 F0' → H1[q9]? = some ce → ce.vm = .none → s.vm.findClass E = some ce.cls → vx_W p l e R s m args below meth c H1 locs1 cells slots (vx_MQ below Qc (zXC G B0 F0' PX') args s mc ms (zA B0)) (F0 m pc ls rest) q9 :=
  fun E ce q9 H1 locs1 hp hI hce hcv hcl => vx_out (fun x hx => (hout x hx).elim) hlocks hce hcv hcl (fun t ht _ => ⟨(), trivial, ⟨hPX E hp, zI_Q hI ht⟩, hI.2.1.F ht⟩) hI.2.1.2.2 h1 h2
theorem z_throw {Qc : Array Value → State → Outcome → State → Prop} {own cls text : String} {ik is ic : Nat} (hexec : p.tables.exec = Jvm.exec) (hb : c.code = cc) (hl : l.stackTraces = false) (hown : s.vm.findClass own = some m.cls) (hlocks : meth.locks = false) (hout : ∀ x ∈ c.exceptionTable.toList, False) (hts : ∀ w ∈ zW, w.before args s = true)
    (ha : ∀ w ∈ (vx_atS own ic cls zNames).filter goodWord, w ∈ zW) (hbb : ∀ w ∈ (vx_atS own ic cls zNames).filter (fun w => !goodWord w), w ∈ zBad cls)
    (hk : Cond.classLink own ik cls ∈ zW) (hini : Cond.initialized cls ∈ zW) (hstr : (own, is, text) ∈ zStr) (hcls : Bundle.fit cls = true) (hcs : cls ∈ zEx)
    (hI : zI G B0 s H locs F) (hsize : ls.size = c.maxLocals)
    (d0 : decode cc pc = .ok (.new ik, 3)) (d3 : decode cc (pc + 3) = .ok (.dup, 1)) (d4 : decode cc (pc + 4) = .ok (.ldc is, 2)) (d6 : decode cc (pc + 6) = .ok (.invokespecial ic, 3)) (d9 : decode cc (pc + 9) = .ok (.athrow, 1))
    (hR : 5 < R.frames ∧ (rest.map fun v => v.category).sum + 82 ≤ R.locals ∧ cells + 1 ≤ R.cells ∧ slots + 6 ≤ R.slots) (hp : PX cls) (h1 : cells + 1 ≤ mc) (h2 : slots + 6 ≤ ms) :
    W p l e R s m args below meth c H locs cells slots (vx_MQ below Qc (zXC G B0 F PX) args s mc ms (zA B0)) (F0 m pc ls rest) := by
  obtain ⟨sa, hsa⟩ := hI.1.2.2.1 _ hstr
  have hcast : (Cond.castable cls cls).before args s = true := zCs.use (hI.1.2.2.2.2.2.2.2.2 cls hcs)
  refine vx_throwS (names := zNames) hexec hb hl hown hcls (by decide +kernel) (hts _ hk) (hts _ hini) hsa (vx_hat (fun w hw => hts w (ha w hw)) hbb (vx_c hcast (vx_c (va_Nw.use rfl (hI.1.2.1 _ (List.mem_of_getElem? (i := 5) rfl))) (vx_c (va_Nw.use rfl (hI.1.2.1 _ (List.mem_of_getElem? (i := 6) rfl))) (vx_c (va_Nw.use rfl (hI.1.2.1 _ (List.mem_of_getElem? (i := 7) rfl))) vx_n))))) (fun w hw => ?_) hI.1.2.2.2.1 hI.1.2.2.2.2.1 hI.2.1 hsize d0 d3 d4 d6 d9 (fun x hx => (hout x hx).elim) hR.1 hR.2.1 hR.2.2.1 hR.2.2.2 hlocks (fun t hvm hz hk9 => ⟨(), trivial, ⟨hp, fun b e' hb' => (hI.2.2.1 b e' hb').kept (hk9 b (hI.lt hb')), hI.2.2.2.1⟩, Nat.le_trans hI.2.1.1 hz, fun q q1 q2 => (hk9 q (Nat.lt_of_lt_of_le q1 hI.2.1.1)).trans (hI.2.1.2.1 q q1 q2)⟩) hI.2.1.2.2 h1 h2
  have key : ∀ x : Cond, x ∈ zW → vx_ot x = true := fun x hx => by
    have h3 := (List.mem_filter.mp hx).2
    simp only [vx_ot, h3, Bool.or_true]
  rcases List.mem_cons.mp hw with rfl | hw
  · exact key _ hk
  · rcases List.mem_cons.mp hw with rfl | hw
    · exact key _ hini
    · by_cases g : goodWord w = true
      · simp only [vx_ot, g, Bool.or_true]
      · have h4 := hbb w (List.mem_filter.mpr ⟨hw, by simp [g]⟩)
        simp only [zBad, List.mem_cons, List.not_mem_nil, or_false] at h4
        rcases h4 with rfl | rfl | rfl | rfl <;> rfl
/-- the entry of a method -/
theorem z_of {y : MethodName} {maxL : Nat} {ret : Option FieldType} {rm : Room} {av : List Value} {own : String} (hy : plainName y.cls = true) (hown : y.cls = own) (hn : (lg_sl av).length ≤ maxL)
    (body : ∀ (p : Program) (e : Env) (s : State) (m : MethodId) (below : List Frame) (meth : Method) (c : Code) (ls : Array Slot), p.tables.exec = Jvm.exec → c.code = cc → meth.sig.returnType = ret → c.maxLocals = maxL → s.vm.findClass own = some m.cls → meth.locks = false → meth.name = y.name → (∀ w ∈ zW, w.before av.toArray s = true) → lv_has ls maxL (lv_args 0 av) → zI G B0 s s.heap [] F →
      W p l e rm s m av.toArray below meth c s.heap [] 0 0 (MQ below (zQo G B0 post) av.toArray s mc ms (zA B0)) (F0 m 0 ls [])) : Met l y (Cond.code y cc maxL ret :: zW) rm (va_Pc av (zPre G B0 F)) (zQo G B0 post) mc ms (zA B0) := by
  subst hown
  refine Met.ofW (cc := cc) (maxL := maxL) (ret := ret) hy rfl ?_
  intro p e s m args below meth c s₁ B hml hv
  obtain ⟨rfl, hI⟩ := hv
  have hts := atoms_spec (ws := Cond.code y cc maxL ret :: zW) B.pre
  have hl := lv_entry av (n := maxL) hn
  rw [lg_entry_eq]
  exact body p e s m below meth c _ B.exec B.bytes B.returns hml (findClass_of_methodNamed B.named) B.notSynchronized (name_of_methodNamed B.named B.method).1 (fun w hw => hts w (List.mem_cons_of_mem _ hw)) hl hI.I
theorem z_ofx {y : MethodName} {maxL : Nat} {ret : Option FieldType} {rm : Room} {av : List Value} {own : String} {XC : String → State → State → Prop} (hy : plainName y.cls = true) (hown : y.cls = own) (hn : (lg_sl av).length ≤ maxL)
    (body : ∀ (p : Program) (e : Env) (s : State) (m : MethodId) (below : List Frame) (meth : Method) (c : Code) (ls : Array Slot), p.tables.exec = Jvm.exec → c.code = cc → meth.sig.returnType = ret → c.maxLocals = maxL → s.vm.findClass own = some m.cls → meth.locks = false → (∀ x ∈ c.exceptionTable.toList, False) → (∀ w ∈ zW, w.before av.toArray s = true) → lv_has ls maxL (lv_args 0 av) → zI G B0 s s.heap [] F →
      W p l e rm s m av.toArray below meth c s.heap [] 0 0 (vx_MQ below (zQo G B0 post) XC av.toArray s mc ms (zA B0)) (F0 m 0 ls [])) : vx_Met l y (Cond.code y cc maxL ret :: zW) rm (va_Pc av (zPre G B0 F)) (zQo G B0 post) XC mc ms (zA B0) := by
  subst hown
  refine vx_ofW (cc := cc) (maxL := maxL) (ret := ret) hy rfl ?_
  intro p e s m args below meth c s₁ B hml hout hv
  obtain ⟨rfl, hI⟩ := hv
  have hts := atoms_spec (ws := Cond.code y cc maxL ret :: zW) B.pre
  have hl := lv_entry av (n := maxL) hn
  rw [lg_entry_eq]
  exact body p e s m below meth c _ B.exec B.bytes B.returns hml (findClass_of_methodNamed B.named) B.notSynchronized hout (fun w hw => hts w (List.mem_cons_of_mem _ hw)) hl hI.I
end ZE
