section
variable {p : Program} {l : Launch} {e : Env} {R : Room} {s : State} {m : MethodId} {args : Array Value} {below : List Frame} {meth : Method} {c : Code} {H : Heap} {locs : List Loc} {cells slots : Nat} {Q : State → Prop}
variable {cc : ByteArray} {pc : Nat} {ls : Array Slot} {rest st0 : List Value} {a : Nat} {G : zK} {B0 : Nat} {F : zM} {mc ms : Nat} {av0 : Array Value} {PX : String → Prop}
theorem z_xcalld {post : UInt64 → zM → Prop} (hI : zI G B0 s H locs F) (hr : vx_Run p l e R s m args below meth c H locs cells slots mc ms (F0 m pc ls st0) rest (zQd G B0 post av0) (zXC G B0 F PX) (zA B0))
    (kx : ∀ (E : String) (ce : Cell) (q9 : Addr) (H1 : Heap) (locs1 : List Loc), PX E → zI G B0 s H1 locs1 F → H1[q9]? = some ce → ce.vm = .none → s.vm.findClass E = some ce.cls → vx_W p l e R s m args below meth c H1 locs1 (cells + mc) (slots + ms) Q (F0 m pc ls rest) q9)
    (kk : ∀ (r : UInt64) (F' : zM) (H1 : Heap) (locs1 : List Loc), post r F' → zI G B0 s H1 locs1 F' → W p l e R s m args below meth c H1 locs1 (cells + mc) (slots + ms) Q (F0 m (pc + 3) ls (.double r :: rest))) : W p l e R s m args below meth c H locs cells slots Q (F0 m pc ls st0) :=
  z_xcallG hI hr kx (fun v F' H1 locs1 hp hI1 => by obtain ⟨r, rfl, hp⟩ := hp; exact kk r F' H1 locs1 hp hI1)
theorem z_xcallf {post : UInt32 → zM → Prop} (hI : zI G B0 s H locs F) (hr : vx_Run p l e R s m args below meth c H locs cells slots mc ms (F0 m pc ls st0) rest (zQf G B0 post av0) (zXC G B0 F PX) (zA B0))
    (kx : ∀ (E : String) (ce : Cell) (q9 : Addr) (H1 : Heap) (locs1 : List Loc), PX E → zI G B0 s H1 locs1 F → H1[q9]? = some ce → ce.vm = .none → s.vm.findClass E = some ce.cls → vx_W p l e R s m args below meth c H1 locs1 (cells + mc) (slots + ms) Q (F0 m pc ls rest) q9)
    (kk : ∀ (r : UInt32) (F' : zM) (H1 : Heap) (locs1 : List Loc), post r F' → zI G B0 s H1 locs1 F' → W p l e R s m args below meth c H1 locs1 (cells + mc) (slots + ms) Q (F0 m (pc + 3) ls (.float r :: rest))) : W p l e R s m args below meth c H locs cells slots Q (F0 m pc ls st0) :=
  z_xcallG hI hr kx (fun v F' H1 locs1 hp hI1 => by obtain ⟨r, rfl, hp⟩ := hp; exact kk r F' H1 locs1 hp hI1)
/-- as z_out, where cells have been made since the entry -/
theorem z_outL {PX' : String → Prop} {Qc : Array Value → State → Outcome → State → Prop} (hout : ∀ x ∈ c.exceptionTable.toList, False) (hlocks : meth.locks = false) {FA FB : zM} (hPX : ∀ E, PX E → PX' E) (h1 : cells ≤ mc) (h2 : slots ≤ ms) (hs : ∀ (a : Nat) (e : va_E), FA a = some e → FB a = some e) : ∀ (E : String) (ce : Cell) (q9 : Addr) (H1 : Heap) (locs1 : List Loc), PX E → zI G B0 s H1 locs1 FB → H1[q9]? = some ce → ce.vm = .none → s.vm.findClass E = some ce.cls → vx_W p l e R s m args below meth c H1 locs1 cells slots (vx_MQ below Qc (zXC G B0 FA PX') args s mc ms (zA B0)) (F0 m pc ls rest) q9 :=
  fun E ce q9 H1 locs1 hp hI => z_out (F0' := FA) hout hlocks hPX h1 h2 E ce q9 H1 locs1 hp (hI.less hs)
/-- caught here -/
theorem z_catch {own E : String} {ce : Cell} {q : Addr} (hown : s.vm.findClass own = some m.cls) (hI : zI G B0 s H locs F) (pre : List ExceptionTableEntry) (x : ExceptionTableEntry) (suf : List ExceptionTableEntry) (hsplit : c.exceptionTable.toList = pre ++ x :: suf)
    (hpass : ∀ z ∈ pre, z.catchType ≠ 0 ∧ ∃ nm : String, (Cond.classLink own z.catchType nm).before args s = true ∧ (E, nm) ∈ zNcs) (hx : covers x pc = true) (h0 : x.catchType ≠ 0)
    (hlink : (Cond.classLink own x.catchType E).before args s = true) (hE : E ∈ zEx) (hcell : H[q]? = some ce) (hv : ce.vm = .none) (hcl : s.vm.findClass E = some ce.cls)
    (kk : W p l e R s m args below meth c H locs cells slots Q (F0 m x.handlerPc ls [.ref q])) : vx_W p l e R s m args below meth c H locs cells slots Q (F0 m pc ls rest) q :=
  vx_catch (name := E) hown pre x suf hsplit (fun z hz => by
    obtain ⟨a, nm, b, d⟩ := hpass z hz
    exact Or.inr ⟨a, nm, b, hI.1.2.2.2.2.2.2.2.1 (E, nm) d⟩) hx h0 hlink (zCs.use (hI.1.2.2.2.2.2.2.2.2 E hE)) hcell hv hcl kk
theorem z_ofH {y : MethodName} {maxL : Nat} {ret : Option FieldType} {rm : Room} {av : List Value} {own : String} {hh : List (Nat × Nat × Nat × Nat)} {post : Option Value → zM → Prop} (hy : plainName y.cls = true) (hown : y.cls = own) (hn : (lg_sl av).length ≤ maxL)
    (body : ∀ (p : Program) (e : Env) (s : State) (m : MethodId) (below : List Frame) (meth : Method) (c : Code) (ls : Array Slot), p.tables.exec = Jvm.exec → c.code = cc → meth.sig.returnType = ret → c.maxLocals = maxL → s.vm.findClass own = some m.cls → meth.locks = false → c.exceptionTable.toList = tableOf hh → (∀ w ∈ zW, w.before av.toArray s = true) → lv_has ls maxL (lv_args 0 av) → zI G B0 s s.heap [] F →
      W p l e rm s m av.toArray below meth c s.heap [] 0 0 (MQ below (zQo G B0 post) av.toArray s mc ms (zA B0)) (F0 m 0 ls [])) : Met l y (Cond.codeWith y cc maxL ret hh :: zW) rm (va_Pc av (zPre G B0 F)) (zQo G B0 post) mc ms (zA B0) := by
  subst hown
  refine va_MetW (cc := cc) (maxL := maxL) (ret := ret) (hh := hh) hy rfl ?_
  intro p e s m args below meth c s₁ B hml hv
  obtain ⟨rfl, hI⟩ := hv
  have hts := atoms_spec (ws := Cond.codeWith y cc maxL ret hh :: zW) B.pre
  have hl := lv_entry av (n := maxL) hn
  rw [lg_entry_eq]
  exact body p e s m below meth c _ B.exec B.bytes B.returns hml (findClass_of_methodNamed B.named) B.notSynchronized (vx_table (x := y) B (hts _ List.mem_cons_self)) (fun w hw => hts w (List.mem_cons_of_mem _ hw)) hl hI.I
end
set_option maxHeartbeats 4000000 in
set_option maxRecDepth 100000 in
theorem c_X0_of (l : Launch) (hl0 : l.stackTraces = false) (G : zK) (B0 : Nat) (F : zM) (x y : Int32) : vx_Met l yX0_of (Cond.code yX0_of cX0_of 2 (some (FieldType.object "WordConcordance$Copies")) :: zW) (zRm 6 90 2 8) (va_Pc [.int x, .int y] (zPre G B0 F)) (zQr G B0 (fun r F' => ¬ y < 0 ∧ F' r = some (zO 0 [.int x, .int y]) ∧ ∀ b e, F b = some e → F' b = some e)) (zXC G B0 F (fun E => E = zEA ∧ y < 0)) 2 8 (zA B0) := by
  refine z_ofx (own := RX0) (by decide) rfl (Nat.le_of_ble_eq_true rfl) ?_
  intro p e s m below meth c ls hx hb hr hml hown hlocks hout hts hl hI
  have hl : lv_has ls 2 [(0, .int x), (1, .int y)] := hl
  refine lv_iload_n hx hb dX0_of_0 rfl (lv_at hl 1 rfl) ?_
  refine lv_if_ge (tgt := 14) hx hb dX0_of_1 (by decide) (fun hq1 => ?_) (fun hq1 => ?_)
  · have hI9 := hI
    refine z_new (ci := 0) hx hb hts hown zlX0 tyX0 tyX0_ok (hts _ q637) (hts _ q638) (hts _ q13) hI rfl (fs := [.int 0, .int 0]) (by intro j hj; rcases j with _ | _ | _ | _ | _ | _ | _ | j <;> first | rfl | omega) (Nat.le_of_ble_eq_true rfl) (Nat.le_of_ble_eq_true rfl) dX0_of_14 (fun q2 H hq3 hz4 F5 hw6 ho7 hI => ?_)
    have hno_q2 : ∀ e, F q2 ≠ some e := fun e9 => hI9.new_no (Nat.le_of_eq hq3.symm) e9
    refine lv_dup hx hb dX0_of_17 rfl ?_
    refine lv_iload_n hx hb dX0_of_18 rfl (lv_at hl 0 rfl) ?_
    refine lv_iload_n hx hb dX0_of_19 rfl (lv_at hl 1 rfl) ?_
    refine z_callvN hI (z_InN (As := [.int x, .int y]) (rest := [.ref q2]) ⟨hx, hb, hml, hown, hts⟩ hI rfl (c_X0_init l G B0 F5 q2 x y H.size hw6) (z_cwI vX0_init hts q639 ⟨Nat.le_of_ble_eq_true rfl, Nat.le_of_ble_eq_true rfl⟩) rfl hl.1 rfl (lv_room (Nat.le_of_ble_eq_true rfl)) dX0_of_20 ⟨Nat.le_of_ble_eq_true rfl, Nat.le_of_ble_eq_true rfl⟩) (fun F8 H locs hp9 hI hz10 => ?_)
    obtain ⟨hw12, ho11⟩ := hp9
    refine vx_ret (z_rr (Or.inl ⟨_, rfl⟩) hx hb hr hlocks hI ?_ (Nat.le_of_ble_eq_true rfl) (Nat.le_of_ble_eq_true rfl) dX0_of_23)
    exact ⟨_, rfl, i_le_n.mp hq1, hw12, fun b e hbe => (ho11 b (fun e9 => hno_q2 e (e9 ▸ hbe))).trans ((ho7 b (fun e9 => hno_q2 e (e9 ▸ hbe))).trans hbe)⟩
  · refine z_throw (cls := zEA) hx hb hl0 hown hlocks hout hts zaX0_20 zbX0_20 q634 q10 (List.mem_of_getElem? (i := 15) rfl) (by decide +kernel) (List.mem_of_getElem? (i := 2) rfl) hI (hl.1.trans hml.symm) dX0_of_4 dX0_of_7 dX0_of_8 dX0_of_10 dX0_of_13 ⟨Nat.le_of_ble_eq_true rfl, Nat.le_of_ble_eq_true rfl, Nat.le_of_ble_eq_true rfl, Nat.le_of_ble_eq_true rfl⟩ ?_ (Nat.le_of_ble_eq_true rfl) (Nat.le_of_ble_eq_true rfl)
    exact ⟨rfl, i_n_le.mp hq1⟩

set_option maxHeartbeats 4000000 in
set_option maxRecDepth 100000 in
theorem c_X0_wordAt (l : Launch) (hl0 : l.stackTraces = false) (G : zK) (B0 : Nat) (F : zM) (r : Nat) (x y zp : Int32) (h : F r = some (zO 0 [.int x, .int y])) : vx_Met l yX0_wordAt (Cond.code yX0_wordAt cX0_wordAt 2 (some FieldType.int) :: zW) (zRm 6 90 1 6) (va_Pc [.ref r, .int zp] (zPre G B0 F)) (zQi G B0 (fun r' F' => F' = F ∧ zp < y)) (zXC G B0 F (fun E => E = zEI)) 1 6 (zA B0) := by
  refine z_ofx (own := RX0) (by decide) rfl (Nat.le_of_ble_eq_true rfl) ?_
  intro p e s m below meth c ls hx hb hr hml hown hlocks hout hts hl hI
  have hl : lv_has ls 2 [(0, .ref r), (1, .int zp)] := hl
  refine lv_iload_n hx hb dX0_wordAt_0 rfl (lv_at hl 1 rfl) ?_
  refine lv_if_lt (tgt := 12) hx hb dX0_wordAt_1 (by decide) (fun hq1 => ?_) (fun hq1 => ?_)
  · refine z_throw (cls := zEI) hx hb hl0 hown hlocks hout hts zaX0_30 zbX0_30 q682 q8 (List.mem_of_getElem? (i := 16) rfl) (by decide +kernel) (List.mem_of_getElem? (i := 0) rfl) hI (hl.1.trans hml.symm) dX0_wordAt_12 dX0_wordAt_15 dX0_wordAt_16 dX0_wordAt_18 dX0_wordAt_21 ⟨Nat.le_of_ble_eq_true rfl, Nat.le_of_ble_eq_true rfl, Nat.le_of_ble_eq_true rfl, Nat.le_of_ble_eq_true rfl⟩ ?_ (Nat.le_of_ble_eq_true rfl) (Nat.le_of_ble_eq_true rfl)
    exact rfl
  · refine lv_iload_n hx hb dX0_wordAt_4 rfl (lv_at hl 1 rfl) ?_
    refine lv_aload_n hx hb dX0_wordAt_5 rfl (lv_at hl 0 rfl) ?_
    refine z_get hx hb hts hown zlX0 rfl 1 (by decide) (hts _ q644) rfl hI h rfl dX0_wordAt_6 ?_
    refine lv_icmp_lt (tgt := 22) hx hb dX0_wordAt_9 (by decide) (fun hq2 => ?_) (fun hq2 => ?_)
    · refine lv_aload_n hx hb dX0_wordAt_22 rfl (lv_at hl 0 rfl) ?_
      refine z_get hx hb hts hown zlX0 rfl 0 (by decide) (hts _ q643) rfl hI h rfl dX0_wordAt_23 ?_
      refine vx_ret (z_ri hx hb hr hlocks hI ?_ (Nat.le_of_ble_eq_true rfl) (Nat.le_of_ble_eq_true rfl) dX0_wordAt_26)
      exact ⟨_, rfl, rfl, hq2⟩
    · refine z_throw (cls := zEI) hx hb hl0 hown hlocks hout hts zaX0_30 zbX0_30 q682 q8 (List.mem_of_getElem? (i := 16) rfl) (by decide +kernel) (List.mem_of_getElem? (i := 0) rfl) hI (hl.1.trans hml.symm) dX0_wordAt_12 dX0_wordAt_15 dX0_wordAt_16 dX0_wordAt_18 dX0_wordAt_21 ⟨Nat.le_of_ble_eq_true rfl, Nat.le_of_ble_eq_true rfl, Nat.le_of_ble_eq_true rfl, Nat.le_of_ble_eq_true rfl⟩ ?_ (Nat.le_of_ble_eq_true rfl) (Nat.le_of_ble_eq_true rfl)
      exact rfl

set_option maxHeartbeats 4000000 in
set_option maxRecDepth 100000 in
theorem c_X0_putAt (l : Launch) (hl0 : l.stackTraces = false) (G : zK) (B0 : Nat) (F : zM) (r : Nat) (zp0 zp1 : Int32) : vx_Met l yX0_putAt (Cond.code yX0_putAt cX0_putAt 3 none :: zW) (zRm 6 90 1 6) (va_Pc [.ref r, .int zp0, .int zp1] (zPre G B0 F)) (zQv G B0 (fun F' => False)) (zXC G B0 F (fun E => E = zEU)) 1 6 (zA B0) := by
  refine z_ofx (own := RX0) (by decide) rfl (Nat.le_of_ble_eq_true rfl) ?_
  intro p e s m below meth c ls hx hb hr hml hown hlocks hout hts hl hI
  have hl : lv_has ls 3 [(0, .ref r), (1, .int zp0), (2, .int zp1)] := hl
  refine z_throw (cls := zEU) hx hb hl0 hown hlocks hout hts zaX0_35 zbX0_35 q654 q14 (List.mem_of_getElem? (i := 17) rfl) (by decide +kernel) (List.mem_of_getElem? (i := 4) rfl) hI (hl.1.trans hml.symm) dX0_putAt_0 dX0_putAt_3 dX0_putAt_4 dX0_putAt_6 dX0_putAt_9 ⟨Nat.le_of_ble_eq_true rfl, Nat.le_of_ble_eq_true rfl, Nat.le_of_ble_eq_true rfl, Nat.le_of_ble_eq_true rfl⟩ ?_ (Nat.le_of_ble_eq_true rfl) (Nat.le_of_ble_eq_true rfl)
  exact rfl

set_option maxHeartbeats 4000000 in
set_option maxRecDepth 100000 in
theorem c_X0_append (l : Launch) (hl0 : l.stackTraces = false) (G : zK) (B0 : Nat) (F : zM) (r : Nat) (zp0 : Int32) : vx_Met l yX0_append (Cond.code yX0_append cX0_append 2 none :: zW) (zRm 6 90 1 6) (va_Pc [.ref r, .int zp0] (zPre G B0 F)) (zQv G B0 (fun F' => False)) (zXC G B0 F (fun E => E = zEU)) 1 6 (zA B0) := by
  refine z_ofx (own := RX0) (by decide) rfl (Nat.le_of_ble_eq_true rfl) ?_
  intro p e s m below meth c ls hx hb hr hml hown hlocks hout hts hl hI
  have hl : lv_has ls 2 [(0, .ref r), (1, .int zp0)] := hl
  refine z_throw (cls := zEU) hx hb hl0 hown hlocks hout hts zaX0_35 zbX0_35 q654 q14 (List.mem_of_getElem? (i := 17) rfl) (by decide +kernel) (List.mem_of_getElem? (i := 4) rfl) hI (hl.1.trans hml.symm) dX0_append_0 dX0_append_3 dX0_append_4 dX0_append_6 dX0_append_9 ⟨Nat.le_of_ble_eq_true rfl, Nat.le_of_ble_eq_true rfl, Nat.le_of_ble_eq_true rfl, Nat.le_of_ble_eq_true rfl⟩ ?_ (Nat.le_of_ble_eq_true rfl) (Nat.le_of_ble_eq_true rfl)
  exact rfl

set_option maxHeartbeats 4000000 in
set_option maxRecDepth 100000 in
theorem c_X0_takeOut (l : Launch) (hl0 : l.stackTraces = false) (G : zK) (B0 : Nat) (F : zM) (r : Nat) (zp0 : Int32) : vx_Met l yX0_takeOut (Cond.code yX0_takeOut cX0_takeOut 2 none :: zW) (zRm 6 90 1 6) (va_Pc [.ref r, .int zp0] (zPre G B0 F)) (zQv G B0 (fun F' => False)) (zXC G B0 F (fun E => E = zEU)) 1 6 (zA B0) := by
  refine z_ofx (own := RX0) (by decide) rfl (Nat.le_of_ble_eq_true rfl) ?_
  intro p e s m below meth c ls hx hb hr hml hown hlocks hout hts hl hI
  have hl : lv_has ls 2 [(0, .ref r), (1, .int zp0)] := hl
  refine z_throw (cls := zEU) hx hb hl0 hown hlocks hout hts zaX0_35 zbX0_35 q654 q14 (List.mem_of_getElem? (i := 17) rfl) (by decide +kernel) (List.mem_of_getElem? (i := 4) rfl) hI (hl.1.trans hml.symm) dX0_takeOut_0 dX0_takeOut_3 dX0_takeOut_4 dX0_takeOut_6 dX0_takeOut_9 ⟨Nat.le_of_ble_eq_true rfl, Nat.le_of_ble_eq_true rfl, Nat.le_of_ble_eq_true rfl, Nat.le_of_ble_eq_true rfl⟩ ?_ (Nat.le_of_ble_eq_true rfl) (Nat.le_of_ble_eq_true rfl)
  exact rfl

set_option maxHeartbeats 4000000 in
set_option maxRecDepth 100000 in
theorem c_X2_attempt (l : Launch) (hl0 : l.stackTraces = false) (G : zK) (B0 : Nat) (F : zM) (k : Nat) (hk : k < 5) : vx_Met l yX2_attempt (Cond.code yX2_attempt cX2_attempt 3 none :: zW) (zRm 7 112 8 40) (va_Pc [.int (nI k)] (zPre G B0 F)) (zQv G B0 (fun F' => False)) (zXC G B0 F (fun E => (E = zEU ∧ k < 3) ∨ (E = zEI ∧ k = 3) ∨ (E = zEA ∧ k = 4))) 8 40 (zA B0) := by
  refine z_ofx (own := RX2) (by decide) rfl (Nat.le_of_ble_eq_true rfl) ?_
  intro p e s m below meth c ls hx hb hr hml hown hlocks hout hts hl hI
  have hl : lv_has ls 3 [(0, .int (nI k))] := hl
  refine lv_iload_n hx hb dX2_attempt_0 rfl (lv_at hl 0 rfl) ?_
  refine lv_iconst (v := nI 4) hx hb dX2_attempt_1 (by decide) ?_
  refine z_icmp_ne (tgt := 9) (a := k) (b := 4) hx hb dX2_attempt_2 (by decide) (by omega) (fun hq1 => ?_) (fun hq1 => ?_)
  · refine lv_iconst (v := nI 1) hx hb dX2_attempt_9 (by decide) ?_
    refine lv_istore_n (lv' := [(1, .int (nI 1)), (0, .int (nI k))]) hx hb dX2_attempt_10 rfl hl (by decide) rfl (fun ls hl => ?_)
    refine lv_iconst (v := nI 0) hx hb dX2_attempt_11 (by decide) ?_
    refine lv_iload_n hx hb dX2_attempt_12 rfl (lv_at hl 0 rfl) ?_
    refine z_xcallr hI (z_xS (As := [.int (nI 0), .int (nI 1)]) (rest := []) ⟨hx, hb, hml, hown, hts⟩ hI (c_X0_of l hl0 G B0 F (nI 0) (nI 1)) (z_cwS vX0_of hts q631 ⟨Nat.le_of_ble_eq_true rfl, Nat.le_of_ble_eq_true rfl⟩) rfl hl.1 rfl (lv_room (Nat.le_of_ble_eq_true rfl)) dX2_attempt_13 ⟨Nat.le_of_ble_eq_true rfl, Nat.le_of_ble_eq_true rfl⟩) (z_out hout hlocks (fun E hE => absurd hE.2 (by decide)) (Nat.le_of_ble_eq_true rfl) (Nat.le_of_ble_eq_true rfl)) (fun r3 F2 H locs hp4 hI => ?_)
    obtain ⟨-, hw5, hmo6⟩ := hp4
    refine lv_astore_n (lv' := [(2, .ref r3), (1, .int (nI 1)), (0, .int (nI k))]) hx hb dX2_attempt_16 rfl hl (by decide) rfl (fun ls hl => ?_)
    refine lv_iload_n hx hb dX2_attempt_17 rfl (lv_at hl 2 rfl) ?_
    refine z_if_ne (tgt := 30) (a := k) hx hb dX2_attempt_18 (by decide) (by omega) (fun hq7 => ?_) (fun hq7 => ?_)
    · refine lv_iload_n hx hb dX2_attempt_30 rfl (lv_at hl 2 rfl) ?_
      refine lv_iconst (v := nI 1) hx hb dX2_attempt_31 (by decide) ?_
      refine z_icmp_ne (tgt := 43) (a := k) (b := 1) hx hb dX2_attempt_32 (by decide) (by omega) (fun hq8 => ?_) (fun hq8 => ?_)
      · refine lv_iload_n hx hb dX2_attempt_43 rfl (lv_at hl 2 rfl) ?_
        refine lv_iconst (v := nI 2) hx hb dX2_attempt_44 (by decide) ?_
        refine z_icmp_ne (tgt := 56) (a := k) (b := 2) hx hb dX2_attempt_45 (by decide) (by omega) (fun hq9 => ?_) (fun hq9 => ?_)
        · refine lv_iload_n hx hb dX2_attempt_56 rfl (lv_at hl 2 rfl) ?_
          refine lv_iconst (v := nI 3) hx hb dX2_attempt_57 (by decide) ?_
          refine z_icmp_ne (tgt := 67) (a := k) (b := 3) hx hb dX2_attempt_58 (by decide) (by omega) (fun hq10 => ?_) (fun hq10 => ?_)
          · omega
          · refine lv_aload_n hx hb dX2_attempt_61 rfl (lv_at hl 0 rfl) ?_
            refine lv_iload_n hx hb dX2_attempt_62 rfl (lv_at hl 1 rfl) ?_
            refine z_xcalli hI (z_xV (As := [.int (nI 1)]) (rest := []) ⟨hx, hb, hml, hown, hts⟩ hI hw5 rfl (c_X0_wordAt l hl0 G B0 F2 r3 (nI 0) (nI 1) (nI 1) hw5) (z_cwV vX0_wordAt hts q678 ⟨Nat.le_of_ble_eq_true rfl, Nat.le_of_ble_eq_true rfl⟩) rfl hl.1 rfl (lv_room (Nat.le_of_ble_eq_true rfl)) dX2_attempt_63 ⟨Nat.le_of_ble_eq_true rfl, Nat.le_of_ble_eq_true rfl⟩) (z_outL hout hlocks (fun E hE => Or.inr (Or.inl ⟨hE, by omega⟩)) (Nat.le_of_ble_eq_true rfl) (Nat.le_of_ble_eq_true rfl) hmo6) (fun r12 F11 H locs hp13 hI => ?_)
            exact absurd hp13.2 (by decide)
        · refine lv_aload_n hx hb dX2_attempt_48 rfl (lv_at hl 0 rfl) ?_
          refine lv_iconst (v := nI 0) hx hb dX2_attempt_49 (by decide) ?_
          refine z_xcallv hI (z_xV (As := [.int (nI 0)]) (rest := []) ⟨hx, hb, hml, hown, hts⟩ hI hw5 rfl (c_X0_takeOut l hl0 G B0 F2 r3 (nI 0)) (z_cwV vX0_takeOut hts q674 ⟨Nat.le_of_ble_eq_true rfl, Nat.le_of_ble_eq_true rfl⟩) rfl hl.1 rfl (lv_room (Nat.le_of_ble_eq_true rfl)) dX2_attempt_50 ⟨Nat.le_of_ble_eq_true rfl, Nat.le_of_ble_eq_true rfl⟩) (z_outL hout hlocks (fun E hE => Or.inl ⟨hE, by omega⟩) (Nat.le_of_ble_eq_true rfl) (Nat.le_of_ble_eq_true rfl) hmo6) (fun F14 H locs hp16 hI => ?_)
          exact hp16.elim
      · refine lv_aload_n hx hb dX2_attempt_35 rfl (lv_at hl 0 rfl) ?_
        refine lv_iconst (v := nI 1) hx hb dX2_attempt_36 (by decide) ?_
        refine z_xcallv hI (z_xV (As := [.int (nI 1)]) (rest := []) ⟨hx, hb, hml, hown, hts⟩ hI hw5 rfl (c_X0_append l hl0 G B0 F2 r3 (nI 1)) (z_cwV vX0_append hts q670 ⟨Nat.le_of_ble_eq_true rfl, Nat.le_of_ble_eq_true rfl⟩) rfl hl.1 rfl (lv_room (Nat.le_of_ble_eq_true rfl)) dX2_attempt_37 ⟨Nat.le_of_ble_eq_true rfl, Nat.le_of_ble_eq_true rfl⟩) (z_outL hout hlocks (fun E hE => Or.inl ⟨hE, by omega⟩) (Nat.le_of_ble_eq_true rfl) (Nat.le_of_ble_eq_true rfl) hmo6) (fun F17 H locs hp19 hI => ?_)
        exact hp19.elim
    · refine lv_aload_n hx hb dX2_attempt_21 rfl (lv_at hl 0 rfl) ?_
      refine lv_iconst (v := nI 0) hx hb dX2_attempt_22 (by decide) ?_
      refine lv_iconst (v := nI 1) hx hb dX2_attempt_23 (by decide) ?_
      refine z_xcallv hI (z_xV (As := [.int (nI 0), .int (nI 1)]) (rest := []) ⟨hx, hb, hml, hown, hts⟩ hI hw5 rfl (c_X0_putAt l hl0 G B0 F2 r3 (nI 0) (nI 1)) (z_cwV vX0_putAt hts q650 ⟨Nat.le_of_ble_eq_true rfl, Nat.le_of_ble_eq_true rfl⟩) rfl hl.1 rfl (lv_room (Nat.le_of_ble_eq_true rfl)) dX2_attempt_24 ⟨Nat.le_of_ble_eq_true rfl, Nat.le_of_ble_eq_true rfl⟩) (z_outL hout hlocks (fun E hE => Or.inl ⟨hE, by omega⟩) (Nat.le_of_ble_eq_true rfl) (Nat.le_of_ble_eq_true rfl) hmo6) (fun F20 H locs hp22 hI => ?_)
      exact hp22.elim
  · refine lv_iconst (v := -1) hx hb dX2_attempt_5 (by decide) ?_
    refine lv_goto (tgt := 10) hx hb dX2_attempt_6 (by decide) ?_
    refine lv_istore_n (lv' := [(1, .int (-1)), (0, .int (nI k))]) hx hb dX2_attempt_10 rfl hl (by decide) rfl (fun ls hl => ?_)
    refine lv_iconst (v := nI 0) hx hb dX2_attempt_11 (by decide) ?_
    refine lv_iload_n hx hb dX2_attempt_12 rfl (lv_at hl 0 rfl) ?_
    refine z_xcallr hI (z_xS (As := [.int (nI 0), .int (-1)]) (rest := []) ⟨hx, hb, hml, hown, hts⟩ hI (c_X0_of l hl0 G B0 F (nI 0) (-1)) (z_cwS vX0_of hts q631 ⟨Nat.le_of_ble_eq_true rfl, Nat.le_of_ble_eq_true rfl⟩) rfl hl.1 rfl (lv_room (Nat.le_of_ble_eq_true rfl)) dX2_attempt_13 ⟨Nat.le_of_ble_eq_true rfl, Nat.le_of_ble_eq_true rfl⟩) (z_out hout hlocks (fun E hE => Or.inr (Or.inr ⟨hE.1, by omega⟩)) (Nat.le_of_ble_eq_true rfl) (Nat.le_of_ble_eq_true rfl)) (fun r24 F23 H locs hp25 hI => ?_)
    exact absurd (by decide) hp25.1

set_option maxHeartbeats 4000000 in
set_option maxRecDepth 100000 in
theorem c_X2_isRefused (l : Launch) (hl0 : l.stackTraces = false) (G : zK) (B0 : Nat) (F : zM) (k : Nat) (hk : k < 5) : Met l yX2_isRefused (Cond.codeWith yX2_isRefused cX2_isRefused 2 (some FieldType.boolean) [(0, 4, 7, 210), (0, 4, 28, 212), (0, 4, 40, 214)] :: zW) (zRm 8 134 8 40) (va_Pc [.int (nI k)] (zPre G B0 F)) (zQi G B0 (fun r' F' => F = F' ∧ r' = nI 1)) 8 40 (zA B0) := by
  refine z_ofH (own := RX2) (by decide) rfl (Nat.le_of_ble_eq_true rfl) ?_
  intro p e s m below meth c ls hx hb hr hml hown hlocks htab hts hl hI
  have hl : lv_has ls 2 [(0, .int (nI k))] := hl
  refine lv_iload_n hx hb dX2_isRefused_0 rfl (lv_at hl 0 rfl) ?_
  refine z_xcallv hI (z_xS (As := [.int (nI k)]) (rest := []) ⟨hx, hb, hml, hown, hts⟩ hI (c_X2_attempt l hl0 G B0 F k hk) (z_cwS vX2_attempt hts q628 ⟨Nat.le_of_ble_eq_true rfl, Nat.le_of_ble_eq_true rfl⟩) rfl hl.1 rfl (lv_room (Nat.le_of_ble_eq_true rfl)) dX2_isRefused_1 ⟨Nat.le_of_ble_eq_true rfl, Nat.le_of_ble_eq_true rfl⟩) ?_ (fun F1 H locs hp3 hI => ?_)
  · intro E ce q9 H locs hpx4 hI hce hcv hcl
    rcases hpx4 with ⟨rfl, hk9⟩ | ⟨rfl, hk9⟩ | ⟨rfl, hk9⟩
    · refine z_catch (E := zEU) hown hI [] ⟨0, 4, 7, 210⟩ [⟨0, 4, 28, 212⟩, ⟨0, 4, 40, 214⟩] (htab.trans rfl) (fun z hz => nomatch hz) rfl (by decide) (hts _ q627) (List.mem_of_getElem? (i := 4) rfl) hce hcv hcl ?_
      refine lv_astore_n (lv' := [(1, .ref q9), (0, .int (nI k))]) hx hb dX2_isRefused_7 rfl hl (by decide) rfl (fun ls hl => ?_)
      refine lv_iload_n hx hb dX2_isRefused_8 rfl (lv_at hl 1 rfl) ?_
      refine z_if_eq (tgt := 22) (a := k) hx hb dX2_isRefused_9 (by decide) (by omega) (fun hq5 => ?_) (fun hq5 => ?_)
      · refine lv_iconst (v := nI 1) hx hb dX2_isRefused_22 (by decide) ?_
        refine lv_goto (tgt := 27) hx hb dX2_isRefused_23 (by decide) ?_
        refine z_rz hx hb hr hlocks (Or.inr rfl) hI ?_ (Nat.le_of_ble_eq_true rfl) (Nat.le_of_ble_eq_true rfl) dX2_isRefused_27
        exact ⟨_, rfl, rfl, rfl⟩
      · refine lv_iload_n hx hb dX2_isRefused_12 rfl (lv_at hl 1 rfl) ?_
        refine lv_iconst (v := nI 1) hx hb dX2_isRefused_13 (by decide) ?_
        refine z_icmp_eq (tgt := 22) (a := k) (b := 1) hx hb dX2_isRefused_14 (by decide) (by omega) (fun hq6 => ?_) (fun hq6 => ?_)
        · refine lv_iconst (v := nI 1) hx hb dX2_isRefused_22 (by decide) ?_
          refine lv_goto (tgt := 27) hx hb dX2_isRefused_23 (by decide) ?_
          refine z_rz hx hb hr hlocks (Or.inr rfl) hI ?_ (Nat.le_of_ble_eq_true rfl) (Nat.le_of_ble_eq_true rfl) dX2_isRefused_27
          exact ⟨_, rfl, rfl, rfl⟩
        · refine lv_iload_n hx hb dX2_isRefused_17 rfl (lv_at hl 1 rfl) ?_
          refine lv_iconst (v := nI 2) hx hb dX2_isRefused_18 (by decide) ?_
          refine z_icmp_ne (tgt := 26) (a := k) (b := 2) hx hb dX2_isRefused_19 (by decide) (by omega) (fun hq7 => ?_) (fun hq7 => ?_)
          · refine lv_iconst (v := nI 0) hx hb dX2_isRefused_26 (by decide) ?_
            refine z_rz hx hb hr hlocks (Or.inl rfl) hI ?_ (Nat.le_of_ble_eq_true rfl) (Nat.le_of_ble_eq_true rfl) dX2_isRefused_27
            exfalso; omega
          · refine lv_iconst (v := nI 1) hx hb dX2_isRefused_22 (by decide) ?_
            refine lv_goto (tgt := 27) hx hb dX2_isRefused_23 (by decide) ?_
            refine z_rz hx hb hr hlocks (Or.inr rfl) hI ?_ (Nat.le_of_ble_eq_true rfl) (Nat.le_of_ble_eq_true rfl) dX2_isRefused_27
            exact ⟨_, rfl, rfl, rfl⟩
    · refine z_catch (E := zEI) hown hI [⟨0, 4, 7, 210⟩] ⟨0, 4, 28, 212⟩ [⟨0, 4, 40, 214⟩] (htab.trans rfl) (List.forall_mem_cons.mpr ⟨⟨by decide, zEU, hts _ q627, List.mem_of_getElem? (i := 15) rfl⟩, fun z hz => nomatch hz⟩) rfl (by decide) (hts _ q75) (List.mem_of_getElem? (i := 0) rfl) hce hcv hcl ?_
      refine lv_astore_n (lv' := [(1, .ref q9), (0, .int (nI k))]) hx hb dX2_isRefused_28 rfl hl (by decide) rfl (fun ls hl => ?_)
      refine lv_iload_n hx hb dX2_isRefused_29 rfl (lv_at hl 1 rfl) ?_
      refine lv_iconst (v := nI 3) hx hb dX2_isRefused_30 (by decide) ?_
      refine z_icmp_ne (tgt := 38) (a := k) (b := 3) hx hb dX2_isRefused_31 (by decide) (by omega) (fun hq8 => ?_) (fun hq8 => ?_)
      · refine lv_iconst (v := nI 0) hx hb dX2_isRefused_38 (by decide) ?_
        refine z_rz hx hb hr hlocks (Or.inl rfl) hI ?_ (Nat.le_of_ble_eq_true rfl) (Nat.le_of_ble_eq_true rfl) dX2_isRefused_39
        exfalso; omega
      · refine lv_iconst (v := nI 1) hx hb dX2_isRefused_34 (by decide) ?_
        refine lv_goto (tgt := 39) hx hb dX2_isRefused_35 (by decide) ?_
        refine z_rz hx hb hr hlocks (Or.inr rfl) hI ?_ (Nat.le_of_ble_eq_true rfl) (Nat.le_of_ble_eq_true rfl) dX2_isRefused_39
        exact ⟨_, rfl, rfl, rfl⟩
    · refine z_catch (E := zEA) hown hI [⟨0, 4, 7, 210⟩, ⟨0, 4, 28, 212⟩] ⟨0, 4, 40, 214⟩ [] (htab.trans rfl) (List.forall_mem_cons.mpr ⟨⟨by decide, zEU, hts _ q627, List.mem_of_getElem? (i := 17) rfl⟩, List.forall_mem_cons.mpr ⟨⟨by decide, zEI, hts _ q75, List.mem_of_getElem? (i := 1) rfl⟩, fun z hz => nomatch hz⟩⟩) rfl (by decide) (hts _ q183) (List.mem_of_getElem? (i := 2) rfl) hce hcv hcl ?_
      refine lv_astore_n (lv' := [(1, .ref q9), (0, .int (nI k))]) hx hb dX2_isRefused_40 rfl hl (by decide) rfl (fun ls hl => ?_)
      refine lv_iload_n hx hb dX2_isRefused_41 rfl (lv_at hl 1 rfl) ?_
      refine lv_iconst (v := nI 4) hx hb dX2_isRefused_42 (by decide) ?_
      refine z_icmp_ne (tgt := 50) (a := k) (b := 4) hx hb dX2_isRefused_43 (by decide) (by omega) (fun hq9 => ?_) (fun hq9 => ?_)
      · refine lv_iconst (v := nI 0) hx hb dX2_isRefused_50 (by decide) ?_
        refine z_rz hx hb hr hlocks (Or.inl rfl) hI ?_ (Nat.le_of_ble_eq_true rfl) (Nat.le_of_ble_eq_true rfl) dX2_isRefused_51
        exfalso; omega
      · refine lv_iconst (v := nI 1) hx hb dX2_isRefused_46 (by decide) ?_
        refine lv_goto (tgt := 51) hx hb dX2_isRefused_47 (by decide) ?_
        refine z_rz hx hb hr hlocks (Or.inr rfl) hI ?_ (Nat.le_of_ble_eq_true rfl) (Nat.le_of_ble_eq_true rfl) dX2_isRefused_51
        exact ⟨_, rfl, rfl, rfl⟩
  exact hp3.elim

set_option maxHeartbeats 4000000 in
set_option maxRecDepth 100000 in
theorem c_X2_refuses (l : Launch) (hl0 : l.stackTraces = false) (G : zK) (B0 : Nat) (F : zM) (σ : Sg) (zp0 : Int32) (hC : CS G B0 F σ) : vx_Met l yX2_refuses (Cond.code yX2_refuses cX2_refuses 2 (some FieldType.boolean) :: zW) (zRm 9 155 9 46) (va_Pc [.ref B0, .int zp0] (zPre G B0 F)) (zQi G B0 (fun r' F' => oA_refuses σ zp0 ∧ oB_refuses σ zp0 ∧ oC_refuses σ zp0 ∧ r' = rr_refuses σ zp0 ∧ CS G B0 F' (ss_refuses σ zp0) ∧ zCf B0 F F')) (zXC G B0 F (fun E => zPX zEA "" "" (oA_refuses σ zp0) (oB_refuses σ zp0) (oC_refuses σ zp0) E)) 9 46 (zA B0) := by
  refine z_ofx (own := RX2) (by decide) rfl (Nat.le_of_ble_eq_true rfl) ?_
  intro p e s m below meth c ls hx hb hr hml hown hlocks hout hts hl hI
  have hl : lv_has ls 2 [(0, .ref B0), (1, .int zp0)] := hl
  obtain ⟨y01, ⟨fa1, y11, e11⟩, ⟨fb1, y21, e21⟩, ⟨fc1, y31, e31⟩, ⟨n41, t41, y41⟩, ⟨n61, t61, y61⟩, ⟨n81, t81, y81⟩, ⟨fd1, y101⟩, yT1, yP1⟩ := id hC
  refine lv_iload_n hx hb dX2_refuses_0 rfl (lv_at hl 1 rfl) ?_
  refine lv_iconst (v := nI 0) hx hb dX2_refuses_1 (by decide) ?_
  refine lv_iconst (v := nI 4) hx hb dX2_refuses_2 (by decide) ?_
  refine z_xcallv hI (z_xS (As := [.int zp0, .int (nI 0), .int (nI 4)]) (rest := []) ⟨hx, hb, hml, hown, hts⟩ hI (c_X2_requireWithin l hl0 G B0 F zp0 (nI 0) (nI 4)) (z_cwS vX2_requireWithin hts q206 ⟨Nat.le_of_ble_eq_true rfl, Nat.le_of_ble_eq_true rfl⟩) rfl hl.1 rfl (lv_room (Nat.le_of_ble_eq_true rfl)) dX2_refuses_3 ⟨Nat.le_of_ble_eq_true rfl, Nat.le_of_ble_eq_true rfl⟩) (z_out hout hlocks (fun E hE => Or.inl ⟨hE.1, fun q => hE.2 (by first | exact q | (simp only [oA_refuses, oB_refuses, oC_refuses, rr_refuses, ss_refuses] at q; exact q))⟩) (Nat.le_of_ble_eq_true rfl) (Nat.le_of_ble_eq_true rfl)) (fun F2 H locs hp4 hI => ?_)
  obtain ⟨rfl, hp4, hp4b⟩ := hp4
  obtain ⟨k, hk5, rfl⟩ : ∃ k, k < 5 ∧ zp0 = nI k := by obtain ⟨j, hj, rfl⟩ := nI_of hp4; exact ⟨j, by have := (nI_leI hj (by decide)).mp hp4b; omega, rfl⟩
  have hl : lv_has ls 2 [(0, .ref B0), (1, .int (nI k))] := hl
  refine lv_iload_n hx hb dX2_refuses_6 rfl (lv_at hl 1 rfl) ?_
  refine z_calli hI (z_H (As := [.int (nI k)]) (rest := []) ⟨hx, hb, hml, hown, hts⟩ hI (c_X2_isRefused l hl0 G B0 F k hk5) (z_cwH vX2_isRefused hts q624 ⟨Nat.le_of_ble_eq_true rfl, Nat.le_of_ble_eq_true rfl⟩) rfl hl.1 rfl (lv_room (Nat.le_of_ble_eq_true rfl)) dX2_refuses_7 ⟨Nat.le_of_ble_eq_true rfl, Nat.le_of_ble_eq_true rfl⟩) (fun r6 F5 H locs hp7 hI => ?_)
  obtain ⟨rfl, rfl⟩ := hp7
  refine vx_ret (z_rz hx hb hr hlocks (Or.inr rfl) hI ?_ (Nat.le_of_ble_eq_true rfl) (Nat.le_of_ble_eq_true rfl) dX2_refuses_10)
  refine ⟨_, rfl, (by simp only [oA_refuses, oB_refuses, oC_refuses, rr_refuses, ss_refuses] <;> exact ⟨hp4, hp4b⟩), (by simp only [oA_refuses, oB_refuses, oC_refuses, rr_refuses, ss_refuses] <;> exact trivial), (by simp only [oA_refuses, oB_refuses, oC_refuses, rr_refuses, ss_refuses] <;> exact trivial), (by simp only [oA_refuses, oB_refuses, oC_refuses, rr_refuses, ss_refuses] <;> exact rfl), (by simp only [oA_refuses, oB_refuses, oC_refuses, rr_refuses, ss_refuses] <;> exact hC), zCf.rf⟩

set_option maxHeartbeats 4000000 in
set_option maxRecDepth 100000 in
theorem c_X4_refuses (l : Launch) (G : zK) (B0 : Nat) (F : zM) (σ : Sg) (th zp0 : Int32) (hM : MS G B0 F σ th) (hK : SgOk σ) : Met l yX4_refuses (Cond.code yX4_refuses cX4_refuses 2 (some FieldType.boolean) :: zW) (zRm 1 25 0 0) (va_Pc [.ref (B0 + 23), .int zp0] (zPre G B0 F)) (zQi G B0 (zRP G B0 F σ (oA_refuses σ zp0) (oB_refuses σ zp0) (oC_refuses σ zp0) (ss_refuses σ zp0) (rr_refuses σ zp0))) 0 0 (zA B0) := by
  refine z_of (own := RX4) (by decide) rfl (Nat.le_of_ble_eq_true rfl) ?_
  intro p e s m below meth c ls hx hb hr hml hown hlocks hnm hts hl hI
  have hl : lv_has ls 2 [(0, .ref (B0 + 23)), (1, .int zp0)] := hl
  obtain ⟨m01, ⟨ma1, m11, me11⟩, ⟨mb1, m21, me21⟩, ⟨mc1, m31, me31⟩, ⟨n91, t91, m41⟩, mT1, mP1⟩ := id hM
  refine lv_aload_n hx hb dX4_refuses_0 rfl (lv_at hl 0 rfl) ?_
  refine lv_iload_n hx hb dX4_refuses_1 rfl (lv_at hl 1 rfl) ?_
  refine lv_i2l hx hb dX4_refuses_2 rfl ?_
  refine lv_lconst (v := 0) hx hb dX4_refuses_3 (by decide) ?_
  refine lv_ldc2 (v := 4) hx hb hown (hts _ q1039) dX4_refuses_4 ?_
  refine z_calli hI (z_S (As := [.long zp0.toInt64, .long 0, .long 4]) (rest := [.ref (B0 + 23)]) ⟨hx, hb, hml, hown, hts⟩ hI (c_X4_in l G B0 F zp0.toInt64 0 4) (z_cwS vX4_in hts q776 ⟨Nat.le_of_ble_eq_true rfl, Nat.le_of_ble_eq_true rfl⟩) rfl hl.1 rfl (lv_room (Nat.le_of_ble_eq_true rfl)) dX4_refuses_7 ⟨Nat.le_of_ble_eq_true rfl, Nat.le_of_ble_eq_true rfl⟩) (fun r3 F2 H locs hp4 hI => ?_)
  obtain ⟨rfl, rfl⟩ := hp4
  refine lv_iconst (v := nI 1) hx hb dX4_refuses_10 (by decide) ?_
  refine z_topi (pI_1 (P := True) trivial) ?_
  refine lv_iconst (v := nI 1) hx hb dX4_refuses_11 (by decide) ?_
  refine z_topi (pI_1 (P := True) trivial) ?_
  refine z_calli hI (z_V (As := [.int (pI (0 ≤ zp0.toInt64 ∧ zp0.toInt64 ≤ 4)), .int (pI (True)), .int (pI (True))]) (rest := []) ⟨hx, hb, hml, hown, hts⟩ hI m01 rfl (c_X4_passes l G B0 F σ th (0 ≤ zp0.toInt64 ∧ zp0.toInt64 ≤ 4) (True) (True) hM) (z_cwV vX4_passes hts q788 ⟨Nat.le_of_ble_eq_true rfl, Nat.le_of_ble_eq_true rfl⟩) rfl hl.1 rfl (lv_room (Nat.le_of_ble_eq_true rfl)) dX4_refuses_12 ⟨Nat.le_of_ble_eq_true rfl, Nat.le_of_ble_eq_true rfl⟩) (fun r6 F5 H locs hp7 hI => ?_)
  obtain ⟨⟨th1, hM1, hz1⟩, rfl, ho1⟩ := hp7
  have hp1 : (0 ≤ zp0.toInt64 ∧ zp0.toInt64 ≤ 4) ↔ oA_refuses σ zp0 := in_c (a := 0) (b := 4) (by decide) (by decide)
  have hp2 : oA_refuses σ zp0 → ((True) ↔ oB_refuses σ zp0) := fun _ => Iff.rfl
  have hp3 : oA_refuses σ zp0 → oB_refuses σ zp0 → ((True) ↔ oC_refuses σ zp0) := fun _ _ => Iff.rfl
  have hz2 := zTh_cg hp1 hp2 hp3 hz1
  refine z_topi (pI_cg (zC_cg hp1 hp2 hp3)) ?_
  have hmf1 : zMf B0 F F5 := fun q hq => ho1 q (by omega)
  obtain ⟨m08, ⟨ma8, m18, me18⟩, ⟨mb8, m28, me28⟩, ⟨mc8, m38, me38⟩, ⟨n98, t98, m48⟩, mT8, mP8⟩ := id hM1
  refine z_rz hx hb hr hlocks pI_or hI ?_ (Nat.le_of_ble_eq_true rfl) (Nat.le_of_ble_eq_true rfl) dX4_refuses_15
  exact ⟨_, rfl, th1, σ, hM1, hz2, fun q => ⟨rfl, (pI_t q).symm⟩, fun _ => rfl, hmf1⟩

