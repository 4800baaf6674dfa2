/-! 'throw new NoSuchElementException(text)': its constructor goes on to RuntimeException's by the place 13 of its own pool, where the pasted rows know 7 alone. zN_ctor is the library's way (BundleOwnThrow) with the first link by words of its own (PassC.ofS_atoms). -/
abbrev zRT : String := "java/lang/RuntimeException"
def zNt (own : String) (ic : Nat) : List Cond :=
  [.methodLink own ic (Bundle.initS zEN), .instantiable zEN 6, .castable zEN zEN, .selects zEN Bundle.tFill0 Bundle.tFill0, .selects zEN Bundle.tFill Bundle.tFill,
   .lays zEN Bundle.tN "cause" "Ljava/lang/Throwable;", .lays zEN Bundle.tN "stackTrace" Bundle.steD, .lays zEN Bundle.tN "suppressedExceptions" Bundle.listD, .lays zEN Bundle.tN "detailMessage" "Ljava/lang/String;",
   .isRef (.static Bundle.tN "UNASSIGNED_STACK" Bundle.steD), .isRef (.static Bundle.tN "SUPPRESSED_SENTINEL" Bundle.listD),
   .fieldLink Bundle.tN 198 Bundle.tN "backtrace" "Ljava/lang/Object;", .lays Bundle.tN Bundle.tN "backtrace" "Ljava/lang/Object;", .lays zEN Bundle.tN "backtrace" "Ljava/lang/Object;"]
def zNat (own : String) (ic : Nat) : List Cond :=
  (Bundle.throwableAtoms ++ Bundle.throwableSAtoms ++ (Bundle.passSAtoms zEN zRT 13 prog_17_method_4_code ++ Bundle.chainSAtoms zRT ["java/lang/Exception"])) ++ zNt own ic
set_option maxRecDepth 20000 in
theorem zaX2_193 : ∀ w ∈ ((zNat RX2 193).filter vx_no).filter goodWord, w ∈ zW := zql _ [28, 120, 129, 135, 138, 140, 121, 122, 44, 45, 123, 128, 136, 156, 110, 157, 112, 158, 114, 124, 126, 116, 152, 153, 155, 116, 465, 466, 467, 146, 146, 147, 148, 149, 149, 150, 151, 152, 464, 455, 457, 134, 458, 459, 460, 461, 119, 118, 462] (by decide +kernel) (by decide +kernel)
set_option maxRecDepth 20000 in
theorem zbX2_193 : ∀ w ∈ ((zNat RX2 193).filter vx_no).filter (fun w => !goodWord w), w ∈ zBad zEN := by decide +kernel
theorem zN0 : decode prog_17_method_4_code 0 = .ok (.aload_n 0, 1) := by decide +kernel
theorem zN1 : decode prog_17_method_4_code 1 = .ok (.aload_n 1, 1) := by decide +kernel
theorem zN2 : decode prog_17_method_4_code 2 = .ok (.invokespecial 13, 3) := by decide +kernel
theorem zN5 : decode prog_17_method_4_code 5 = .ok (.return_, 1) := by decide +kernel
theorem zNfit : Bundle.fit zEN = true := by decide +kernel
theorem zRTfit : Bundle.fit zRT = true := by decide +kernel
theorem zEXfit : ∀ n ∈ (["java/lang/Exception"] : List String), Bundle.fit n = true := by decide +kernel
/-- the constructors that a new one runs through, from its own to Throwable's -/
theorem zN_chain {args : Array Value} {s : State} {pl : Platform} (hpl : pl.magicAccessors = ({} : Platform).magicAccessors) {top : MethodId} (htop : s.methodNamed? (Bundle.initS Bundle.tN) = some top)
    (h : ∀ c ∈ Bundle.passSAtoms zEN zRT 13 prog_17_method_4_code ++ Bundle.chainSAtoms zRT ["java/lang/Exception"], c.before args s = true) :
    ∃ (P1 : PassC) (Ps : List PassC), Ps.length = 2 ∧ P1.LinksS pl s ∧ (∀ P, P ∈ Ps → P.LinksS pl s) ∧ s.methodNamed? (Bundle.initS zEN) = some P1.m ∧ P1.sup = firstOf top (Ps.map (·.toPassT)) ∧ PassesOn top (Ps.map (·.toPassT)) := by
  obtain ⟨P, L, hm, hs⟩ := PassC.ofS_atoms (args := args) (s := s) hpl (X := zEN) (Y := zRT) (Bundle.fit_spec zNfit).1 (Bundle.fit_spec zRTfit).2 zN0 zN1 zN2 zN5 (fun c hc => h c (List.mem_append_left _ hc))
  obtain ⟨P', Ps, hlen, L', hL, hm', hsup, hpass⟩ := Bundle.chainS (args := args) hpl htop ["java/lang/Exception"] zRT zRTfit zEXfit (fun c hc => h c (List.mem_append_right _ hc))
  refine ⟨P, P' :: Ps, by simp [hlen], L, fun Q hQ => ?_, hm, Option.some.inj (hs.symm.trans hm'), hsup, hpass⟩
  rcases List.mem_cons.mp hQ with rfl | hQ
  · exact L'
  · exact hL Q hQ
theorem zNx {own : String} {ic : Nat} (i : Nat) {w : Cond} {args : Array Value} {s : State} (h : ∀ a ∈ zNat own ic, a.before args s = true) (hi : (zNt own ic)[i]? = some w) : w.before args s = true := h w (List.mem_append_right _ (List.mem_of_getElem? hi))
set_option maxHeartbeats 2000000 in
theorem zN_ctor {p : Program} {l : Launch} {e : Env} {R : Room} {s : State} {m₀ : MethodId} {args : Array Value} {below : List Frame} {meth : Method} {c : Code} {U9 : State} {locs : List Loc} {cells slots : Nat}
    (X : Stand p l e R s m₀ args below meth c U9 locs cells slots) (hexec : p.tables.exec = Jvm.exec) (htr : e.platform.stackTraces = false) {own : String} {ic : Nat}
    (hown : s.vm.findClass own = some m₀.cls) (h : ∀ a ∈ zNat own ic, a.before args s = true) (hlocs : ∀ x ∈ locs, ∀ cell, s.heap[x.base]? = some cell → cell.vm.isStatics = false)
    {a : Addr} {cX : ClassId} {kX : Class} (hfoundX : s.vm.findClass zEN = some cX) (hkX : s.vm.classes[cX]? = some kX) (hcell : U9.heap[a]? = some (freshCell cX kX)) (hnew : s.heap.size ≤ a)
    {msg : Value} (hmsg : msg.isRef = true) {g : JFrame} (hg : g.method = m₀) (hsize : g.locals.size = c.maxLocals) (hlocked : g.locked = none) (hentered : g.entered = []) {rest : List Value} (hstack : g.stack = msg :: .ref a :: .ref a :: rest)
    (hd6 : decode c.code g.pc = .ok (.invokespecial ic, 3)) (hd9 : decode c.code (g.pc + 3) = .ok (.athrow, 1)) (hout : ∀ x ∈ c.exceptionTable.toList, covers x (g.pc + 3) = false)
    (hRframes : 5 < R.frames) (hRlocals : 2 * g.monitorRoom + ((Value.ref a :: rest).map fun v => v.category).sum + 81 ≤ R.locals) (hlocks : meth.locks = false) :
    ∃ U : State, Steps p.tables e below (U9.setTop g) U ∧ U.status = .running ∧ Ended U below (.threw a) ∧ s.WarmedH U.vm ∧ s.sameButNew ({ U with vm := s.vm } : State) locs cells slots ∧
      ∃ ce, U.heap[a]? = some ce ∧ ce.vm = .none ∧ s.vm.findClass zEN = some ce.cls := by
  have howns : e.platform.frameOwnsMonitors = true := by rw [X.admits.platform]
  have hfin : e.platform.finalization = false := by rw [X.admits.platform]
  have hpl : e.platform.magicAccessors = ({} : Platform).magicAccessors := by rw [X.admits.platform]
  have hz := fun (i : Nat) (w : Cond) (q : (zNt own ic)[i]? = some w) => zNx i h q
  have hA : ∀ x ∈ Bundle.throwableAtoms, x.before args s = true := fun x hx => h x (List.mem_append_left _ (List.mem_append_left _ (List.mem_append_left _ hx)))
  have hB : ∀ x ∈ Bundle.throwableSAtoms, x.before args s = true := fun x hx => h x (List.mem_append_left _ (List.mem_append_left _ (List.mem_append_right _ hx)))
  have hC : ∀ x ∈ Bundle.passSAtoms zEN zRT 13 prog_17_method_4_code ++ Bundle.chainSAtoms zRT ["java/lang/Exception"], x.before args s = true := fun x hx => h x (List.mem_append_left _ (List.mem_append_right _ hx))
  obtain ⟨T, Z0, L, -, Y⟩ := ThrowableC.of_atoms (args := args) howns hfin hpl hA
  obtain ⟨Z, M, LZ, LM, hnZ⟩ := Init0T.ofS_atoms (args := args) hpl L Y hB
  obtain ⟨P1, Ps, hlen, L1, hL, hP1m, hlink1, hlink⟩ := zN_chain (args := args) hpl hnZ hC
  have hfound : s.vm.findClass zEN = some P1.m.cls := findClass_of_methodNamed hP1m
  cases Option.some.inj (hfoundX.symm.trans hfound)
  obtain ⟨c1, kX', hc1, hk, hord, -, -, hn6⟩ := Cond.instantiable_spec (hz 1 (.instantiable zEN 6) rfl)
  cases Option.some.inj (hc1.symm.trans hfound)
  cases Option.some.inj (hkX.symm.trans hk)
  have hsel0 : selectMethod e.platform s.vm P1.m.cls T.fill0 = .method T.fill0 := by
    obtain ⟨c2, r2, m2, q1, q2, q3, q4, -⟩ := Cond.selects_spec (hz 3 (.selects zEN Bundle.tFill0 Bundle.tFill0) rfl)
    cases Option.some.inj (q1.symm.trans hfound)
    cases Option.some.inj (q2.symm.trans (State.methodFound?_of_named Y.fill0 (by decide)))
    cases Option.some.inj (q3.symm.trans Y.fill0)
    rw [Launch.admits_selectMethod X.admits]; exact q4
  have hselF : selectMethod e.platform s.vm P1.m.cls T.fill = .method T.fill := by
    obtain ⟨c2, r2, m2, q1, q2, q3, q4, -⟩ := Cond.selects_spec (hz 4 (.selects zEN Bundle.tFill Bundle.tFill) rfl)
    cases Option.some.inj (q1.symm.trans hfound)
    cases Option.some.inj (q2.symm.trans (State.methodFound?_of_named Y.fill (by decide)))
    cases Option.some.inj (q3.symm.trans Y.fill)
    rw [Launch.admits_selectMethod X.admits]; exact q4
  obtain ⟨cellS0, hcS0, hiss⟩ := Y.statics
  obtain ⟨u0, hu0⟩ := Cond.staticRefV Y.unassigned L.unassignedStatic L.statics hcS0 hiss (hz 9 (.isRef (.static Bundle.tN "UNASSIGNED_STACK" Bundle.steD)) rfl)
  obtain ⟨sen, hsen⟩ := Cond.staticRefV Y.sentinel L.sentinelStatic L.statics hcS0 hiss (hz 10 (.isRef (.static Bundle.tN "SUPPRESSED_SENTINEL" Bundle.listD)) rfl)
  obtain ⟨ci198, i198, fB, hk198, hg198, ha198, hsB, -, hnB, htB, hffB⟩ := Cond.ownField (t := .object "java/lang/Object") Y.found L.cls (by decide +kernel) (hz 11 (.fieldLink Bundle.tN 198 Bundle.tN "backtrace" "Ljava/lang/Object;") rfl) (hz 12 (.lays Bundle.tN Bundle.tN "backtrace" "Ljava/lang/Object;") rfl) e.platform hpl
  obtain ⟨cellS, hcS', heS, -, hkeep⟩ := X.same.2.2.2.2.2 T.aS cellS0 hcS0
  have hcellS : U9.heap[T.aS]? = some cellS := hcS'
  have hout' : ∀ i, (⟨T.aS, i⟩ : Loc) ∉ locs := fun i hmem => by
    have := hlocs _ hmem cellS0 hcS0
    rw [hiss] at this; cases this
  have hknownS : cellS.vm ≠ .unknown := by
    rw [heS]; intro hu
    rw [show cellS0.vm = .unknown from hu] at hiss
    cases hiss
  have hneS : T.aS ≠ a := Nat.ne_of_lt (Nat.lt_of_lt_of_le (Array.getElem?_eq_some_iff.mp hcS0).1 hnew)
  obtain ⟨iM, hffM⟩ := Y.msg
  obtain ⟨tyC, dC, hdC, hdnC⟩ := Cond.laysAt hfound hk Y.cause (hz 5 (.lays zEN Bundle.tN "cause" "Ljava/lang/Throwable;") rfl)
  obtain ⟨tyS, dS, hdS, hdnS⟩ := Cond.laysAt hfound hk Y.stack (hz 6 (.lays zEN Bundle.tN "stackTrace" Bundle.steD) rfl)
  obtain ⟨tyP, dP, hdP, hdnP⟩ := Cond.laysAt hfound hk Y.supp (hz 7 (.lays zEN Bundle.tN "suppressedExceptions" Bundle.listD) rfl)
  obtain ⟨tyM, dM, hdM, hdnM⟩ := Cond.laysAt hfound hk hffM (hz 8 (.lays zEN Bundle.tN "detailMessage" "Ljava/lang/String;") rfl)
  obtain ⟨tyB, dB, hdB, hdnB⟩ := Cond.laysAt hfound hk hffB (hz 13 (.lays zEN Bundle.tN "backtrace" "Ljava/lang/Object;") rfl)
  have bC := Cond.laysApart hdB hdC hdnB hdnC (by rw [hnB, Y.causeName]; decide)
  have bS := Cond.laysApart hdB hdS hdnB hdnS (by rw [hnB, Y.stackName]; decide)
  have bP := Cond.laysApart hdB hdP hdnB hdnP (by rw [hnB, Y.suppName]; decide)
  have hskip : SkipFacts T e.platform s (fun u => u) u0 ((preparedCellV T.toThrowableT (freshCell P1.m.cls kX) a u0 sen).withEntry U9.cur) :=
    ⟨{ ci198 := ci198, i198 := i198, fBack := fB }, ⟨hk198, hg198, ha198, hsB⟩, by
      have := fresh_default (c := P1.m.cls) tyB
      rw [htB] at this
      simpa [preparedCellV, Cell.setSlot, Cell.withEntry, Array.getElem?_setIfInBounds, bC, bS, bP, bC.symm, bS.symm, bP.symm, defaultValue] using this, fun _ _ => rfl⟩
  obtain ⟨tm, methC, cdC, kC, vm₁, hnC, -, -, -, -, -, -, -, hW₁, st1⟩ := Steps.initColdS (tb := p.tables) (e := e) (below := below) (s := s) (U := U9) X.here hexec X.warmed hpl hown (t := Bundle.initS zEN) rfl rfl (Bundle.fit_spec zNfit).2
    (hz 0 (.methodLink own ic (Bundle.initS zEN)) rfl) (hC (.instanceMethod (Bundle.initS zEN)) (List.mem_append_left _ (List.mem_of_getElem? (i := 0) rfl))) (bytes := prog_17_method_4_code) (maxL := 2) (hC (.code (Bundle.initS zEN) prog_17_method_4_code 2 none) (List.mem_append_left _ (List.mem_of_getElem? (i := 1) rfl)))
    (f := g) hg (a := a) (msg := msg) (rest := .ref a :: rest) hstack hd6
  cases Option.some.inj (hnC.symm.trans hP1m)
  have X₁ := X.noted hW₁
  obtain ⟨vm₂, X₂, st2⟩ := X₁.ctorMessageOffV hexec (g := { g with stack := .ref a :: rest }) hg hsize T L Z LZ M LM (P1 :: Ps)
    (fun P hP => by rcases List.mem_cons.mp hP with rfl | hP; exact L1; exact hL P hP) ⟨hlink1, hlink⟩ (u0 := u0) (sen := sen) (self := a) hmsg (cell := freshCell P1.m.cls kX) (cellS := cellS)
    hcell (fun _ => by simp) (by simp) rfl rfl hsel0 hselF hcellS hneS hknownS (by rw [hkeep _ (hout' _)]; exact hu0) (by rw [hkeep _ (hout' _)]; exact hsen)
    (Takes.of_laid hk hord tyC (by rw [Y.causeType]; rfl)) (Takes.of_laid hk hord tyS (by rw [Y.stackType]; exact fits_refV_array _ u0)) (Takes.of_laid hk hord tyP (by rw [Y.suppType]; exact fits_refV_object _ sen))
    (Takes.of_laid hk hord tyM (by rw [Y.msgType]; exact fits_refV_object _ ⟨msg, hmsg⟩)) Y.objLocals hskip htr [] hd6
    (by simp only [List.length_cons, hlen]; omega) (by simp only [List.length_cons, hlen]; exact hRlocals)
  obtain ⟨hwalk, hrun, hended, hWU, hsame⟩ := X₂.athrowLeaves hexec (g := { g with stack := .ref a :: rest, pc := g.pc + 3 }) hg hlocked hentered hout (a := a) (rest := rest) rfl hd9
  have hlt : a < ((U9.setVm vm₁).setVm vm₂).heap.size := (Array.getElem?_eq_some_iff.mp hcell).1
  have hU := heapAt_setCell_self (s := (U9.setVm vm₁).setVm vm₂) (plainBareV T.toThrowableT (freshCell P1.m.cls kX) a u0 sen msg) hlt
  refine ⟨_, st1 _ (fun acts => ?_), hrun, hended, hWU, hsame.weaken (fun y hy hlt' => ?_) (Nat.le_refl _) (Nat.le_refl _), _, hU, rfl, hfound⟩
  · rw [doInvoke_state]
    exact st2 _ hwalk
  · rcases List.mem_append.mp hy with h1 | h1
    · exact h1
    · exfalso
      have hb : y.base = a := by
        simp only [List.mem_cons, List.not_mem_nil, or_false] at h1
        rcases h1 with rfl | rfl | rfl | rfl | rfl <;> rfl
      rw [hb] at hlt'
      exact Nat.not_lt.mpr hnew hlt'
section
variable {p : Program} {l : Launch} {e : Env} {R : Room} {s : State} {m : MethodId} {args : Array Value} {below : List Frame} {meth : Method} {c : Code} {H : Heap} {locs : List Loc} {cells slots : Nat} {Q : State → Prop}
variable {cc : ByteArray} {pc : Nat} {ls : Array Slot} {rest st0 : List Value} {G : zK} {B0 : Nat} {F F' : zM} {mc ms : Nat} {post : Option Value → zM → Prop} {PX : String → Prop}
theorem zN_go {Qc : Array Value → State → Outcome → State → Prop} {text : String} {ik is pi : Nat} (hexec : p.tables.exec = Jvm.exec) (hb : c.code = cc) (hl : l.stackTraces = false) (hown : s.vm.findClass RX2 = some m.cls) (hlocks : meth.locks = false) (hout : ∀ x ∈ c.exceptionTable.toList, False) (hts : ∀ w ∈ zW, w.before args s = true)
    (hk : Cond.classLink RX2 ik zEN ∈ zW) (hini : Cond.initialized zEN ∈ zW) (hstr : (RX2, is, text) ∈ zStr)
    (hI : zI G B0 s H locs F) (hsize : ls.size = c.maxLocals)
    (d0 : decode cc pc = .ok (.new ik, 3)) (d3 : decode cc (pc + 3) = .ok (.dup, 1)) (d4 : (decode cc (pc + 4) = .ok (.ldc is, 2) ∧ pi = pc + 6) ∨ (decode cc (pc + 4) = .ok (.ldc_w is, 3) ∧ pi = pc + 7)) (d6 : decode cc pi = .ok (.invokespecial 193, 3)) (d9 : decode cc (pi + 3) = .ok (.athrow, 1))
    (hR : 5 < R.frames ∧ (rest.map fun v => v.category).sum + 82 ≤ R.locals ∧ cells + 1 ≤ R.cells ∧ slots + 6 ≤ R.slots) (hp : PX zEN) (h1 : cells + 1 ≤ mc) (hms : slots + 6 ≤ ms) :
    W p l e R s m args below meth c H locs cells slots (vx_MQ below Qc (zXC G B0 F PX) args s mc ms (zA B0)) (F0 m pc ls rest) := by
  obtain ⟨sa, hstr1⟩ := hI.1.2.2.1 _ hstr
  have hcast : (Cond.castable zEN zEN).before args s = true := zCs.use (hI.1.2.2.2.2.2.2.2.2 zEN (List.mem_of_getElem? (i := 3) rfl))
  have hat : ∀ w ∈ (zNat RX2 193).filter vx_no, w.before args s = true := vx_hat (fun w hw => hts w (zaX2_193 w hw)) zbX2_193 (vx_c hcast (vx_c (va_Nw.use rfl (hI.1.2.1 _ (List.mem_of_getElem? (i := 5) rfl))) (vx_c (va_Nw.use rfl (hI.1.2.1 _ (List.mem_of_getElem? (i := 6) rfl))) (vx_c (va_Nw.use rfl (hI.1.2.1 _ (List.mem_of_getElem? (i := 7) rfl))) vx_n))))
  have hgo : ∀ w ∈ (zNat RX2 193).filter vx_no, vx_ot w = true := by
    intro w hw
    by_cases g : goodWord w = true
    · simp only [vx_ot, g, Bool.or_true]
    · have h4 := zbX2_193 w (List.mem_filter.mpr ⟨hw, by simp [g]⟩)
      simp only [zBad, List.mem_cons, List.not_mem_nil, or_false] at h4
      rcases h4 with rfl | rfl | rfl | rfl <;> rfl
  have hgw : ∀ x : Cond, x ∈ zW → vx_ot x = true := fun x hx => by
    have h3 := (List.mem_filter.mp hx).2
    simp only [vx_ot, h3, Bool.or_true]
  intro T hT X
  have htr : e.platform.stackTraces = false := (show e.platform.stackTraces = l.stackTraces by rw [X.admits.platform]).trans hl
  have Y := vx_rebase X (R' := { frames := R.frames, locals := R.locals, cells := 1, slots := 6 }) (Nat.le_refl _) (Nat.le_refl _) hR.2.2.1 hR.2.2.2
  obtain ⟨s', hA⟩ : ∃ z, z = (T.setVm s.vm).setFrames (.invoking m args :: below) := ⟨_, rfl⟩
  rw [← hA] at Y
  have hvm : s'.vm = s.vm := by rw [hA]; rfl
  have hhp : s'.heap = H := by rw [hA]; exact hT
  have hW0 : s.WarmedH s'.vm := by rw [hvm]; exact State.WarmedH.refl s
  have hU' : vx_Zq Bundle.tN "UNASSIGNED_STACK" Bundle.steD (zA B0) s' s'.heap := by rw [hhp]; exact vx_Zq.moved hW0.alike (hI.1.2.2.2.1.kept hI.2.1.2.1)
  have hN' : vx_Zq Bundle.tN "SUPPRESSED_SENTINEL" Bundle.listD (zA B0) s' s'.heap := by rw [hhp]; exact vx_Zq.moved hW0.alike (hI.1.2.2.2.2.1.kept hI.2.1.2.1)
  have h : ∀ w ∈ zNat RX2 193, w.before args s' = true := vx_own (fun w hw => vx_ot_at hW0 hvm.symm (hgo w hw) (hat w hw)) (vx_isRefq hU'.1) (vx_isRefq hN'.1) hU'.2.word hN'.2.word
  have hown' : s'.vm.findClass RX2 = some m.cls := by rw [hvm]; exact hown
  obtain ⟨vm₁, cX, kX, hfX, hkX, -, -, X₁, st1⟩ := Y.newCold hexec (own := RX2) (C := zEN) (index := ik) (n := 6) hown' (vx_ot_at hW0 hvm.symm (hgw _ hk) (hts _ hk)) (zNx 1 h rfl) (vx_ot_at hW0 hvm.symm (hgw _ hini) (hts _ hini))
    (g := F0 m pc ls rest) rfl (by rw [hb]; exact d0) (Nat.le_refl _) (Nat.le_refl _)
  generalize hT1 : (T.setVm vm₁).pushCell { cls := cX, slots := kX.instanceTypes.map defaultValue, vm := .none } = T1 at X₁ st1
  have hcat : (Value.ref T.heap.size).category = 1 := rfl
  have hcellA : T1.heap[T.heap.size]? = some (freshCell cX kX) := by rw [← hT1]; exact State.heap_pushCell_size _ _
  have d3' : decode c.code (pc + 3) = .ok (.dup, 1) := by rw [hb]; exact d3
  have hstr' : vk_R RX2 is text sa s' := vk_R.warm hW0 hstr1
  obtain ⟨U, hsteps, hrun, hend, hW, hsame, ce, hce, hcv, hcl0⟩ := zN_ctor X₁ hexec htr (own := RX2) (ic := 193) hown' h (fun x hx => nomatch hx) hfX hkX hcellA (by rw [hhp, hT]; exact Nat.le_refl _) (msg := .ref sa) rfl
    (g := { method := m, pc := pi, locals := ls, stack := .ref sa :: .ref T.heap.size :: .ref T.heap.size :: rest, locked := none }) rfl hsize rfl rfl (rest := rest) rfl
    (by rw [hb]; exact d6) (by rw [hb]; exact d9) (fun x hx => (hout x hx).elim) hR.1 (by have := hR.2.1; simp only [List.map_cons, List.sum_cons, hcat]; show 0 + _ + 81 ≤ R.locals; omega) hlocks
  obtain ⟨f1, f2⟩ := vx_frame hsame
  rw [hhp] at f1 f2
  have hWs : s.WarmedH U.vm := State.WarmedH.trans hW0 hW
  have hcl : s.vm.findClass zEN = some ce.cls := by rw [← hvm]; exact hcl0
  have hall : s.sameButNew ({ U with vm := s.vm } : State) locs mc ms := by
    subst hA
    obtain ⟨e1, e2⟩ := hsame
    rw [State.setFrames_setFrames] at e1
    have h2 : (T.setVm s.vm).sameButNew ({ U with vm := s.vm } : State) [] (0 + 1) (0 + 6) := ⟨e1, e2⟩
    have h3 := X.same.trans h2
    rw [List.append_nil] at h3
    exact h3.mono h1 hms
  refine ⟨U, ?_, .threw T.heap.size, hrun, hend, Or.inr ⟨T.heap.size, rfl, zEN, ce, locs, ⟨(), trivial, ⟨hp, fun b e' hb' => (hI.2.2.1 b e' hb').kept (f2 b (hI.lt hb') (fun z hz => nomatch hz)), hI.2.2.2.1⟩, Nat.le_trans hI.2.1.1 f1, fun q q1 q2 => (f2 q (Nat.lt_of_lt_of_le q1 hI.2.1.1) (fun z hz => nomatch hz)).trans (hI.2.1.2.1 q q1 q2)⟩, hce, hcv, hcl, hWs, hall, hI.2.1.2.2⟩⟩
  refine st1 _ ?_
  show Steps p.tables e below (T1.setTop { method := m, pc := pc + 3, locals := ls, stack := .ref T.heap.size :: rest, locked := none }) _
  jvm_step X₁.here [X₁.here.top, hexec, d3', Value.category]
  rcases d4 with ⟨d4, rfl⟩ | ⟨d4, rfl⟩
  · exact X₁.ldcString hexec (own := RX2) (text := text) (index := is) (a := sa) hown' hstr'.1 hstr'.2
      (g := { method := m, pc := pc + 4, locals := ls, stack := .ref T.heap.size :: .ref T.heap.size :: rest, locked := none }) rfl (by rw [hb]; exact d4) _ hsteps
  · exact X₁.ldcStringW hexec (own := RX2) (text := text) (index := is) (a := sa) hown' hstr'.1 hstr'.2
      (g := { method := m, pc := pc + 4, locals := ls, stack := .ref T.heap.size :: .ref T.heap.size :: rest, locked := none }) rfl (by rw [hb]; exact d4) _ hsteps
theorem z_throwN {Qc : Array Value → State → Outcome → State → Prop} {cls text : String} {ik is : Nat} (hexec : p.tables.exec = Jvm.exec) (hb : c.code = cc) (hl : l.stackTraces = false) (hown : s.vm.findClass RX2 = some m.cls) (hlocks : meth.locks = false) (hout : ∀ x ∈ c.exceptionTable.toList, False) (hts : ∀ w ∈ zW, w.before args s = true)
    (hk : Cond.classLink RX2 ik zEN ∈ zW) (hini : Cond.initialized zEN ∈ zW) (hstr : (RX2, is, text) ∈ zStr) (_ : Bundle.fit cls = true) (_ : cls ∈ zEx)
    (hI : zI G B0 s H locs F) (hsize : ls.size = c.maxLocals)
    (d0 : decode cc pc = .ok (.new ik, 3)) (d3 : decode cc (pc + 3) = .ok (.dup, 1)) (d4 : decode cc (pc + 4) = .ok (.ldc is, 2)) (d6 : decode cc (pc + 6) = .ok (.invokespecial 193, 3)) (d9 : decode cc (pc + 9) = .ok (.athrow, 1))
    (hR : 5 < R.frames ∧ (rest.map fun v => v.category).sum + 82 ≤ R.locals ∧ cells + 1 ≤ R.cells ∧ slots + 6 ≤ R.slots) (hp : PX zEN) (h1 : cells + 1 ≤ mc) (hms : slots + 6 ≤ ms) :
    W p l e R s m args below meth c H locs cells slots (vx_MQ below Qc (zXC G B0 F PX) args s mc ms (zA B0)) (F0 m pc ls rest) :=
  zN_go (pi := pc + 6) hexec hb hl hown hlocks hout hts hk hini hstr hI hsize d0 d3 (Or.inl ⟨d4, rfl⟩) d6 d9 hR hp h1 hms
theorem z_throwNW {Qc : Array Value → State → Outcome → State → Prop} {cls text : String} {ik is : Nat} (hexec : p.tables.exec = Jvm.exec) (hb : c.code = cc) (hl : l.stackTraces = false) (hown : s.vm.findClass RX2 = some m.cls) (hlocks : meth.locks = false) (hout : ∀ x ∈ c.exceptionTable.toList, False) (hts : ∀ w ∈ zW, w.before args s = true)
    (hk : Cond.classLink RX2 ik zEN ∈ zW) (hini : Cond.initialized zEN ∈ zW) (hstr : (RX2, is, text) ∈ zStr) (_ : Bundle.fit cls = true) (_ : cls ∈ zEx)
    (hI : zI G B0 s H locs F) (hsize : ls.size = c.maxLocals)
    (d0 : decode cc pc = .ok (.new ik, 3)) (d3 : decode cc (pc + 3) = .ok (.dup, 1)) (d4 : decode cc (pc + 4) = .ok (.ldc_w is, 3)) (d6 : decode cc (pc + 7) = .ok (.invokespecial 193, 3)) (d9 : decode cc (pc + 10) = .ok (.athrow, 1))
    (hR : 5 < R.frames ∧ (rest.map fun v => v.category).sum + 82 ≤ R.locals ∧ cells + 1 ≤ R.cells ∧ slots + 6 ≤ R.slots) (hp : PX zEN) (h1 : cells + 1 ≤ mc) (hms : slots + 6 ≤ ms) :
    W p l e R s m args below meth c H locs cells slots (vx_MQ below Qc (zXC G B0 F PX) args s mc ms (zA B0)) (F0 m pc ls rest) :=
  zN_go (pi := pc + 7) hexec hb hl hown hlocks hout hts hk hini hstr hI hsize d0 d3 (Or.inr ⟨d4, rfl⟩) d6 d9 hR hp h1 hms
end
