section
-- ===== PART A: goes FIRST, ahead of the names: the tables' words, and 'selects' of the private methods out of them =====
/-- a private method of a class that the tables say can be made, by its rows of tables_1 -/
def lw_okq (q : MethodName × Nat) : Prop := (q.1.cls ≠ "java/lang/invoke/MethodHandle" ∧ q.1.cls ≠ "java/lang/invoke/VarHandle") ∧ Cond.instantiable q.1.cls q.2 ∈ tables_1 ∧ Cond.privateMethod q.1 ∈ tables_1 ∧ Cond.instanceMethod q.1 ∈ tables_1
theorem lw_p0 : lw_okq (⟨"WordConcordance", "textAt", "(I)LWordConcordance$Row;"⟩, 7) := ⟨⟨by decide +kernel, by decide +kernel⟩, List.mem_of_getElem? (i := 16) (by decide +kernel), List.mem_of_getElem? (i := 72) (by decide +kernel), List.mem_of_getElem? (i := 73) (by decide +kernel)⟩
theorem lw_p1 : lw_okq (⟨"java/lang/Throwable", "fillInStackTrace", "(I)Ljava/lang/Throwable;"⟩, 6) := ⟨⟨by decide +kernel, by decide +kernel⟩, List.mem_of_getElem? (i := 116) (by decide +kernel), List.mem_of_getElem? (i := 114) (by decide +kernel), List.mem_of_getElem? (i := 115) (by decide +kernel)⟩
theorem lw_p2 : lw_okq (⟨"WordConcordance", "phraseAt", "(I)LWordConcordance$Row;"⟩, 7) := ⟨⟨by decide +kernel, by decide +kernel⟩, List.mem_of_getElem? (i := 16) (by decide +kernel), List.mem_of_getElem? (i := 294) (by decide +kernel), List.mem_of_getElem? (i := 295) (by decide +kernel)⟩
theorem lw_p3 : lw_okq (⟨"WordConcordance", "draftReplaced", "(LWordConcordance$Row;)V"⟩, 7) := ⟨⟨by decide +kernel, by decide +kernel⟩, List.mem_of_getElem? (i := 16) (by decide +kernel), List.mem_of_getElem? (i := 377) (by decide +kernel), List.mem_of_getElem? (i := 378) (by decide +kernel)⟩
theorem lw_p4 : lw_okq (⟨"WordConcordance", "keyOf", "(II)I"⟩, 7) := ⟨⟨by decide +kernel, by decide +kernel⟩, List.mem_of_getElem? (i := 16) (by decide +kernel), List.mem_of_getElem? (i := 478) (by decide +kernel), List.mem_of_getElem? (i := 479) (by decide +kernel)⟩
theorem lw_p5 : lw_okq (⟨"WordConcordance", "putInOrder", "(LWordConcordance$Row;IZ)V"⟩, 7) := ⟨⟨by decide +kernel, by decide +kernel⟩, List.mem_of_getElem? (i := 16) (by decide +kernel), List.mem_of_getElem? (i := 502) (by decide +kernel), List.mem_of_getElem? (i := 503) (by decide +kernel)⟩
theorem lw_p6 : lw_okq (⟨"WordConcordance", "mustPass", "(IIIZ)Z"⟩, 7) := ⟨⟨by decide +kernel, by decide +kernel⟩, List.mem_of_getElem? (i := 16) (by decide +kernel), List.mem_of_getElem? (i := 506) (by decide +kernel), List.mem_of_getElem? (i := 507) (by decide +kernel)⟩
theorem lw_p7 : lw_okq (⟨"WordConcordance", "isInOrder", "(LWordConcordance$Row;I)Z"⟩, 7) := ⟨⟨by decide +kernel, by decide +kernel⟩, List.mem_of_getElem? (i := 16) (by decide +kernel), List.mem_of_getElem? (i := 521) (by decide +kernel), List.mem_of_getElem? (i := 522) (by decide +kernel)⟩
theorem lw_p8 : lw_okq (⟨"WordConcordance", "moveRound", "(LWordConcordance$Row;III)I"⟩, 7) := ⟨⟨by decide +kernel, by decide +kernel⟩, List.mem_of_getElem? (i := 16) (by decide +kernel), List.mem_of_getElem? (i := 555) (by decide +kernel), List.mem_of_getElem? (i := 556) (by decide +kernel)⟩
theorem lw_p9 : lw_okq (⟨"WordConcordance", "clearRuns", "()V"⟩, 7) := ⟨⟨by decide +kernel, by decide +kernel⟩, List.mem_of_getElem? (i := 16) (by decide +kernel), List.mem_of_getElem? (i := 610) (by decide +kernel), List.mem_of_getElem? (i := 611) (by decide +kernel)⟩
theorem lw_p10 : lw_okq (⟨"WordConcordance", "longestRunFrom", "(LWordConcordance$Row;ILWordConcordance$Row;)I"⟩, 7) := ⟨⟨by decide +kernel, by decide +kernel⟩, List.mem_of_getElem? (i := 16) (by decide +kernel), List.mem_of_getElem? (i := 614) (by decide +kernel), List.mem_of_getElem? (i := 615) (by decide +kernel)⟩
theorem lw_p11 : lw_okq (⟨"WordConcordance", "turnsBack", "(LWordConcordance$Row;)Z"⟩, 7) := ⟨⟨by decide +kernel, by decide +kernel⟩, List.mem_of_getElem? (i := 16) (by decide +kernel), List.mem_of_getElem? (i := 693) (by decide +kernel), List.mem_of_getElem? (i := 694) (by decide +kernel)⟩
theorem lw_p12 : lw_okq (⟨"WordConcordance", "movesBack", "(LWordConcordance$Row;)Z"⟩, 7) := ⟨⟨by decide +kernel, by decide +kernel⟩, List.mem_of_getElem? (i := 16) (by decide +kernel), List.mem_of_getElem? (i := 697) (by decide +kernel), List.mem_of_getElem? (i := 698) (by decide +kernel)⟩
theorem lw_p13 : lw_okq (⟨"WordConcordance", "sortsItsWords", "(LWordConcordance$Row;)Z"⟩, 7) := ⟨⟨by decide +kernel, by decide +kernel⟩, List.mem_of_getElem? (i := 16) (by decide +kernel), List.mem_of_getElem? (i := 701) (by decide +kernel), List.mem_of_getElem? (i := 702) (by decide +kernel)⟩
theorem lw_p14 : lw_okq (⟨"WordConcordance", "findsWhatItCounts", "(LWordConcordance$Row;)Z"⟩, 7) := ⟨⟨by decide +kernel, by decide +kernel⟩, List.mem_of_getElem? (i := 16) (by decide +kernel), List.mem_of_getElem? (i := 705) (by decide +kernel), List.mem_of_getElem? (i := 706) (by decide +kernel)⟩
theorem lw_p15 : lw_okq (⟨"WordConcordance", "findsInMirror", "(LWordConcordance$Row;)Z"⟩, 7) := ⟨⟨by decide +kernel, by decide +kernel⟩, List.mem_of_getElem? (i := 16) (by decide +kernel), List.mem_of_getElem? (i := 709) (by decide +kernel), List.mem_of_getElem? (i := 710) (by decide +kernel)⟩
def lw_privs_1 : List (MethodName × Nat) := [(⟨"WordConcordance", "textAt", "(I)LWordConcordance$Row;"⟩, 7), (⟨"java/lang/Throwable", "fillInStackTrace", "(I)Ljava/lang/Throwable;"⟩, 6), (⟨"WordConcordance", "phraseAt", "(I)LWordConcordance$Row;"⟩, 7), (⟨"WordConcordance", "draftReplaced", "(LWordConcordance$Row;)V"⟩, 7), (⟨"WordConcordance", "keyOf", "(II)I"⟩, 7), (⟨"WordConcordance", "putInOrder", "(LWordConcordance$Row;IZ)V"⟩, 7), (⟨"WordConcordance", "mustPass", "(IIIZ)Z"⟩, 7), (⟨"WordConcordance", "isInOrder", "(LWordConcordance$Row;I)Z"⟩, 7), (⟨"WordConcordance", "moveRound", "(LWordConcordance$Row;III)I"⟩, 7), (⟨"WordConcordance", "clearRuns", "()V"⟩, 7), (⟨"WordConcordance", "longestRunFrom", "(LWordConcordance$Row;ILWordConcordance$Row;)I"⟩, 7), (⟨"WordConcordance", "turnsBack", "(LWordConcordance$Row;)Z"⟩, 7), (⟨"WordConcordance", "movesBack", "(LWordConcordance$Row;)Z"⟩, 7), (⟨"WordConcordance", "sortsItsWords", "(LWordConcordance$Row;)Z"⟩, 7), (⟨"WordConcordance", "findsWhatItCounts", "(LWordConcordance$Row;)Z"⟩, 7), (⟨"WordConcordance", "findsInMirror", "(LWordConcordance$Row;)Z"⟩, 7)]
theorem lw_r1 : ∀ q ∈ lw_privs_1, lw_okq q := List.forall_mem_cons.mpr ⟨lw_p0, List.forall_mem_cons.mpr ⟨lw_p1, List.forall_mem_cons.mpr ⟨lw_p2, List.forall_mem_cons.mpr ⟨lw_p3, List.forall_mem_cons.mpr ⟨lw_p4, List.forall_mem_cons.mpr ⟨lw_p5, List.forall_mem_cons.mpr ⟨lw_p6, List.forall_mem_cons.mpr ⟨lw_p7, List.forall_mem_cons.mpr ⟨lw_p8, List.forall_mem_cons.mpr ⟨lw_p9, List.forall_mem_cons.mpr ⟨lw_p10, List.forall_mem_cons.mpr ⟨lw_p11, List.forall_mem_cons.mpr ⟨lw_p12, List.forall_mem_cons.mpr ⟨lw_p13, List.forall_mem_cons.mpr ⟨lw_p14, List.forall_mem_cons.mpr ⟨lw_p15, fun _ h => absurd h List.not_mem_nil⟩⟩⟩⟩⟩⟩⟩⟩⟩⟩⟩⟩⟩⟩⟩⟩
theorem lw_p16 : lw_okq (⟨"WordConcordanceModel", "hasRoom", "(IJ)Z"⟩, 5) := ⟨⟨by decide +kernel, by decide +kernel⟩, List.mem_of_getElem? (i := 731) (by decide +kernel), List.mem_of_getElem? (i := 784) (by decide +kernel), List.mem_of_getElem? (i := 785) (by decide +kernel)⟩
theorem lw_p17 : lw_okq (⟨"WordConcordanceModel", "passes", "(ZZZ)Z"⟩, 5) := ⟨⟨by decide +kernel, by decide +kernel⟩, List.mem_of_getElem? (i := 731) (by decide +kernel), List.mem_of_getElem? (i := 789) (by decide +kernel), List.mem_of_getElem? (i := 790) (by decide +kernel)⟩
theorem lw_p18 : lw_okq (⟨"WordConcordanceModel", "isPart", "(III)Z"⟩, 5) := ⟨⟨by decide +kernel, by decide +kernel⟩, List.mem_of_getElem? (i := 731) (by decide +kernel), List.mem_of_getElem? (i := 814) (by decide +kernel), List.mem_of_getElem? (i := 815) (by decide +kernel)⟩
theorem lw_p19 : lw_okq (⟨"WordConcordanceModel", "isPlace", "(II)Z"⟩, 5) := ⟨⟨by decide +kernel, by decide +kernel⟩, List.mem_of_getElem? (i := 731) (by decide +kernel), List.mem_of_getElem? (i := 826) (by decide +kernel), List.mem_of_getElem? (i := 827) (by decide +kernel)⟩
theorem lw_p20 : lw_okq (⟨"WordConcordanceModel", "outermost", "(IIZ)I"⟩, 5) := ⟨⟨by decide +kernel, by decide +kernel⟩, List.mem_of_getElem? (i := 731) (by decide +kernel), List.mem_of_getElem? (i := 963) (by decide +kernel), List.mem_of_getElem? (i := 964) (by decide +kernel)⟩
theorem lw_p21 : lw_okq (⟨"WordConcordanceModel", "valueOf", "(II)I"⟩, 5) := ⟨⟨by decide +kernel, by decide +kernel⟩, List.mem_of_getElem? (i := 731) (by decide +kernel), List.mem_of_getElem? (i := 967) (by decide +kernel), List.mem_of_getElem? (i := 968) (by decide +kernel)⟩
theorem lw_p22 : lw_okq (⟨"WordConcordanceModel", "areInOrder", "(LWordConcordanceModel$Row;I)Z"⟩, 5) := ⟨⟨by decide +kernel, by decide +kernel⟩, List.mem_of_getElem? (i := 731) (by decide +kernel), List.mem_of_getElem? (i := 993) (by decide +kernel), List.mem_of_getElem? (i := 994) (by decide +kernel)⟩
def lw_privs_2 : List (MethodName × Nat) := [(⟨"WordConcordanceModel", "hasRoom", "(IJ)Z"⟩, 5), (⟨"WordConcordanceModel", "passes", "(ZZZ)Z"⟩, 5), (⟨"WordConcordanceModel", "isPart", "(III)Z"⟩, 5), (⟨"WordConcordanceModel", "isPlace", "(II)Z"⟩, 5), (⟨"WordConcordanceModel", "outermost", "(IIZ)I"⟩, 5), (⟨"WordConcordanceModel", "valueOf", "(II)I"⟩, 5), (⟨"WordConcordanceModel", "areInOrder", "(LWordConcordanceModel$Row;I)Z"⟩, 5)]
theorem lw_r2 : ∀ q ∈ lw_privs_2, lw_okq q := List.forall_mem_cons.mpr ⟨lw_p16, List.forall_mem_cons.mpr ⟨lw_p17, List.forall_mem_cons.mpr ⟨lw_p18, List.forall_mem_cons.mpr ⟨lw_p19, List.forall_mem_cons.mpr ⟨lw_p20, List.forall_mem_cons.mpr ⟨lw_p21, List.forall_mem_cons.mpr ⟨lw_p22, fun _ h => absurd h List.not_mem_nil⟩⟩⟩⟩⟩⟩⟩
def lw_privs : List (MethodName × Nat) := lw_privs_1 ++ (lw_privs_2)
def lw_tbl : List Cond := k2_sels lw_privs ++ tables_1
theorem lw_privs_ok : ∀ q ∈ lw_privs, lw_okq q := by
  show ∀ q ∈ lw_privs_1 ++ (lw_privs_2), lw_okq q
  exact List.forall_mem_append.mpr ⟨lw_r1, lw_r2⟩
/-- the streams that the claim lets the run draw from -/
abbrev lw_cs : List Choice := [Jvm.Choice.named "NaN.bits"]
theorem lw_bits : nanBits ∈ lw_cs := by first | decide | exact List.mem_cons_self | simp [lw_cs, nanBits]
-- ===== end of PART A; then your names; then what follows =====
end
section
/-! ===== BEGIN words of one list among another's, by their places ===== -/
theorem goodIn_r {big : List Cond} (ws : List Cond) (ps : List Nat) (hp : ws = ps.filterMap (fun i => big[i]?)) (h : ws.all goodWord = true) : GoodIn big ws := by
  intro w hw
  have h1 := List.all_eq_true.mp h w hw
  rw [hp] at hw
  obtain ⟨i, -, hi⟩ := List.mem_filterMap.mp hw
  have hm : w ∈ big := by first | exact List.mem_of_getElem? hi | exact List.getElem?_mem hi
  exact ⟨hm, good_of_word h1⟩
theorem goodIn_app {big a b : List Cond} (ha : GoodIn big a) (hb : GoodIn big b) : GoodIn big (a ++ b) := fun w h => (List.mem_append.mp h).elim (ha w) (hb w)
theorem goodIn_ca {big a b : List Cond} {c : Cond} (ha : GoodIn big (c :: a)) (hb : GoodIn big b) : GoodIn big (c :: (a ++ b)) := fun w h => (List.mem_cons.mp h).elim (fun e => ha w (List.mem_cons.mpr (Or.inl e))) (fun h => (List.mem_append.mp h).elim (fun h => ha w (List.mem_cons.mpr (Or.inr h))) (hb w))
theorem goodIn_sub {big ws : List Cond} (hm : ∀ w ∈ ws, w ∈ big) (h : ws.all goodWord = true) : GoodIn big ws := fun w hw => ⟨hm w hw, good_of_word (List.all_eq_true.mp h w hw)⟩
/-! ===== END ===== -/

/-! ===== BEGIN exceptions that leave a method, and their catching by the caller (launches without stack traces) ===== -/
section VXA
/-! The laws vx_back, vx_callV, vx_callS, vx_callSW, vx_throw0, vx_throwS follow proofs of the library, with one case more: JvmDerived/Free/Laws.lean (Back.of_free), Shelf42/LK1.lean (callV, callS), Shelf/KitTraced.lean (throwNew0V, throwNewS). -/
/-- where a method has thrown q: the class by its name, the cell, what was written, the world -/
def vx_T (XC : String → State → State → Prop) (st : State) (q : Addr) (t : State) (mc ms : Nat) (free : Addr → Prop) : Prop :=
  ∃ (E : String) (ce : Cell) (L : List Loc), XC E st t ∧ t.heap[q]? = some ce ∧ ce.vm = .none ∧ st.vm.findClass E = some ce.cls ∧ st.WarmedH t.vm ∧ st.sameButNew ({ t with vm := st.vm } : State) L mc ms ∧ ∀ z ∈ L, free z.base
def vx_Q (Qc : Array Value → State → Outcome → State → Prop) (XC : String → State → State → Prop) (mc ms : Nat) (free : Addr → Prop) : Array Value → State → Outcome → State → Prop := fun a st o t =>
  (Qc a st o t ∧ ∃ L, FrameEnd st o t L mc ms ∧ ∀ q ∈ L, free q.base) ∨ ∃ q, o = .threw q ∧ vx_T XC st q t mc ms free
/-- a callee that returns or throws -/
def vx_Met (l : Launch) (y : MethodName) (ws : List Cond) (rm : Room) (Pc : Array Value → State → Prop) (Qc : Array Value → State → Outcome → State → Prop) (XC : String → State → State → Prop) (mc ms : Nat) (free : Addr → Prop) : Prop :=
  MetFree l y (headSpec ws rm) Pc (fun _ _ _ _ _ => True) (vx_Q Qc XC mc ms free)
def vx_Post (XC : String → State → State → Prop) (mc ms : Nat) (free : Addr → Prop) : Pt → Array Value → Addr → Pt → Prop := fun A a q B =>
  ∃ (g : JFrame) (mk : MethodId) (t : State) (L : List Loc) (E : String) (ce : Cell), B.U.heap = t.heap ∧ B.U.vm = t.vm ∧ XC E (A.U.calling g mk a) t ∧ t.heap[q]? = some ce ∧ ce.vm = .none ∧ A.U.vm.findClass E = some ce.cls ∧ B.locs = A.locs ++ L ∧ (∀ z ∈ L, free z.base) ∧ B.cells = A.cells + mc ∧ B.slots = A.slots + ms
def vx_Back (l : Launch) (R : Room) (p : Program) (e : Env) (below : List Frame) (s : State) (sargs : Array Value) (y : MethodName) (len W9 : Nat)
    (Pre : Pt → Array Value → Prop) (Post : Pt → Array Value → Option Value → Pt → Prop) (PostX : Pt → Array Value → Addr → Pt → Prop) : Prop :=
  ∀ (m : MethodId) (meth : Method) (c : Code) (A : Pt) (g : JFrame) (ig : Instr) (mk : MethodId) (a : Array Value),
    Stand p l e R s m sargs below meth c A.U A.locs A.cells A.slots → g.method = m → g.locals.size = c.maxLocals → decode c.code g.pc = .ok (ig, len) →
    2 * g.monitorRoom + (g.stack.map fun v => v.category).sum ≤ W9 → A.U.methodNamed? y = some mk → Pre A a →
    (∃ (v : Option Value) (B : Pt), Stand p l e R s m sargs below meth c B.U B.locs B.cells B.slots ∧ Post A a v B ∧
      Steps p.tables e below (doInvoke e (A.U.setTop g) [] mk a).1 (B.U.setTop { g with pc := g.pc + len, stack := v.toList ++ g.stack })) ∨
    (∃ (q : Addr) (B : Pt), Stand p l e R s m sargs below meth c B.U B.locs B.cells B.slots ∧ PostX A a q B ∧
      Steps p.tables e below (doInvoke e (A.U.setTop g) [] mk a).1 ((B.U.setTop g).pushFrame (.throwing q)))
section Payer
variable {l : Launch} {R : Room} {p : Program} {e : Env} {below : List Frame} {s : State} {sargs : Array Value} {y : MethodName} {len W9 : Nat}
theorem vx_back {ws : List Cond} {rm : Room} {Pc : Array Value → State → Prop} {Qc : Array Value → State → Outcome → State → Prop} {XC : String → State → State → Prop} {mc ms : Nat} {free : Addr → Prop} {bytes : ByteArray} {maxL : Nat} {ret : Option FieldType}
    (hM : vx_Met l y ws rm Pc Qc XC mc ms free) (hblind : FrameBlind Pc) (hrc : rm.cells = mc) (hrs : rm.slots = ms)
    (hframes : rm.frames + 1 ≤ R.frames) (hlocals : W9 + (maxL + 11) + rm.locals ≤ R.locals)
    (hws : ∀ w ∈ ws, ∀ a' U, s.WarmedH U.vm → w.before a' U = true) (hcode : Cond.code y bytes maxL ret ∈ ws) (hinit : ∀ a' U, s.WarmedH U.vm → (Cond.initialized y.cls).before a' U = true) :
    vx_Back l R p e below s sargs y len W9 (PreOf R mc ms Pc) (PostOf Qc mc ms free) (vx_Post XC mc ms free) := by
  intro m meth c A g ig mk a X hg hsize hdg hW hn hp
  have h1 : (headSpec ws rm).pre.before a A.U = true := atoms_intro fun w hw => hws w hw _ _ X.warmed
  have h2 : (Cond.code y bytes maxL ret).before a A.U = true := hws _ hcode _ _ X.warmed
  have h3 : (Cond.initialized y.cls).before a A.U = true := hinit _ _ X.warmed
  have h4 : A.cells + (headSpec ws rm).room.cells ≤ R.cells := by rw [show (headSpec ws rm).room.cells = mc from hrc]; exact hp.1
  have h5 : A.slots + (headSpec ws rm).room.slots ≤ R.slots := by rw [show (headSpec ws rm).room.slots = ms from hrs]; exact hp.2.1
  have hPc : Pc a (A.U.calling g mk a) := hblind _ _ _ _ hp.2.2
  obtain ⟨U, Ls, c0, s0⟩ := A
  dsimp only [Pt.U, Pt.locs, Pt.cells, Pt.slots] at h1 h2 h3 h4 h5 X hn hPc ⊢
  obtain ⟨methY, cY, hmY, hcY, -, hlY, -, -, -, -⟩ := Cond.code_spec hn h2
  obtain ⟨kY, hkY, -⟩ := className_of_methodNamed hn
  have hinitY : kY.init = .initialized := Cond.initialized_spec (findClass_of_methodNamed hn) hkY h3
  have h : At U g.method c below := by rw [hg]; exact X.here
  have hlocals9 : W9 + (maxL + 11) + (headSpec ws rm).room.locals ≤ R.locals := hlocals
  have happ : (headSpec ws rm).appliesLoose y e.platform (U.calling g mk a) = true :=
    Spec.appliesLoose_calling (g := g) h hdg hn hkY hinitY
      (X.room_calling (g := g) (R' := (headSpec ws rm).room) hsize hmY hcY hframes (by rw [hlY]; omega) h4 h5) h1
  obtain ⟨mid, hmid⟩ := h.above
  have hfr : (U.setTop g).frames = (.java g :: mid) ++ below := by rw [State.frames_setTop' g h.top, hmid]; rfl
  obtain ⟨o, s₂, hsteps, -, hend, hq⟩ := Steps.callFree hM p X.admits X.cas X.clock (acts := []) hfr happ hPc trivial
  have hq' : vx_Q Qc XC mc ms free a (U.calling g mk a) o s₂ := hq
  rw [State.frames_setTop' g h.top] at hend
  obtain ⟨g₀, hg0⟩ := Option.isSome_iff_exists.mp h.top
  obtain ⟨r, hr⟩ := State.topJava?_eq_some.mp hg0
  have hr' : (({ U with heap := s₂.heap, slotsUsed := s₂.slotsUsed } : State).setVm s₂.vm).frames = .java g₀ :: r := hr
  rcases hq' with ⟨hqc, L, hfe, hL⟩ | ⟨q, rfl, E, ce, L, hx, hce, hcv, hcl, hW₂, hsm, hL⟩
  · obtain ⟨⟨v, rfl⟩, hW₂, e2, q2, q3, q4, q5, q6⟩ := id hfe
    have e3 : s₂ = ({ (U.calling g mk a).setFrames s₂.frames with heap := s₂.heap, slotsUsed := s₂.slotsUsed } : State).setVm s₂.vm := by
      have : s₂ = ({ s₂ with vm := (U.calling g mk a).vm } : State).setVm s₂.vm := rfl
      rw [e2] at this
      exact this
    obtain ⟨c₂, i₂, len₂, hc₂, hd₂, hf₂⟩ := hend
    have hW' : U.WarmedH s₂.vm := hW₂
    have hcc : c₂ = c := by
      have h1 : s₂.code? g.method = U.code? g.method := by
        rw [State.code?_eq, State.code?_eq, hW'.alike.method?]
      exact Option.some.inj (hc₂.symm.trans (h1.trans h.code))
    subst hcc
    have hlen : len₂ = len := by rw [hdg] at hd₂; cases hd₂; rfl
    subst hlen
    have hs₂ : s₂ = (({ U with heap := s₂.heap, slotsUsed := s₂.slotsUsed } : State).setVm s₂.vm).setTop { g with pc := g.pc + len₂, stack := v.toList ++ g.stack } := by
      refine e3.trans ?_
      rw [hf₂, State.calling_eq h.top, State.setFrames_setFrames, State.setTop_of_frames _ hr', hr]
      rfl
    have hsame : U.sameButNew ({ U with heap := s₂.heap, slotsUsed := s₂.slotsUsed } : State) L mc ms := by
      refine ⟨?_, q2, q3, q4, q5, q6⟩
      obtain ⟨t, ht, -⟩ := State.frames_cons hr
      show ({ U with heap := s₂.heap, slotsUsed := s₂.slotsUsed } : State) = { U.setFrames U.frames with heap := s₂.heap, slotsUsed := s₂.slotsUsed }
      rw [State.setFrames_self ht]
    subst hg
    refine Or.inl ⟨v, ⟨(({ U with heap := s₂.heap, slotsUsed := s₂.slotsUsed } : State).setVm s₂.vm), Ls ++ L, c0 + mc, s0 + ms⟩,
      ⟨X.admits, X.cas, X.clock, X.frames, X.room, X.hears, X.method, X.code, (X.here.setHeapUsed s₂.heap s₂.slotsUsed).setVm hW'.alike, X.tail, State.WarmedH.trans X.warmed hW', X.limits, X.bytes, X.same.trans (hsame.setVm s.vm)⟩,
      ⟨g, mk, s₂, L, rfl, rfl, hqc, rfl, hL, rfl, rfl⟩, ?_⟩
    show Steps p.tables e below _ ((({ U with heap := s₂.heap, slotsUsed := s₂.slotsUsed } : State).setVm s₂.vm).setTop { g with pc := g.pc + len₂, stack := v.toList ++ g.stack })
    rw [← hs₂]
    exact hsteps
  · obtain ⟨e2, q2, q3, q4, q5, q6⟩ := id hsm
    have e3 : s₂ = ({ (U.calling g mk a).setFrames s₂.frames with heap := s₂.heap, slotsUsed := s₂.slotsUsed } : State).setVm s₂.vm := by
      have : s₂ = ({ s₂ with vm := (U.calling g mk a).vm } : State).setVm s₂.vm := rfl
      rw [e2] at this
      exact this
    have hf₂ : s₂.frames = .throwing q :: .java g :: U.frames.tail := hend
    have hW' : U.WarmedH s₂.vm := hW₂
    have hs₂ : s₂ = ((({ U with heap := s₂.heap, slotsUsed := s₂.slotsUsed } : State).setVm s₂.vm).setTop g).pushFrame (.throwing q) := by
      refine e3.trans ?_
      rw [hf₂, State.calling_eq h.top, State.setFrames_setFrames, State.pushFrame, State.frames_setTop _ hr', State.setTop_of_frames _ hr', State.setFrames_setFrames, hr]
      rfl
    have hsame : U.sameButNew ({ U with heap := s₂.heap, slotsUsed := s₂.slotsUsed } : State) L mc ms := by
      refine ⟨?_, q2, q3, q4, q5, q6⟩
      obtain ⟨t, ht, -⟩ := State.frames_cons hr
      show ({ U with heap := s₂.heap, slotsUsed := s₂.slotsUsed } : State) = { U.setFrames U.frames with heap := s₂.heap, slotsUsed := s₂.slotsUsed }
      rw [State.setFrames_self ht]
    subst hg
    refine Or.inr ⟨q, ⟨(({ U with heap := s₂.heap, slotsUsed := s₂.slotsUsed } : State).setVm s₂.vm), Ls ++ L, c0 + mc, s0 + ms⟩,
      ⟨X.admits, X.cas, X.clock, X.frames, X.room, X.hears, X.method, X.code, (X.here.setHeapUsed s₂.heap s₂.slotsUsed).setVm hW'.alike, X.tail, State.WarmedH.trans X.warmed hW', X.limits, X.bytes, X.same.trans (hsame.setVm s.vm)⟩,
      ⟨g, mk, s₂, L, E, ce, rfl, rfl, hx, hce, hcv, hcl, rfl, hL, rfl, rfl⟩, ?_⟩
    show Steps p.tables e below _ (((({ U with heap := s₂.heap, slotsUsed := s₂.slotsUsed } : State).setVm s₂.vm).setTop g).pushFrame (.throwing q))
    rw [← hs₂]
    exact hsteps
end Payer
section Calls
variable {p : Program} {l : Launch} {e : Env} {R : Room} {s : State} {m : MethodId} {args : Array Value} {below : List Frame} {meth : Method} {c : Code} {T : State} {locs : List Loc} {cells slots : Nat}
theorem vx_callV (X : Stand p l e R s m args below meth c T locs cells slots) (hexec : p.tables.exec = Jvm.exec) {own C : String} {index : Nat} {y : MethodName} {bytes : ByteArray} {maxL : Nat} {ret : Option FieldType}
    (hown : s.vm.findClass own = some m.cls) (hlink : (Cond.methodLink own index y).before args s = true) (hinst : (Cond.instanceMethod y).before args s = true) (hsel : (Cond.selects C y y).before args s = true)
    (hcode : (Cond.code y bytes maxL ret).before args s = true) (hy : y.cls ≠ "java/lang/invoke/MethodHandle" ∧ y.cls ≠ "java/lang/invoke/VarHandle")
    {W9 : Nat} {Pre : Pt → Array Value → Prop} {Post : Pt → Array Value → Option Value → Pt → Prop} {PostX : Pt → Array Value → Addr → Pt → Prop} (hK : vx_Back l R p e below s args y 3 W9 Pre Post PostX)
    {b : Addr} {cellB : Cell} (hcell : T.heap[b]? = some cellB) (hobj : cellB.vm.isStatics = false) (hcls : s.vm.findClass C = some cellB.cls)
    {g : JFrame} (hg : g.method = m) (hsize : g.locals.size = c.maxLocals) {argsL rest : List Value} (hlen : ∀ sig, parseMethodDescriptor y.desc = some sig → argsL.length = sig.parameters.length)
    (hstack : g.stack = argsL.reverse ++ .ref b :: rest) (hW : 2 * g.monitorRoom + (rest.map fun v => v.category).sum ≤ W9) (hdg : decode c.code g.pc = .ok (.invokevirtual index, 3))
    (hpre : ∀ vm₁, s.WarmedH vm₁ → Pre ⟨T.setVm vm₁, locs, cells, slots⟩ (Value.ref b :: argsL).toArray) :
    (∃ (v : Option Value) (vm₁ : Vm) (B : Pt), s.WarmedH vm₁ ∧ Stand p l e R s m args below meth c B.U B.locs B.cells B.slots ∧ Post ⟨T.setVm vm₁, locs, cells, slots⟩ (Value.ref b :: argsL).toArray v B ∧
      ∀ target, Steps p.tables e below (B.U.setTop { g with pc := g.pc + 3, stack := v.toList ++ rest }) target → Steps p.tables e below (T.setTop g) target) ∨
    (∃ (q : Addr) (vm₁ : Vm) (B : Pt), s.WarmedH vm₁ ∧ Stand p l e R s m args below meth c B.U B.locs B.cells B.slots ∧ PostX ⟨T.setVm vm₁, locs, cells, slots⟩ (Value.ref b :: argsL).toArray q B ∧
      Steps p.tables e below (T.setTop g) ((B.U.setTop { g with stack := rest }).pushFrame (.throwing q))) := by
  obtain ⟨mk, methM, hnamed, hmethM, hstM, habM⟩ := Cond.instanceMethod_spec hinst
  obtain ⟨methM', cM, hmethM', -, -, -, -, -, -, hsigM⟩ := Cond.code_spec hnamed hcode
  cases hmethM.symm.trans hmethM'
  obtain ⟨c2, r2, m2, q1, q2, q3, q4, kP, hkP, hkPi⟩ := Cond.selects_spec hsel
  cases hcls.symm.trans q1
  cases (State.methodFound?_of_named hnamed hy).symm.trans q2
  cases hnamed.symm.trans q3
  have hselP : selectMethod e.platform s.vm cellB.cls mk = .method mk := by rw [Launch.admits_selectMethod X.admits]; exact q4
  obtain ⟨vm₁, X₁, hstep₁⟩ := X.invokevirtual hexec hown hlink hnamed hmethM hstM hkP hkPi hy (a := b) (cell := cellB) hcell
    (fun z h => by rw [h] at hobj; cases hobj) hselP hmethM habM hkP hkPi (g := g) hg (argsL := argsL) (rest := rest) (hlen _ hsigM) hstack hdg
  rcases hK m meth c ⟨T.setVm vm₁, locs, cells, slots⟩ { g with stack := rest } (.invokevirtual index) mk (Value.ref b :: argsL).toArray X₁ hg hsize hdg hW (X₁.named hnamed) (hpre vm₁ X₁.warmed) with ⟨v, B, X', hpost, hsteps⟩ | ⟨q, B, X', hpost, hsteps⟩
  · exact Or.inl ⟨v, vm₁, B, X₁.warmed, X', hpost, fun target h => hstep₁ _ fun acts => by rw [doInvoke_state]; exact hsteps.trans h⟩
  · exact Or.inr ⟨q, vm₁, B, X₁.warmed, X', hpost, hstep₁ _ fun acts => by rw [doInvoke_state]; exact hsteps⟩
theorem vx_callS (X : Stand p l e R s m args below meth c T locs cells slots) (hexec : p.tables.exec = Jvm.exec) {own : String} {index : Nat} {y : MethodName} {bytes : ByteArray} {maxL : Nat} {ret : Option FieldType}
    (hown : s.vm.findClass own = some m.cls) (hlink : (Cond.methodLink own index y).before args s = true) (hstat : (Cond.static y).before args s = true) (hinit : (Cond.initialized y.cls).before args s = true)
    (hcode : (Cond.code y bytes maxL ret).before args s = true) (hy : y.cls ≠ "java/lang/invoke/MethodHandle" ∧ y.cls ≠ "java/lang/invoke/VarHandle")
    {W9 : Nat} {Pre : Pt → Array Value → Prop} {Post : Pt → Array Value → Option Value → Pt → Prop} {PostX : Pt → Array Value → Addr → Pt → Prop} (hK : vx_Back l R p e below s args y 3 W9 Pre Post PostX)
    {g : JFrame} (hg : g.method = m) (hsize : g.locals.size = c.maxLocals) {argsL rest : List Value} (hlen : ∀ sig, parseMethodDescriptor y.desc = some sig → argsL.length = sig.parameters.length)
    (hstack : g.stack = argsL.reverse ++ rest) (hW : 2 * g.monitorRoom + (rest.map fun v => v.category).sum ≤ W9) (hdg : decode c.code g.pc = .ok (.invokestatic index, 3))
    (hpre : ∀ vm₁, s.WarmedH vm₁ → Pre ⟨T.setVm vm₁, locs, cells, slots⟩ argsL.toArray) :
    (∃ (v : Option Value) (vm₁ : Vm) (B : Pt), s.WarmedH vm₁ ∧ Stand p l e R s m args below meth c B.U B.locs B.cells B.slots ∧ Post ⟨T.setVm vm₁, locs, cells, slots⟩ argsL.toArray v B ∧
      ∀ target, Steps p.tables e below (B.U.setTop { g with pc := g.pc + 3, stack := v.toList ++ rest }) target → Steps p.tables e below (T.setTop g) target) ∨
    (∃ (q : Addr) (vm₁ : Vm) (B : Pt), s.WarmedH vm₁ ∧ Stand p l e R s m args below meth c B.U B.locs B.cells B.slots ∧ PostX ⟨T.setVm vm₁, locs, cells, slots⟩ argsL.toArray q B ∧
      Steps p.tables e below (T.setTop g) ((B.U.setTop { g with stack := rest }).pushFrame (.throwing q))) := by
  obtain ⟨mk, hnamed⟩ := Cond.code_named hcode
  obtain ⟨methM, cM, hmethM, -, -, -, -, -, -, hsigM⟩ := Cond.code_spec hnamed hcode
  have hstatic : methM.isStatic = true := Cond.static_spec hnamed hmethM hstat
  obtain ⟨kP, hkP, -⟩ := className_of_methodNamed hnamed
  have hinitP : kP.init = .initialized := Cond.initialized_spec (findClass_of_methodNamed hnamed) hkP hinit
  obtain ⟨vm₁, X₁, hstep₁⟩ := X.invokestatic hexec hown hlink hnamed hmethM hstatic hkP hinitP hy (g := g) hg (argsL := argsL) (rest := rest) (hlen _ hsigM) hstack hdg
  rcases hK m meth c ⟨T.setVm vm₁, locs, cells, slots⟩ { g with stack := rest } (.invokestatic index) mk argsL.toArray X₁ hg hsize hdg hW (X₁.named hnamed) (hpre vm₁ X₁.warmed) with ⟨v, B, X', hpost, hsteps⟩ | ⟨q, B, X', hpost, hsteps⟩
  · exact Or.inl ⟨v, vm₁, B, X₁.warmed, X', hpost, fun target h => hstep₁ _ fun acts => by rw [doInvoke_state]; exact hsteps.trans h⟩
  · exact Or.inr ⟨q, vm₁, B, X₁.warmed, X', hpost, hstep₁ _ fun acts => by rw [doInvoke_state]; exact hsteps⟩
end Calls
theorem vx_cls {s : State} {T : State} {vm₁ : Vm} {E : String} {k : ClassId} (hW : s.WarmedH vm₁) (h : (T.setVm vm₁).vm.findClass E = some k) : s.vm.findClass E = some k := by
  have h1 : vm₁.findClass E = some k := h
  rw [hW.alike.findClass] at h1
  exact h1
/-- the method's frame g, with q thrown over it -/
def vx_W (p : Program) (l : Launch) (e : Env) (R : Room) (s : State) (m : MethodId) (args : Array Value) (below : List Frame) (meth : Method) (c : Code) (H : Heap) (locs : List Loc) (cells slots : Nat) (Q : State → Prop) (g : JFrame) (q : Addr) : Prop :=
  ∀ T : State, T.heap = H → Stand p l e R s m args below meth c T locs cells slots → ∃ t, Steps p.tables e below ((T.setTop g).pushFrame (.throwing q)) t ∧ Q t
def vx_Run (p : Program) (l : Launch) (e : Env) (R : Room) (s : State) (m : MethodId) (args : Array Value) (below : List Frame) (meth : Method) (c : Code) (H : Heap) (locs : List Loc) (cells slots mc ms : Nat) (g : JFrame) (rest : List Value) (Qa : State → Outcome → State → Prop) (XC : String → State → State → Prop) (free : Addr → Prop) : Prop :=
  ∀ T : State, T.heap = H → Stand p l e R s m args below meth c T locs cells slots →
    (∃ (v : Option Value) (st₀ t T' : State) (L : List Loc), st₀.heap = H ∧ Stand p l e R s m args below meth c T' (locs ++ L) (cells + mc) (slots + ms) ∧ (∀ q ∈ L, free q.base) ∧ T'.heap = t.heap ∧ T'.vm = t.vm ∧ Qa st₀ (.returned v) t ∧
      Goes p e below T g T' { g with pc := g.pc + 3, stack := v.toList ++ rest }) ∨
    (∃ (q : Addr) (st₀ t T' : State) (L : List Loc) (E : String) (ce : Cell), st₀.heap = H ∧ Stand p l e R s m args below meth c T' (locs ++ L) (cells + mc) (slots + ms) ∧ (∀ z ∈ L, free z.base) ∧ T'.heap = t.heap ∧ T'.vm = t.vm ∧ XC E st₀ t ∧ t.heap[q]? = some ce ∧ ce.vm = .none ∧ s.vm.findClass E = some ce.cls ∧
      Steps p.tables e below (T.setTop g) ((T'.setTop { g with stack := rest }).pushFrame (.throwing q)))
def vx_X {S : Type} (px : S → Prop) (B : String → S → State → Prop) (A : Nat → Prop) : String → State → State → Prop := fun E st t => ∃ u : S, px u ∧ B E u t ∧ va_F A st t
section Runs
variable {p : Program} {l : Launch} {e : Env} {R : Room} {s : State} {m : MethodId} {args : Array Value} {below : List Frame} {meth : Method} {c : Code} {H : Heap} {locs : List Loc} {cells slots : Nat}
variable {y : MethodName} {bytes cc : ByteArray} {maxL nL mc ms n index : Nat} {ret : Option FieldType} {ws : List Cond} {rm : Room} {Pc : Array Value → State → Prop} {Qc : Array Value → State → Outcome → State → Prop} {XC : String → State → State → Prop} {free : Addr → Prop} {Ts : List Cond} {own C : String} {b : Addr} {As rest : List Value} {g : JFrame}
theorem vx_callBack (cb : CallB R s args own index y bytes maxL ret ws rm mc ms n) (hM : vx_Met l y ws rm Pc Qc XC mc ms free) (hbl : FrameBlind Pc) : vx_Back l R p e below s args y 3 8 (PreOf R mc ms Pc) (PostOf Qc mc ms free) (vx_Post XC mc ms free) := by
  obtain ⟨hrc, hrs, hfr, hlo, hws, hcw, -, hini, -⟩ := cb
  exact vx_back (bytes := bytes) (maxL := maxL) (ret := ret) hM hbl hrc hrs hfr hlo hws hcw (fun a' U hW => word_at hW (Or.inl (by first | rfl | simp [Cond.onTables, Cond.keeps, Cond.steady])) hini)
theorem vx_runV (S : CallFix p m c cc nL s args Ts own) (hM : vx_Met l y ws rm Pc Qc XC mc ms free) (cw : CallW R s args own C index y bytes maxL ret ws rm mc ms n) (hp : PreV s H C b Pc As)
    (hg : g.method = m) (hn : As.length = n) (hsize : g.locals.size = nL) (hstack : g.stack = As.reverse ++ .ref b :: rest) (hW : 2 * g.monitorRoom + (rest.map fun v => v.category).sum ≤ 8) (hdg : decode cc g.pc = .ok (.invokevirtual index, 3)) (hf : cells + mc ≤ R.cells ∧ slots + ms ≤ R.slots) :
    vx_Run p l e R s m args below meth c H locs cells slots mc ms g rest (Qc (Value.ref b :: As).toArray) XC free := by
  have hK : vx_Back l R p e below s args y 3 8 (PreOf R mc ms Pc) (PostOf Qc mc ms free) (vx_Post XC mc ms free) := vx_callBack cw.1 hM hp.1
  obtain ⟨⟨-, -, -, -, -, -, hcode, -, hy, hlen, hl⟩, hin, hse⟩ := cw
  obtain ⟨hx, hb, hml, ho, -⟩ := S
  obtain ⟨-, ⟨cellB, hcB, hoB, hclB⟩, hPc⟩ := hp
  intro T hT X
  rcases vx_callV X hx (C := C) (bytes := bytes) (maxL := maxL) (ret := ret) ho hl hin hse hcode hy hK (by rw [hT]; exact hcB) hoB hclB hg (hsize.trans hml.symm) (argsL := As) (rest := rest) (fun sig h => hn.trans (hlen sig h)) hstack hW (by rw [hb]; exact hdg)
    (fun vm₁ hW₁ => ⟨hf.1, hf.2, hPc (T.setVm vm₁) hT hW₁⟩) with ⟨v, vm₁, ⟨U', l2, c2, s2⟩, hW₁, X', ⟨g', mk, t, L, e1, e2, hq, h1, hL, h2, h3⟩, st⟩ | ⟨q, vm₁, ⟨U', l2, c2, s2⟩, hW₁, X', ⟨g', mk, t, L, E, ce, e1, e2, hq, hce, hcv, hcl, h1, hL, h2, h3⟩, st⟩
  · dsimp only [Pt.U, Pt.locs, Pt.cells, Pt.slots] at X' e1 e2 h1 h2 h3 st
    subst h1; subst h2; subst h3
    exact Or.inl ⟨v, (T.setVm vm₁).calling g' mk (Value.ref b :: As).toArray, t, U', L, hT, X', hL, e1, e2, hq, st⟩
  · dsimp only [Pt.U, Pt.locs, Pt.cells, Pt.slots] at X' e1 e2 h1 h2 h3 st hcl
    subst h1; subst h2; subst h3
    exact Or.inr ⟨q, (T.setVm vm₁).calling g' mk (Value.ref b :: As).toArray, t, U', L, E, ce, hT, X', hL, e1, e2, hq, hce, hcv, vx_cls hW₁ hcl, st⟩
theorem vx_runS (S : CallFix p m c cc nL s args Ts own) (hM : vx_Met l y ws rm Pc Qc XC mc ms free) (cw : CallB R s args own index y bytes maxL ret ws rm mc ms n ∧ (Cond.static y).before args s = true) (hp : PreS s H Pc As)
    (hg : g.method = m) (hn : As.length = n) (hsize : g.locals.size = nL) (hstack : g.stack = As.reverse ++ rest) (hW : 2 * g.monitorRoom + (rest.map fun v => v.category).sum ≤ 8) (hdg : decode cc g.pc = .ok (.invokestatic index, 3)) (hf : cells + mc ≤ R.cells ∧ slots + ms ≤ R.slots) :
    vx_Run p l e R s m args below meth c H locs cells slots mc ms g rest (Qc As.toArray) XC free := by
  have hK : vx_Back l R p e below s args y 3 8 (PreOf R mc ms Pc) (PostOf Qc mc ms free) (vx_Post XC mc ms free) := vx_callBack cw.1 hM hp.1
  obtain ⟨⟨-, -, -, -, -, -, hcode, hini, hy, hlen, hl⟩, hstt⟩ := cw
  obtain ⟨hx, hb, hml, ho, -⟩ := S
  intro T hT X
  rcases vx_callS X hx (bytes := bytes) (maxL := maxL) (ret := ret) ho hl hstt hini hcode hy hK hg (hsize.trans hml.symm) (argsL := As) (rest := rest) (fun sig h => hn.trans (hlen sig h)) hstack hW (by rw [hb]; exact hdg)
    (fun vm₁ hW₁ => ⟨hf.1, hf.2, hp.2 (T.setVm vm₁) hT hW₁⟩) with ⟨v, vm₁, ⟨U', l2, c2, s2⟩, hW₁, X', ⟨g', mk, t, L, e1, e2, hq, h1, hL, h2, h3⟩, st⟩ | ⟨q, vm₁, ⟨U', l2, c2, s2⟩, hW₁, X', ⟨g', mk, t, L, E, ce, e1, e2, hq, hce, hcv, hcl, h1, hL, h2, h3⟩, st⟩
  · dsimp only [Pt.U, Pt.locs, Pt.cells, Pt.slots] at X' e1 e2 h1 h2 h3 st
    subst h1; subst h2; subst h3
    exact Or.inl ⟨v, (T.setVm vm₁).calling g' mk As.toArray, t, U', L, hT, X', hL, e1, e2, hq, st⟩
  · dsimp only [Pt.U, Pt.locs, Pt.cells, Pt.slots] at X' e1 e2 h1 h2 h3 st hcl
    subst h1; subst h2; subst h3
    exact Or.inr ⟨q, (T.setVm vm₁).calling g' mk As.toArray, t, U', L, E, ce, hT, X', hL, e1, e2, hq, hce, hcv, vx_cls hW₁ hcl, st⟩
end Runs
section Rows
variable {p : Program} {l : Launch} {e : Env} {R : Room} {s : State} {m : MethodId} {args : Array Value} {below : List Frame} {meth : Method} {c : Code} {H : Heap} {locs : List Loc} {cells slots : Nat} {Q : State → Prop}
variable {mc ms : Nat} {free : Addr → Prop} {A0 A1 : Nat → Prop} {H0 : Heap} {a : Array Value} {pc : Nat} {ls : Array Slot} {st0 rest : List Value}
theorem vx_keep {st₀ t T' : State} {L : List Loc} (h0 : st₀.heap = H) (e1 : T'.heap = t.heap) (hS : va_S A0 H0 H locs) (hA : ∀ q, q < H.size → A1 q → A0 q) (hf : ∀ q, free q → A0 q) (hL : ∀ q ∈ L, free q.base) (hF : va_F A1 st₀ t) :
    H.size ≤ T'.heap.size ∧ (∀ q : Nat, q < H.size → ¬ A1 q → T'.heap[q]? = H[q]?) ∧ va_S A0 H0 T'.heap (locs ++ L) := by
  obtain ⟨hz, hk⟩ := hF
  rw [h0] at hz hk
  exact ⟨by rw [e1]; exact hz, fun q h1 h2 => by rw [e1]; exact hk q h1 h2,
    ⟨Nat.le_trans hS.1 (by rw [e1]; exact hz), fun q h1 h2 => by rw [e1, hk q (Nat.lt_of_lt_of_le h1 hS.1) (fun z => h2 (hA q (Nat.lt_of_lt_of_le h1 hS.1) z))]; exact hS.2.1 q h1 h2, fun q hq => by
      rcases List.mem_append.mp hq with h | h
      · exact hS.2.2 q h
      · exact hf _ (hL q h)⟩⟩
theorem vx_calli {S SX : Type} {post : Int32 → S → Prop} {px : SX → Prop} {B : S → State → Prop} {BX : String → SX → State → Prop} {AX : Nat → Prop} (hr : vx_Run p l e R s m args below meth c H locs cells slots mc ms (F0 m pc ls st0) rest (va_Qi post B A1 a) (vx_X px BX AX) free) (hS : va_S A0 H0 H locs) (hA : ∀ q, q < H.size → A1 q → A0 q) (hf : ∀ q, free q → A0 q) (hAX : ∀ q, q < H.size → AX q → A0 q)
    (kx : ∀ (E : String) (ce : Cell) (q9 : Addr) (u : SX) (t : State) (H1 : Heap) (locs1 : List Loc), t.heap = H1 → s.vm.Alike t.vm → px u → BX E u t → H.size ≤ H1.size → (∀ q : Nat, q < H.size → ¬ AX q → H1[q]? = H[q]?) → va_S A0 H0 H1 locs1 → H1[q9]? = some ce → ce.vm = .none → s.vm.findClass E = some ce.cls → vx_W p l e R s m args below meth c H1 locs1 (cells + mc) (slots + ms) Q (F0 m pc ls rest) q9)
    (kk : ∀ (r : Int32) (u : S) (t : State) (H1 : Heap) (locs1 : List Loc), t.heap = H1 → s.vm.Alike t.vm → post r u → B u t → H.size ≤ H1.size → (∀ q : Nat, q < H.size → ¬ A1 q → H1[q]? = H[q]?) → va_S A0 H0 H1 locs1 → W p l e R s m args below meth c H1 locs1 (cells + mc) (slots + ms) Q (F0 m (pc + 3) ls (.int r :: rest))) : W p l e R s m args below meth c H locs cells slots Q (F0 m pc ls st0) := by
  intro T hT X
  rcases hr T hT X with ⟨v, st₀, t, T', L, h0, X', hL, e1, e2, ⟨⟨r, u, hv, hp, hb⟩, hF⟩, st⟩ | ⟨q, st₀, t, T', L, E, ce, h0, X', hL, e1, e2, ⟨u, hp, hb, hF⟩, hce, hcv, hcl, st⟩
  · cases hv
    obtain ⟨k1, k2, k3⟩ := vx_keep h0 e1 hS hA hf hL hF
    obtain ⟨t2, a1, b1⟩ := kk r u t T'.heap (locs ++ L) e1.symm (by rw [← e2]; exact X'.warmed.alike) hp hb k1 k2 k3 T' rfl X'
    exact ⟨t2, st t2 a1, b1⟩
  · obtain ⟨k1, k2, k3⟩ := vx_keep h0 e1 hS hAX hf hL hF
    obtain ⟨t2, a1, b1⟩ := kx E ce q u t T'.heap (locs ++ L) e1.symm (by rw [← e2]; exact X'.warmed.alike) hp hb k1 k2 k3 (by rw [e1]; exact hce) hcv hcl T' rfl X'
    exact ⟨t2, st.trans a1, b1⟩
theorem vx_calll {S SX : Type} {post : Int64 → S → Prop} {px : SX → Prop} {B : S → State → Prop} {BX : String → SX → State → Prop} {AX : Nat → Prop} (hr : vx_Run p l e R s m args below meth c H locs cells slots mc ms (F0 m pc ls st0) rest (va_Ql post B A1 a) (vx_X px BX AX) free) (hS : va_S A0 H0 H locs) (hA : ∀ q, q < H.size → A1 q → A0 q) (hf : ∀ q, free q → A0 q) (hAX : ∀ q, q < H.size → AX q → A0 q)
    (kx : ∀ (E : String) (ce : Cell) (q9 : Addr) (u : SX) (t : State) (H1 : Heap) (locs1 : List Loc), t.heap = H1 → s.vm.Alike t.vm → px u → BX E u t → H.size ≤ H1.size → (∀ q : Nat, q < H.size → ¬ AX q → H1[q]? = H[q]?) → va_S A0 H0 H1 locs1 → H1[q9]? = some ce → ce.vm = .none → s.vm.findClass E = some ce.cls → vx_W p l e R s m args below meth c H1 locs1 (cells + mc) (slots + ms) Q (F0 m pc ls rest) q9)
    (kk : ∀ (r : Int64) (u : S) (t : State) (H1 : Heap) (locs1 : List Loc), t.heap = H1 → s.vm.Alike t.vm → post r u → B u t → H.size ≤ H1.size → (∀ q : Nat, q < H.size → ¬ A1 q → H1[q]? = H[q]?) → va_S A0 H0 H1 locs1 → W p l e R s m args below meth c H1 locs1 (cells + mc) (slots + ms) Q (F0 m (pc + 3) ls (.long r :: rest))) : W p l e R s m args below meth c H locs cells slots Q (F0 m pc ls st0) := by
  intro T hT X
  rcases hr T hT X with ⟨v, st₀, t, T', L, h0, X', hL, e1, e2, ⟨⟨r, u, hv, hp, hb⟩, hF⟩, st⟩ | ⟨q, st₀, t, T', L, E, ce, h0, X', hL, e1, e2, ⟨u, hp, hb, hF⟩, hce, hcv, hcl, st⟩
  · cases hv
    obtain ⟨k1, k2, k3⟩ := vx_keep h0 e1 hS hA hf hL hF
    obtain ⟨t2, a1, b1⟩ := kk r u t T'.heap (locs ++ L) e1.symm (by rw [← e2]; exact X'.warmed.alike) hp hb k1 k2 k3 T' rfl X'
    exact ⟨t2, st t2 a1, b1⟩
  · obtain ⟨k1, k2, k3⟩ := vx_keep h0 e1 hS hAX hf hL hF
    obtain ⟨t2, a1, b1⟩ := kx E ce q u t T'.heap (locs ++ L) e1.symm (by rw [← e2]; exact X'.warmed.alike) hp hb k1 k2 k3 (by rw [e1]; exact hce) hcv hcl T' rfl X'
    exact ⟨t2, st.trans a1, b1⟩
theorem vx_callf {S SX : Type} {post : UInt32 → S → Prop} {px : SX → Prop} {B : S → State → Prop} {BX : String → SX → State → Prop} {AX : Nat → Prop} (hr : vx_Run p l e R s m args below meth c H locs cells slots mc ms (F0 m pc ls st0) rest (va_Qf post B A1 a) (vx_X px BX AX) free) (hS : va_S A0 H0 H locs) (hA : ∀ q, q < H.size → A1 q → A0 q) (hf : ∀ q, free q → A0 q) (hAX : ∀ q, q < H.size → AX q → A0 q)
    (kx : ∀ (E : String) (ce : Cell) (q9 : Addr) (u : SX) (t : State) (H1 : Heap) (locs1 : List Loc), t.heap = H1 → s.vm.Alike t.vm → px u → BX E u t → H.size ≤ H1.size → (∀ q : Nat, q < H.size → ¬ AX q → H1[q]? = H[q]?) → va_S A0 H0 H1 locs1 → H1[q9]? = some ce → ce.vm = .none → s.vm.findClass E = some ce.cls → vx_W p l e R s m args below meth c H1 locs1 (cells + mc) (slots + ms) Q (F0 m pc ls rest) q9)
    (kk : ∀ (r : UInt32) (u : S) (t : State) (H1 : Heap) (locs1 : List Loc), t.heap = H1 → s.vm.Alike t.vm → post r u → B u t → H.size ≤ H1.size → (∀ q : Nat, q < H.size → ¬ A1 q → H1[q]? = H[q]?) → va_S A0 H0 H1 locs1 → W p l e R s m args below meth c H1 locs1 (cells + mc) (slots + ms) Q (F0 m (pc + 3) ls (.float r :: rest))) : W p l e R s m args below meth c H locs cells slots Q (F0 m pc ls st0) := by
  intro T hT X
  rcases hr T hT X with ⟨v, st₀, t, T', L, h0, X', hL, e1, e2, ⟨⟨r, u, hv, hp, hb⟩, hF⟩, st⟩ | ⟨q, st₀, t, T', L, E, ce, h0, X', hL, e1, e2, ⟨u, hp, hb, hF⟩, hce, hcv, hcl, st⟩
  · cases hv
    obtain ⟨k1, k2, k3⟩ := vx_keep h0 e1 hS hA hf hL hF
    obtain ⟨t2, a1, b1⟩ := kk r u t T'.heap (locs ++ L) e1.symm (by rw [← e2]; exact X'.warmed.alike) hp hb k1 k2 k3 T' rfl X'
    exact ⟨t2, st t2 a1, b1⟩
  · obtain ⟨k1, k2, k3⟩ := vx_keep h0 e1 hS hAX hf hL hF
    obtain ⟨t2, a1, b1⟩ := kx E ce q u t T'.heap (locs ++ L) e1.symm (by rw [← e2]; exact X'.warmed.alike) hp hb k1 k2 k3 (by rw [e1]; exact hce) hcv hcl T' rfl X'
    exact ⟨t2, st.trans a1, b1⟩
theorem vx_calld {S SX : Type} {post : UInt64 → S → Prop} {px : SX → Prop} {B : S → State → Prop} {BX : String → SX → State → Prop} {AX : Nat → Prop} (hr : vx_Run p l e R s m args below meth c H locs cells slots mc ms (F0 m pc ls st0) rest (va_Qd post B A1 a) (vx_X px BX AX) free) (hS : va_S A0 H0 H locs) (hA : ∀ q, q < H.size → A1 q → A0 q) (hf : ∀ q, free q → A0 q) (hAX : ∀ q, q < H.size → AX q → A0 q)
    (kx : ∀ (E : String) (ce : Cell) (q9 : Addr) (u : SX) (t : State) (H1 : Heap) (locs1 : List Loc), t.heap = H1 → s.vm.Alike t.vm → px u → BX E u t → H.size ≤ H1.size → (∀ q : Nat, q < H.size → ¬ AX q → H1[q]? = H[q]?) → va_S A0 H0 H1 locs1 → H1[q9]? = some ce → ce.vm = .none → s.vm.findClass E = some ce.cls → vx_W p l e R s m args below meth c H1 locs1 (cells + mc) (slots + ms) Q (F0 m pc ls rest) q9)
    (kk : ∀ (r : UInt64) (u : S) (t : State) (H1 : Heap) (locs1 : List Loc), t.heap = H1 → s.vm.Alike t.vm → post r u → B u t → H.size ≤ H1.size → (∀ q : Nat, q < H.size → ¬ A1 q → H1[q]? = H[q]?) → va_S A0 H0 H1 locs1 → W p l e R s m args below meth c H1 locs1 (cells + mc) (slots + ms) Q (F0 m (pc + 3) ls (.double r :: rest))) : W p l e R s m args below meth c H locs cells slots Q (F0 m pc ls st0) := by
  intro T hT X
  rcases hr T hT X with ⟨v, st₀, t, T', L, h0, X', hL, e1, e2, ⟨⟨r, u, hv, hp, hb⟩, hF⟩, st⟩ | ⟨q, st₀, t, T', L, E, ce, h0, X', hL, e1, e2, ⟨u, hp, hb, hF⟩, hce, hcv, hcl, st⟩
  · cases hv
    obtain ⟨k1, k2, k3⟩ := vx_keep h0 e1 hS hA hf hL hF
    obtain ⟨t2, a1, b1⟩ := kk r u t T'.heap (locs ++ L) e1.symm (by rw [← e2]; exact X'.warmed.alike) hp hb k1 k2 k3 T' rfl X'
    exact ⟨t2, st t2 a1, b1⟩
  · obtain ⟨k1, k2, k3⟩ := vx_keep h0 e1 hS hAX hf hL hF
    obtain ⟨t2, a1, b1⟩ := kx E ce q u t T'.heap (locs ++ L) e1.symm (by rw [← e2]; exact X'.warmed.alike) hp hb k1 k2 k3 (by rw [e1]; exact hce) hcv hcl T' rfl X'
    exact ⟨t2, st.trans a1, b1⟩
theorem vx_callv {S SX : Type} {post : S → Prop} {px : SX → Prop} {B : S → State → Prop} {BX : String → SX → State → Prop} {AX : Nat → Prop} (hr : vx_Run p l e R s m args below meth c H locs cells slots mc ms (F0 m pc ls st0) rest (va_Qv post B A1 a) (vx_X px BX AX) free) (hS : va_S A0 H0 H locs) (hA : ∀ q, q < H.size → A1 q → A0 q) (hf : ∀ q, free q → A0 q) (hAX : ∀ q, q < H.size → AX q → A0 q)
    (kx : ∀ (E : String) (ce : Cell) (q9 : Addr) (u : SX) (t : State) (H1 : Heap) (locs1 : List Loc), t.heap = H1 → s.vm.Alike t.vm → px u → BX E u t → H.size ≤ H1.size → (∀ q : Nat, q < H.size → ¬ AX q → H1[q]? = H[q]?) → va_S A0 H0 H1 locs1 → H1[q9]? = some ce → ce.vm = .none → s.vm.findClass E = some ce.cls → vx_W p l e R s m args below meth c H1 locs1 (cells + mc) (slots + ms) Q (F0 m pc ls rest) q9)
    (kk : ∀ (u : S) (t : State) (H1 : Heap) (locs1 : List Loc), t.heap = H1 → s.vm.Alike t.vm → post u → B u t → H.size ≤ H1.size → (∀ q : Nat, q < H.size → ¬ A1 q → H1[q]? = H[q]?) → va_S A0 H0 H1 locs1 → W p l e R s m args below meth c H1 locs1 (cells + mc) (slots + ms) Q (F0 m (pc + 3) ls (rest))) : W p l e R s m args below meth c H locs cells slots Q (F0 m pc ls st0) := by
  intro T hT X
  rcases hr T hT X with ⟨v, st₀, t, T', L, h0, X', hL, e1, e2, ⟨⟨u, hv, hp, hb⟩, hF⟩, st⟩ | ⟨q, st₀, t, T', L, E, ce, h0, X', hL, e1, e2, ⟨u, hp, hb, hF⟩, hce, hcv, hcl, st⟩
  · cases hv
    obtain ⟨k1, k2, k3⟩ := vx_keep h0 e1 hS hA hf hL hF
    obtain ⟨t2, a1, b1⟩ := kk u t T'.heap (locs ++ L) e1.symm (by rw [← e2]; exact X'.warmed.alike) hp hb k1 k2 k3 T' rfl X'
    exact ⟨t2, st t2 a1, b1⟩
  · obtain ⟨k1, k2, k3⟩ := vx_keep h0 e1 hS hAX hf hL hF
    obtain ⟨t2, a1, b1⟩ := kx E ce q u t T'.heap (locs ++ L) e1.symm (by rw [← e2]; exact X'.warmed.alike) hp hb k1 k2 k3 (by rw [e1]; exact hce) hcv hcl T' rfl X'
    exact ⟨t2, st.trans a1, b1⟩
/-- caught by the row x of this method's table; the rows ahead don't take it -/
theorem vx_catch {own name : String} {E : String} {ce : Cell} {q : Addr} (hown : s.vm.findClass own = some m.cls) (pre : List ExceptionTableEntry) (x : ExceptionTableEntry) (suf : List ExceptionTableEntry) (hsplit : c.exceptionTable.toList = pre ++ x :: suf)
    (hpass : ∀ z ∈ pre, covers z pc = false ∨ (z.catchType ≠ 0 ∧ ∃ nm : String, (Cond.classLink own z.catchType nm).before args s = true ∧ va_Nc E nm s)) (hx : covers x pc = true) (h0 : x.catchType ≠ 0)
    (hlink : (Cond.classLink own x.catchType name).before args s = true) (hcast : (Cond.castable E name).before args s = true) (hcell : H[q]? = some ce) (hv : ce.vm = .none) (hcl : s.vm.findClass E = some ce.cls)
    (kk : W p l e R s m args below meth c H locs cells slots Q (F0 m x.handlerPc ls [.ref q])) : vx_W p l e R s m args below meth c H locs cells slots Q (F0 m pc ls rest) q := by
  intro T hT X
  have hpl : e.platform.magicAccessors = ({} : Platform).magicAccessors := by rw [X.admits.platform]
  obtain ⟨c3, c4, hc3, hc4, hasg⟩ := Cond.castable_spec hcast
  cases Option.some.inj (hc3.symm.trans hcl)
  obtain ⟨c5, hc5, hcl5⟩ := Cond.classLink_spec hown hlink e.platform hpl
  cases Option.some.inj (hc4.symm.trans hc5)
  obtain ⟨vm', X', st⟩ := X.thenCaughtThrough q (g := F0 m pc ls rest) rfl (Steps.refl _) (by rw [hT]; exact hcell) (by rw [hv]; rfl) (by obtain ⟨k9, h9, -⟩ := Vm.findClass_spec hcl; exact ⟨k9, h9⟩) pre x suf hsplit
    (fun z hz => by
      rcases hpass z hz with h | ⟨hz0, nm, hl1, hn1⟩
      · exact Or.inl h
      · obtain ⟨c6, hc6, hcl6⟩ := Cond.classLink_spec hown hl1 e.platform hpl
        obtain ⟨a8, b8, h1, h2, h3⟩ := hn1
        cases Option.some.inj (h1.symm.trans hcl)
        cases Option.some.inj (h2.symm.trans hc6)
        exact Or.inr ⟨hz0, _, hcl6, h3⟩) hx (Or.inr ⟨h0, c4, hcl5, hasg⟩)
  obtain ⟨t, a1, b1⟩ := kk (T.setVm vm') hT X'
  exact ⟨t, st.trans a1, b1⟩
end Rows
section Ends
variable {p : Program} {l : Launch} {e : Env} {R : Room} {s : State} {m : MethodId} {args : Array Value} {below : List Frame} {meth : Method} {c : Code} {H : Heap} {locs : List Loc} {cells slots : Nat} {Q : State → Prop}
variable {mc ms : Nat} {free : Addr → Prop} {A0 A1 : Nat → Prop} {H0 : Heap} {a : Array Value} {ls : Array Slot} {st0 rest : List Value}
variable {Qc : Array Value → State → Outcome → State → Prop} {XC : String → State → State → Prop}
/-- what a body that may throw owes at its end -/
def vx_MQ (below : List Frame) (Qc : Array Value → State → Outcome → State → Prop) (XC : String → State → State → Prop) (a : Array Value) (s : State) (mc ms : Nat) (free : Addr → Prop) : State → Prop := fun t =>
  ∃ o, t.status = .running ∧ Ended t below o ∧ vx_Q Qc XC mc ms free a s o t
theorem vx_ret {g : JFrame} {mc ms : Nat} (k : W p l e R s m args below meth c H locs cells slots (MQ below Qc args s mc ms free) g) : W p l e R s m args below meth c H locs cells slots (vx_MQ below Qc XC args s mc ms free) g := by
  intro T hT X
  obtain ⟨t, a1, o, b1, b2, b3, b4⟩ := k T hT X
  exact ⟨t, a1, o, b1, b2, Or.inl ⟨b3, b4⟩⟩
/-- not caught here: it goes on to the caller -/
theorem vx_widen {g : JFrame} {q : Addr} {k n : Nat} (h1 : cells ≤ k) (h2 : slots ≤ n) (kk : vx_W p l e R s m args below meth c H locs k n Q g q) : vx_W p l e R s m args below meth c H locs cells slots Q g q := fun T hT X => kk T hT (stand_widen X h1 h2)
theorem vx_out {pc : Nat} {E : String} {ce : Cell} {q : Addr} {mc ms : Nat} (hout : ∀ x ∈ c.exceptionTable.toList, covers x pc = false) (hlocks : meth.locks = false) (hcell : H[q]? = some ce) (hv : ce.vm = .none) (hcl : s.vm.findClass E = some ce.cls)
    (hx : ∀ t : State, t.heap = H → s.vm.Alike t.vm → XC E s t) (hf : ∀ z ∈ locs, free z.base) (hc : cells ≤ mc) (hs : slots ≤ ms) :
    vx_W p l e R s m args below meth c H locs cells slots (vx_MQ below Qc XC args s mc ms free) (F0 m pc ls rest) q := by
  intro T hT X
  obtain ⟨st1, hrun, hend, hW, hsm⟩ := X.leaveThrown q (g := F0 m pc ls rest) rfl rfl rfl hout hlocks
  have hcell9 : (T.setFrames (.throwing q :: below)).heap[q]? = some ce := by
    show T.heap[q]? = some ce
    rw [hT]; exact hcell
  exact ⟨_, st1, .threw q, hrun, hend, Or.inr ⟨q, rfl, E, ce, locs, hx _ hT hW.alike, hcell9, hv, hcl, hW, hsm.mono hc hs, hf⟩⟩
theorem vx_frame {U : State} {k n : Nat} (h : s.sameButNew ({ U with vm := s.vm } : State) locs k n) : s.heap.size ≤ U.heap.size ∧ ∀ q : Nat, q < s.heap.size → (∀ z ∈ locs, z.base ≠ q) → U.heap[q]? = s.heap[q]? := by
  obtain ⟨-, h2, -, -, -, h6⟩ := h
  refine ⟨h2, fun q hq hz => ?_⟩
  obtain ⟨c9, e1, e2, e3, e4⟩ := h6 q _ (Array.getElem?_eq_getElem hq)
  have hs : c9.slots = (s.heap[q]).slots := Array.ext_getElem? fun i => e4 i fun hm => hz _ hm rfl
  have h9 : c9 = s.heap[q] := by
    rw [hs] at e2
    exact e2
  have e5 : U.heap[q]? = some c9 := e1
  rw [e5, h9, Array.getElem?_eq_getElem hq]
/-- the words of a throw but the four that speak of the heap -/
def vx_no (w : Cond) : Bool := decide (w ≠ .isRef (.static Bundle.tN "UNASSIGNED_STACK" Bundle.steD)) && decide (w ≠ .isRef (.static Bundle.tN "SUPPRESSED_SENTINEL" Bundle.listD)) && decide (w ≠ .laysStatic Bundle.tN "UNASSIGNED_STACK" Bundle.steD) && decide (w ≠ .laysStatic Bundle.tN "SUPPRESSED_SENTINEL" Bundle.listD)
def vx_at0 (own : String) (ic : Nat) (X : String) (names : List String) : List Cond := (Bundle.ownAtoms0 own ic X names).filter vx_no
def vx_atS (own : String) (ic : Nat) (X : String) (names : List String) : List Cond := (Bundle.ownAtoms own ic X names).filter vx_no
/-- a word that the tables alone decide, or a good one -/
def vx_ot (w : Cond) : Bool := w.onTables || goodWord w
theorem vx_ot_at {args a' : Array Value} {s U : State} {w : Cond} (hW : s.WarmedH U.vm) (hvm : s.vm = U.vm) (hg : vx_ot w = true) (h : w.before args s = true) : w.before a' U = true := by
  simp only [vx_ot, Bool.or_eq_true] at hg
  rcases hg with hg | hg
  · exact va_tabs hg hvm h
  · exact word_at hW (good_of_word hg) h
/-- a list's words: the good ones out of the method's own list, the others by premises of their own -/
theorem vx_hat {args : Array Value} {s : State} {L B : List Cond} (h1 : ∀ w ∈ L.filter goodWord, w.before args s = true) (h2 : ∀ w ∈ L.filter (fun w => !goodWord w), w ∈ B) (h3 : ∀ w ∈ B, w.before args s = true) : ∀ w ∈ L, w.before args s = true := by
  intro w hw
  by_cases g : goodWord w = true
  · exact h1 w (List.mem_filter.mpr ⟨hw, g⟩)
  · refine h3 w (h2 w (List.mem_filter.mpr ⟨hw, ?_⟩))
    show (!goodWord w) = true
    cases hgw : goodWord w
    · rfl
    · exact absurd hgw g
theorem vx_c {args : Array Value} {s : State} {w : Cond} {B : List Cond} (h : w.before args s = true) (t : ∀ w ∈ B, w.before args s = true) : ∀ w' ∈ w :: B, w'.before args s = true := fun w' h' => (List.mem_cons.mp h').elim (fun e => by rw [e]; exact h) (t w')
theorem vx_n {args : Array Value} {s : State} : ∀ w ∈ ([] : List Cond), w.before args s = true := fun _ h => nomatch h
theorem vx_own {args : Array Value} {s : State} {L : List Cond} (h1 : ∀ w ∈ L.filter vx_no, w.before args s = true)
    (hU : (Cond.isRef (.static Bundle.tN "UNASSIGNED_STACK" Bundle.steD)).before args s = true) (hN : (Cond.isRef (.static Bundle.tN "SUPPRESSED_SENTINEL" Bundle.listD)).before args s = true)
    (lU : (Cond.laysStatic Bundle.tN "UNASSIGNED_STACK" Bundle.steD).before args s = true) (lN : (Cond.laysStatic Bundle.tN "SUPPRESSED_SENTINEL" Bundle.listD).before args s = true) : ∀ w ∈ L, w.before args s = true := by
  intro w hw
  by_cases e1 : w = .isRef (.static Bundle.tN "UNASSIGNED_STACK" Bundle.steD)
  · rw [e1]; exact hU
  · by_cases e2 : w = .isRef (.static Bundle.tN "SUPPRESSED_SENTINEL" Bundle.listD)
    · rw [e2]; exact hN
    · by_cases e3 : w = .laysStatic Bundle.tN "UNASSIGNED_STACK" Bundle.steD
      · rw [e3]; exact lU
      · by_cases e4 : w = .laysStatic Bundle.tN "SUPPRESSED_SENTINEL" Bundle.listD
        · rw [e4]; exact lN
        · exact h1 w (List.mem_filter.mpr ⟨hw, by unfold vx_no; rw [decide_eq_true e1, decide_eq_true e2, decide_eq_true e3, decide_eq_true e4]; rfl⟩)
/-- where a static field lies, its class's statics cell in H -/
def vx_L (C n d : String) (A : Nat → Prop) (U : State) (H : Heap) : Prop := ∃ (c : ClassId) (k : Class) (i : Nat) (f : Field) (a : Nat) (cell : Cell), U.vm.findClass C = some c ∧ U.fieldFound? C n d = some (c, k, i, f) ∧ f.isStatic = true ∧ k.statics = some a ∧ H[a]? = some cell ∧ cell.vm.isStatics = true ∧ cell.cls = c ∧ f.slot < cell.slots.size ∧ k.staticTypes[f.slot]? = some f.type ∧ ¬ A a
theorem vx_L.moved {C n d : String} {A : Nat → Prop} {u U : State} {H : Heap} (hvm : u.vm.Alike U.vm) (h : vx_L C n d A u H) : vx_L C n d A U H := by
  obtain ⟨c, k, i, f, a, cell, h1, h2, h3, h4, h5, h6, h7, h8, h9, h10⟩ := h
  obtain ⟨k', hi', he⟩ := State.fieldFound?_setVm hvm h2
  exact ⟨c, k', i, f, a, cell, by rw [hvm.findClass]; exact h1, hi', h3, by rw [he]; exact h4, h5, h6, h7, h8, by rw [he]; exact h9, h10⟩
theorem vx_L.kept {C n d : String} {A : Nat → Prop} {U : State} {H H1 : Heap} (h : vx_L C n d A U H) (hq : ∀ a : Nat, a < H.size → ¬ A a → H1[a]? = H[a]?) : vx_L C n d A U H1 := by
  obtain ⟨c, k, i, f, a, cell, h1, h2, h3, h4, h5, h6, h7, h8, h9, h10⟩ := h
  exact ⟨c, k, i, f, a, cell, h1, h2, h3, h4, by rw [hq a (Array.getElem?_eq_some_iff.mp h5).1 h10]; exact h5, h6, h7, h8, h9, h10⟩
theorem vx_L.narrow {C n d : String} {A B : Nat → Prop} {U : State} {H : Heap} (h : vx_L C n d A U H) (hAB : ∀ q, B q → A q) : vx_L C n d B U H := by
  obtain ⟨c, k, i, f, a, cell, h1, h2, h3, h4, h5, h6, h7, h8, h9, h10⟩ := h
  exact ⟨c, k, i, f, a, cell, h1, h2, h3, h4, h5, h6, h7, h8, h9, fun z => h10 (hAB _ z)⟩
theorem vx_L.word {C n d : String} {A : Nat → Prop} {s : State} {args : Array Value} (h : vx_L C n d A s s.heap) : (Cond.laysStatic C n d).before args s = true := by
  obtain ⟨c, k, i, f, a, cell, h1, h2, h3, h4, h5, h6, h7, h8, h9, -⟩ := h
  show (Cond.laysStatic C n d).holds args s none s [] = true
  exact Cond.laysStatic_of h1 h2 h3 h4 h5 h6 h7 h8 h9
/-- .. and what it holds: null or some reference -/
def vx_Zq (C n d : String) (A : Nat → Prop) (U : State) (H : Heap) : Prop := va_Zq C n d A U H ∧ vx_L C n d A U H
theorem vx_Zq.moved {C n d : String} {A : Nat → Prop} {u U : State} {H : Heap} (hvm : u.vm.Alike U.vm) (h : vx_Zq C n d A u H) : vx_Zq C n d A U H := ⟨va_Zq.moved hvm h.1, vx_L.moved hvm h.2⟩
theorem vx_Zq.kept {C n d : String} {A : Nat → Prop} {U : State} {H H1 : Heap} (h : vx_Zq C n d A U H) (hq : ∀ a : Nat, a < H.size → ¬ A a → H1[a]? = H[a]?) : vx_Zq C n d A U H1 := ⟨va_Zq.kept h.1 hq, vx_L.kept h.2 hq⟩
theorem vx_Zq.narrow {C n d : String} {A B : Nat → Prop} {U : State} {H : Heap} (h : vx_Zq C n d A U H) (hAB : ∀ q, B q → A q) : vx_Zq C n d B U H := ⟨va_Zq.narrow h.1 hAB, vx_L.narrow h.2 hAB⟩
theorem vx_Zqof {args : Array Value} {s : State} {C n d : String} {A : Nat → Prop} (hl : (Cond.laysStatic C n d).before args s = true) (hini : (Cond.initialized C).before args s = true) (h : (Cond.isRef (.static C n d)).before args s = true) (hA : ∀ a : Nat, a < s.heap.size → ¬ A a) : vx_Zq C n d A s s.heap := by
  refine ⟨va_Zqof hl hini h hA, ?_⟩
  obtain ⟨c, k, i, f, a, cell, h1, h2, h3, h4, h5, h6, h7, h8, h9⟩ := Cond.laysStatic_spec hl
  exact ⟨c, k, i, f, a, cell, h1, h2, h3, h4, h5, h6, h7, h8, h9, hA a (Array.getElem?_eq_some_iff.mp h5).1⟩
theorem vx_isRef {C n d : String} {v : Value} {A : Nat → Prop} {s : State} {args : Array Value} (h : va_Z C n d v A s s.heap) (hv : v.isRef = true) : (Cond.isRef (.static C n d)).before args s = true := by
  obtain ⟨cf, kf, fi, f, a, cell, h1, h2, h3, h4, h5, h6, h7, -⟩ := h
  have he : (Term.static C n d).eval args s none [] s = some v := by
    simp [Term.eval, State.fieldNamed?, h1, h2, h4, h5, h6, h7]
  simp only [Cond.before, Cond.holds, Cond.value, he]
  cases v <;> simp_all [Value.isRef]
theorem vx_isRefq {C n d : String} {A : Nat → Prop} {s : State} {args : Array Value} (h : va_Zq C n d A s s.heap) : (Cond.isRef (.static C n d)).before args s = true := by
  rcases h with h | ⟨t, h⟩
  · exact vx_isRef h rfl
  · exact vx_isRef h rfl
/-- the same frame, seen from here: as if the method were called anew in this heap -/
theorem vx_rebase {T : State} (X : Stand p l e R s m args below meth c T locs cells slots) {R' : Room} (hf : R'.frames ≤ R.frames) (hl : R'.locals ≤ R.locals) (hc : cells + R'.cells ≤ R.cells) (hs : slots + R'.slots ≤ R.slots) :
    Stand p l e R' ((T.setVm s.vm).setFrames (.invoking m args :: below)) m args below meth c T [] 0 0 := by
  have htop : (T.setVm s.vm).topJava?.isSome := X.here.top
  have hF : ((T.setVm s.vm).setFrames (.invoking m args :: below)).frames = .invoking m args :: below := State.frames_setFrames _ (State.cur_lt_of_top htop)
  obtain ⟨g₀, hg0⟩ := Option.isSome_iff_exists.mp htop
  obtain ⟨r, hr⟩ := State.topJava?_eq_some.mp hg0
  have hl9 : e.platform.stackLimits (T.setVm s.vm).me = e.platform.stackLimits s.me := X.limits
  have hb9 : (T.setVm s.vm).me.stackBytes = s.me.stackBytes := X.bytes
  refine ⟨X.admits, X.cas, X.clock, hF, ?_, X.hears, X.method, X.code, X.here, X.tail, X.warmed, ?_, ?_, ?_⟩
  · have h := X.room
    have hU : ((T.setVm s.vm).setFrames (.invoking m args :: below)).localsInUse = s.localsInUse := by
      rw [State.localsInUse_invoking hF (meth := meth) (c := c) X.method X.code, State.localsInUse_invoking X.frames X.method X.code]
    simp only [State.hasRoom, Bool.and_eq_true, decide_eq_true_eq] at h ⊢
    obtain ⟨⟨⟨⟨h1, h2, h3, h4, h5, h6⟩, h7⟩, h8⟩, h9⟩ := h
    rw [X.frames, List.length_cons] at h2 h3
    have q1 := X.heapSize
    have q2 := X.used
    simp only [hF, hU, List.length_cons, State.stackLimits_setFrames, State.stackBytes_setFrames, hl9, hb9]
    refine ⟨⟨⟨⟨by omega, by omega, by omega, by omega, by omega, h6⟩, ?_⟩, ?_⟩, X.book⟩
    · show T.heap.size + R'.cells ≤ e.platform.maxCells
      omega
    · show T.slotsUsed + R'.slots ≤ e.platform.maxSlots
      omega
  · rw [State.stackLimits_setFrames]; rfl
  · rw [State.stackBytes_setFrames]; rfl
  · refine ⟨?_, Nat.le_refl _, Nat.le_refl _, ?_, ?_, fun a c9 h9 => ⟨c9, h9, rfl, rfl, fun _ _ => rfl⟩⟩
    · obtain ⟨t, ht, -⟩ := State.frames_cons hr
      show T.setVm s.vm = { ((T.setVm s.vm).setFrames (.invoking m args :: below)).setFrames (T.setVm s.vm).frames with heap := T.heap, slotsUsed := T.slotsUsed }
      rw [State.setFrames_setFrames, State.setFrames_self ht]
      rfl
    · show T.slotsUsed = T.slotsUsed + ((T.heap.toList.drop T.heap.size).map (·.slots.size)).sum
      rw [List.drop_eq_nil_of_le (Nat.le_of_eq Array.length_toList)]
      rfl
    · show ((T.heap.toList.drop T.heap.size).map (·.slots.size)).sum ≤ 0
      rw [List.drop_eq_nil_of_le (Nat.le_of_eq Array.length_toList)]
      exact Nat.le_refl _
/-- 'throw new E()': new; dup; invokespecial; athrow -/
theorem vx_throw0 {cc : ByteArray} {pc : Nat} (hexec : p.tables.exec = Jvm.exec) (hb : c.code = cc) (hl : l.stackTraces = false) {own cls : String} {names : List String} {ik ic mc ms : Nat} {A : Nat → Prop}
    (hown : s.vm.findClass own = some m.cls) (hcls : Bundle.fit cls = true) (hnames : ∀ n ∈ names, Bundle.fit n = true)
    (hk : (Cond.classLink own ik cls).before args s = true) (hini : (Cond.initialized cls).before args s = true) (hat : ∀ w ∈ vx_at0 own ic cls names, w.before args s = true)
    (hgood : ∀ w ∈ Cond.classLink own ik cls :: Cond.initialized cls :: vx_at0 own ic cls names, vx_ot w = true)
    (hU : vx_Zq Bundle.tN "UNASSIGNED_STACK" Bundle.steD A s s.heap) (hN : vx_Zq Bundle.tN "SUPPRESSED_SENTINEL" Bundle.listD A s s.heap) (hS : va_S A s.heap H locs) (hsize : ls.size = c.maxLocals)
    (d0 : decode cc pc = .ok (.new ik, 3)) (d3 : decode cc (pc + 3) = .ok (.dup, 1)) (d4 : decode cc (pc + 4) = .ok (.invokespecial ic, 3)) (d7 : decode cc (pc + 7) = .ok (.athrow, 1))
    (hout : ∀ x ∈ c.exceptionTable.toList, covers x (pc + 7) = false)
    (hRframes : names.length + 3 < R.frames) (hRlocals : (rest.map fun v => v.category).sum + (13 * (names.length + 1) + 42) ≤ R.locals) (hRcells : cells + 1 ≤ R.cells) (hRslots : slots + 6 ≤ R.slots) (hlocks : meth.locks = false)
    (hx : ∀ t : State, s.vm.Alike t.vm → H.size ≤ t.heap.size → (∀ q : Nat, q < H.size → t.heap[q]? = H[q]?) → XC cls s t)
    (hf : ∀ z ∈ locs, free z.base) (hc : cells + 1 ≤ mc) (hs : slots + 6 ≤ ms) :
    W p l e R s m args below meth c H locs cells slots (vx_MQ below Qc XC args s mc ms free) (F0 m pc ls rest) := by
  intro T hT X
  have htr : e.platform.stackTraces = false := (show e.platform.stackTraces = l.stackTraces by rw [X.admits.platform]).trans hl
  have Y := vx_rebase X (R' := { frames := R.frames, locals := R.locals, cells := 1, slots := 6 }) (Nat.le_refl _) (Nat.le_refl _) hRcells hRslots
  obtain ⟨s', hA⟩ : ∃ z, z = (T.setVm s.vm).setFrames (.invoking m args :: below) := ⟨_, rfl⟩
  rw [← hA] at Y
  have hvm : s'.vm = s.vm := by rw [hA]; rfl
  have hhp : s'.heap = H := by rw [hA]; exact hT
  have hW0 : s.WarmedH s'.vm := by rw [hvm]; exact State.WarmedH.refl s
  have hat' : ∀ w ∈ vx_at0 own ic cls names, w.before args s' = true := fun w hw => vx_ot_at hW0 hvm.symm (hgood w (List.mem_cons_of_mem _ (List.mem_cons_of_mem _ hw))) (hat w hw)
  have hk' : (Cond.classLink own ik cls).before args s' = true := vx_ot_at hW0 hvm.symm (hgood _ List.mem_cons_self) hk
  have hini' : (Cond.initialized cls).before args s' = true := vx_ot_at hW0 hvm.symm (hgood _ (List.mem_cons_of_mem _ List.mem_cons_self)) hini
  have hU' : vx_Zq Bundle.tN "UNASSIGNED_STACK" Bundle.steD A s' s'.heap := by rw [hhp]; exact vx_Zq.moved hW0.alike (hU.kept hS.2.1)
  have hN' : vx_Zq Bundle.tN "SUPPRESSED_SENTINEL" Bundle.listD A s' s'.heap := by rw [hhp]; exact vx_Zq.moved hW0.alike (hN.kept hS.2.1)
  have h : ∀ w ∈ Bundle.ownAtoms0 own ic cls names, w.before args s' = true := vx_own hat' (vx_isRefq hU'.1) (vx_isRefq hN'.1) hU'.2.word hN'.2.word
  have hown' : s'.vm.findClass own = some m.cls := by rw [hvm]; exact hown
  have hins : (Cond.instantiable cls 6).before args s' = true := h _ (by simp [Bundle.ownAtoms0])
  obtain ⟨vm₁, cX, kX, hfX, hkX, -, -, X₁, st1⟩ := Y.newCold hexec (own := own) (C := cls) (index := ik) (n := 6) hown' hk' hins hini'
    (g := F0 m pc ls rest) rfl (by rw [hb]; exact d0) (Nat.le_refl _) (Nat.le_refl _)
  generalize hT1 : (T.setVm vm₁).pushCell { cls := cX, slots := kX.instanceTypes.map defaultValue, vm := .none } = T1 at X₁ st1
  have hcat : (Value.ref T.heap.size).category = 1 := rfl
  have hcellA : T1.heap[T.heap.size]? = some (freshCell cX kX) := by rw [← hT1]; exact State.heap_pushCell_size _ _
  have d3' : decode c.code (pc + 3) = .ok (.dup, 1) := by rw [hb]; exact d3
  obtain ⟨U, hsteps, hrun, hend, hW, hsame, ce, hce, hO⟩ := X₁.ctorThrow0 hexec htr (own := own) (cls := cls) (names := names) (ic := ic) hown' hcls hnames h (fun x hx => nomatch hx) hfX hkX hcellA (by rw [hhp, hT]; exact Nat.le_refl _)
    (g := { method := m, pc := pc + 4, locals := ls, stack := .ref T.heap.size :: .ref T.heap.size :: rest, locked := none }) rfl hsize rfl rfl (rest := rest) rfl
    (by rw [hb]; exact d4) (by rw [hb]; exact d7) hout hRframes (by simp only [List.map_cons, List.sum_cons, hcat]; omega) hlocks
  obtain ⟨f1, f2⟩ := vx_frame hsame
  rw [hhp] at f1 f2
  have hWs : s.WarmedH U.vm := State.WarmedH.trans hW0 hW
  have hcl : s.vm.findClass cls = some ce.cls := by
    have h9 := hO.cls
    rw [hvm] at h9
    exact h9
  have hall : s.sameButNew ({ U with vm := s.vm } : State) locs mc ms := by
    subst hA
    obtain ⟨e1, e2⟩ := hsame
    rw [State.setFrames_setFrames] at e1
    have h2 : (T.setVm s.vm).sameButNew ({ U with vm := s.vm } : State) [] (0 + 1) (0 + 6) := ⟨e1, e2⟩
    have h3 := X.same.trans h2
    rw [List.append_nil] at h3
    exact h3.mono hc hs
  refine ⟨U, ?_, .threw T.heap.size, hrun, hend, Or.inr ⟨T.heap.size, rfl, cls, ce, locs, hx U hWs.alike f1 (fun q hq => f2 q hq (fun z hz => nomatch hz)), hce, hO.vm, hcl, hWs, hall, hf⟩⟩
  refine st1 _ ?_
  show Steps p.tables e below (T1.setTop { method := m, pc := pc + 3, locals := ls, stack := .ref T.heap.size :: rest, locked := none }) _
  jvm_step X₁.here [X₁.here.top, hexec, d3', Value.category]
  exact hsteps
/-- 'throw new E("text")': new; dup; ldc; invokespecial; athrow -/
theorem vx_throwS {cc : ByteArray} {pc : Nat} (hexec : p.tables.exec = Jvm.exec) (hb : c.code = cc) (hl : l.stackTraces = false) {own cls text : String} {names : List String} {ik is ic mc ms sa : Nat} {A : Nat → Prop}
    (hown : s.vm.findClass own = some m.cls) (hcls : Bundle.fit cls = true) (hnames : ∀ n ∈ names, Bundle.fit n = true)
    (hk : (Cond.classLink own ik cls).before args s = true) (hini : (Cond.initialized cls).before args s = true) (hstr : vk_R own is text sa s) (hat : ∀ w ∈ vx_atS own ic cls names, w.before args s = true)
    (hgood : ∀ w ∈ Cond.classLink own ik cls :: Cond.initialized cls :: vx_atS own ic cls names, vx_ot w = true)
    (hU : vx_Zq Bundle.tN "UNASSIGNED_STACK" Bundle.steD A s s.heap) (hN : vx_Zq Bundle.tN "SUPPRESSED_SENTINEL" Bundle.listD A s s.heap) (hS : va_S A s.heap H locs) (hsize : ls.size = c.maxLocals)
    (d0 : decode cc pc = .ok (.new ik, 3)) (d3 : decode cc (pc + 3) = .ok (.dup, 1)) (d4 : decode cc (pc + 4) = .ok (.ldc is, 2)) (d6 : decode cc (pc + 6) = .ok (.invokespecial ic, 3)) (d9 : decode cc (pc + 9) = .ok (.athrow, 1))
    (hout : ∀ x ∈ c.exceptionTable.toList, covers x (pc + 9) = false)
    (hRframes : names.length + 3 < R.frames) (hRlocals : (rest.map fun v => v.category).sum + (13 * (names.length + 1) + 43) ≤ R.locals) (hRcells : cells + 1 ≤ R.cells) (hRslots : slots + 6 ≤ R.slots) (hlocks : meth.locks = false)
    (hx : ∀ t : State, s.vm.Alike t.vm → H.size ≤ t.heap.size → (∀ q : Nat, q < H.size → t.heap[q]? = H[q]?) → XC cls s t)
    (hf : ∀ z ∈ locs, free z.base) (hc : cells + 1 ≤ mc) (hs : slots + 6 ≤ ms) :
    W p l e R s m args below meth c H locs cells slots (vx_MQ below Qc XC args s mc ms free) (F0 m pc ls rest) := by
  intro T hT X
  have htr : e.platform.stackTraces = false := (show e.platform.stackTraces = l.stackTraces by rw [X.admits.platform]).trans hl
  have Y := vx_rebase X (R' := { frames := R.frames, locals := R.locals, cells := 1, slots := 6 }) (Nat.le_refl _) (Nat.le_refl _) hRcells hRslots
  obtain ⟨s', hA⟩ : ∃ z, z = (T.setVm s.vm).setFrames (.invoking m args :: below) := ⟨_, rfl⟩
  rw [← hA] at Y
  have hvm : s'.vm = s.vm := by rw [hA]; rfl
  have hhp : s'.heap = H := by rw [hA]; exact hT
  have hW0 : s.WarmedH s'.vm := by rw [hvm]; exact State.WarmedH.refl s
  have hat' : ∀ w ∈ vx_atS own ic cls names, w.before args s' = true := fun w hw => vx_ot_at hW0 hvm.symm (hgood w (List.mem_cons_of_mem _ (List.mem_cons_of_mem _ hw))) (hat w hw)
  have hk' : (Cond.classLink own ik cls).before args s' = true := vx_ot_at hW0 hvm.symm (hgood _ List.mem_cons_self) hk
  have hini' : (Cond.initialized cls).before args s' = true := vx_ot_at hW0 hvm.symm (hgood _ (List.mem_cons_of_mem _ List.mem_cons_self)) hini
  have hU' : vx_Zq Bundle.tN "UNASSIGNED_STACK" Bundle.steD A s' s'.heap := by rw [hhp]; exact vx_Zq.moved hW0.alike (hU.kept hS.2.1)
  have hN' : vx_Zq Bundle.tN "SUPPRESSED_SENTINEL" Bundle.listD A s' s'.heap := by rw [hhp]; exact vx_Zq.moved hW0.alike (hN.kept hS.2.1)
  have h : ∀ w ∈ Bundle.ownAtoms own ic cls names, w.before args s' = true := vx_own hat' (vx_isRefq hU'.1) (vx_isRefq hN'.1) hU'.2.word hN'.2.word
  have hown' : s'.vm.findClass own = some m.cls := by rw [hvm]; exact hown
  have hins : (Cond.instantiable cls 6).before args s' = true := h _ (by simp [Bundle.ownAtoms])
  obtain ⟨vm₁, cX, kX, hfX, hkX, -, -, X₁, st1⟩ := Y.newCold hexec (own := own) (C := cls) (index := ik) (n := 6) hown' hk' hins hini'
    (g := F0 m pc ls rest) rfl (by rw [hb]; exact d0) (Nat.le_refl _) (Nat.le_refl _)
  generalize hT1 : (T.setVm vm₁).pushCell { cls := cX, slots := kX.instanceTypes.map defaultValue, vm := .none } = T1 at X₁ st1
  have hcat : (Value.ref T.heap.size).category = 1 := rfl
  have hcellA : T1.heap[T.heap.size]? = some (freshCell cX kX) := by rw [← hT1]; exact State.heap_pushCell_size _ _
  have d3' : decode c.code (pc + 3) = .ok (.dup, 1) := by rw [hb]; exact d3
  have d4' : decode c.code (pc + 4) = .ok (.ldc is, 2) := by rw [hb]; exact d4
  have hstr' : vk_R own is text sa s' := vk_R.warm hW0 hstr
  obtain ⟨U, hsteps, hrun, hend, hW, hsame, ce, hce, hO⟩ := X₁.ctorThrowS hexec htr (own := own) (cls := cls) (names := names) (ic := ic) hown' hcls hnames h (fun x hx => nomatch hx) hfX hkX hcellA (by rw [hhp, hT]; exact Nat.le_refl _) (msg := .ref sa) rfl
    (g := { method := m, pc := pc + 6, locals := ls, stack := .ref sa :: .ref T.heap.size :: .ref T.heap.size :: rest, locked := none }) rfl hsize rfl rfl (rest := rest) rfl
    (by rw [hb]; exact d6) (by rw [hb]; exact d9) hout hRframes (by simp only [List.map_cons, List.sum_cons, hcat]; omega) hlocks
  obtain ⟨f1, f2⟩ := vx_frame hsame
  rw [hhp] at f1 f2
  have hWs : s.WarmedH U.vm := State.WarmedH.trans hW0 hW
  have hcl : s.vm.findClass cls = some ce.cls := by
    have h9 := hO.cls
    rw [hvm] at h9
    exact h9
  have hall : s.sameButNew ({ U with vm := s.vm } : State) locs mc ms := by
    subst hA
    obtain ⟨e1, e2⟩ := hsame
    rw [State.setFrames_setFrames] at e1
    have h2 : (T.setVm s.vm).sameButNew ({ U with vm := s.vm } : State) [] (0 + 1) (0 + 6) := ⟨e1, e2⟩
    have h3 := X.same.trans h2
    rw [List.append_nil] at h3
    exact h3.mono hc hs
  refine ⟨U, ?_, .threw T.heap.size, hrun, hend, Or.inr ⟨T.heap.size, rfl, cls, ce, locs, hx U hWs.alike f1 (fun q hq => f2 q hq (fun z hz => nomatch hz)), hce, hO.vm, hcl, hWs, hall, hf⟩⟩
  refine st1 _ ?_
  show Steps p.tables e below (T1.setTop { method := m, pc := pc + 3, locals := ls, stack := .ref T.heap.size :: rest, locked := none }) _
  jvm_step X₁.here [X₁.here.top, hexec, d3', Value.category]
  exact X₁.ldcString hexec (own := own) (text := text) (index := is) (a := sa) hown' hstr'.1 hstr'.2
    (g := { method := m, pc := pc + 4, locals := ls, stack := .ref T.heap.size :: .ref T.heap.size :: rest, locked := none }) rfl d4' _ hsteps
/-- 'throw new E("text")', the text by a wide index -/
theorem vx_throwSW {cc : ByteArray} {pc : Nat} (hexec : p.tables.exec = Jvm.exec) (hb : c.code = cc) (hl : l.stackTraces = false) {own cls text : String} {names : List String} {ik is ic mc ms sa : Nat} {A : Nat → Prop}
    (hown : s.vm.findClass own = some m.cls) (hcls : Bundle.fit cls = true) (hnames : ∀ n ∈ names, Bundle.fit n = true)
    (hk : (Cond.classLink own ik cls).before args s = true) (hini : (Cond.initialized cls).before args s = true) (hstr : vk_R own is text sa s) (hat : ∀ w ∈ vx_atS own ic cls names, w.before args s = true)
    (hgood : ∀ w ∈ Cond.classLink own ik cls :: Cond.initialized cls :: vx_atS own ic cls names, vx_ot w = true)
    (hU : vx_Zq Bundle.tN "UNASSIGNED_STACK" Bundle.steD A s s.heap) (hN : vx_Zq Bundle.tN "SUPPRESSED_SENTINEL" Bundle.listD A s s.heap) (hS : va_S A s.heap H locs) (hsize : ls.size = c.maxLocals)
    (d0 : decode cc pc = .ok (.new ik, 3)) (d3 : decode cc (pc + 3) = .ok (.dup, 1)) (d4 : decode cc (pc + 4) = .ok (.ldc_w is, 3)) (d7 : decode cc (pc + 7) = .ok (.invokespecial ic, 3)) (d10 : decode cc (pc + 10) = .ok (.athrow, 1))
    (hout : ∀ x ∈ c.exceptionTable.toList, covers x (pc + 10) = false)
    (hRframes : names.length + 3 < R.frames) (hRlocals : (rest.map fun v => v.category).sum + (13 * (names.length + 1) + 43) ≤ R.locals) (hRcells : cells + 1 ≤ R.cells) (hRslots : slots + 6 ≤ R.slots) (hlocks : meth.locks = false)
    (hx : ∀ t : State, s.vm.Alike t.vm → H.size ≤ t.heap.size → (∀ q : Nat, q < H.size → t.heap[q]? = H[q]?) → XC cls s t)
    (hf : ∀ z ∈ locs, free z.base) (hc : cells + 1 ≤ mc) (hs : slots + 6 ≤ ms) :
    W p l e R s m args below meth c H locs cells slots (vx_MQ below Qc XC args s mc ms free) (F0 m pc ls rest) := by
  intro T hT X
  have htr : e.platform.stackTraces = false := (show e.platform.stackTraces = l.stackTraces by rw [X.admits.platform]).trans hl
  have Y := vx_rebase X (R' := { frames := R.frames, locals := R.locals, cells := 1, slots := 6 }) (Nat.le_refl _) (Nat.le_refl _) hRcells hRslots
  obtain ⟨s', hA⟩ : ∃ z, z = (T.setVm s.vm).setFrames (.invoking m args :: below) := ⟨_, rfl⟩
  rw [← hA] at Y
  have hvm : s'.vm = s.vm := by rw [hA]; rfl
  have hhp : s'.heap = H := by rw [hA]; exact hT
  have hW0 : s.WarmedH s'.vm := by rw [hvm]; exact State.WarmedH.refl s
  have hat' : ∀ w ∈ vx_atS own ic cls names, w.before args s' = true := fun w hw => vx_ot_at hW0 hvm.symm (hgood w (List.mem_cons_of_mem _ (List.mem_cons_of_mem _ hw))) (hat w hw)
  have hk' : (Cond.classLink own ik cls).before args s' = true := vx_ot_at hW0 hvm.symm (hgood _ List.mem_cons_self) hk
  have hini' : (Cond.initialized cls).before args s' = true := vx_ot_at hW0 hvm.symm (hgood _ (List.mem_cons_of_mem _ List.mem_cons_self)) hini
  have hU' : vx_Zq Bundle.tN "UNASSIGNED_STACK" Bundle.steD A s' s'.heap := by rw [hhp]; exact vx_Zq.moved hW0.alike (hU.kept hS.2.1)
  have hN' : vx_Zq Bundle.tN "SUPPRESSED_SENTINEL" Bundle.listD A s' s'.heap := by rw [hhp]; exact vx_Zq.moved hW0.alike (hN.kept hS.2.1)
  have h : ∀ w ∈ Bundle.ownAtoms own ic cls names, w.before args s' = true := vx_own hat' (vx_isRefq hU'.1) (vx_isRefq hN'.1) hU'.2.word hN'.2.word
  have hown' : s'.vm.findClass own = some m.cls := by rw [hvm]; exact hown
  have hins : (Cond.instantiable cls 6).before args s' = true := h _ (by simp [Bundle.ownAtoms])
  obtain ⟨vm₁, cX, kX, hfX, hkX, -, -, X₁, st1⟩ := Y.newCold hexec (own := own) (C := cls) (index := ik) (n := 6) hown' hk' hins hini'
    (g := F0 m pc ls rest) rfl (by rw [hb]; exact d0) (Nat.le_refl _) (Nat.le_refl _)
  generalize hT1 : (T.setVm vm₁).pushCell { cls := cX, slots := kX.instanceTypes.map defaultValue, vm := .none } = T1 at X₁ st1
  have hcat : (Value.ref T.heap.size).category = 1 := rfl
  have hcellA : T1.heap[T.heap.size]? = some (freshCell cX kX) := by rw [← hT1]; exact State.heap_pushCell_size _ _
  have d3' : decode c.code (pc + 3) = .ok (.dup, 1) := by rw [hb]; exact d3
  have d4' : decode c.code (pc + 4) = .ok (.ldc_w is, 3) := by rw [hb]; exact d4
  have hstr' : vk_R own is text sa s' := vk_R.warm hW0 hstr
  obtain ⟨U, hsteps, hrun, hend, hW, hsame, ce, hce, hO⟩ := X₁.ctorThrowS hexec htr (own := own) (cls := cls) (names := names) (ic := ic) hown' hcls hnames h (fun x hx => nomatch hx) hfX hkX hcellA (by rw [hhp, hT]; exact Nat.le_refl _) (msg := .ref sa) rfl
    (g := { method := m, pc := pc + 7, locals := ls, stack := .ref sa :: .ref T.heap.size :: .ref T.heap.size :: rest, locked := none }) rfl hsize rfl rfl (rest := rest) rfl
    (by rw [hb]; exact d7) (by rw [hb]; exact d10) hout hRframes (by simp only [List.map_cons, List.sum_cons, hcat]; omega) hlocks
  obtain ⟨f1, f2⟩ := vx_frame hsame
  rw [hhp] at f1 f2
  have hWs : s.WarmedH U.vm := State.WarmedH.trans hW0 hW
  have hcl : s.vm.findClass cls = some ce.cls := by
    have h9 := hO.cls
    rw [hvm] at h9
    exact h9
  have hall : s.sameButNew ({ U with vm := s.vm } : State) locs mc ms := by
    subst hA
    obtain ⟨e1, e2⟩ := hsame
    rw [State.setFrames_setFrames] at e1
    have h2 : (T.setVm s.vm).sameButNew ({ U with vm := s.vm } : State) [] (0 + 1) (0 + 6) := ⟨e1, e2⟩
    have h3 := X.same.trans h2
    rw [List.append_nil] at h3
    exact h3.mono hc hs
  refine ⟨U, ?_, .threw T.heap.size, hrun, hend, Or.inr ⟨T.heap.size, rfl, cls, ce, locs, hx U hWs.alike f1 (fun q hq => f2 q hq (fun z hz => nomatch hz)), hce, hO.vm, hcl, hWs, hall, hf⟩⟩
  refine st1 _ ?_
  show Steps p.tables e below (T1.setTop { method := m, pc := pc + 3, locals := ls, stack := .ref T.heap.size :: rest, locked := none }) _
  jvm_step X₁.here [X₁.here.top, hexec, d3', Value.category]
  exact X₁.ldcStringW hexec (own := own) (text := text) (index := is) (a := sa) hown' hstr'.1 hstr'.2
    (g := { method := m, pc := pc + 4, locals := ls, stack := .ref T.heap.size :: .ref T.heap.size :: rest, locked := none }) rfl d4' _ hsteps
end Ends
section Bodies
variable {l : Launch}
theorem vx_ofW {y : MethodName} {ws ws' : List Cond} {rm : Room} {Pc : Array Value → State → Prop} {Qc : Array Value → State → Outcome → State → Prop} {XC : String → State → State → Prop} {mc ms : Nat} {free : Addr → Prop} {cc : ByteArray} {maxL : Nat} {ret : Option FieldType}
    (hy : plainName y.cls = true) (hw : ws = Cond.code y cc maxL ret :: ws')
    (body : ∀ p e s m args below meth c s₁, BodyLoose p l y (headSpec ws rm) cc maxL ret e s m args below meth c s₁ → c.maxLocals = maxL → (∀ x ∈ c.exceptionTable.toList, False) → Pc args s →
      W p l e (headSpec ws rm).room s m args below meth c s.heap [] 0 0 (vx_MQ below Qc XC args s mc ms free) (entryFrame m args maxL)) : vx_Met l y ws rm Pc Qc XC mc ms free := by
  refine MetFree.of_bodyS (code := cc) (maxLocals := maxL) (ret := ret) hy ?_ ?_
  · intro args s m h hn
    obtain ⟨meth, c, h1, h2, h3, h4, h5, h6, -, -⟩ := Cond.code_spec hn (atoms_spec (ws := ws) h _ (by rw [hw]; exact List.mem_cons_self))
    exact ⟨meth, c, h1, h2, h3, h4, h5, h6⟩
  · intro p e s m args below meth c s₁ B hml hP _
    have hh0 : s₁.heap = s.heap := by rw [B.state]; rfl
    have ht : ∀ x ∈ c.exceptionTable.toList, False := by
      obtain ⟨meth9, c9, h1, h2, -, -, -, -, h7, -⟩ := Cond.code_spec B.named (atoms_spec (ws := ws) B.pre _ (by rw [hw]; exact List.mem_cons_self))
      cases Option.some.inj (h1.symm.trans B.method)
      cases Option.some.inj (h2.symm.trans (Stand.of_body B).code)
      intro x hx
      rw [Array.isEmpty_iff.mp h7] at hx
      cases hx
    obtain ⟨t, a1, o, b1, b2, b3⟩ := body p e s m args below meth c s₁ B hml ht hP s₁ hh0 (Stand.of_body B)
    exact ⟨t, o, a1, b1, b2, b3⟩
/-- the table of a body with handlers -/
theorem vx_table {p : Program} {x y : MethodName} {S : Spec} {cc bytes : ByteArray} {maxL maxL' : Nat} {ret ret' : Option FieldType} {e : Env} {s s₁ : State} {m : MethodId} {args : Array Value} {below : List Frame} {meth : Method} {c : Code} {hh : List (Nat × Nat × Nat × Nat)}
    (B : BodyLoose p l y S cc maxL ret e s m args below meth c s₁) (h : (Cond.codeWith y bytes maxL' ret' hh).before args s = true) : c.exceptionTable.toList = tableOf hh := by
  obtain ⟨m9, meth9, c9, hn9, h1, h2, -, -, h6, -⟩ := Cond.codeWith_spec h
  cases Option.some.inj (hn9.symm.trans B.named)
  cases Option.some.inj (h1.symm.trans B.method)
  cases Option.some.inj (h2.symm.trans (Stand.of_body B).code)
  rw [← h6, table_eq]
end Bodies
end VXA
/-! ===== END ===== -/
/-! ===== BEGIN a static call of a method with an exception table ===== -/
section VXS
variable {p : Program} {l : Launch} {e : Env} {R : Room} {s : State} {m : MethodId} {args : Array Value} {below : List Frame} {meth : Method} {c : Code} {T : State} {H : Heap} {locs : List Loc} {cells slots : Nat}
abbrev vx_CSW (R : Room) (s : State) (args : Array Value) (own : String) (index : Nat) (y : MethodName) (bytes : ByteArray) (maxL : Nat) (ret : Option FieldType) (hh : List (Nat × Nat × Nat × Nat)) (ws : List Cond) (rm : Room) (mc ms n : Nat) : Prop :=
  (rm.cells = mc ∧ rm.slots = ms ∧ rm.frames + 1 ≤ R.frames ∧ 8 + (maxL + 11) + rm.locals ≤ R.locals ∧ (∀ w ∈ ws, ∀ (a' : Array Value) (U : State), s.WarmedH U.vm → w.before a' U = true) ∧ Cond.codeWith y bytes maxL ret hh ∈ ws) ∧
  (Cond.codeWith y bytes maxL ret hh).before args s = true ∧ (Cond.initialized y.cls).before args s = true ∧ (y.cls ≠ "java/lang/invoke/MethodHandle" ∧ y.cls ≠ "java/lang/invoke/VarHandle") ∧
  (∀ sig, parseMethodDescriptor y.desc = some sig → n = sig.parameters.length) ∧ (Cond.methodLink own index y).before args s = true ∧ (Cond.static y).before args s = true
theorem vx_cwSW {own : String} {index maxL mc ms : Nat} {y : MethodName} {bytes : ByteArray} {ret : Option FieldType} {hh : List (Nat × Nat × Nat × Nat)} {Ts ws ws' : List Cond} {rm : Room} (n : Nat) (ht : ∀ w ∈ Ts, w.before args s = true) (hT : GoodIn Ts (va_wsS own index y ws)) (hw : ws = Cond.codeWith y bytes maxL ret hh :: ws') (hrc : rm.cells = mc) (hrs : rm.slots = ms)
    (hd : y.cls ≠ "java/lang/invoke/MethodHandle" ∧ y.cls ≠ "java/lang/invoke/VarHandle" ∧ (parseMethodDescriptor y.desc).map (fun d => d.parameters.length) = some n) (hR : rm.frames + 1 ≤ R.frames ∧ 8 + (maxL + 11) + rm.locals ≤ R.locals) :
    vx_CSW R s args own index y bytes maxL ret hh ws rm mc ms n := by
  have ok : ∀ w ∈ va_wsS own index y ws, w.before args s = true := fun w h => ht w (hT w h).1
  have hG : GoodIn Ts ws := fun w h => hT w (by unfold va_wsS; exact List.mem_append_right _ h)
  have hc : Cond.codeWith y bytes maxL ret hh ∈ ws := by rw [hw]; exact List.mem_cons_self
  refine ⟨⟨hrc, hrs, hR.1, hR.2, pay_in ht hG, hc⟩, ht _ (hG _ hc).1, ok _ (by simp [va_wsS]), ⟨hd.1, hd.2.1⟩, fun sig h => ?_, ok _ (by simp [va_wsS]), ok _ (by simp [va_wsS])⟩
  have h2 := hd.2.2
  rw [h] at h2
  exact (Option.some.inj h2).symm
theorem vx_callSW (X : Stand p l e R s m args below meth c T locs cells slots) (hexec : p.tables.exec = Jvm.exec) {own : String} {index : Nat} {y : MethodName} {bytes : ByteArray} {maxL : Nat} {ret : Option FieldType} {hh : List (Nat × Nat × Nat × Nat)}
    (hown : s.vm.findClass own = some m.cls) (hlink : (Cond.methodLink own index y).before args s = true) (hstat : (Cond.static y).before args s = true) (hinit : (Cond.initialized y.cls).before args s = true)
    (hcode : (Cond.codeWith y bytes maxL ret hh).before args s = true) (hy : y.cls ≠ "java/lang/invoke/MethodHandle" ∧ y.cls ≠ "java/lang/invoke/VarHandle")
    {W9 : Nat} {Pre : Pt → Array Value → Prop} {Post : Pt → Array Value → Option Value → Pt → Prop} (hK : Back l R p e below s args y 3 W9 Pre Post)
    {g : JFrame} (hg : g.method = m) (hsize : g.locals.size = c.maxLocals) {argsL rest : List Value} (hlen : ∀ sig, parseMethodDescriptor y.desc = some sig → argsL.length = sig.parameters.length)
    (hstack : g.stack = argsL.reverse ++ rest) (hW : 2 * g.monitorRoom + (rest.map fun v => v.category).sum ≤ W9) (hdg : decode c.code g.pc = .ok (.invokestatic index, 3))
    (hpre : ∀ vm₁, s.WarmedH vm₁ → Pre ⟨T.setVm vm₁, locs, cells, slots⟩ argsL.toArray) :
    ∃ (v : Option Value) (vm₁ : Vm) (B : Pt), s.WarmedH vm₁ ∧ Stand p l e R s m args below meth c B.U B.locs B.cells B.slots ∧ Post ⟨T.setVm vm₁, locs, cells, slots⟩ argsL.toArray v B ∧
      ∀ target, Steps p.tables e below (B.U.setTop { g with pc := g.pc + 3, stack := v.toList ++ rest }) target → Steps p.tables e below (T.setTop g) target := by
  obtain ⟨mk, methM, cM, hnamed, hmethM, -, -, -, -, -, -, hsigM⟩ := Cond.codeWith_spec hcode
  have hstatic : methM.isStatic = true := Cond.static_spec hnamed hmethM hstat
  obtain ⟨kP, hkP, -⟩ := className_of_methodNamed hnamed
  have hinitP : kP.init = .initialized := Cond.initialized_spec (findClass_of_methodNamed hnamed) hkP hinit
  obtain ⟨vm₁, X₁, hstep₁⟩ := X.invokestatic hexec hown hlink hnamed hmethM hstatic hkP hinitP hy (g := g) hg (argsL := argsL) (rest := rest) (hlen _ hsigM) hstack hdg
  obtain ⟨v, B, X', hpost, hsteps⟩ := hK m meth c ⟨T.setVm vm₁, locs, cells, slots⟩ { g with stack := rest } (.invokestatic index) mk argsL.toArray X₁ hg hsize hdg hW (X₁.named hnamed) (hpre vm₁ X₁.warmed)
  exact ⟨v, vm₁, B, X₁.warmed, X', hpost, fun target h => hstep₁ _ fun acts => by rw [doInvoke_state]; exact hsteps.trans h⟩
theorem vx_runSW {y : MethodName} {bytes cc : ByteArray} {maxL nL mc ms n index : Nat} {ret : Option FieldType} {hh : List (Nat × Nat × Nat × Nat)} {ws : List Cond} {rm : Room} {Pc : Array Value → State → Prop} {Qc : Array Value → State → Outcome → State → Prop} {free : Addr → Prop} {Ts : List Cond} {own : String} {As rest : List Value} {g : JFrame}
    (S : CallFix p m c cc nL s args Ts own) (hM : Met l y ws rm Pc Qc mc ms free) (cw : vx_CSW R s args own index y bytes maxL ret hh ws rm mc ms n) (hp : PreS s H Pc As)
    (hg : g.method = m) (hn : As.length = n) (hsize : g.locals.size = nL) (hstack : g.stack = As.reverse ++ rest) (hW : 2 * g.monitorRoom + (rest.map fun v => v.category).sum ≤ 8) (hdg : decode cc g.pc = .ok (.invokestatic index, 3)) (hf : cells + mc ≤ R.cells ∧ slots + ms ≤ R.slots) :
    va_Run p l e R s m args below meth c H locs cells slots mc ms g rest (Qc As.toArray) (free) := by
  obtain ⟨⟨hrc, hrs, hfr, hlo, hws, hcw⟩, hcode, hini, hy, hlen, hl, hstt⟩ := cw
  have hK : Back l R p e below s args y 3 8 (PreOf R mc ms Pc) (PostOf Qc mc ms free) := va_backW (hh := hh) (bytes := bytes) (maxL := maxL) (ret := ret) hM hp.1 hrc hrs hfr hlo hws hcw (fun a' U hW => word_at hW (Or.inl (by first | rfl | simp [Cond.onTables, Cond.keeps, Cond.steady])) hini)
  obtain ⟨hx, hb, hml, ho, -⟩ := S
  intro T hT X
  obtain ⟨v, vm₁, ⟨U', l2, c2, s2⟩, hW₁, X', ⟨g', mk, t, L, e1, e2, hq, h1, hL, h2, h3⟩, st⟩ := vx_callSW X hx (hh := hh) (bytes := bytes) (maxL := maxL) (ret := ret) ho hl hstt hini hcode hy hK hg (hsize.trans hml.symm) (argsL := As) (rest := rest) (fun sig h => hn.trans (hlen sig h)) hstack hW (by rw [hb]; exact hdg)
    (fun vm₁ hW₁ => ⟨hf.1, hf.2, hp.2 (T.setVm vm₁) hT hW₁⟩)
  dsimp only [Pt.U, Pt.locs, Pt.cells, Pt.slots] at X' e1 e2 h1 h2 h3 st
  subst h1; subst h2; subst h3
  exact ⟨v, (T.setVm vm₁).calling g' mk As.toArray, t, U', L, hT, X', hL, e1, e2, hq, st⟩
/-- not caught here, past rows that name other classes: it goes on to the caller -/
theorem vx_outP {p : Program} {l : Launch} {e : Env} {R : Room} {s : State} {m : MethodId} {args : Array Value} {below : List Frame} {meth : Method} {c : Code} {H : Heap} {locs : List Loc} {cells slots : Nat} {free : Addr → Prop} {ls : Array Slot} {rest : List Value} {Qc : Array Value → State → Outcome → State → Prop} {XC : String → State → State → Prop}
    {pc : Nat} {own E : String} {ce : Cell} {q : Addr} {mc ms : Nat} (hown : s.vm.findClass own = some m.cls) (hlocks : meth.locks = false)
    (hpass : ∀ z ∈ c.exceptionTable.toList, covers z pc = false ∨ (z.catchType ≠ 0 ∧ ∃ nm : String, (Cond.classLink own z.catchType nm).before args s = true ∧ va_Nc E nm s)) (hcell : H[q]? = some ce) (hv : ce.vm = .none) (hcl : s.vm.findClass E = some ce.cls)
    (hx : ∀ t : State, t.heap = H → s.vm.Alike t.vm → XC E s t) (hf : ∀ z ∈ locs, free z.base) (hc : cells ≤ mc) (hs : slots ≤ ms) :
    vx_W p l e R s m args below meth c H locs cells slots (vx_MQ below Qc XC args s mc ms free) (F0 m pc ls rest) q := by
  intro T hT X
  have hpl : e.platform.magicAccessors = ({} : Platform).magicAccessors := by rw [X.admits.platform]
  obtain ⟨vm', hW', X', st⟩ := X.outThrough hlocks q (g := F0 m pc ls rest) rfl rfl rfl (cell := ce) (by rw [hT]; exact hcell) (by rw [hv]; rfl)
    (by obtain ⟨k9, h9, -⟩ := Vm.findClass_spec hcl; exact ⟨k9, h9⟩) (fun z hz => by
      rcases hpass z hz with h | ⟨hz0, nm, hl1, hn1⟩
      · exact Or.inl h
      · obtain ⟨c6, hc6, hcl6⟩ := Cond.classLink_spec hown hl1 e.platform hpl
        obtain ⟨a8, b8, h1, h2, h3⟩ := hn1
        cases Option.some.inj (h1.symm.trans hcl)
        cases Option.some.inj (h2.symm.trans hc6)
        exact Or.inr ⟨hz0, _, hcl6, h3⟩)
  obtain ⟨g₀, hfr⟩ := X'.frames_eq
  have hcell9 : ((T.setVm vm').setFrames (.throwing q :: below)).heap[q]? = some ce := by
    show T.heap[q]? = some ce
    rw [hT]; exact hcell
  have hend : Ended ((T.setVm vm').setFrames (.throwing q :: below)) below (.threw q) := State.frames_setFrames _ (State.cur_lt_of_frames hfr)
  refine ⟨(T.setVm vm').setFrames (.throwing q :: below), ?_, .threw q, X'.here.running, hend, Or.inr ⟨q, rfl, E, ce, locs, hx _ hT (X'.ends _).1.alike, hcell9, hv, hcl, (X'.ends _).1, (X'.ends _).2.mono hc hs, hf⟩⟩
  rw [X.pushThrowing_eq]
  exact st
/-- a thing of a world lies in the heap -/
theorem vx_lt {D : va_G} {cl : List vw_C} {ws : va_W} {H1 : Heap} (h : va_P D cl ws H1) {k : Nat} {q : Nat × va_E} (hk : ws[k]? = some q) : q.1 < H1.size := (h k q hk).lt
end VXS
/-! ===== END ===== -/
/-! ===== BEGIN methods with a table of their own: called by a name, returning or throwing ===== -/
section VXH
/-! vx_backW, vx_callVX, vx_callSX, vx_callVW, vx_runVW, vx_runVX, vx_runSX, vx_ofWH follow the same proofs as their sisters above (Free/Laws.lean, Shelf42/LK1.lean); vx_outP calls Shelf42/NT130.lean (outThrough). -/
section
variable {l : Launch} {R : Room} {p : Program} {e : Env} {below : List Frame} {s : State} {sargs : Array Value} {y : MethodName} {len W9 : Nat}
theorem vx_backW {ws : List Cond} {rm : Room} {Pc : Array Value → State → Prop} {Qc : Array Value → State → Outcome → State → Prop} {XC : String → State → State → Prop} {mc ms : Nat} {free : Addr → Prop} {bytes : ByteArray} {maxL : Nat} {ret : Option FieldType} {hh : List (Nat × Nat × Nat × Nat)}
    (hM : vx_Met l y ws rm Pc Qc XC mc ms free) (hblind : FrameBlind Pc) (hrc : rm.cells = mc) (hrs : rm.slots = ms)
    (hframes : rm.frames + 1 ≤ R.frames) (hlocals : W9 + (maxL + 11) + rm.locals ≤ R.locals)
    (hws : ∀ w ∈ ws, ∀ a' U, s.WarmedH U.vm → w.before a' U = true) (hcode : Cond.codeWith y bytes maxL ret hh ∈ ws) (hinit : ∀ a' U, s.WarmedH U.vm → (Cond.initialized y.cls).before a' U = true) :
    vx_Back l R p e below s sargs y len W9 (PreOf R mc ms Pc) (PostOf Qc mc ms free) (vx_Post XC mc ms free) := by
  intro m meth c A g ig mk a X hg hsize hdg hW hn hp
  have h1 : (headSpec ws rm).pre.before a A.U = true := atoms_intro fun w hw => hws w hw _ _ X.warmed
  have h2 : (Cond.codeWith y bytes maxL ret hh).before a A.U = true := hws _ hcode _ _ X.warmed
  have h3 : (Cond.initialized y.cls).before a A.U = true := hinit _ _ X.warmed
  have h4 : A.cells + (headSpec ws rm).room.cells ≤ R.cells := by rw [show (headSpec ws rm).room.cells = mc from hrc]; exact hp.1
  have h5 : A.slots + (headSpec ws rm).room.slots ≤ R.slots := by rw [show (headSpec ws rm).room.slots = ms from hrs]; exact hp.2.1
  have hPc : Pc a (A.U.calling g mk a) := hblind _ _ _ _ hp.2.2
  obtain ⟨U, Ls, c0, s0⟩ := A
  dsimp only [Pt.U, Pt.locs, Pt.cells, Pt.slots] at h1 h2 h3 h4 h5 X hn hPc ⊢
  obtain ⟨m9, methY, cY, hn9, hmY, hcY, -, hlY, -⟩ := Cond.codeWith_spec h2
  cases Option.some.inj (hn9.symm.trans hn)
  obtain ⟨kY, hkY, -⟩ := className_of_methodNamed hn
  have hinitY : kY.init = .initialized := Cond.initialized_spec (findClass_of_methodNamed hn) hkY h3
  have h : At U g.method c below := by rw [hg]; exact X.here
  have hlocals9 : W9 + (maxL + 11) + (headSpec ws rm).room.locals ≤ R.locals := hlocals
  have happ : (headSpec ws rm).appliesLoose y e.platform (U.calling g mk a) = true :=
    Spec.appliesLoose_calling (g := g) h hdg hn hkY hinitY
      (X.room_calling (g := g) (R' := (headSpec ws rm).room) hsize hmY hcY hframes (by rw [hlY]; omega) h4 h5) h1
  obtain ⟨mid, hmid⟩ := h.above
  have hfr : (U.setTop g).frames = (.java g :: mid) ++ below := by rw [State.frames_setTop' g h.top, hmid]; rfl
  obtain ⟨o, s₂, hsteps, -, hend, hq⟩ := Steps.callFree hM p X.admits X.cas X.clock (acts := []) hfr happ hPc trivial
  have hq' : vx_Q Qc XC mc ms free a (U.calling g mk a) o s₂ := hq
  rw [State.frames_setTop' g h.top] at hend
  obtain ⟨g₀, hg0⟩ := Option.isSome_iff_exists.mp h.top
  obtain ⟨r, hr⟩ := State.topJava?_eq_some.mp hg0
  have hr' : (({ U with heap := s₂.heap, slotsUsed := s₂.slotsUsed } : State).setVm s₂.vm).frames = .java g₀ :: r := hr
  rcases hq' with ⟨hqc, L, hfe, hL⟩ | ⟨q, rfl, E, ce, L, hx, hce, hcv, hcl, hW₂, hsm, hL⟩
  · obtain ⟨⟨v, rfl⟩, hW₂, e2, q2, q3, q4, q5, q6⟩ := id hfe
    have e3 : s₂ = ({ (U.calling g mk a).setFrames s₂.frames with heap := s₂.heap, slotsUsed := s₂.slotsUsed } : State).setVm s₂.vm := by
      have : s₂ = ({ s₂ with vm := (U.calling g mk a).vm } : State).setVm s₂.vm := rfl
      rw [e2] at this
      exact this
    obtain ⟨c₂, i₂, len₂, hc₂, hd₂, hf₂⟩ := hend
    have hW' : U.WarmedH s₂.vm := hW₂
    have hcc : c₂ = c := by
      have h1 : s₂.code? g.method = U.code? g.method := by
        rw [State.code?_eq, State.code?_eq, hW'.alike.method?]
      exact Option.some.inj (hc₂.symm.trans (h1.trans h.code))
    subst hcc
    have hlen : len₂ = len := by rw [hdg] at hd₂; cases hd₂; rfl
    subst hlen
    have hs₂ : s₂ = (({ U with heap := s₂.heap, slotsUsed := s₂.slotsUsed } : State).setVm s₂.vm).setTop { g with pc := g.pc + len₂, stack := v.toList ++ g.stack } := by
      refine e3.trans ?_
      rw [hf₂, State.calling_eq h.top, State.setFrames_setFrames, State.setTop_of_frames _ hr', hr]
      rfl
    have hsame : U.sameButNew ({ U with heap := s₂.heap, slotsUsed := s₂.slotsUsed } : State) L mc ms := by
      refine ⟨?_, q2, q3, q4, q5, q6⟩
      obtain ⟨t, ht, -⟩ := State.frames_cons hr
      show ({ U with heap := s₂.heap, slotsUsed := s₂.slotsUsed } : State) = { U.setFrames U.frames with heap := s₂.heap, slotsUsed := s₂.slotsUsed }
      rw [State.setFrames_self ht]
    subst hg
    refine Or.inl ⟨v, ⟨(({ U with heap := s₂.heap, slotsUsed := s₂.slotsUsed } : State).setVm s₂.vm), Ls ++ L, c0 + mc, s0 + ms⟩,
      ⟨X.admits, X.cas, X.clock, X.frames, X.room, X.hears, X.method, X.code, (X.here.setHeapUsed s₂.heap s₂.slotsUsed).setVm hW'.alike, X.tail, State.WarmedH.trans X.warmed hW', X.limits, X.bytes, X.same.trans (hsame.setVm s.vm)⟩,
      ⟨g, mk, s₂, L, rfl, rfl, hqc, rfl, hL, rfl, rfl⟩, ?_⟩
    show Steps p.tables e below _ ((({ U with heap := s₂.heap, slotsUsed := s₂.slotsUsed } : State).setVm s₂.vm).setTop { g with pc := g.pc + len₂, stack := v.toList ++ g.stack })
    rw [← hs₂]
    exact hsteps
  · obtain ⟨e2, q2, q3, q4, q5, q6⟩ := id hsm
    have e3 : s₂ = ({ (U.calling g mk a).setFrames s₂.frames with heap := s₂.heap, slotsUsed := s₂.slotsUsed } : State).setVm s₂.vm := by
      have : s₂ = ({ s₂ with vm := (U.calling g mk a).vm } : State).setVm s₂.vm := rfl
      rw [e2] at this
      exact this
    have hf₂ : s₂.frames = .throwing q :: .java g :: U.frames.tail := hend
    have hW' : U.WarmedH s₂.vm := hW₂
    have hs₂ : s₂ = ((({ U with heap := s₂.heap, slotsUsed := s₂.slotsUsed } : State).setVm s₂.vm).setTop g).pushFrame (.throwing q) := by
      refine e3.trans ?_
      rw [hf₂, State.calling_eq h.top, State.setFrames_setFrames, State.pushFrame, State.frames_setTop _ hr', State.setTop_of_frames _ hr', State.setFrames_setFrames, hr]
      rfl
    have hsame : U.sameButNew ({ U with heap := s₂.heap, slotsUsed := s₂.slotsUsed } : State) L mc ms := by
      refine ⟨?_, q2, q3, q4, q5, q6⟩
      obtain ⟨t, ht, -⟩ := State.frames_cons hr
      show ({ U with heap := s₂.heap, slotsUsed := s₂.slotsUsed } : State) = { U.setFrames U.frames with heap := s₂.heap, slotsUsed := s₂.slotsUsed }
      rw [State.setFrames_self ht]
    subst hg
    refine Or.inr ⟨q, ⟨(({ U with heap := s₂.heap, slotsUsed := s₂.slotsUsed } : State).setVm s₂.vm), Ls ++ L, c0 + mc, s0 + ms⟩,
      ⟨X.admits, X.cas, X.clock, X.frames, X.room, X.hears, X.method, X.code, (X.here.setHeapUsed s₂.heap s₂.slotsUsed).setVm hW'.alike, X.tail, State.WarmedH.trans X.warmed hW', X.limits, X.bytes, X.same.trans (hsame.setVm s.vm)⟩,
      ⟨g, mk, s₂, L, E, ce, rfl, rfl, hx, hce, hcv, hcl, rfl, hL, rfl, rfl⟩, ?_⟩
    show Steps p.tables e below _ (((({ U with heap := s₂.heap, slotsUsed := s₂.slotsUsed } : State).setVm s₂.vm).setTop g).pushFrame (.throwing q))
    rw [← hs₂]
    exact hsteps
end
variable {p : Program} {l : Launch} {e : Env} {R : Room} {s : State} {m : MethodId} {args : Array Value} {below : List Frame} {meth : Method} {c : Code} {T : State} {H : Heap} {locs : List Loc} {cells slots : Nat}
theorem vx_callVX (X : Stand p l e R s m args below meth c T locs cells slots) (hexec : p.tables.exec = Jvm.exec) {own C : String} {index : Nat} {y : MethodName} {bytes : ByteArray} {maxL : Nat} {ret : Option FieldType} {hh : List (Nat × Nat × Nat × Nat)}
    (hown : s.vm.findClass own = some m.cls) (hlink : (Cond.methodLink own index y).before args s = true) (hinst : (Cond.instanceMethod y).before args s = true) (hsel : (Cond.selects C y y).before args s = true)
    (hcode : (Cond.codeWith y bytes maxL ret hh).before args s = true) (hy : y.cls ≠ "java/lang/invoke/MethodHandle" ∧ y.cls ≠ "java/lang/invoke/VarHandle")
    {W9 : Nat} {Pre : Pt → Array Value → Prop} {Post : Pt → Array Value → Option Value → Pt → Prop} {PostX : Pt → Array Value → Addr → Pt → Prop} (hK : vx_Back l R p e below s args y 3 W9 Pre Post PostX)
    {b : Addr} {cellB : Cell} (hcell : T.heap[b]? = some cellB) (hobj : cellB.vm.isStatics = false) (hcls : s.vm.findClass C = some cellB.cls)
    {g : JFrame} (hg : g.method = m) (hsize : g.locals.size = c.maxLocals) {argsL rest : List Value} (hlen : ∀ sig, parseMethodDescriptor y.desc = some sig → argsL.length = sig.parameters.length)
    (hstack : g.stack = argsL.reverse ++ .ref b :: rest) (hW : 2 * g.monitorRoom + (rest.map fun v => v.category).sum ≤ W9) (hdg : decode c.code g.pc = .ok (.invokevirtual index, 3))
    (hpre : ∀ vm₁, s.WarmedH vm₁ → Pre ⟨T.setVm vm₁, locs, cells, slots⟩ (Value.ref b :: argsL).toArray) :
    (∃ (v : Option Value) (vm₁ : Vm) (B : Pt), s.WarmedH vm₁ ∧ Stand p l e R s m args below meth c B.U B.locs B.cells B.slots ∧ Post ⟨T.setVm vm₁, locs, cells, slots⟩ (Value.ref b :: argsL).toArray v B ∧
      ∀ target, Steps p.tables e below (B.U.setTop { g with pc := g.pc + 3, stack := v.toList ++ rest }) target → Steps p.tables e below (T.setTop g) target) ∨
    (∃ (q : Addr) (vm₁ : Vm) (B : Pt), s.WarmedH vm₁ ∧ Stand p l e R s m args below meth c B.U B.locs B.cells B.slots ∧ PostX ⟨T.setVm vm₁, locs, cells, slots⟩ (Value.ref b :: argsL).toArray q B ∧
      Steps p.tables e below (T.setTop g) ((B.U.setTop { g with stack := rest }).pushFrame (.throwing q))) := by
  obtain ⟨mk, methM, hnamed, hmethM, hstM, habM⟩ := Cond.instanceMethod_spec hinst
  obtain ⟨m8, methM', cM, hn8, hmethM', -, -, -, -, -, -, hsigM⟩ := Cond.codeWith_spec hcode
  cases Option.some.inj (hn8.symm.trans hnamed)
  cases hmethM.symm.trans hmethM'
  obtain ⟨c2, r2, m2, q1, q2, q3, q4, kP, hkP, hkPi⟩ := Cond.selects_spec hsel
  cases hcls.symm.trans q1
  cases (State.methodFound?_of_named hnamed hy).symm.trans q2
  cases hnamed.symm.trans q3
  have hselP : selectMethod e.platform s.vm cellB.cls mk = .method mk := by rw [Launch.admits_selectMethod X.admits]; exact q4
  obtain ⟨vm₁, X₁, hstep₁⟩ := X.invokevirtual hexec hown hlink hnamed hmethM hstM hkP hkPi hy (a := b) (cell := cellB) hcell
    (fun z h => by rw [h] at hobj; cases hobj) hselP hmethM habM hkP hkPi (g := g) hg (argsL := argsL) (rest := rest) (hlen _ hsigM) hstack hdg
  rcases hK m meth c ⟨T.setVm vm₁, locs, cells, slots⟩ { g with stack := rest } (.invokevirtual index) mk (Value.ref b :: argsL).toArray X₁ hg hsize hdg hW (X₁.named hnamed) (hpre vm₁ X₁.warmed) with ⟨v, B, X', hpost, hsteps⟩ | ⟨q, B, X', hpost, hsteps⟩
  · exact Or.inl ⟨v, vm₁, B, X₁.warmed, X', hpost, fun target h => hstep₁ _ fun acts => by rw [doInvoke_state]; exact hsteps.trans h⟩
  · exact Or.inr ⟨q, vm₁, B, X₁.warmed, X', hpost, hstep₁ _ fun acts => by rw [doInvoke_state]; exact hsteps⟩
theorem vx_callSX (X : Stand p l e R s m args below meth c T locs cells slots) (hexec : p.tables.exec = Jvm.exec) {own : String} {index : Nat} {y : MethodName} {bytes : ByteArray} {maxL : Nat} {ret : Option FieldType} {hh : List (Nat × Nat × Nat × Nat)}
    (hown : s.vm.findClass own = some m.cls) (hlink : (Cond.methodLink own index y).before args s = true) (hstat : (Cond.static y).before args s = true) (hinit : (Cond.initialized y.cls).before args s = true)
    (hcode : (Cond.codeWith y bytes maxL ret hh).before args s = true) (hy : y.cls ≠ "java/lang/invoke/MethodHandle" ∧ y.cls ≠ "java/lang/invoke/VarHandle")
    {W9 : Nat} {Pre : Pt → Array Value → Prop} {Post : Pt → Array Value → Option Value → Pt → Prop} {PostX : Pt → Array Value → Addr → Pt → Prop} (hK : vx_Back l R p e below s args y 3 W9 Pre Post PostX)
    {g : JFrame} (hg : g.method = m) (hsize : g.locals.size = c.maxLocals) {argsL rest : List Value} (hlen : ∀ sig, parseMethodDescriptor y.desc = some sig → argsL.length = sig.parameters.length)
    (hstack : g.stack = argsL.reverse ++ rest) (hW : 2 * g.monitorRoom + (rest.map fun v => v.category).sum ≤ W9) (hdg : decode c.code g.pc = .ok (.invokestatic index, 3))
    (hpre : ∀ vm₁, s.WarmedH vm₁ → Pre ⟨T.setVm vm₁, locs, cells, slots⟩ argsL.toArray) :
    (∃ (v : Option Value) (vm₁ : Vm) (B : Pt), s.WarmedH vm₁ ∧ Stand p l e R s m args below meth c B.U B.locs B.cells B.slots ∧ Post ⟨T.setVm vm₁, locs, cells, slots⟩ argsL.toArray v B ∧
      ∀ target, Steps p.tables e below (B.U.setTop { g with pc := g.pc + 3, stack := v.toList ++ rest }) target → Steps p.tables e below (T.setTop g) target) ∨
    (∃ (q : Addr) (vm₁ : Vm) (B : Pt), s.WarmedH vm₁ ∧ Stand p l e R s m args below meth c B.U B.locs B.cells B.slots ∧ PostX ⟨T.setVm vm₁, locs, cells, slots⟩ argsL.toArray q B ∧
      Steps p.tables e below (T.setTop g) ((B.U.setTop { g with stack := rest }).pushFrame (.throwing q))) := by
  obtain ⟨mk, methM, cM, hnamed, hmethM, -, -, -, -, -, -, hsigM⟩ := Cond.codeWith_spec hcode
  have hstatic : methM.isStatic = true := Cond.static_spec hnamed hmethM hstat
  obtain ⟨kP, hkP, -⟩ := className_of_methodNamed hnamed
  have hinitP : kP.init = .initialized := Cond.initialized_spec (findClass_of_methodNamed hnamed) hkP hinit
  obtain ⟨vm₁, X₁, hstep₁⟩ := X.invokestatic hexec hown hlink hnamed hmethM hstatic hkP hinitP hy (g := g) hg (argsL := argsL) (rest := rest) (hlen _ hsigM) hstack hdg
  rcases hK m meth c ⟨T.setVm vm₁, locs, cells, slots⟩ { g with stack := rest } (.invokestatic index) mk argsL.toArray X₁ hg hsize hdg hW (X₁.named hnamed) (hpre vm₁ X₁.warmed) with ⟨v, B, X', hpost, hsteps⟩ | ⟨q, B, X', hpost, hsteps⟩
  · exact Or.inl ⟨v, vm₁, B, X₁.warmed, X', hpost, fun target h => hstep₁ _ fun acts => by rw [doInvoke_state]; exact hsteps.trans h⟩
  · exact Or.inr ⟨q, vm₁, B, X₁.warmed, X', hpost, hstep₁ _ fun acts => by rw [doInvoke_state]; exact hsteps⟩
theorem vx_callVW (X : Stand p l e R s m args below meth c T locs cells slots) (hexec : p.tables.exec = Jvm.exec) {own C : String} {index : Nat} {y : MethodName} {bytes : ByteArray} {maxL : Nat} {ret : Option FieldType} {hh : List (Nat × Nat × Nat × Nat)}
    (hown : s.vm.findClass own = some m.cls) (hlink : (Cond.methodLink own index y).before args s = true) (hinst : (Cond.instanceMethod y).before args s = true) (hsel : (Cond.selects C y y).before args s = true)
    (hcode : (Cond.codeWith y bytes maxL ret hh).before args s = true) (hy : y.cls ≠ "java/lang/invoke/MethodHandle" ∧ y.cls ≠ "java/lang/invoke/VarHandle")
    {W9 : Nat} {Pre : Pt → Array Value → Prop} {Post : Pt → Array Value → Option Value → Pt → Prop} (hK : Back l R p e below s args y 3 W9 Pre Post)
    {b : Addr} {cellB : Cell} (hcell : T.heap[b]? = some cellB) (hobj : cellB.vm.isStatics = false) (hcls : s.vm.findClass C = some cellB.cls)
    {g : JFrame} (hg : g.method = m) (hsize : g.locals.size = c.maxLocals) {argsL rest : List Value} (hlen : ∀ sig, parseMethodDescriptor y.desc = some sig → argsL.length = sig.parameters.length)
    (hstack : g.stack = argsL.reverse ++ .ref b :: rest) (hW : 2 * g.monitorRoom + (rest.map fun v => v.category).sum ≤ W9) (hdg : decode c.code g.pc = .ok (.invokevirtual index, 3))
    (hpre : ∀ vm₁, s.WarmedH vm₁ → Pre ⟨T.setVm vm₁, locs, cells, slots⟩ (Value.ref b :: argsL).toArray) :
    ∃ (v : Option Value) (vm₁ : Vm) (B : Pt), s.WarmedH vm₁ ∧ Stand p l e R s m args below meth c B.U B.locs B.cells B.slots ∧ Post ⟨T.setVm vm₁, locs, cells, slots⟩ (Value.ref b :: argsL).toArray v B ∧
      ∀ target, Steps p.tables e below (B.U.setTop { g with pc := g.pc + 3, stack := v.toList ++ rest }) target → Steps p.tables e below (T.setTop g) target := by
  obtain ⟨mk, methM, hnamed, hmethM, hstM, habM⟩ := Cond.instanceMethod_spec hinst
  obtain ⟨m8, methM', cM, hn8, hmethM', -, -, -, -, -, -, hsigM⟩ := Cond.codeWith_spec hcode
  cases Option.some.inj (hn8.symm.trans hnamed)
  cases hmethM.symm.trans hmethM'
  obtain ⟨c2, r2, m2, q1, q2, q3, q4, kP, hkP, hkPi⟩ := Cond.selects_spec hsel
  cases hcls.symm.trans q1
  cases (State.methodFound?_of_named hnamed hy).symm.trans q2
  cases hnamed.symm.trans q3
  have hselP : selectMethod e.platform s.vm cellB.cls mk = .method mk := by rw [Launch.admits_selectMethod X.admits]; exact q4
  obtain ⟨vm₁, X₁, hstep₁⟩ := X.invokevirtual hexec hown hlink hnamed hmethM hstM hkP hkPi hy (a := b) (cell := cellB) hcell
    (fun z h => by rw [h] at hobj; cases hobj) hselP hmethM habM hkP hkPi (g := g) hg (argsL := argsL) (rest := rest) (hlen _ hsigM) hstack hdg
  obtain ⟨v, B, X', hpost, hsteps⟩ := hK m meth c ⟨T.setVm vm₁, locs, cells, slots⟩ { g with stack := rest } (.invokevirtual index) mk (Value.ref b :: argsL).toArray X₁ hg hsize hdg hW (X₁.named hnamed) (hpre vm₁ X₁.warmed)
  exact ⟨v, vm₁, B, X₁.warmed, X', hpost, fun target h => hstep₁ _ fun acts => by rw [doInvoke_state]; exact hsteps.trans h⟩
abbrev vx_CVW (R : Room) (s : State) (args : Array Value) (own C : String) (index : Nat) (y : MethodName) (bytes : ByteArray) (maxL : Nat) (ret : Option FieldType) (hh : List (Nat × Nat × Nat × Nat)) (ws : List Cond) (rm : Room) (mc ms n : Nat) : Prop :=
  (rm.cells = mc ∧ rm.slots = ms ∧ rm.frames + 1 ≤ R.frames ∧ 8 + (maxL + 11) + rm.locals ≤ R.locals ∧ (∀ w ∈ ws, ∀ (a' : Array Value) (U : State), s.WarmedH U.vm → w.before a' U = true) ∧ Cond.codeWith y bytes maxL ret hh ∈ ws) ∧
  (Cond.codeWith y bytes maxL ret hh).before args s = true ∧ (Cond.initialized y.cls).before args s = true ∧ (y.cls ≠ "java/lang/invoke/MethodHandle" ∧ y.cls ≠ "java/lang/invoke/VarHandle") ∧
  (∀ sig, parseMethodDescriptor y.desc = some sig → n = sig.parameters.length) ∧ (Cond.methodLink own index y).before args s = true ∧ (Cond.instanceMethod y).before args s = true ∧ (Cond.selects C y y).before args s = true
theorem vx_cwVW {own C : String} {index maxL mc ms : Nat} {y : MethodName} {bytes : ByteArray} {ret : Option FieldType} {hh : List (Nat × Nat × Nat × Nat)} {Ts ws ws' : List Cond} {rm : Room} (n : Nat) (ht : ∀ w ∈ Ts, w.before args s = true) (hT : GoodIn Ts (wsV own index C y ws)) (hw : ws = Cond.codeWith y bytes maxL ret hh :: ws') (hrc : rm.cells = mc) (hrs : rm.slots = ms)
    (hd : y.cls = C ∧ y.cls ≠ "java/lang/invoke/MethodHandle" ∧ y.cls ≠ "java/lang/invoke/VarHandle" ∧ (parseMethodDescriptor y.desc).map (fun d => d.parameters.length) = some n) (hR : rm.frames + 1 ≤ R.frames ∧ 8 + (maxL + 11) + rm.locals ≤ R.locals) :
    vx_CVW R s args own C index y bytes maxL ret hh ws rm mc ms n := by
  obtain ⟨hC, hd⟩ := hd
  subst hC
  have ok : ∀ w ∈ wsV own index y.cls y ws, w.before args s = true := fun w h => ht w (hT w h).1
  have hG : GoodIn Ts ws := fun w h => hT w (by unfold wsV; exact List.mem_append_right _ h)
  have hc : Cond.codeWith y bytes maxL ret hh ∈ ws := by rw [hw]; exact List.mem_cons_self
  refine ⟨⟨hrc, hrs, hR.1, hR.2, pay_in ht hG, hc⟩, ht _ (hG _ hc).1, ok _ (by simp [wsV]), ⟨hd.1, hd.2.1⟩, fun sig h => ?_, ok _ (by simp [wsV]), ok _ (by simp [wsV]), ok _ (by simp [wsV])⟩
  have h2 := hd.2.2
  rw [h] at h2
  exact (Option.some.inj h2).symm
theorem vx_runVW {y : MethodName} {bytes cc : ByteArray} {maxL nL mc ms n index : Nat} {ret : Option FieldType} {hh : List (Nat × Nat × Nat × Nat)} {ws : List Cond} {rm : Room} {Pc : Array Value → State → Prop} {Qc : Array Value → State → Outcome → State → Prop} {free : Addr → Prop} {Ts : List Cond} {own C : String} {b : Addr} {As rest : List Value} {g : JFrame}
    (S : CallFix p m c cc nL s args Ts own) (hM : Met l y ws rm Pc Qc mc ms free) (cw : vx_CVW R s args own C index y bytes maxL ret hh ws rm mc ms n) (hp : PreV s H C b Pc As)
    (hg : g.method = m) (hn : As.length = n) (hsize : g.locals.size = nL) (hstack : g.stack = As.reverse ++ .ref b :: rest) (hW : 2 * g.monitorRoom + (rest.map fun v => v.category).sum ≤ 8) (hdg : decode cc g.pc = .ok (.invokevirtual index, 3)) (hf : cells + mc ≤ R.cells ∧ slots + ms ≤ R.slots) :
    va_Run p l e R s m args below meth c H locs cells slots mc ms g rest (Qc (Value.ref b :: As).toArray) free := by
  obtain ⟨⟨hrc, hrs, hfr, hlo, hws, hcw⟩, hcode, hini, hy, hlen, hl, hin, hse⟩ := cw
  have hK : Back l R p e below s args y 3 8 (PreOf R mc ms Pc) (PostOf Qc mc ms free) := va_backW (hh := hh) (bytes := bytes) (maxL := maxL) (ret := ret) hM hp.1 hrc hrs hfr hlo hws hcw (fun a' U hW => word_at hW (Or.inl (by first | rfl | simp [Cond.onTables, Cond.keeps, Cond.steady])) hini)
  obtain ⟨hx, hb, hml, ho, -⟩ := S
  obtain ⟨-, ⟨cellB, hcB, hoB, hclB⟩, hPc⟩ := hp
  intro T hT X
  obtain ⟨v, vm₁, ⟨U', l2, c2, s2⟩, hW₁, X', ⟨g', mk, t, L, e1, e2, hq, h1, hL, h2, h3⟩, st⟩ := vx_callVW X hx (C := C) (hh := hh) (bytes := bytes) (maxL := maxL) (ret := ret) ho hl hin hse hcode hy hK (by rw [hT]; exact hcB) hoB hclB hg (hsize.trans hml.symm) (argsL := As) (rest := rest) (fun sig h => hn.trans (hlen sig h)) hstack hW (by rw [hb]; exact hdg)
    (fun vm₁ hW₁ => ⟨hf.1, hf.2, hPc (T.setVm vm₁) hT hW₁⟩)
  dsimp only [Pt.U, Pt.locs, Pt.cells, Pt.slots] at X' e1 e2 h1 h2 h3 st
  subst h1; subst h2; subst h3
  exact ⟨v, (T.setVm vm₁).calling g' mk (Value.ref b :: As).toArray, t, U', L, hT, X', hL, e1, e2, hq, st⟩
section
variable {y : MethodName} {bytes cc : ByteArray} {maxL nL mc ms n index : Nat} {ret : Option FieldType} {ws : List Cond} {rm : Room} {Pc : Array Value → State → Prop} {Qc : Array Value → State → Outcome → State → Prop} {XC : String → State → State → Prop} {free : Addr → Prop} {Ts : List Cond} {own C : String} {b : Addr} {As rest : List Value} {g : JFrame}
theorem vx_runVX {hh : List (Nat × Nat × Nat × Nat)} (S : CallFix p m c cc nL s args Ts own) (hM : vx_Met l y ws rm Pc Qc XC mc ms free) (cw : vx_CVW R s args own C index y bytes maxL ret hh ws rm mc ms n) (hp : PreV s H C b Pc As)
    (hg : g.method = m) (hn : As.length = n) (hsize : g.locals.size = nL) (hstack : g.stack = As.reverse ++ .ref b :: rest) (hW : 2 * g.monitorRoom + (rest.map fun v => v.category).sum ≤ 8) (hdg : decode cc g.pc = .ok (.invokevirtual index, 3)) (hf : cells + mc ≤ R.cells ∧ slots + ms ≤ R.slots) :
    vx_Run p l e R s m args below meth c H locs cells slots mc ms g rest (Qc (Value.ref b :: As).toArray) XC free := by
  obtain ⟨⟨hrc, hrs, hfr, hlo, hws, hcw⟩, hcode, hini, hy, hlen, hl, hin, hse⟩ := cw
  have hK : vx_Back l R p e below s args y 3 8 (PreOf R mc ms Pc) (PostOf Qc mc ms free) (vx_Post XC mc ms free) := vx_backW (hh := hh) (bytes := bytes) (maxL := maxL) (ret := ret) hM hp.1 hrc hrs hfr hlo hws hcw (fun a' U hW => word_at hW (Or.inl (by first | rfl | simp [Cond.onTables, Cond.keeps, Cond.steady])) hini)
  obtain ⟨hx, hb, hml, ho, -⟩ := S
  obtain ⟨-, ⟨cellB, hcB, hoB, hclB⟩, hPc⟩ := hp
  intro T hT X
  rcases vx_callVX X hx (C := C) (hh := hh) (bytes := bytes) (maxL := maxL) (ret := ret) ho hl hin hse hcode hy hK (by rw [hT]; exact hcB) hoB hclB hg (hsize.trans hml.symm) (argsL := As) (rest := rest) (fun sig h => hn.trans (hlen sig h)) hstack hW (by rw [hb]; exact hdg)
    (fun vm₁ hW₁ => ⟨hf.1, hf.2, hPc (T.setVm vm₁) hT hW₁⟩) with ⟨v, vm₁, ⟨U', l2, c2, s2⟩, hW₁, X', ⟨g', mk, t, L, e1, e2, hq, h1, hL, h2, h3⟩, st⟩ | ⟨q, vm₁, ⟨U', l2, c2, s2⟩, hW₁, X', ⟨g', mk, t, L, E, ce, e1, e2, hq, hce, hcv, hcl, h1, hL, h2, h3⟩, st⟩
  · dsimp only [Pt.U, Pt.locs, Pt.cells, Pt.slots] at X' e1 e2 h1 h2 h3 st
    subst h1; subst h2; subst h3
    exact Or.inl ⟨v, (T.setVm vm₁).calling g' mk (Value.ref b :: As).toArray, t, U', L, hT, X', hL, e1, e2, hq, st⟩
  · dsimp only [Pt.U, Pt.locs, Pt.cells, Pt.slots] at X' e1 e2 h1 h2 h3 st hcl
    subst h1; subst h2; subst h3
    exact Or.inr ⟨q, (T.setVm vm₁).calling g' mk (Value.ref b :: As).toArray, t, U', L, E, ce, hT, X', hL, e1, e2, hq, hce, hcv, vx_cls hW₁ hcl, st⟩
theorem vx_runSX {hh : List (Nat × Nat × Nat × Nat)} (S : CallFix p m c cc nL s args Ts own) (hM : vx_Met l y ws rm Pc Qc XC mc ms free) (cw : vx_CSW R s args own index y bytes maxL ret hh ws rm mc ms n) (hp : PreS s H Pc As)
    (hg : g.method = m) (hn : As.length = n) (hsize : g.locals.size = nL) (hstack : g.stack = As.reverse ++ rest) (hW : 2 * g.monitorRoom + (rest.map fun v => v.category).sum ≤ 8) (hdg : decode cc g.pc = .ok (.invokestatic index, 3)) (hf : cells + mc ≤ R.cells ∧ slots + ms ≤ R.slots) :
    vx_Run p l e R s m args below meth c H locs cells slots mc ms g rest (Qc As.toArray) XC free := by
  obtain ⟨⟨hrc, hrs, hfr, hlo, hws, hcw⟩, hcode, hini, hy, hlen, hl, hstt⟩ := cw
  have hK : vx_Back l R p e below s args y 3 8 (PreOf R mc ms Pc) (PostOf Qc mc ms free) (vx_Post XC mc ms free) := vx_backW (hh := hh) (bytes := bytes) (maxL := maxL) (ret := ret) hM hp.1 hrc hrs hfr hlo hws hcw (fun a' U hW => word_at hW (Or.inl (by first | rfl | simp [Cond.onTables, Cond.keeps, Cond.steady])) hini)
  obtain ⟨hx, hb, hml, ho, -⟩ := S
  intro T hT X
  rcases vx_callSX X hx (hh := hh) (bytes := bytes) (maxL := maxL) (ret := ret) ho hl hstt hini hcode hy hK hg (hsize.trans hml.symm) (argsL := As) (rest := rest) (fun sig h => hn.trans (hlen sig h)) hstack hW (by rw [hb]; exact hdg)
    (fun vm₁ hW₁ => ⟨hf.1, hf.2, hp.2 (T.setVm vm₁) hT hW₁⟩) with ⟨v, vm₁, ⟨U', l2, c2, s2⟩, hW₁, X', ⟨g', mk, t, L, e1, e2, hq, h1, hL, h2, h3⟩, st⟩ | ⟨q, vm₁, ⟨U', l2, c2, s2⟩, hW₁, X', ⟨g', mk, t, L, E, ce, e1, e2, hq, hce, hcv, hcl, h1, hL, h2, h3⟩, st⟩
  · dsimp only [Pt.U, Pt.locs, Pt.cells, Pt.slots] at X' e1 e2 h1 h2 h3 st
    subst h1; subst h2; subst h3
    exact Or.inl ⟨v, (T.setVm vm₁).calling g' mk As.toArray, t, U', L, hT, X', hL, e1, e2, hq, st⟩
  · dsimp only [Pt.U, Pt.locs, Pt.cells, Pt.slots] at X' e1 e2 h1 h2 h3 st hcl
    subst h1; subst h2; subst h3
    exact Or.inr ⟨q, (T.setVm vm₁).calling g' mk As.toArray, t, U', L, E, ce, hT, X', hL, e1, e2, hq, hce, hcv, vx_cls hW₁ hcl, st⟩
end
end VXH
theorem vx_ofWH {l : Launch} {y : MethodName} {ws ws' : List Cond} {rm : Room} {Pc : Array Value → State → Prop} {Qc : Array Value → State → Outcome → State → Prop} {XC : String → State → State → Prop} {mc ms : Nat} {free : Addr → Prop} {cc : ByteArray} {maxL : Nat} {ret : Option FieldType} {hh : List (Nat × Nat × Nat × Nat)}
    (hy : plainName y.cls = true) (hw : ws = Cond.codeWith y cc maxL ret hh :: ws')
    (body : ∀ p e s m args below meth c s₁, BodyLoose p l y (headSpec ws rm) cc maxL ret e s m args below meth c s₁ → c.maxLocals = maxL → Pc args s →
      W p l e (headSpec ws rm).room s m args below meth c s.heap [] 0 0 (vx_MQ below Qc XC args s mc ms free) (entryFrame m args maxL)) : vx_Met l y ws rm Pc Qc XC mc ms free := by
  refine MetFree.of_bodyS (code := cc) (maxLocals := maxL) (ret := ret) hy ?_ ?_
  · intro args s m h hn
    obtain ⟨m9, meth, c, hn9, h1, h2, h3, h4, -, h5, h6, -⟩ := Cond.codeWith_spec (atoms_spec (ws := ws) h _ (by rw [hw]; exact List.mem_cons_self))
    cases hn.symm.trans hn9
    exact ⟨meth, c, h1, h2, h3, h4, h5, h6⟩
  · intro p e s m args below meth c s₁ B hml hP _
    have hh0 : s₁.heap = s.heap := by rw [B.state]; rfl
    obtain ⟨t, a1, o, b1, b2, b3⟩ := body p e s m args below meth c s₁ B hml hP s₁ hh0 (Stand.of_body B)
    exact ⟨t, o, a1, b1, b2, b3⟩
/-! ===== END ===== -/

/-! ===== BEGIN printed: names, fields, word lists, decode rows ===== -/
end
section
def RX0 : String := "WordConcordance$Copies"
def TX0 : u_T := fun k => match k with
  | 0 => ("WordConcordance$Copies", "word", "I", true)
  | _ => ("WordConcordance$Copies", "many", "I", true)
def tyX0 : Nat → FieldType := fun k => match k with
  | 0 => .int
  | _ => .int
abbrev wsX00 : List Cond := u_ws RX0 TX0 2
theorem nmX0 : ∀ a, a < 2 → ∀ b, b < 2 → a ≠ b → (TX0 a).2.1 ≠ (TX0 b).2.1 := by decide +kernel
theorem tyX0_ok : ∀ k, k < 2 → parseFieldDescriptor (TX0 k).2.2.1 = some (tyX0 k) := by decide +kernel
abbrev cX0_init : ByteArray := prog_2_method_1_code
def yX0_init : MethodName := ⟨RX0, "<init>", "(II)V"⟩
abbrev cX0_of : ByteArray := prog_2_method_2_code
def yX0_of : MethodName := ⟨RX0, "of", "(II)LWordConcordance$Copies;"⟩
abbrev cX0_wordAt : ByteArray := prog_2_method_3_code
def yX0_wordAt : MethodName := ⟨RX0, "wordAt", "(I)I"⟩
abbrev cX0_putAt : ByteArray := prog_2_method_4_code
def yX0_putAt : MethodName := ⟨RX0, "putAt", "(II)V"⟩
abbrev cX0_append : ByteArray := prog_2_method_5_code
def yX0_append : MethodName := ⟨RX0, "append", "(I)V"⟩
abbrev cX0_takeOut : ByteArray := prog_2_method_6_code
def yX0_takeOut : MethodName := ⟨RX0, "takeOut", "(I)V"⟩
def RX1 : String := "WordConcordance$Row"
def TX1 : u_T := fun k => match k with
  | 0 => ("WordConcordance$Row", "words", "[I", true)
  | _ => ("WordConcordance$Row", "length", "I", false)
def tyX1 : Nat → FieldType := fun k => match k with
  | 0 => .array .int
  | _ => .int
abbrev wsX10 : List Cond := u_ws RX1 TX1 2
theorem nmX1 : ∀ a, a < 2 → ∀ b, b < 2 → a ≠ b → (TX1 a).2.1 ≠ (TX1 b).2.1 := by decide +kernel
theorem tyX1_ok : ∀ k, k < 2 → parseFieldDescriptor (TX1 k).2.2.1 = some (tyX1 k) := by decide +kernel
abbrev cX1_init : ByteArray := prog_3_method_1_code
def yX1_init : MethodName := ⟨RX1, "<init>", "([I)V"⟩
abbrev cX1_append : ByteArray := prog_3_method_2_code
def yX1_append : MethodName := ⟨RX1, "append", "(I)V"⟩
abbrev cX1_appendAll : ByteArray := prog_3_method_3_code
def yX1_appendAll : MethodName := ⟨RX1, "appendAll", "(LWordConcordance$Row;)V"⟩
abbrev cX1_become : ByteArray := prog_3_method_4_code
def yX1_become : MethodName := ⟨RX1, "become", "(LWordConcordance$Row;)V"⟩
abbrev cX1_openUp : ByteArray := prog_3_method_5_code
def yX1_openUp : MethodName := ⟨RX1, "openUp", "(II)V"⟩
abbrev cX1_closeUp : ByteArray := prog_3_method_6_code
def yX1_closeUp : MethodName := ⟨RX1, "closeUp", "(II)V"⟩
abbrev cX1_exchange : ByteArray := prog_3_method_7_code
def yX1_exchange : MethodName := ⟨RX1, "exchange", "(II)V"⟩
abbrev cX1_turnRound : ByteArray := prog_3_method_8_code
def yX1_turnRound : MethodName := ⟨RX1, "turnRound", "(II)V"⟩
abbrev cX1_timesOf : ByteArray := prog_3_method_9_code
def yX1_timesOf : MethodName := ⟨RX1, "timesOf", "(I)I"⟩
abbrev cX1_hasWord : ByteArray := prog_3_method_10_code
def yX1_hasWord : MethodName := ⟨RX1, "hasWord", "(I)Z"⟩
abbrev cX1_isFirstOfItsWord : ByteArray := prog_3_method_11_code
def yX1_isFirstOfItsWord : MethodName := ⟨RX1, "isFirstOfItsWord", "(I)Z"⟩
abbrev cX1_differencesFrom : ByteArray := prog_3_method_12_code
def yX1_differencesFrom : MethodName := ⟨RX1, "differencesFrom", "(LWordConcordance$Row;)I"⟩
abbrev cX1_holds : ByteArray := prog_3_method_13_code
def yX1_holds : MethodName := ⟨RX1, "holds", "(LWordConcordance$Row;I)Z"⟩
abbrev cX1_firstPlaceOf : ByteArray := prog_3_method_14_code
def yX1_firstPlaceOf : MethodName := ⟨RX1, "firstPlaceOf", "(LWordConcordance$Row;II)I"⟩
abbrev cX1_lastPlaceOf : ByteArray := prog_3_method_15_code
def yX1_lastPlaceOf : MethodName := ⟨RX1, "lastPlaceOf", "(LWordConcordance$Row;)I"⟩
abbrev cX1_timesAnywhere : ByteArray := prog_3_method_16_code
def yX1_timesAnywhere : MethodName := ⟨RX1, "timesAnywhere", "(LWordConcordance$Row;)I"⟩
abbrev cX1_timesApart : ByteArray := prog_3_method_17_code
def yX1_timesApart : MethodName := ⟨RX1, "timesApart", "(LWordConcordance$Row;)I"⟩
def RX2 : String := "WordConcordance"
def TX2 : u_T := fun k => match k with
  | 0 => ("WordConcordance", "texts", "[LWordConcordance$Row;", true)
  | 1 => ("WordConcordance", "phrases", "[LWordConcordance$Row;", true)
  | 2 => ("WordConcordance", "ranks", "[I", true)
  | 3 => ("WordConcordance", "draft", "LWordConcordance$Row;", true)
  | 4 => ("WordConcordance", "trial", "LWordConcordance$Row;", true)
  | 5 => ("WordConcordance", "trialPhrase", "LWordConcordance$Row;", true)
  | _ => ("WordConcordance", "runs", "[I", true)
def tyX2 : Nat → FieldType := fun k => match k with
  | 0 => .array (.object "WordConcordance$Row")
  | 1 => .array (.object "WordConcordance$Row")
  | 2 => .array .int
  | 3 => .object "WordConcordance$Row"
  | 4 => .object "WordConcordance$Row"
  | 5 => .object "WordConcordance$Row"
  | _ => .array .int
abbrev wsX20 : List Cond := u_ws RX2 TX2 7
theorem nmX2 : ∀ a, a < 7 → ∀ b, b < 7 → a ≠ b → (TX2 a).2.1 ≠ (TX2 b).2.1 := by decide +kernel
theorem tyX2_ok : ∀ k, k < 7 → parseFieldDescriptor (TX2 k).2.2.1 = some (tyX2 k) := by decide +kernel
abbrev cX2_init : ByteArray := prog_1_method_1_code
def yX2_init : MethodName := ⟨RX2, "<init>", "()V"⟩
abbrev cX2_add : ByteArray := prog_1_method_2_code
def yX2_add : MethodName := ⟨RX2, "add", "(II)I"⟩
abbrev cX2_addMany : ByteArray := prog_1_method_3_code
def yX2_addMany : MethodName := ⟨RX2, "addMany", "(III)I"⟩
abbrev cX2_scatter : ByteArray := prog_1_method_4_code
def yX2_scatter : MethodName := ⟨RX2, "scatter", "(IIII)I"⟩
abbrev cX2_insert : ByteArray := prog_1_method_5_code
def yX2_insert : MethodName := ⟨RX2, "insert", "(III)I"⟩
abbrev cX2_set : ByteArray := prog_1_method_6_code
def yX2_set : MethodName := ⟨RX2, "set", "(III)I"⟩
abbrev cX2_remove : ByteArray := prog_1_method_7_code
def yX2_remove : MethodName := ⟨RX2, "remove", "(II)I"⟩
abbrev cX2_cut : ByteArray := prog_1_method_8_code
def yX2_cut : MethodName := ⟨RX2, "cut", "(III)I"⟩
abbrev cX2_size : ByteArray := prog_1_method_9_code
def yX2_size : MethodName := ⟨RX2, "size", "(I)I"⟩
abbrev cX2_at : ByteArray := prog_1_method_10_code
def yX2_at : MethodName := ⟨RX2, "at", "(II)I"⟩
abbrev cX2_digest : ByteArray := prog_1_method_11_code
def yX2_digest : MethodName := ⟨RX2, "digest", "(I)I"⟩
abbrev cX2_setRank : ByteArray := prog_1_method_12_code
def yX2_setRank : MethodName := ⟨RX2, "setRank", "(II)I"⟩
abbrev cX2_say : ByteArray := prog_1_method_13_code
def yX2_say : MethodName := ⟨RX2, "say", "(II)I"⟩
abbrev cX2_quote : ByteArray := prog_1_method_14_code
def yX2_quote : MethodName := ⟨RX2, "quote", "(IIII)I"⟩
abbrev cX2_hush : ByteArray := prog_1_method_15_code
def yX2_hush : MethodName := ⟨RX2, "hush", "(I)I"⟩
abbrev cX2_wordOf : ByteArray := prog_1_method_16_code
def yX2_wordOf : MethodName := ⟨RX2, "wordOf", "(II)I"⟩
abbrev cX2_find : ByteArray := prog_1_method_17_code
def yX2_find : MethodName := ⟨RX2, "find", "(I)I"⟩
abbrev cX2_findLast : ByteArray := prog_1_method_18_code
def yX2_findLast : MethodName := ⟨RX2, "findLast", "(I)I"⟩
abbrev cX2_findIn : ByteArray := prog_1_method_19_code
def yX2_findIn : MethodName := ⟨RX2, "findIn", "(III)I"⟩
abbrev cX2_count : ByteArray := prog_1_method_20_code
def yX2_count : MethodName := ⟨RX2, "count", "(IZ)I"⟩
abbrev cX2_replace : ByteArray := prog_1_method_21_code
def yX2_replace : MethodName := ⟨RX2, "replace", "(I)I"⟩
abbrev cX2_draftReplaced : ByteArray := prog_1_method_22_code
def yX2_draftReplaced : MethodName := ⟨RX2, "draftReplaced", "(LWordConcordance$Row;)V"⟩
abbrev cX2_replaceWord : ByteArray := prog_1_method_23_code
def yX2_replaceWord : MethodName := ⟨RX2, "replaceWord", "(III)Z"⟩
abbrev cX2_frequency : ByteArray := prog_1_method_24_code
def yX2_frequency : MethodName := ⟨RX2, "frequency", "(II)I"⟩
abbrev cX2_different : ByteArray := prog_1_method_25_code
def yX2_different : MethodName := ⟨RX2, "different", "(I)I"⟩
abbrev cX2_most : ByteArray := prog_1_method_26_code
def yX2_most : MethodName := ⟨RX2, "most", "(I)I"⟩
abbrev cX2_isApart : ByteArray := prog_1_method_27_code
def yX2_isApart : MethodName := ⟨RX2, "isApart", "(II)Z"⟩
abbrev cX2_alone : ByteArray := prog_1_method_28_code
def yX2_alone : MethodName := ⟨RX2, "alone", "(II)I"⟩
abbrev cX2_greatest : ByteArray := prog_1_method_29_code
def yX2_greatest : MethodName := ⟨RX2, "greatest", "(II)I"⟩
abbrev cX2_least : ByteArray := prog_1_method_30_code
def yX2_least : MethodName := ⟨RX2, "least", "(II)I"⟩
abbrev cX2_sort : ByteArray := prog_1_method_31_code
def yX2_sort : MethodName := ⟨RX2, "sort", "(IIZ)I"⟩
abbrev cX2_isSorted : ByteArray := prog_1_method_32_code
def yX2_isSorted : MethodName := ⟨RX2, "isSorted", "(II)Z"⟩
abbrev cX2_search : ByteArray := prog_1_method_33_code
def yX2_search : MethodName := ⟨RX2, "search", "(III)I"⟩
abbrev cX2_keyOf : ByteArray := prog_1_method_34_code
def yX2_keyOf : MethodName := ⟨RX2, "keyOf", "(II)I"⟩
abbrev cX2_isInOrder : ByteArray := prog_1_method_35_code
def yX2_isInOrder : MethodName := ⟨RX2, "isInOrder", "(LWordConcordance$Row;I)Z"⟩
abbrev cX2_putInOrder : ByteArray := prog_1_method_36_code
def yX2_putInOrder : MethodName := ⟨RX2, "putInOrder", "(LWordConcordance$Row;IZ)V"⟩
abbrev cX2_mustPass : ByteArray := prog_1_method_37_code
def yX2_mustPass : MethodName := ⟨RX2, "mustPass", "(IIIZ)Z"⟩
abbrev cX2_turn : ByteArray := prog_1_method_38_code
def yX2_turn : MethodName := ⟨RX2, "turn", "(III)I"⟩
abbrev cX2_move : ByteArray := prog_1_method_39_code
def yX2_move : MethodName := ⟨RX2, "move", "(IIII)I"⟩
abbrev cX2_moveRound : ByteArray := prog_1_method_40_code
def yX2_moveRound : MethodName := ⟨RX2, "moveRound", "(LWordConcordance$Row;III)I"⟩
abbrev cX2_swap : ByteArray := prog_1_method_41_code
def yX2_swap : MethodName := ⟨RX2, "swap", "(III)I"⟩
abbrev cX2_fill : ByteArray := prog_1_method_42_code
def yX2_fill : MethodName := ⟨RX2, "fill", "(IIII)I"⟩
abbrev cX2_copy : ByteArray := prog_1_method_43_code
def yX2_copy : MethodName := ⟨RX2, "copy", "(II)I"⟩
abbrev cX2_stands : ByteArray := prog_1_method_44_code
def yX2_stands : MethodName := ⟨RX2, "stands", "(II)I"⟩
abbrev cX2_near : ByteArray := prog_1_method_45_code
def yX2_near : MethodName := ⟨RX2, "near", "(III)I"⟩
abbrev cX2_common : ByteArray := prog_1_method_46_code
def yX2_common : MethodName := ⟨RX2, "common", "(III)I"⟩
abbrev cX2_clearRuns : ByteArray := prog_1_method_47_code
def yX2_clearRuns : MethodName := ⟨RX2, "clearRuns", "()V"⟩
abbrev cX2_longestRunFrom : ByteArray := prog_1_method_48_code
def yX2_longestRunFrom : MethodName := ⟨RX2, "longestRunFrom", "(LWordConcordance$Row;ILWordConcordance$Row;)I"⟩
abbrev cX2_refuses : ByteArray := prog_1_method_49_code
def yX2_refuses : MethodName := ⟨RX2, "refuses", "(I)Z"⟩
abbrev cX2_isRefused : ByteArray := prog_1_method_50_code
def yX2_isRefused : MethodName := ⟨RX2, "isRefused", "(I)Z"⟩
abbrev cX2_attempt : ByteArray := prog_1_method_51_code
def yX2_attempt : MethodName := ⟨RX2, "attempt", "(I)V"⟩
abbrev cX2_errors : ByteArray := prog_1_method_52_code
def yX2_errors : MethodName := ⟨RX2, "errors", "(I)I"⟩
abbrev cX2_turnsBack : ByteArray := prog_1_method_53_code
def yX2_turnsBack : MethodName := ⟨RX2, "turnsBack", "(LWordConcordance$Row;)Z"⟩
abbrev cX2_movesBack : ByteArray := prog_1_method_54_code
def yX2_movesBack : MethodName := ⟨RX2, "movesBack", "(LWordConcordance$Row;)Z"⟩
abbrev cX2_sortsItsWords : ByteArray := prog_1_method_55_code
def yX2_sortsItsWords : MethodName := ⟨RX2, "sortsItsWords", "(LWordConcordance$Row;)Z"⟩
abbrev cX2_findsWhatItCounts : ByteArray := prog_1_method_56_code
def yX2_findsWhatItCounts : MethodName := ⟨RX2, "findsWhatItCounts", "(LWordConcordance$Row;)Z"⟩
abbrev cX2_findsInMirror : ByteArray := prog_1_method_57_code
def yX2_findsInMirror : MethodName := ⟨RX2, "findsInMirror", "(LWordConcordance$Row;)Z"⟩
abbrev cX2_meanWord : ByteArray := prog_1_method_58_code
def yX2_meanWord : MethodName := ⟨RX2, "meanWord", "(I)D"⟩
abbrev cX2_share : ByteArray := prog_1_method_59_code
def yX2_share : MethodName := ⟨RX2, "share", "(II)F"⟩
abbrev cX2_textAt : ByteArray := prog_1_method_60_code
def yX2_textAt : MethodName := ⟨RX2, "textAt", "(I)LWordConcordance$Row;"⟩
abbrev cX2_phraseAt : ByteArray := prog_1_method_61_code
def yX2_phraseAt : MethodName := ⟨RX2, "phraseAt", "(I)LWordConcordance$Row;"⟩
abbrev cX2_requireWord : ByteArray := prog_1_method_62_code
def yX2_requireWord : MethodName := ⟨RX2, "requireWord", "(I)V"⟩
abbrev cX2_requirePlace : ByteArray := prog_1_method_63_code
def yX2_requirePlace : MethodName := ⟨RX2, "requirePlace", "(LWordConcordance$Row;I)V"⟩
abbrev cX2_requirePart : ByteArray := prog_1_method_64_code
def yX2_requirePart : MethodName := ⟨RX2, "requirePart", "(LWordConcordance$Row;II)V"⟩
abbrev cX2_requireWithin : ByteArray := prog_1_method_65_code
def yX2_requireWithin : MethodName := ⟨RX2, "requireWithin", "(III)V"⟩
abbrev cX2_requireNotNegative : ByteArray := prog_1_method_66_code
def yX2_requireNotNegative : MethodName := ⟨RX2, "requireNotNegative", "(I)V"⟩
abbrev cX2_requireOrder : ByteArray := prog_1_method_67_code
def yX2_requireOrder : MethodName := ⟨RX2, "requireOrder", "(I)V"⟩
abbrev cX2_requireRoom : ByteArray := prog_1_method_68_code
def yX2_requireRoom : MethodName := ⟨RX2, "requireRoom", "(LWordConcordance$Row;I)V"⟩
abbrev cX2_requireNotEmpty : ByteArray := prog_1_method_69_code
def yX2_requireNotEmpty : MethodName := ⟨RX2, "requireNotEmpty", "(LWordConcordance$Row;)V"⟩
def RX3 : String := "WordConcordanceModel$Row"
def TX3 : u_T := fun k => match k with
  | 0 => ("WordConcordanceModel$Row", "words", "[I", true)
  | _ => ("WordConcordanceModel$Row", "many", "I", false)
def tyX3 : Nat → FieldType := fun k => match k with
  | 0 => .array .int
  | _ => .int
abbrev wsX30 : List Cond := u_ws RX3 TX3 2
theorem nmX3 : ∀ a, a < 2 → ∀ b, b < 2 → a ≠ b → (TX3 a).2.1 ≠ (TX3 b).2.1 := by decide +kernel
theorem tyX3_ok : ∀ k, k < 2 → parseFieldDescriptor (TX3 k).2.2.1 = some (tyX3 k) := by decide +kernel
abbrev cX3_init : ByteArray := prog_6_method_1_code
def yX3_init : MethodName := ⟨RX3, "<init>", "()V"⟩
abbrev cX3_at : ByteArray := prog_6_method_2_code
def yX3_at : MethodName := ⟨RX3, "at", "(I)I"⟩
abbrev cX3_add : ByteArray := prog_6_method_3_code
def yX3_add : MethodName := ⟨RX3, "add", "(I)V"⟩
abbrev cX3_insert : ByteArray := prog_6_method_4_code
def yX3_insert : MethodName := ⟨RX3, "insert", "(II)V"⟩
abbrev cX3_remove : ByteArray := prog_6_method_5_code
def yX3_remove : MethodName := ⟨RX3, "remove", "(I)I"⟩
abbrev cX3_alike : ByteArray := prog_6_method_6_code
def yX3_alike : MethodName := ⟨RX3, "alike", "(ILWordConcordanceModel$Row;I)I"⟩
abbrev cX3_has : ByteArray := prog_6_method_7_code
def yX3_has : MethodName := ⟨RX3, "has", "(LWordConcordanceModel$Row;I)Z"⟩
abbrev cX3_find : ByteArray := prog_6_method_8_code
def yX3_find : MethodName := ⟨RX3, "find", "(LWordConcordanceModel$Row;I)I"⟩
abbrev cX3_often : ByteArray := prog_6_method_9_code
def yX3_often : MethodName := ⟨RX3, "often", "(I)I"⟩
abbrev cX3_count : ByteArray := prog_6_method_10_code
def yX3_count : MethodName := ⟨RX3, "count", "(LWordConcordanceModel$Row;Z)I"⟩
abbrev cX3_swap : ByteArray := prog_6_method_11_code
def yX3_swap : MethodName := ⟨RX3, "swap", "(II)V"⟩
abbrev cX3_takes : ByteArray := prog_6_method_12_code
def yX3_takes : MethodName := ⟨RX3, "takes", "(LWordConcordanceModel$Row;)V"⟩
abbrev cX3_others : ByteArray := prog_6_method_13_code
def yX3_others : MethodName := ⟨RX3, "others", "(LWordConcordanceModel$Row;)I"⟩
def RX4 : String := "WordConcordanceModel"
def TX4 : u_T := fun k => match k with
  | 0 => ("WordConcordanceModel", "thrown", "I", false)
  | 1 => ("WordConcordanceModel", "texts", "[LWordConcordanceModel$Row;", true)
  | 2 => ("WordConcordanceModel", "phrases", "[LWordConcordanceModel$Row;", true)
  | 3 => ("WordConcordanceModel", "spare", "LWordConcordanceModel$Row;", true)
  | _ => ("WordConcordanceModel", "ranks", "[I", true)
def tyX4 : Nat → FieldType := fun k => match k with
  | 0 => .int
  | 1 => .array (.object "WordConcordanceModel$Row")
  | 2 => .array (.object "WordConcordanceModel$Row")
  | 3 => .object "WordConcordanceModel$Row"
  | _ => .array .int
abbrev wsX40 : List Cond := u_ws RX4 TX4 5
theorem nmX4 : ∀ a, a < 5 → ∀ b, b < 5 → a ≠ b → (TX4 a).2.1 ≠ (TX4 b).2.1 := by decide +kernel
theorem tyX4_ok : ∀ k, k < 5 → parseFieldDescriptor (TX4 k).2.2.1 = some (tyX4 k) := by decide +kernel
abbrev cX4_thrown : ByteArray := prog_5_method_1_code
def yX4_thrown : MethodName := ⟨RX4, "thrown", "()I"⟩
abbrev cX4_in : ByteArray := prog_5_method_2_code
def yX4_in : MethodName := ⟨RX4, "in", "(JJJ)Z"⟩
abbrev cX4_passes : ByteArray := prog_5_method_3_code
def yX4_passes : MethodName := ⟨RX4, "passes", "(ZZZ)Z"⟩
abbrev cX4_isText : ByteArray := prog_5_method_4_code
def yX4_isText : MethodName := ⟨RX4, "isText", "(I)Z"⟩
abbrev cX4_isWord : ByteArray := prog_5_method_5_code
def yX4_isWord : MethodName := ⟨RX4, "isWord", "(I)Z"⟩
abbrev cX4_isPhrase : ByteArray := prog_5_method_6_code
def yX4_isPhrase : MethodName := ⟨RX4, "isPhrase", "(I)Z"⟩
abbrev cX4_isOrder : ByteArray := prog_5_method_7_code
def yX4_isOrder : MethodName := ⟨RX4, "isOrder", "(I)Z"⟩
abbrev cX4_init : ByteArray := prog_5_method_8_code
def yX4_init : MethodName := ⟨RX4, "<init>", "()V"⟩
abbrev cX4_isPlace : ByteArray := prog_5_method_9_code
def yX4_isPlace : MethodName := ⟨RX4, "isPlace", "(II)Z"⟩
abbrev cX4_isPart : ByteArray := prog_5_method_10_code
def yX4_isPart : MethodName := ⟨RX4, "isPart", "(III)Z"⟩
abbrev cX4_hasRoom : ByteArray := prog_5_method_11_code
def yX4_hasRoom : MethodName := ⟨RX4, "hasRoom", "(IJ)Z"⟩
abbrev cX4_add : ByteArray := prog_5_method_12_code
def yX4_add : MethodName := ⟨RX4, "add", "(II)I"⟩
abbrev cX4_addMany : ByteArray := prog_5_method_13_code
def yX4_addMany : MethodName := ⟨RX4, "addMany", "(III)I"⟩
abbrev cX4_scatter : ByteArray := prog_5_method_14_code
def yX4_scatter : MethodName := ⟨RX4, "scatter", "(IIII)I"⟩
abbrev cX4_insert : ByteArray := prog_5_method_15_code
def yX4_insert : MethodName := ⟨RX4, "insert", "(III)I"⟩
abbrev cX4_set : ByteArray := prog_5_method_16_code
def yX4_set : MethodName := ⟨RX4, "set", "(III)I"⟩
abbrev cX4_remove : ByteArray := prog_5_method_17_code
def yX4_remove : MethodName := ⟨RX4, "remove", "(II)I"⟩
abbrev cX4_cut : ByteArray := prog_5_method_18_code
def yX4_cut : MethodName := ⟨RX4, "cut", "(III)I"⟩
abbrev cX4_size : ByteArray := prog_5_method_19_code
def yX4_size : MethodName := ⟨RX4, "size", "(I)I"⟩
abbrev cX4_at : ByteArray := prog_5_method_20_code
def yX4_at : MethodName := ⟨RX4, "at", "(II)I"⟩
abbrev cX4_digest : ByteArray := prog_5_method_21_code
def yX4_digest : MethodName := ⟨RX4, "digest", "(I)I"⟩
abbrev cX4_setRank : ByteArray := prog_5_method_22_code
def yX4_setRank : MethodName := ⟨RX4, "setRank", "(II)I"⟩
abbrev cX4_say : ByteArray := prog_5_method_23_code
def yX4_say : MethodName := ⟨RX4, "say", "(II)I"⟩
abbrev cX4_quote : ByteArray := prog_5_method_24_code
def yX4_quote : MethodName := ⟨RX4, "quote", "(IIII)I"⟩
abbrev cX4_hush : ByteArray := prog_5_method_25_code
def yX4_hush : MethodName := ⟨RX4, "hush", "(I)I"⟩
abbrev cX4_wordOf : ByteArray := prog_5_method_26_code
def yX4_wordOf : MethodName := ⟨RX4, "wordOf", "(II)I"⟩
abbrev cX4_find : ByteArray := prog_5_method_27_code
def yX4_find : MethodName := ⟨RX4, "find", "(I)I"⟩
abbrev cX4_findLast : ByteArray := prog_5_method_28_code
def yX4_findLast : MethodName := ⟨RX4, "findLast", "(I)I"⟩
abbrev cX4_findIn : ByteArray := prog_5_method_29_code
def yX4_findIn : MethodName := ⟨RX4, "findIn", "(III)I"⟩
abbrev cX4_count : ByteArray := prog_5_method_30_code
def yX4_count : MethodName := ⟨RX4, "count", "(IZ)I"⟩
abbrev cX4_replace : ByteArray := prog_5_method_31_code
def yX4_replace : MethodName := ⟨RX4, "replace", "(I)I"⟩
abbrev cX4_replaceWord : ByteArray := prog_5_method_32_code
def yX4_replaceWord : MethodName := ⟨RX4, "replaceWord", "(III)Z"⟩
abbrev cX4_frequency : ByteArray := prog_5_method_33_code
def yX4_frequency : MethodName := ⟨RX4, "frequency", "(II)I"⟩
abbrev cX4_different : ByteArray := prog_5_method_34_code
def yX4_different : MethodName := ⟨RX4, "different", "(I)I"⟩
abbrev cX4_most : ByteArray := prog_5_method_35_code
def yX4_most : MethodName := ⟨RX4, "most", "(I)I"⟩
abbrev cX4_isApart : ByteArray := prog_5_method_36_code
def yX4_isApart : MethodName := ⟨RX4, "isApart", "(II)Z"⟩
abbrev cX4_alone : ByteArray := prog_5_method_37_code
def yX4_alone : MethodName := ⟨RX4, "alone", "(II)I"⟩
abbrev cX4_valueOf : ByteArray := prog_5_method_38_code
def yX4_valueOf : MethodName := ⟨RX4, "valueOf", "(II)I"⟩
abbrev cX4_outermost : ByteArray := prog_5_method_39_code
def yX4_outermost : MethodName := ⟨RX4, "outermost", "(IIZ)I"⟩
abbrev cX4_greatest : ByteArray := prog_5_method_40_code
def yX4_greatest : MethodName := ⟨RX4, "greatest", "(II)I"⟩
abbrev cX4_least : ByteArray := prog_5_method_41_code
def yX4_least : MethodName := ⟨RX4, "least", "(II)I"⟩
abbrev cX4_sort : ByteArray := prog_5_method_42_code
def yX4_sort : MethodName := ⟨RX4, "sort", "(IIZ)I"⟩
abbrev cX4_areInOrder : ByteArray := prog_5_method_43_code
def yX4_areInOrder : MethodName := ⟨RX4, "areInOrder", "(LWordConcordanceModel$Row;I)Z"⟩
abbrev cX4_isSorted : ByteArray := prog_5_method_44_code
def yX4_isSorted : MethodName := ⟨RX4, "isSorted", "(II)Z"⟩
abbrev cX4_search : ByteArray := prog_5_method_45_code
def yX4_search : MethodName := ⟨RX4, "search", "(III)I"⟩
abbrev cX4_turn : ByteArray := prog_5_method_46_code
def yX4_turn : MethodName := ⟨RX4, "turn", "(III)I"⟩
abbrev cX4_move : ByteArray := prog_5_method_47_code
def yX4_move : MethodName := ⟨RX4, "move", "(IIII)I"⟩
abbrev cX4_swap : ByteArray := prog_5_method_48_code
def yX4_swap : MethodName := ⟨RX4, "swap", "(III)I"⟩
abbrev cX4_fill : ByteArray := prog_5_method_49_code
def yX4_fill : MethodName := ⟨RX4, "fill", "(IIII)I"⟩
abbrev cX4_copy : ByteArray := prog_5_method_50_code
def yX4_copy : MethodName := ⟨RX4, "copy", "(II)I"⟩
abbrev cX4_stands : ByteArray := prog_5_method_51_code
def yX4_stands : MethodName := ⟨RX4, "stands", "(II)I"⟩
abbrev cX4_near : ByteArray := prog_5_method_52_code
def yX4_near : MethodName := ⟨RX4, "near", "(III)I"⟩
abbrev cX4_common : ByteArray := prog_5_method_53_code
def yX4_common : MethodName := ⟨RX4, "common", "(III)I"⟩
abbrev cX4_refuses : ByteArray := prog_5_method_54_code
def yX4_refuses : MethodName := ⟨RX4, "refuses", "(I)Z"⟩
abbrev cX4_turned : ByteArray := prog_5_method_55_code
def yX4_turned : MethodName := ⟨RX4, "turned", "(LWordConcordanceModel$Row;)LWordConcordanceModel$Row;"⟩
abbrev cX4_errors : ByteArray := prog_5_method_56_code
def yX4_errors : MethodName := ⟨RX4, "errors", "(I)I"⟩
abbrev cX4_meanWord : ByteArray := prog_5_method_57_code
def yX4_meanWord : MethodName := ⟨RX4, "meanWord", "(I)D"⟩
abbrev cX4_share : ByteArray := prog_5_method_58_code
def yX4_share : MethodName := ⟨RX4, "share", "(II)F"⟩
def RJx145de : String := "java/io/Serializable"
def TJx145de : u_T := fun k => match k with
  | _ => ("", "", "", false)
def tyJx145de : Nat → FieldType := fun k => match k with
  | _ => .int
abbrev wsJx145de0 : List Cond := u_ws RJx145de TJx145de 0
theorem nmJx145de : ∀ a, a < 0 → ∀ b, b < 0 → a ≠ b → (TJx145de a).2.1 ≠ (TJx145de b).2.1 := by decide +kernel
theorem tyJx145de_ok : ∀ k, k < 0 → parseFieldDescriptor (TJx145de k).2.2.1 = some (tyJx145de k) := by decide +kernel
def RJ9 : String := "java/lang/Math"
def TJ9 : u_T := fun k => match k with
  | _ => ("", "", "", false)
def tyJ9 : Nat → FieldType := fun k => match k with
  | _ => .int
abbrev wsJ90 : List Cond := u_ws RJ9 TJ9 0
theorem nmJ9 : ∀ a, a < 0 → ∀ b, b < 0 → a ≠ b → (TJ9 a).2.1 ≠ (TJ9 b).2.1 := by decide +kernel
theorem tyJ9_ok : ∀ k, k < 0 → parseFieldDescriptor (TJ9 k).2.2.1 = some (tyJ9 k) := by decide +kernel
abbrev cJ9_floorMod_7cf53 : ByteArray := prog_12_method_50_code
def yJ9_floorMod_7cf53 : MethodName := ⟨RJ9, "floorMod", "(II)I"⟩
abbrev cJ9_abs_0f7a4 : ByteArray := prog_12_method_59_code
def yJ9_abs_0f7a4 : MethodName := ⟨RJ9, "abs", "(I)I"⟩
abbrev cJ9_max_7cf53 : ByteArray := prog_12_method_65_code
def yJ9_max_7cf53 : MethodName := ⟨RJ9, "max", "(II)I"⟩
abbrev cJ9_min_7cf53 : ByteArray := prog_12_method_69_code
def yJ9_min_7cf53 : MethodName := ⟨RJ9, "min", "(II)I"⟩
def RJ0 : String := "java/lang/String"
def TJ0 : u_T := fun k => match k with
  | _ => ("", "", "", false)
def tyJ0 : Nat → FieldType := fun k => match k with
  | _ => .int
abbrev wsJ00 : List Cond := u_ws RJ0 TJ0 0
theorem nmJ0 : ∀ a, a < 0 → ∀ b, b < 0 → a ≠ b → (TJ0 a).2.1 ≠ (TJ0 b).2.1 := by decide +kernel
theorem tyJ0_ok : ∀ k, k < 0 → parseFieldDescriptor (TJ0 k).2.2.1 = some (tyJ0 k) := by decide +kernel
def RL : String := "WordConcordanceLaw"
abbrev cL_add : ByteArray := method_3_code
def yL_add : MethodName := ⟨RL, "add", "(LWordConcordance;II[J)I"⟩
abbrev cL_addMany : ByteArray := method_4_code
def yL_addMany : MethodName := ⟨RL, "addMany", "(LWordConcordance;III[J)I"⟩
abbrev cL_scatter : ByteArray := method_5_code
def yL_scatter : MethodName := ⟨RL, "scatter", "(LWordConcordance;IIII[J)I"⟩
abbrev cL_insert : ByteArray := method_6_code
def yL_insert : MethodName := ⟨RL, "insert", "(LWordConcordance;III[J)I"⟩
abbrev cL_set : ByteArray := method_7_code
def yL_set : MethodName := ⟨RL, "set", "(LWordConcordance;III[J)I"⟩
abbrev cL_remove : ByteArray := method_8_code
def yL_remove : MethodName := ⟨RL, "remove", "(LWordConcordance;II[J)I"⟩
abbrev cL_cut : ByteArray := method_9_code
def yL_cut : MethodName := ⟨RL, "cut", "(LWordConcordance;III[J)I"⟩
abbrev cL_size : ByteArray := method_10_code
def yL_size : MethodName := ⟨RL, "size", "(LWordConcordance;I[J)I"⟩
abbrev cL_at : ByteArray := method_11_code
def yL_at : MethodName := ⟨RL, "at", "(LWordConcordance;II[J)I"⟩
abbrev cL_digest : ByteArray := method_12_code
def yL_digest : MethodName := ⟨RL, "digest", "(LWordConcordance;I[J)I"⟩
abbrev cL_setRank : ByteArray := method_13_code
def yL_setRank : MethodName := ⟨RL, "setRank", "(LWordConcordance;II[J)I"⟩
abbrev cL_say : ByteArray := method_14_code
def yL_say : MethodName := ⟨RL, "say", "(LWordConcordance;II[J)I"⟩
abbrev cL_quote : ByteArray := method_15_code
def yL_quote : MethodName := ⟨RL, "quote", "(LWordConcordance;IIII[J)I"⟩
abbrev cL_hush : ByteArray := method_16_code
def yL_hush : MethodName := ⟨RL, "hush", "(LWordConcordance;I[J)I"⟩
abbrev cL_wordOf : ByteArray := method_17_code
def yL_wordOf : MethodName := ⟨RL, "wordOf", "(LWordConcordance;II[J)I"⟩
abbrev cL_find : ByteArray := method_18_code
def yL_find : MethodName := ⟨RL, "find", "(LWordConcordance;I[J)I"⟩
abbrev cL_findLast : ByteArray := method_19_code
def yL_findLast : MethodName := ⟨RL, "findLast", "(LWordConcordance;I[J)I"⟩
abbrev cL_findIn : ByteArray := method_20_code
def yL_findIn : MethodName := ⟨RL, "findIn", "(LWordConcordance;III[J)I"⟩
abbrev cL_count : ByteArray := method_21_code
def yL_count : MethodName := ⟨RL, "count", "(LWordConcordance;IZ[J)I"⟩
abbrev cL_replace : ByteArray := method_22_code
def yL_replace : MethodName := ⟨RL, "replace", "(LWordConcordance;I[J)I"⟩
abbrev cL_replaceWord : ByteArray := method_23_code
def yL_replaceWord : MethodName := ⟨RL, "replaceWord", "(LWordConcordance;III[J)I"⟩
abbrev cL_frequency : ByteArray := method_24_code
def yL_frequency : MethodName := ⟨RL, "frequency", "(LWordConcordance;II[J)I"⟩
abbrev cL_different : ByteArray := method_25_code
def yL_different : MethodName := ⟨RL, "different", "(LWordConcordance;I[J)I"⟩
abbrev cL_most : ByteArray := method_26_code
def yL_most : MethodName := ⟨RL, "most", "(LWordConcordance;I[J)I"⟩
abbrev cL_isApart : ByteArray := method_27_code
def yL_isApart : MethodName := ⟨RL, "isApart", "(LWordConcordance;II[J)I"⟩
abbrev cL_alone : ByteArray := method_28_code
def yL_alone : MethodName := ⟨RL, "alone", "(LWordConcordance;II[J)I"⟩
abbrev cL_greatest : ByteArray := method_29_code
def yL_greatest : MethodName := ⟨RL, "greatest", "(LWordConcordance;II[J)I"⟩
abbrev cL_least : ByteArray := method_30_code
def yL_least : MethodName := ⟨RL, "least", "(LWordConcordance;II[J)I"⟩
abbrev cL_sort : ByteArray := method_31_code
def yL_sort : MethodName := ⟨RL, "sort", "(LWordConcordance;IIZ[J)I"⟩
abbrev cL_isSorted : ByteArray := method_32_code
def yL_isSorted : MethodName := ⟨RL, "isSorted", "(LWordConcordance;II[J)I"⟩
abbrev cL_search : ByteArray := method_33_code
def yL_search : MethodName := ⟨RL, "search", "(LWordConcordance;III[J)I"⟩
abbrev cL_turn : ByteArray := method_34_code
def yL_turn : MethodName := ⟨RL, "turn", "(LWordConcordance;III[J)I"⟩
abbrev cL_move : ByteArray := method_35_code
def yL_move : MethodName := ⟨RL, "move", "(LWordConcordance;IIII[J)I"⟩
abbrev cL_swap : ByteArray := method_36_code
def yL_swap : MethodName := ⟨RL, "swap", "(LWordConcordance;III[J)I"⟩
abbrev cL_fill : ByteArray := method_37_code
def yL_fill : MethodName := ⟨RL, "fill", "(LWordConcordance;IIII[J)I"⟩
abbrev cL_copy : ByteArray := method_38_code
def yL_copy : MethodName := ⟨RL, "copy", "(LWordConcordance;II[J)I"⟩
abbrev cL_stands : ByteArray := method_39_code
def yL_stands : MethodName := ⟨RL, "stands", "(LWordConcordance;II[J)I"⟩
abbrev cL_near : ByteArray := method_40_code
def yL_near : MethodName := ⟨RL, "near", "(LWordConcordance;III[J)I"⟩
abbrev cL_common : ByteArray := method_41_code
def yL_common : MethodName := ⟨RL, "common", "(LWordConcordance;III[J)I"⟩
abbrev cL_refuses : ByteArray := method_42_code
def yL_refuses : MethodName := ⟨RL, "refuses", "(LWordConcordance;I[J)I"⟩
abbrev cL_errors : ByteArray := method_43_code
def yL_errors : MethodName := ⟨RL, "errors", "(LWordConcordance;I[J)I"⟩
abbrev cL_meanWord : ByteArray := method_44_code
def yL_meanWord : MethodName := ⟨RL, "meanWord", "(LWordConcordance;I[D)I"⟩
abbrev cL_share : ByteArray := method_45_code
def yL_share : MethodName := ⟨RL, "share", "(LWordConcordance;II[D)I"⟩
abbrev cL_law : ByteArray := code
def yL_law : MethodName := ⟨RL, "law", "([I)Z"⟩
abbrev vwCl : List vw_C := [(RX0, TX0, 2), (RX1, TX1, 2), (RX2, TX2, 7), (RX3, TX3, 2), (RX4, TX4, 5)]
end
section
/-! the words of the tables that hold at every state, in one list: a contract asks for its own code and for all of them -/
def zW : List Cond := lw_tbl.filter goodWord
theorem zq {w : Cond} (i : Nat) (h : tables_1[i]? = some w) (g : goodWord w = true) : w ∈ zW := List.mem_filter.mpr ⟨List.mem_append_right _ (List.mem_of_getElem? h), g⟩
theorem zqp {w : Cond} (i : Nat) (h : (k2_sels lw_privs)[i]? = some w) (g : goodWord w = true) : w ∈ zW := List.mem_filter.mpr ⟨List.mem_append_left _ (List.mem_of_getElem? h), g⟩
theorem zql (ws : List Cond) (is : List Nat) (hs : ws = is.filterMap (fun i => lw_tbl[i]?)) (h : ws.all goodWord = true) : ∀ w ∈ ws, w ∈ zW := by
  intro w hw
  have h1 := List.all_eq_true.mp h w hw
  rw [hs] at hw
  obtain ⟨i, -, hi⟩ := List.mem_filterMap.mp hw
  exact List.mem_filter.mpr ⟨List.mem_of_getElem? hi, h1⟩
def zEI : String := "java/lang/IndexOutOfBoundsException"
def zES : String := "java/lang/IllegalStateException"
def zEA : String := "java/lang/IllegalArgumentException"
def zEN : String := "java/util/NoSuchElementException"
def zEU : String := "java/lang/UnsupportedOperationException"
def zBad (E : String) : List Cond := [Cond.castable E E, .declares (Bundle.initS "java/lang/RuntimeException"), .declares (Bundle.initS "java/lang/Exception"), .declares (Bundle.initS Bundle.tN)]
def zNames : List String := ["java/lang/RuntimeException", "java/lang/Exception"]
theorem q0 : Cond.initialized RL ∈ zW := zq 0 (by decide +kernel) (by decide +kernel)
theorem q1 : Cond.initialized RX2 ∈ zW := zq 1 (by decide +kernel) (by decide +kernel)
theorem q2 : Cond.initialized RX1 ∈ zW := zq 2 (by decide +kernel) (by decide +kernel)
theorem q3 : Cond.initialized RX4 ∈ zW := zq 3 (by decide +kernel) (by decide +kernel)
theorem q4 : Cond.initialized RX3 ∈ zW := zq 4 (by decide +kernel) (by decide +kernel)
theorem q5 : Cond.initialized "java/lang/Throwable" ∈ zW := zq 5 (by decide +kernel) (by decide +kernel)
theorem q6 : Cond.initialized "java/lang/Exception" ∈ zW := zq 6 (by decide +kernel) (by decide +kernel)
theorem q7 : Cond.initialized "java/lang/RuntimeException" ∈ zW := zq 7 (by decide +kernel) (by decide +kernel)
theorem q8 : Cond.initialized "java/lang/IndexOutOfBoundsException" ∈ zW := zq 8 (by decide +kernel) (by decide +kernel)
theorem q9 : Cond.initialized "java/lang/IllegalStateException" ∈ zW := zq 9 (by decide +kernel) (by decide +kernel)
theorem q10 : Cond.initialized "java/lang/IllegalArgumentException" ∈ zW := zq 10 (by decide +kernel) (by decide +kernel)
theorem q11 : Cond.initialized RJ9 ∈ zW := zq 11 (by decide +kernel) (by decide +kernel)
theorem q12 : Cond.initialized "java/util/NoSuchElementException" ∈ zW := zq 12 (by decide +kernel) (by decide +kernel)
theorem q13 : Cond.initialized RX0 ∈ zW := zq 13 (by decide +kernel) (by decide +kernel)
theorem q14 : Cond.initialized "java/lang/UnsupportedOperationException" ∈ zW := zq 14 (by decide +kernel) (by decide +kernel)
theorem q15 : Cond.classLink RL 8 "WordConcordance" ∈ zW := zq 15 (by decide +kernel) (by decide +kernel)
theorem q16 : Cond.instantiable RX2 7 ∈ zW := zq 16 (by decide +kernel) (by decide +kernel)
theorem q17 : Cond.methodLink RL 157 yX2_init ∈ zW := zq 17 (by decide +kernel) (by decide +kernel)
theorem q18 : Cond.instanceMethod yX2_init ∈ zW := zq 18 (by decide +kernel) (by decide +kernel)
theorem q19 : Cond.code yX2_init cX2_init 2 none ∈ zW := zq 19 (by decide +kernel) (by decide +kernel)
theorem q20 : Cond.methodLink RX2 1 ⟨"java/lang/Object", "<init>", "()V"⟩ ∈ zW := zq 20 (by decide +kernel) (by decide +kernel)
theorem q21 : Cond.instanceMethod ⟨"java/lang/Object", "<init>", "()V"⟩ ∈ zW := zq 21 (by decide +kernel) (by decide +kernel)
theorem q22 : Cond.code ⟨"java/lang/Object", "<init>", "()V"⟩ object_method_1_code 1 none ∈ zW := zq 22 (by decide +kernel) (by decide +kernel)
theorem q23 : Cond.classLink RX2 9 "WordConcordance$Row" ∈ zW := zq 23 (by decide +kernel) (by decide +kernel)
theorem q25 : Cond.instantiable RX1 2 ∈ zW := zq 25 (by decide +kernel) (by decide +kernel)
theorem q26 : Cond.methodLink RX2 22 yX1_init ∈ zW := zq 26 (by decide +kernel) (by decide +kernel)
theorem q27 : Cond.instanceMethod yX1_init ∈ zW := zq 27 (by decide +kernel) (by decide +kernel)
theorem q28 : Cond.code yX1_init cX1_init 2 none ∈ zW := zq 28 (by decide +kernel) (by decide +kernel)
theorem q29 : Cond.methodLink RX1 3 ⟨"java/lang/Object", "<init>", "()V"⟩ ∈ zW := zq 29 (by decide +kernel) (by decide +kernel)
theorem q30 : Cond.fieldLink RX1 9 "WordConcordance$Row" "words" "[I" ∈ zW := zq 30 (by decide +kernel) (by decide +kernel)
theorem q32 : Cond.fieldLink RX1 15 "WordConcordance$Row" "length" "I" ∈ zW := zq 32 (by decide +kernel) (by decide +kernel)
theorem q39 : Cond.arrayClass FieldType.int ∈ zW := zq 39 (by decide +kernel) (by decide +kernel)
theorem q40 : Cond.fieldLink RX2 11 "WordConcordance" "texts" "[LWordConcordance$Row;" ∈ zW := zq 40 (by decide +kernel) (by decide +kernel)
theorem q41 : Cond.fieldLink RX2 15 "WordConcordance" "phrases" "[LWordConcordance$Row;" ∈ zW := zq 41 (by decide +kernel) (by decide +kernel)
theorem q42 : Cond.fieldLink RX2 18 "WordConcordance" "ranks" "[I" ∈ zW := zq 42 (by decide +kernel) (by decide +kernel)
theorem q43 : Cond.fieldLink RX2 25 "WordConcordance" "draft" "LWordConcordance$Row;" ∈ zW := zq 43 (by decide +kernel) (by decide +kernel)
theorem q44 : Cond.fieldLink RX2 29 "WordConcordance" "trial" "LWordConcordance$Row;" ∈ zW := zq 44 (by decide +kernel) (by decide +kernel)
theorem q45 : Cond.fieldLink RX2 32 "WordConcordance" "trialPhrase" "LWordConcordance$Row;" ∈ zW := zq 45 (by decide +kernel) (by decide +kernel)
theorem q46 : Cond.fieldLink RX2 35 "WordConcordance" "runs" "[I" ∈ zW := zq 46 (by decide +kernel) (by decide +kernel)
theorem q62 : Cond.methodLink RL 161 yL_add ∈ zW := zq 62 (by decide +kernel) (by decide +kernel)
theorem q63 : Cond.static yL_add ∈ zW := zq 63 (by decide +kernel) (by decide +kernel)
theorem q64 : Cond.codeWith yL_add cL_add 5 (some FieldType.int) [(0, 10, 13, 13), (0, 10, 17, 15)] ∈ zW := zq 64 (by decide +kernel) (by decide +kernel)
theorem q65 : Cond.classLink RL 13 "java/lang/IndexOutOfBoundsException" ∈ zW := zq 65 (by decide +kernel) (by decide +kernel)
theorem q66 : Cond.classLink RL 15 "java/lang/IllegalStateException" ∈ zW := zq 66 (by decide +kernel) (by decide +kernel)
theorem q67 : Cond.methodLink RL 7 yX2_add ∈ zW := zq 67 (by decide +kernel) (by decide +kernel)
theorem q68 : Cond.instanceMethod yX2_add ∈ zW := zq 68 (by decide +kernel) (by decide +kernel)
theorem q69 : Cond.selects "WordConcordance" yX2_add yX2_add ∈ zW := zq 69 (by decide +kernel) (by decide +kernel)
theorem q70 : Cond.code yX2_add cX2_add 4 (some FieldType.int) ∈ zW := zq 70 (by decide +kernel) (by decide +kernel)
theorem q71 : Cond.methodLink RX2 38 yX2_textAt ∈ zW := zq 71 (by decide +kernel) (by decide +kernel)
theorem q73 : Cond.instanceMethod yX2_textAt ∈ zW := zq 73 (by decide +kernel) (by decide +kernel)
theorem q74 : Cond.code yX2_textAt cX2_textAt 2 (some (FieldType.object "WordConcordance$Row")) ∈ zW := zq 74 (by decide +kernel) (by decide +kernel)
theorem q75 : Cond.classLink RX2 212 "java/lang/IndexOutOfBoundsException" ∈ zW := zq 75 (by decide +kernel) (by decide +kernel)
theorem q76 : Cond.instantiable "java/lang/IndexOutOfBoundsException" 6 ∈ zW := zq 76 (by decide +kernel) (by decide +kernel)
theorem q84 : Cond.selects "java/lang/IndexOutOfBoundsException" ⟨"java/lang/Throwable", "fillInStackTrace", "(I)Ljava/lang/Throwable;"⟩ ⟨"java/lang/Throwable", "fillInStackTrace", "(I)Ljava/lang/Throwable;"⟩ ∈ zW := zq 84 (by decide +kernel) (by decide +kernel)
theorem q85 : Cond.selects "java/lang/IndexOutOfBoundsException" ⟨"java/lang/Throwable", "fillInStackTrace", "()Ljava/lang/Throwable;"⟩ ⟨"java/lang/Throwable", "fillInStackTrace", "()Ljava/lang/Throwable;"⟩ ∈ zW := zq 85 (by decide +kernel) (by decide +kernel)
theorem q96 : Cond.fieldLink "java/lang/Throwable" 198 "java/lang/Throwable" "backtrace" "Ljava/lang/Object;" ∈ zW := zq 96 (by decide +kernel) (by decide +kernel)
theorem q98 : Cond.instanceMethod ⟨"java/lang/Throwable", "<init>", "()V"⟩ ∈ zW := zq 98 (by decide +kernel) (by decide +kernel)
theorem q99 : Cond.code ⟨"java/lang/Throwable", "<init>", "()V"⟩ prog_15_method_1_code 1 none ∈ zW := zq 99 (by decide +kernel) (by decide +kernel)
theorem q100 : Cond.methodLink "java/lang/Throwable" 1 ⟨"java/lang/Object", "<init>", "()V"⟩ ∈ zW := zq 100 (by decide +kernel) (by decide +kernel)
theorem q101 : Cond.fieldLink "java/lang/Throwable" 13 "java/lang/Throwable" "UNASSIGNED_STACK" "[Ljava/lang/StackTraceElement;" ∈ zW := zq 101 (by decide +kernel) (by decide +kernel)
theorem q103 : Cond.fieldLink "java/lang/Throwable" 20 "java/lang/Throwable" "SUPPRESSED_SENTINEL" "Ljava/util/List;" ∈ zW := zq 103 (by decide +kernel) (by decide +kernel)
theorem q105 : Cond.methodLink "java/lang/Throwable" 27 ⟨"java/lang/Throwable", "fillInStackTrace", "()Ljava/lang/Throwable;"⟩ ∈ zW := zq 105 (by decide +kernel) (by decide +kernel)
theorem q106 : Cond.instanceMethod ⟨"java/lang/Throwable", "fillInStackTrace", "()Ljava/lang/Throwable;"⟩ ∈ zW := zq 106 (by decide +kernel) (by decide +kernel)
theorem q108 : Cond.selects "java/lang/IllegalArgumentException" ⟨"java/lang/Throwable", "fillInStackTrace", "()Ljava/lang/Throwable;"⟩ ⟨"java/lang/Throwable", "fillInStackTrace", "()Ljava/lang/Throwable;"⟩ ∈ zW := zq 108 (by decide +kernel) (by decide +kernel)
theorem q109 : Cond.selects "java/lang/IllegalStateException" ⟨"java/lang/Throwable", "fillInStackTrace", "()Ljava/lang/Throwable;"⟩ ⟨"java/lang/Throwable", "fillInStackTrace", "()Ljava/lang/Throwable;"⟩ ∈ zW := zq 109 (by decide +kernel) (by decide +kernel)
theorem q110 : Cond.selects "java/lang/UnsupportedOperationException" ⟨"java/lang/Throwable", "fillInStackTrace", "()Ljava/lang/Throwable;"⟩ ⟨"java/lang/Throwable", "fillInStackTrace", "()Ljava/lang/Throwable;"⟩ ∈ zW := zq 110 (by decide +kernel) (by decide +kernel)
theorem q111 : Cond.selects "java/util/NoSuchElementException" ⟨"java/lang/Throwable", "fillInStackTrace", "()Ljava/lang/Throwable;"⟩ ⟨"java/lang/Throwable", "fillInStackTrace", "()Ljava/lang/Throwable;"⟩ ∈ zW := zq 111 (by decide +kernel) (by decide +kernel)
theorem q113 : Cond.methodLink "java/lang/Throwable" 202 ⟨"java/lang/Throwable", "fillInStackTrace", "(I)Ljava/lang/Throwable;"⟩ ∈ zW := zq 113 (by decide +kernel) (by decide +kernel)
theorem q115 : Cond.instanceMethod ⟨"java/lang/Throwable", "fillInStackTrace", "(I)Ljava/lang/Throwable;"⟩ ∈ zW := zq 115 (by decide +kernel) (by decide +kernel)
theorem q116 : Cond.instantiable "java/lang/Throwable" 6 ∈ zW := zq 116 (by decide +kernel) (by decide +kernel)
theorem q119 : Cond.methodLink RX2 250 ⟨"java/lang/IndexOutOfBoundsException", "<init>", "(Ljava/lang/String;)V"⟩ ∈ zW := zq 119 (by decide +kernel) (by decide +kernel)
theorem q120 : Cond.instanceMethod ⟨"java/lang/IndexOutOfBoundsException", "<init>", "(Ljava/lang/String;)V"⟩ ∈ zW := zq 120 (by decide +kernel) (by decide +kernel)
theorem q121 : Cond.code ⟨"java/lang/IndexOutOfBoundsException", "<init>", "(Ljava/lang/String;)V"⟩ prog_11_method_2_code 2 none ∈ zW := zq 121 (by decide +kernel) (by decide +kernel)
theorem q122 : Cond.methodLink "java/lang/IndexOutOfBoundsException" 7 ⟨"java/lang/RuntimeException", "<init>", "(Ljava/lang/String;)V"⟩ ∈ zW := zq 122 (by decide +kernel) (by decide +kernel)
theorem q123 : Cond.instanceMethod ⟨"java/lang/RuntimeException", "<init>", "(Ljava/lang/String;)V"⟩ ∈ zW := zq 123 (by decide +kernel) (by decide +kernel)
theorem q124 : Cond.code ⟨"java/lang/RuntimeException", "<init>", "(Ljava/lang/String;)V"⟩ prog_13_method_2_code 2 none ∈ zW := zq 124 (by decide +kernel) (by decide +kernel)
theorem q125 : Cond.methodLink "java/lang/RuntimeException" 7 ⟨"java/lang/Exception", "<init>", "(Ljava/lang/String;)V"⟩ ∈ zW := zq 125 (by decide +kernel) (by decide +kernel)
theorem q126 : Cond.instanceMethod ⟨"java/lang/Exception", "<init>", "(Ljava/lang/String;)V"⟩ ∈ zW := zq 126 (by decide +kernel) (by decide +kernel)
theorem q127 : Cond.code ⟨"java/lang/Exception", "<init>", "(Ljava/lang/String;)V"⟩ prog_8_method_2_code 2 none ∈ zW := zq 127 (by decide +kernel) (by decide +kernel)
theorem q128 : Cond.methodLink "java/lang/Exception" 7 ⟨"java/lang/Throwable", "<init>", "(Ljava/lang/String;)V"⟩ ∈ zW := zq 128 (by decide +kernel) (by decide +kernel)
theorem q129 : Cond.instanceMethod ⟨"java/lang/Throwable", "<init>", "(Ljava/lang/String;)V"⟩ ∈ zW := zq 129 (by decide +kernel) (by decide +kernel)
theorem q130 : Cond.code ⟨"java/lang/Throwable", "<init>", "(Ljava/lang/String;)V"⟩ prog_15_method_2_code 2 none ∈ zW := zq 130 (by decide +kernel) (by decide +kernel)
theorem q132 : Cond.fieldLink "java/lang/Throwable" 31 "java/lang/Throwable" "detailMessage" "Ljava/lang/String;" ∈ zW := zq 132 (by decide +kernel) (by decide +kernel)
theorem q133 : Cond.fieldLink "java/lang/Throwable" 7 "java/lang/Throwable" "cause" "Ljava/lang/Throwable;" ∈ zW := zq 133 (by decide +kernel) (by decide +kernel)
theorem q134 : Cond.fieldLink "java/lang/Throwable" 17 "java/lang/Throwable" "stackTrace" "[Ljava/lang/StackTraceElement;" ∈ zW := zq 134 (by decide +kernel) (by decide +kernel)
theorem q135 : Cond.fieldLink "java/lang/Throwable" 24 "java/lang/Throwable" "suppressedExceptions" "Ljava/util/List;" ∈ zW := zq 135 (by decide +kernel) (by decide +kernel)
theorem q144 : Cond.arrayClass FieldType.byte ∈ zW := zq 144 (by decide +kernel) (by decide +kernel)
theorem q145 : Cond.methodLink RX2 42 yX2_requireWord ∈ zW := zq 145 (by decide +kernel) (by decide +kernel)
theorem q146 : Cond.static yX2_requireWord ∈ zW := zq 146 (by decide +kernel) (by decide +kernel)
theorem q147 : Cond.code yX2_requireWord cX2_requireWord 1 none ∈ zW := zq 147 (by decide +kernel) (by decide +kernel)
theorem q149 : Cond.methodLink RX2 46 yX2_requireRoom ∈ zW := zq 149 (by decide +kernel) (by decide +kernel)
theorem q150 : Cond.static yX2_requireRoom ∈ zW := zq 150 (by decide +kernel) (by decide +kernel)
theorem q151 : Cond.code yX2_requireRoom cX2_requireRoom 2 none ∈ zW := zq 151 (by decide +kernel) (by decide +kernel)
theorem q152 : Cond.classLink RX2 92 "java/lang/IllegalStateException" ∈ zW := zq 152 (by decide +kernel) (by decide +kernel)
theorem q153 : Cond.instantiable "java/lang/IllegalStateException" 6 ∈ zW := zq 153 (by decide +kernel) (by decide +kernel)
theorem q155 : Cond.selects "java/lang/IllegalStateException" ⟨"java/lang/Throwable", "fillInStackTrace", "(I)Ljava/lang/Throwable;"⟩ ⟨"java/lang/Throwable", "fillInStackTrace", "(I)Ljava/lang/Throwable;"⟩ ∈ zW := zq 155 (by decide +kernel) (by decide +kernel)
theorem q162 : Cond.methodLink RX2 96 ⟨"java/lang/IllegalStateException", "<init>", "(Ljava/lang/String;)V"⟩ ∈ zW := zq 162 (by decide +kernel) (by decide +kernel)
theorem q163 : Cond.instanceMethod ⟨"java/lang/IllegalStateException", "<init>", "(Ljava/lang/String;)V"⟩ ∈ zW := zq 163 (by decide +kernel) (by decide +kernel)
theorem q164 : Cond.code ⟨"java/lang/IllegalStateException", "<init>", "(Ljava/lang/String;)V"⟩ prog_10_method_2_code 2 none ∈ zW := zq 164 (by decide +kernel) (by decide +kernel)
theorem q165 : Cond.methodLink "java/lang/IllegalStateException" 7 ⟨"java/lang/RuntimeException", "<init>", "(Ljava/lang/String;)V"⟩ ∈ zW := zq 165 (by decide +kernel) (by decide +kernel)
theorem q168 : Cond.methodLink RX2 50 yX1_append ∈ zW := zq 168 (by decide +kernel) (by decide +kernel)
theorem q169 : Cond.instanceMethod yX1_append ∈ zW := zq 169 (by decide +kernel) (by decide +kernel)
theorem q170 : Cond.selects "WordConcordance$Row" yX1_append yX1_append ∈ zW := zq 170 (by decide +kernel) (by decide +kernel)
theorem q171 : Cond.code yX1_append cX1_append 2 none ∈ zW := zq 171 (by decide +kernel) (by decide +kernel)
theorem q172 : Cond.methodLink RL 171 yL_addMany ∈ zW := zq 172 (by decide +kernel) (by decide +kernel)
theorem q173 : Cond.static yL_addMany ∈ zW := zq 173 (by decide +kernel) (by decide +kernel)
theorem q174 : Cond.codeWith yL_addMany cL_addMany 6 (some FieldType.int) [(0, 12, 15, 13), (0, 12, 19, 21), (0, 12, 23, 15)] ∈ zW := zq 174 (by decide +kernel) (by decide +kernel)
theorem q175 : Cond.classLink RL 21 "java/lang/IllegalArgumentException" ∈ zW := zq 175 (by decide +kernel) (by decide +kernel)
theorem q176 : Cond.methodLink RL 17 yX2_addMany ∈ zW := zq 176 (by decide +kernel) (by decide +kernel)
theorem q177 : Cond.instanceMethod yX2_addMany ∈ zW := zq 177 (by decide +kernel) (by decide +kernel)
theorem q178 : Cond.selects "WordConcordance" yX2_addMany yX2_addMany ∈ zW := zq 178 (by decide +kernel) (by decide +kernel)
theorem q179 : Cond.code yX2_addMany cX2_addMany 6 (some FieldType.int) ∈ zW := zq 179 (by decide +kernel) (by decide +kernel)
theorem q180 : Cond.methodLink RX2 57 yX2_requireNotNegative ∈ zW := zq 180 (by decide +kernel) (by decide +kernel)
theorem q181 : Cond.static yX2_requireNotNegative ∈ zW := zq 181 (by decide +kernel) (by decide +kernel)
theorem q182 : Cond.code yX2_requireNotNegative cX2_requireNotNegative 1 none ∈ zW := zq 182 (by decide +kernel) (by decide +kernel)
theorem q183 : Cond.classLink RX2 214 "java/lang/IllegalArgumentException" ∈ zW := zq 183 (by decide +kernel) (by decide +kernel)
theorem q184 : Cond.instantiable "java/lang/IllegalArgumentException" 6 ∈ zW := zq 184 (by decide +kernel) (by decide +kernel)
theorem q186 : Cond.selects "java/lang/IllegalArgumentException" ⟨"java/lang/Throwable", "fillInStackTrace", "(I)Ljava/lang/Throwable;"⟩ ⟨"java/lang/Throwable", "fillInStackTrace", "(I)Ljava/lang/Throwable;"⟩ ∈ zW := zq 186 (by decide +kernel) (by decide +kernel)
theorem q193 : Cond.methodLink RX2 261 ⟨"java/lang/IllegalArgumentException", "<init>", "(Ljava/lang/String;)V"⟩ ∈ zW := zq 193 (by decide +kernel) (by decide +kernel)
theorem q194 : Cond.instanceMethod ⟨"java/lang/IllegalArgumentException", "<init>", "(Ljava/lang/String;)V"⟩ ∈ zW := zq 194 (by decide +kernel) (by decide +kernel)
theorem q195 : Cond.code ⟨"java/lang/IllegalArgumentException", "<init>", "(Ljava/lang/String;)V"⟩ prog_9_method_2_code 2 none ∈ zW := zq 195 (by decide +kernel) (by decide +kernel)
theorem q196 : Cond.methodLink "java/lang/IllegalArgumentException" 7 ⟨"java/lang/RuntimeException", "<init>", "(Ljava/lang/String;)V"⟩ ∈ zW := zq 196 (by decide +kernel) (by decide +kernel)
theorem q199 : Cond.methodLink RL 175 yL_scatter ∈ zW := zq 199 (by decide +kernel) (by decide +kernel)
theorem q200 : Cond.static yL_scatter ∈ zW := zq 200 (by decide +kernel) (by decide +kernel)
theorem q201 : Cond.codeWith yL_scatter cL_scatter 7 (some FieldType.int) [(0, 14, 17, 13), (0, 14, 21, 21), (0, 14, 25, 15)] ∈ zW := zq 201 (by decide +kernel) (by decide +kernel)
theorem q202 : Cond.methodLink RL 23 yX2_scatter ∈ zW := zq 202 (by decide +kernel) (by decide +kernel)
theorem q203 : Cond.instanceMethod yX2_scatter ∈ zW := zq 203 (by decide +kernel) (by decide +kernel)
theorem q204 : Cond.selects "WordConcordance" yX2_scatter yX2_scatter ∈ zW := zq 204 (by decide +kernel) (by decide +kernel)
theorem q205 : Cond.code yX2_scatter cX2_scatter 9 (some FieldType.int) ∈ zW := zq 205 (by decide +kernel) (by decide +kernel)
theorem q206 : Cond.methodLink RX2 60 yX2_requireWithin ∈ zW := zq 206 (by decide +kernel) (by decide +kernel)
theorem q207 : Cond.static yX2_requireWithin ∈ zW := zq 207 (by decide +kernel) (by decide +kernel)
theorem q208 : Cond.code yX2_requireWithin cX2_requireWithin 3 none ∈ zW := zq 208 (by decide +kernel) (by decide +kernel)
theorem q210 : Cond.constantLong RX2 64 (1103515245 : Int64) ∈ zW := zq 210 (by decide +kernel) (by decide +kernel)
theorem q211 : Cond.constantLong RX2 66 (12345 : Int64) ∈ zW := zq 211 (by decide +kernel) (by decide +kernel)
theorem q212 : Cond.constantLong RX2 68 (2147483647 : Int64) ∈ zW := zq 212 (by decide +kernel) (by decide +kernel)
theorem q213 : Cond.constantLong RX2 70 (65536 : Int64) ∈ zW := zq 213 (by decide +kernel) (by decide +kernel)
theorem q214 : Cond.methodLink RL 179 yL_insert ∈ zW := zq 214 (by decide +kernel) (by decide +kernel)
theorem q215 : Cond.static yL_insert ∈ zW := zq 215 (by decide +kernel) (by decide +kernel)
theorem q216 : Cond.codeWith yL_insert cL_insert 6 (some FieldType.int) [(0, 12, 15, 13), (0, 12, 19, 15)] ∈ zW := zq 216 (by decide +kernel) (by decide +kernel)
theorem q217 : Cond.methodLink RL 27 yX2_insert ∈ zW := zq 217 (by decide +kernel) (by decide +kernel)
theorem q218 : Cond.instanceMethod yX2_insert ∈ zW := zq 218 (by decide +kernel) (by decide +kernel)
theorem q219 : Cond.selects "WordConcordance" yX2_insert yX2_insert ∈ zW := zq 219 (by decide +kernel) (by decide +kernel)
theorem q220 : Cond.code yX2_insert cX2_insert 5 (some FieldType.int) ∈ zW := zq 220 (by decide +kernel) (by decide +kernel)
theorem q221 : Cond.methodLink RX2 72 yX2_requirePart ∈ zW := zq 221 (by decide +kernel) (by decide +kernel)
theorem q222 : Cond.static yX2_requirePart ∈ zW := zq 222 (by decide +kernel) (by decide +kernel)
theorem q223 : Cond.code yX2_requirePart cX2_requirePart 3 none ∈ zW := zq 223 (by decide +kernel) (by decide +kernel)
theorem q225 : Cond.methodLink RX2 76 yX1_openUp ∈ zW := zq 225 (by decide +kernel) (by decide +kernel)
theorem q226 : Cond.instanceMethod yX1_openUp ∈ zW := zq 226 (by decide +kernel) (by decide +kernel)
theorem q227 : Cond.selects "WordConcordance$Row" yX1_openUp yX1_openUp ∈ zW := zq 227 (by decide +kernel) (by decide +kernel)
theorem q228 : Cond.code yX1_openUp cX1_openUp 4 none ∈ zW := zq 228 (by decide +kernel) (by decide +kernel)
theorem q229 : Cond.methodLink RL 182 yL_set ∈ zW := zq 229 (by decide +kernel) (by decide +kernel)
theorem q230 : Cond.static yL_set ∈ zW := zq 230 (by decide +kernel) (by decide +kernel)
theorem q231 : Cond.codeWith yL_set cL_set 6 (some FieldType.int) [(0, 12, 15, 13)] ∈ zW := zq 231 (by decide +kernel) (by decide +kernel)
theorem q232 : Cond.methodLink RL 30 yX2_set ∈ zW := zq 232 (by decide +kernel) (by decide +kernel)
theorem q233 : Cond.instanceMethod yX2_set ∈ zW := zq 233 (by decide +kernel) (by decide +kernel)
theorem q234 : Cond.selects "WordConcordance" yX2_set yX2_set ∈ zW := zq 234 (by decide +kernel) (by decide +kernel)
theorem q235 : Cond.code yX2_set cX2_set 6 (some FieldType.int) ∈ zW := zq 235 (by decide +kernel) (by decide +kernel)
theorem q236 : Cond.methodLink RX2 80 yX2_requirePlace ∈ zW := zq 236 (by decide +kernel) (by decide +kernel)
theorem q237 : Cond.static yX2_requirePlace ∈ zW := zq 237 (by decide +kernel) (by decide +kernel)
theorem q238 : Cond.code yX2_requirePlace cX2_requirePlace 2 none ∈ zW := zq 238 (by decide +kernel) (by decide +kernel)
theorem q240 : Cond.methodLink RL 185 yL_remove ∈ zW := zq 240 (by decide +kernel) (by decide +kernel)
theorem q241 : Cond.static yL_remove ∈ zW := zq 241 (by decide +kernel) (by decide +kernel)
theorem q242 : Cond.codeWith yL_remove cL_remove 5 (some FieldType.int) [(0, 10, 13, 13)] ∈ zW := zq 242 (by decide +kernel) (by decide +kernel)
theorem q243 : Cond.methodLink RL 33 yX2_remove ∈ zW := zq 243 (by decide +kernel) (by decide +kernel)
theorem q244 : Cond.instanceMethod yX2_remove ∈ zW := zq 244 (by decide +kernel) (by decide +kernel)
theorem q245 : Cond.selects "WordConcordance" yX2_remove yX2_remove ∈ zW := zq 245 (by decide +kernel) (by decide +kernel)
theorem q246 : Cond.code yX2_remove cX2_remove 5 (some FieldType.int) ∈ zW := zq 246 (by decide +kernel) (by decide +kernel)
theorem q247 : Cond.methodLink RX2 86 yX1_closeUp ∈ zW := zq 247 (by decide +kernel) (by decide +kernel)
theorem q248 : Cond.instanceMethod yX1_closeUp ∈ zW := zq 248 (by decide +kernel) (by decide +kernel)
theorem q249 : Cond.selects "WordConcordance$Row" yX1_closeUp yX1_closeUp ∈ zW := zq 249 (by decide +kernel) (by decide +kernel)
theorem q250 : Cond.code yX1_closeUp cX1_closeUp 5 none ∈ zW := zq 250 (by decide +kernel) (by decide +kernel)
theorem q251 : Cond.methodLink RL 188 yL_cut ∈ zW := zq 251 (by decide +kernel) (by decide +kernel)
theorem q252 : Cond.static yL_cut ∈ zW := zq 252 (by decide +kernel) (by decide +kernel)
theorem q253 : Cond.codeWith yL_cut cL_cut 6 (some FieldType.int) [(0, 12, 15, 13)] ∈ zW := zq 253 (by decide +kernel) (by decide +kernel)
theorem q254 : Cond.methodLink RL 36 yX2_cut ∈ zW := zq 254 (by decide +kernel) (by decide +kernel)
theorem q255 : Cond.instanceMethod yX2_cut ∈ zW := zq 255 (by decide +kernel) (by decide +kernel)
theorem q256 : Cond.selects "WordConcordance" yX2_cut yX2_cut ∈ zW := zq 256 (by decide +kernel) (by decide +kernel)
theorem q257 : Cond.code yX2_cut cX2_cut 5 (some FieldType.int) ∈ zW := zq 257 (by decide +kernel) (by decide +kernel)
theorem q258 : Cond.methodLink RL 191 yL_size ∈ zW := zq 258 (by decide +kernel) (by decide +kernel)
theorem q259 : Cond.static yL_size ∈ zW := zq 259 (by decide +kernel) (by decide +kernel)
theorem q260 : Cond.codeWith yL_size cL_size 4 (some FieldType.int) [(0, 9, 12, 13)] ∈ zW := zq 260 (by decide +kernel) (by decide +kernel)
theorem q261 : Cond.methodLink RL 39 yX2_size ∈ zW := zq 261 (by decide +kernel) (by decide +kernel)
theorem q262 : Cond.instanceMethod yX2_size ∈ zW := zq 262 (by decide +kernel) (by decide +kernel)
theorem q263 : Cond.selects "WordConcordance" yX2_size yX2_size ∈ zW := zq 263 (by decide +kernel) (by decide +kernel)
theorem q264 : Cond.code yX2_size cX2_size 2 (some FieldType.int) ∈ zW := zq 264 (by decide +kernel) (by decide +kernel)
theorem q265 : Cond.methodLink RL 195 yL_at ∈ zW := zq 265 (by decide +kernel) (by decide +kernel)
theorem q266 : Cond.static yL_at ∈ zW := zq 266 (by decide +kernel) (by decide +kernel)
theorem q267 : Cond.codeWith yL_at cL_at 5 (some FieldType.int) [(0, 10, 13, 13)] ∈ zW := zq 267 (by decide +kernel) (by decide +kernel)
theorem q268 : Cond.methodLink RL 43 yX2_at ∈ zW := zq 268 (by decide +kernel) (by decide +kernel)
theorem q269 : Cond.instanceMethod yX2_at ∈ zW := zq 269 (by decide +kernel) (by decide +kernel)
theorem q270 : Cond.selects "WordConcordance" yX2_at yX2_at ∈ zW := zq 270 (by decide +kernel) (by decide +kernel)
theorem q271 : Cond.code yX2_at cX2_at 4 (some FieldType.int) ∈ zW := zq 271 (by decide +kernel) (by decide +kernel)
theorem q272 : Cond.methodLink RL 198 yL_digest ∈ zW := zq 272 (by decide +kernel) (by decide +kernel)
theorem q273 : Cond.static yL_digest ∈ zW := zq 273 (by decide +kernel) (by decide +kernel)
theorem q274 : Cond.codeWith yL_digest cL_digest 4 (some FieldType.int) [(0, 9, 12, 13)] ∈ zW := zq 274 (by decide +kernel) (by decide +kernel)
theorem q275 : Cond.methodLink RL 46 yX2_digest ∈ zW := zq 275 (by decide +kernel) (by decide +kernel)
theorem q276 : Cond.instanceMethod yX2_digest ∈ zW := zq 276 (by decide +kernel) (by decide +kernel)
theorem q277 : Cond.selects "WordConcordance" yX2_digest yX2_digest ∈ zW := zq 277 (by decide +kernel) (by decide +kernel)
theorem q278 : Cond.code yX2_digest cX2_digest 5 (some FieldType.int) ∈ zW := zq 278 (by decide +kernel) (by decide +kernel)
theorem q279 : Cond.methodLink RL 201 yL_setRank ∈ zW := zq 279 (by decide +kernel) (by decide +kernel)
theorem q280 : Cond.static yL_setRank ∈ zW := zq 280 (by decide +kernel) (by decide +kernel)
theorem q281 : Cond.codeWith yL_setRank cL_setRank 5 (some FieldType.int) [(0, 10, 13, 13), (0, 10, 17, 21)] ∈ zW := zq 281 (by decide +kernel) (by decide +kernel)
theorem q282 : Cond.methodLink RL 49 yX2_setRank ∈ zW := zq 282 (by decide +kernel) (by decide +kernel)
theorem q283 : Cond.instanceMethod yX2_setRank ∈ zW := zq 283 (by decide +kernel) (by decide +kernel)
theorem q284 : Cond.selects "WordConcordance" yX2_setRank yX2_setRank ∈ zW := zq 284 (by decide +kernel) (by decide +kernel)
theorem q285 : Cond.code yX2_setRank cX2_setRank 4 (some FieldType.int) ∈ zW := zq 285 (by decide +kernel) (by decide +kernel)
theorem q286 : Cond.methodLink RL 204 yL_say ∈ zW := zq 286 (by decide +kernel) (by decide +kernel)
theorem q287 : Cond.static yL_say ∈ zW := zq 287 (by decide +kernel) (by decide +kernel)
theorem q288 : Cond.codeWith yL_say cL_say 5 (some FieldType.int) [(0, 10, 13, 13), (0, 10, 17, 15)] ∈ zW := zq 288 (by decide +kernel) (by decide +kernel)
theorem q289 : Cond.methodLink RL 52 yX2_say ∈ zW := zq 289 (by decide +kernel) (by decide +kernel)
theorem q290 : Cond.instanceMethod yX2_say ∈ zW := zq 290 (by decide +kernel) (by decide +kernel)
theorem q291 : Cond.selects "WordConcordance" yX2_say yX2_say ∈ zW := zq 291 (by decide +kernel) (by decide +kernel)
theorem q292 : Cond.code yX2_say cX2_say 4 (some FieldType.int) ∈ zW := zq 292 (by decide +kernel) (by decide +kernel)
theorem q293 : Cond.methodLink RX2 89 yX2_phraseAt ∈ zW := zq 293 (by decide +kernel) (by decide +kernel)
theorem q295 : Cond.instanceMethod yX2_phraseAt ∈ zW := zq 295 (by decide +kernel) (by decide +kernel)
theorem q296 : Cond.code yX2_phraseAt cX2_phraseAt 2 (some (FieldType.object "WordConcordance$Row")) ∈ zW := zq 296 (by decide +kernel) (by decide +kernel)
theorem q298 : Cond.methodLink RL 207 yL_quote ∈ zW := zq 298 (by decide +kernel) (by decide +kernel)
theorem q299 : Cond.static yL_quote ∈ zW := zq 299 (by decide +kernel) (by decide +kernel)
theorem q300 : Cond.codeWith yL_quote cL_quote 7 (some FieldType.int) [(0, 14, 17, 13), (0, 14, 21, 15)] ∈ zW := zq 300 (by decide +kernel) (by decide +kernel)
theorem q301 : Cond.methodLink RL 55 yX2_quote ∈ zW := zq 301 (by decide +kernel) (by decide +kernel)
theorem q302 : Cond.instanceMethod yX2_quote ∈ zW := zq 302 (by decide +kernel) (by decide +kernel)
theorem q303 : Cond.selects "WordConcordance" yX2_quote yX2_quote ∈ zW := zq 303 (by decide +kernel) (by decide +kernel)
theorem q304 : Cond.code yX2_quote cX2_quote 8 (some FieldType.int) ∈ zW := zq 304 (by decide +kernel) (by decide +kernel)
theorem q306 : Cond.methodLink RL 210 yL_hush ∈ zW := zq 306 (by decide +kernel) (by decide +kernel)
theorem q307 : Cond.static yL_hush ∈ zW := zq 307 (by decide +kernel) (by decide +kernel)
theorem q308 : Cond.codeWith yL_hush cL_hush 4 (some FieldType.int) [(0, 9, 12, 13)] ∈ zW := zq 308 (by decide +kernel) (by decide +kernel)
theorem q309 : Cond.methodLink RL 58 yX2_hush ∈ zW := zq 309 (by decide +kernel) (by decide +kernel)
theorem q310 : Cond.instanceMethod yX2_hush ∈ zW := zq 310 (by decide +kernel) (by decide +kernel)
theorem q311 : Cond.selects "WordConcordance" yX2_hush yX2_hush ∈ zW := zq 311 (by decide +kernel) (by decide +kernel)
theorem q312 : Cond.code yX2_hush cX2_hush 4 (some FieldType.int) ∈ zW := zq 312 (by decide +kernel) (by decide +kernel)
theorem q313 : Cond.methodLink RL 213 yL_wordOf ∈ zW := zq 313 (by decide +kernel) (by decide +kernel)
theorem q314 : Cond.static yL_wordOf ∈ zW := zq 314 (by decide +kernel) (by decide +kernel)
theorem q315 : Cond.codeWith yL_wordOf cL_wordOf 5 (some FieldType.int) [(0, 10, 13, 13)] ∈ zW := zq 315 (by decide +kernel) (by decide +kernel)
theorem q316 : Cond.methodLink RL 61 yX2_wordOf ∈ zW := zq 316 (by decide +kernel) (by decide +kernel)
theorem q317 : Cond.instanceMethod yX2_wordOf ∈ zW := zq 317 (by decide +kernel) (by decide +kernel)
theorem q318 : Cond.selects "WordConcordance" yX2_wordOf yX2_wordOf ∈ zW := zq 318 (by decide +kernel) (by decide +kernel)
theorem q319 : Cond.code yX2_wordOf cX2_wordOf 4 (some FieldType.int) ∈ zW := zq 319 (by decide +kernel) (by decide +kernel)
theorem q320 : Cond.methodLink RL 216 yL_find ∈ zW := zq 320 (by decide +kernel) (by decide +kernel)
theorem q321 : Cond.static yL_find ∈ zW := zq 321 (by decide +kernel) (by decide +kernel)
theorem q322 : Cond.codeWith yL_find cL_find 4 (some FieldType.int) [(0, 9, 12, 13)] ∈ zW := zq 322 (by decide +kernel) (by decide +kernel)
theorem q323 : Cond.methodLink RL 64 yX2_find ∈ zW := zq 323 (by decide +kernel) (by decide +kernel)
theorem q324 : Cond.instanceMethod yX2_find ∈ zW := zq 324 (by decide +kernel) (by decide +kernel)
theorem q325 : Cond.selects "WordConcordance" yX2_find yX2_find ∈ zW := zq 325 (by decide +kernel) (by decide +kernel)
theorem q326 : Cond.code yX2_find cX2_find 3 (some FieldType.int) ∈ zW := zq 326 (by decide +kernel) (by decide +kernel)
theorem q327 : Cond.methodLink RX2 99 yX1_firstPlaceOf ∈ zW := zq 327 (by decide +kernel) (by decide +kernel)
theorem q328 : Cond.instanceMethod yX1_firstPlaceOf ∈ zW := zq 328 (by decide +kernel) (by decide +kernel)
theorem q329 : Cond.selects "WordConcordance$Row" yX1_firstPlaceOf yX1_firstPlaceOf ∈ zW := zq 329 (by decide +kernel) (by decide +kernel)
theorem q330 : Cond.code yX1_firstPlaceOf cX1_firstPlaceOf 5 (some FieldType.int) ∈ zW := zq 330 (by decide +kernel) (by decide +kernel)
theorem q331 : Cond.methodLink RX1 35 yX1_holds ∈ zW := zq 331 (by decide +kernel) (by decide +kernel)
theorem q332 : Cond.instanceMethod yX1_holds ∈ zW := zq 332 (by decide +kernel) (by decide +kernel)
theorem q333 : Cond.selects "WordConcordance$Row" yX1_holds yX1_holds ∈ zW := zq 333 (by decide +kernel) (by decide +kernel)
theorem q334 : Cond.code yX1_holds cX1_holds 4 (some FieldType.boolean) ∈ zW := zq 334 (by decide +kernel) (by decide +kernel)
theorem q335 : Cond.methodLink RL 219 yL_findLast ∈ zW := zq 335 (by decide +kernel) (by decide +kernel)
theorem q336 : Cond.static yL_findLast ∈ zW := zq 336 (by decide +kernel) (by decide +kernel)
theorem q337 : Cond.codeWith yL_findLast cL_findLast 4 (some FieldType.int) [(0, 9, 12, 13)] ∈ zW := zq 337 (by decide +kernel) (by decide +kernel)
theorem q338 : Cond.methodLink RL 67 yX2_findLast ∈ zW := zq 338 (by decide +kernel) (by decide +kernel)
theorem q339 : Cond.instanceMethod yX2_findLast ∈ zW := zq 339 (by decide +kernel) (by decide +kernel)
theorem q340 : Cond.selects "WordConcordance" yX2_findLast yX2_findLast ∈ zW := zq 340 (by decide +kernel) (by decide +kernel)
theorem q341 : Cond.code yX2_findLast cX2_findLast 2 (some FieldType.int) ∈ zW := zq 341 (by decide +kernel) (by decide +kernel)
theorem q342 : Cond.methodLink RX2 103 yX1_lastPlaceOf ∈ zW := zq 342 (by decide +kernel) (by decide +kernel)
theorem q343 : Cond.instanceMethod yX1_lastPlaceOf ∈ zW := zq 343 (by decide +kernel) (by decide +kernel)
theorem q344 : Cond.selects "WordConcordance$Row" yX1_lastPlaceOf yX1_lastPlaceOf ∈ zW := zq 344 (by decide +kernel) (by decide +kernel)
theorem q345 : Cond.code yX1_lastPlaceOf cX1_lastPlaceOf 3 (some FieldType.int) ∈ zW := zq 345 (by decide +kernel) (by decide +kernel)
theorem q346 : Cond.methodLink RL 222 yL_findIn ∈ zW := zq 346 (by decide +kernel) (by decide +kernel)
theorem q347 : Cond.static yL_findIn ∈ zW := zq 347 (by decide +kernel) (by decide +kernel)
theorem q348 : Cond.codeWith yL_findIn cL_findIn 6 (some FieldType.int) [(0, 12, 15, 13)] ∈ zW := zq 348 (by decide +kernel) (by decide +kernel)
theorem q349 : Cond.methodLink RL 70 yX2_findIn ∈ zW := zq 349 (by decide +kernel) (by decide +kernel)
theorem q350 : Cond.instanceMethod yX2_findIn ∈ zW := zq 350 (by decide +kernel) (by decide +kernel)
theorem q351 : Cond.selects "WordConcordance" yX2_findIn yX2_findIn ∈ zW := zq 351 (by decide +kernel) (by decide +kernel)
theorem q352 : Cond.code yX2_findIn cX2_findIn 5 (some FieldType.int) ∈ zW := zq 352 (by decide +kernel) (by decide +kernel)
theorem q353 : Cond.methodLink RL 225 yL_count ∈ zW := zq 353 (by decide +kernel) (by decide +kernel)
theorem q354 : Cond.static yL_count ∈ zW := zq 354 (by decide +kernel) (by decide +kernel)
theorem q355 : Cond.codeWith yL_count cL_count 5 (some FieldType.int) [(0, 10, 13, 13)] ∈ zW := zq 355 (by decide +kernel) (by decide +kernel)
theorem q356 : Cond.methodLink RL 73 yX2_count ∈ zW := zq 356 (by decide +kernel) (by decide +kernel)
theorem q357 : Cond.instanceMethod yX2_count ∈ zW := zq 357 (by decide +kernel) (by decide +kernel)
theorem q358 : Cond.selects "WordConcordance" yX2_count yX2_count ∈ zW := zq 358 (by decide +kernel) (by decide +kernel)
theorem q359 : Cond.code yX2_count cX2_count 5 (some FieldType.int) ∈ zW := zq 359 (by decide +kernel) (by decide +kernel)
theorem q360 : Cond.methodLink RX2 107 yX1_timesApart ∈ zW := zq 360 (by decide +kernel) (by decide +kernel)
theorem q361 : Cond.instanceMethod yX1_timesApart ∈ zW := zq 361 (by decide +kernel) (by decide +kernel)
theorem q362 : Cond.selects "WordConcordance$Row" yX1_timesApart yX1_timesApart ∈ zW := zq 362 (by decide +kernel) (by decide +kernel)
theorem q363 : Cond.code yX1_timesApart cX1_timesApart 5 (some FieldType.int) ∈ zW := zq 363 (by decide +kernel) (by decide +kernel)
theorem q364 : Cond.methodLink RX2 110 yX1_timesAnywhere ∈ zW := zq 364 (by decide +kernel) (by decide +kernel)
theorem q365 : Cond.instanceMethod yX1_timesAnywhere ∈ zW := zq 365 (by decide +kernel) (by decide +kernel)
theorem q366 : Cond.selects "WordConcordance$Row" yX1_timesAnywhere yX1_timesAnywhere ∈ zW := zq 366 (by decide +kernel) (by decide +kernel)
theorem q367 : Cond.code yX1_timesAnywhere cX1_timesAnywhere 4 (some FieldType.int) ∈ zW := zq 367 (by decide +kernel) (by decide +kernel)
theorem q368 : Cond.methodLink RL 229 yL_replace ∈ zW := zq 368 (by decide +kernel) (by decide +kernel)
theorem q369 : Cond.static yL_replace ∈ zW := zq 369 (by decide +kernel) (by decide +kernel)
theorem q370 : Cond.codeWith yL_replace cL_replace 4 (some FieldType.int) [(0, 9, 12, 13), (0, 9, 15, 15)] ∈ zW := zq 370 (by decide +kernel) (by decide +kernel)
theorem q371 : Cond.methodLink RL 77 yX2_replace ∈ zW := zq 371 (by decide +kernel) (by decide +kernel)
theorem q372 : Cond.instanceMethod yX2_replace ∈ zW := zq 372 (by decide +kernel) (by decide +kernel)
theorem q373 : Cond.selects "WordConcordance" yX2_replace yX2_replace ∈ zW := zq 373 (by decide +kernel) (by decide +kernel)
theorem q374 : Cond.code yX2_replace cX2_replace 5 (some FieldType.int) ∈ zW := zq 374 (by decide +kernel) (by decide +kernel)
theorem q376 : Cond.methodLink RX2 115 yX2_draftReplaced ∈ zW := zq 376 (by decide +kernel) (by decide +kernel)
theorem q378 : Cond.instanceMethod yX2_draftReplaced ∈ zW := zq 378 (by decide +kernel) (by decide +kernel)
theorem q379 : Cond.code yX2_draftReplaced cX2_draftReplaced 6 none ∈ zW := zq 379 (by decide +kernel) (by decide +kernel)
theorem q380 : Cond.methodLink RX2 122 yX1_holds ∈ zW := zq 380 (by decide +kernel) (by decide +kernel)
theorem q381 : Cond.methodLink RX2 126 yX1_appendAll ∈ zW := zq 381 (by decide +kernel) (by decide +kernel)
theorem q382 : Cond.instanceMethod yX1_appendAll ∈ zW := zq 382 (by decide +kernel) (by decide +kernel)
theorem q383 : Cond.selects "WordConcordance$Row" yX1_appendAll yX1_appendAll ∈ zW := zq 383 (by decide +kernel) (by decide +kernel)
theorem q384 : Cond.code yX1_appendAll cX1_appendAll 3 none ∈ zW := zq 384 (by decide +kernel) (by decide +kernel)
theorem q385 : Cond.methodLink RX1 19 yX1_append ∈ zW := zq 385 (by decide +kernel) (by decide +kernel)
theorem q386 : Cond.methodLink RX2 119 yX1_become ∈ zW := zq 386 (by decide +kernel) (by decide +kernel)
theorem q387 : Cond.instanceMethod yX1_become ∈ zW := zq 387 (by decide +kernel) (by decide +kernel)
theorem q388 : Cond.selects "WordConcordance$Row" yX1_become yX1_become ∈ zW := zq 388 (by decide +kernel) (by decide +kernel)
theorem q389 : Cond.code yX1_become cX1_become 2 none ∈ zW := zq 389 (by decide +kernel) (by decide +kernel)
theorem q390 : Cond.methodLink RX1 23 yX1_appendAll ∈ zW := zq 390 (by decide +kernel) (by decide +kernel)
theorem q391 : Cond.methodLink RL 232 yL_replaceWord ∈ zW := zq 391 (by decide +kernel) (by decide +kernel)
theorem q392 : Cond.static yL_replaceWord ∈ zW := zq 392 (by decide +kernel) (by decide +kernel)
theorem q393 : Cond.codeWith yL_replaceWord cL_replaceWord 6 (some FieldType.int) [(0, 19, 22, 13)] ∈ zW := zq 393 (by decide +kernel) (by decide +kernel)
theorem q394 : Cond.methodLink RL 80 yX2_replaceWord ∈ zW := zq 394 (by decide +kernel) (by decide +kernel)
theorem q395 : Cond.instanceMethod yX2_replaceWord ∈ zW := zq 395 (by decide +kernel) (by decide +kernel)
theorem q396 : Cond.selects "WordConcordance" yX2_replaceWord yX2_replaceWord ∈ zW := zq 396 (by decide +kernel) (by decide +kernel)
theorem q397 : Cond.code yX2_replaceWord cX2_replaceWord 7 (some FieldType.boolean) ∈ zW := zq 397 (by decide +kernel) (by decide +kernel)
theorem q398 : Cond.methodLink RL 235 yL_frequency ∈ zW := zq 398 (by decide +kernel) (by decide +kernel)
theorem q399 : Cond.static yL_frequency ∈ zW := zq 399 (by decide +kernel) (by decide +kernel)
theorem q400 : Cond.codeWith yL_frequency cL_frequency 5 (some FieldType.int) [(0, 10, 13, 13)] ∈ zW := zq 400 (by decide +kernel) (by decide +kernel)
theorem q401 : Cond.methodLink RL 84 yX2_frequency ∈ zW := zq 401 (by decide +kernel) (by decide +kernel)
theorem q402 : Cond.instanceMethod yX2_frequency ∈ zW := zq 402 (by decide +kernel) (by decide +kernel)
theorem q403 : Cond.selects "WordConcordance" yX2_frequency yX2_frequency ∈ zW := zq 403 (by decide +kernel) (by decide +kernel)
theorem q404 : Cond.code yX2_frequency cX2_frequency 4 (some FieldType.int) ∈ zW := zq 404 (by decide +kernel) (by decide +kernel)
theorem q405 : Cond.methodLink RX2 129 yX1_timesOf ∈ zW := zq 405 (by decide +kernel) (by decide +kernel)
theorem q406 : Cond.instanceMethod yX1_timesOf ∈ zW := zq 406 (by decide +kernel) (by decide +kernel)
theorem q407 : Cond.selects "WordConcordance$Row" yX1_timesOf yX1_timesOf ∈ zW := zq 407 (by decide +kernel) (by decide +kernel)
theorem q408 : Cond.code yX1_timesOf cX1_timesOf 4 (some FieldType.int) ∈ zW := zq 408 (by decide +kernel) (by decide +kernel)
theorem q409 : Cond.methodLink RL 238 yL_different ∈ zW := zq 409 (by decide +kernel) (by decide +kernel)
theorem q410 : Cond.static yL_different ∈ zW := zq 410 (by decide +kernel) (by decide +kernel)
theorem q411 : Cond.codeWith yL_different cL_different 4 (some FieldType.int) [(0, 9, 12, 13)] ∈ zW := zq 411 (by decide +kernel) (by decide +kernel)
theorem q412 : Cond.methodLink RL 87 yX2_different ∈ zW := zq 412 (by decide +kernel) (by decide +kernel)
theorem q413 : Cond.instanceMethod yX2_different ∈ zW := zq 413 (by decide +kernel) (by decide +kernel)
theorem q414 : Cond.selects "WordConcordance" yX2_different yX2_different ∈ zW := zq 414 (by decide +kernel) (by decide +kernel)
theorem q415 : Cond.code yX2_different cX2_different 5 (some FieldType.int) ∈ zW := zq 415 (by decide +kernel) (by decide +kernel)
theorem q416 : Cond.methodLink RX2 133 yX1_isFirstOfItsWord ∈ zW := zq 416 (by decide +kernel) (by decide +kernel)
theorem q417 : Cond.instanceMethod yX1_isFirstOfItsWord ∈ zW := zq 417 (by decide +kernel) (by decide +kernel)
theorem q418 : Cond.selects "WordConcordance$Row" yX1_isFirstOfItsWord yX1_isFirstOfItsWord ∈ zW := zq 418 (by decide +kernel) (by decide +kernel)
theorem q419 : Cond.code yX1_isFirstOfItsWord cX1_isFirstOfItsWord 3 (some FieldType.boolean) ∈ zW := zq 419 (by decide +kernel) (by decide +kernel)
theorem q420 : Cond.methodLink RL 241 yL_most ∈ zW := zq 420 (by decide +kernel) (by decide +kernel)
theorem q421 : Cond.static yL_most ∈ zW := zq 421 (by decide +kernel) (by decide +kernel)
theorem q422 : Cond.codeWith yL_most cL_most 4 (some FieldType.int) [(0, 9, 12, 13), (0, 9, 15, 93)] ∈ zW := zq 422 (by decide +kernel) (by decide +kernel)
theorem q423 : Cond.classLink RL 93 "java/util/NoSuchElementException" ∈ zW := zq 423 (by decide +kernel) (by decide +kernel)
theorem q424 : Cond.methodLink RL 90 yX2_most ∈ zW := zq 424 (by decide +kernel) (by decide +kernel)
theorem q425 : Cond.instanceMethod yX2_most ∈ zW := zq 425 (by decide +kernel) (by decide +kernel)
theorem q426 : Cond.selects "WordConcordance" yX2_most yX2_most ∈ zW := zq 426 (by decide +kernel) (by decide +kernel)
theorem q427 : Cond.code yX2_most cX2_most 8 (some FieldType.int) ∈ zW := zq 427 (by decide +kernel) (by decide +kernel)
theorem q428 : Cond.methodLink RX2 137 yX2_requireNotEmpty ∈ zW := zq 428 (by decide +kernel) (by decide +kernel)
theorem q429 : Cond.static yX2_requireNotEmpty ∈ zW := zq 429 (by decide +kernel) (by decide +kernel)
theorem q430 : Cond.code yX2_requireNotEmpty cX2_requireNotEmpty 1 none ∈ zW := zq 430 (by decide +kernel) (by decide +kernel)
theorem q431 : Cond.classLink RX2 189 "java/util/NoSuchElementException" ∈ zW := zq 431 (by decide +kernel) (by decide +kernel)
theorem q432 : Cond.instantiable "java/util/NoSuchElementException" 6 ∈ zW := zq 432 (by decide +kernel) (by decide +kernel)
theorem q434 : Cond.selects "java/util/NoSuchElementException" ⟨"java/lang/Throwable", "fillInStackTrace", "(I)Ljava/lang/Throwable;"⟩ ⟨"java/lang/Throwable", "fillInStackTrace", "(I)Ljava/lang/Throwable;"⟩ ∈ zW := zq 434 (by decide +kernel) (by decide +kernel)
theorem q441 : Cond.methodLink RX2 193 ⟨"java/util/NoSuchElementException", "<init>", "(Ljava/lang/String;)V"⟩ ∈ zW := zq 441 (by decide +kernel) (by decide +kernel)
theorem q442 : Cond.instanceMethod ⟨"java/util/NoSuchElementException", "<init>", "(Ljava/lang/String;)V"⟩ ∈ zW := zq 442 (by decide +kernel) (by decide +kernel)
theorem q443 : Cond.code ⟨"java/util/NoSuchElementException", "<init>", "(Ljava/lang/String;)V"⟩ prog_17_method_4_code 2 none ∈ zW := zq 443 (by decide +kernel) (by decide +kernel)
theorem q444 : Cond.methodLink "java/util/NoSuchElementException" 13 ⟨"java/lang/RuntimeException", "<init>", "(Ljava/lang/String;)V"⟩ ∈ zW := zq 444 (by decide +kernel) (by decide +kernel)
theorem q447 : Cond.methodLink RL 244 yL_isApart ∈ zW := zq 447 (by decide +kernel) (by decide +kernel)
theorem q448 : Cond.static yL_isApart ∈ zW := zq 448 (by decide +kernel) (by decide +kernel)
theorem q449 : Cond.codeWith yL_isApart cL_isApart 5 (some FieldType.int) [(0, 17, 20, 13)] ∈ zW := zq 449 (by decide +kernel) (by decide +kernel)
theorem q450 : Cond.methodLink RL 95 yX2_isApart ∈ zW := zq 450 (by decide +kernel) (by decide +kernel)
theorem q451 : Cond.instanceMethod yX2_isApart ∈ zW := zq 451 (by decide +kernel) (by decide +kernel)
theorem q452 : Cond.selects "WordConcordance" yX2_isApart yX2_isApart ∈ zW := zq 452 (by decide +kernel) (by decide +kernel)
theorem q453 : Cond.code yX2_isApart cX2_isApart 6 (some FieldType.boolean) ∈ zW := zq 453 (by decide +kernel) (by decide +kernel)
theorem q454 : Cond.methodLink RX2 140 yX1_hasWord ∈ zW := zq 454 (by decide +kernel) (by decide +kernel)
theorem q455 : Cond.instanceMethod yX1_hasWord ∈ zW := zq 455 (by decide +kernel) (by decide +kernel)
theorem q456 : Cond.selects "WordConcordance$Row" yX1_hasWord yX1_hasWord ∈ zW := zq 456 (by decide +kernel) (by decide +kernel)
theorem q457 : Cond.code yX1_hasWord cX1_hasWord 2 (some FieldType.boolean) ∈ zW := zq 457 (by decide +kernel) (by decide +kernel)
theorem q458 : Cond.methodLink RX1 31 yX1_timesOf ∈ zW := zq 458 (by decide +kernel) (by decide +kernel)
theorem q459 : Cond.methodLink RL 247 yL_alone ∈ zW := zq 459 (by decide +kernel) (by decide +kernel)
theorem q460 : Cond.static yL_alone ∈ zW := zq 460 (by decide +kernel) (by decide +kernel)
theorem q461 : Cond.codeWith yL_alone cL_alone 5 (some FieldType.int) [(0, 10, 13, 13)] ∈ zW := zq 461 (by decide +kernel) (by decide +kernel)
theorem q462 : Cond.methodLink RL 99 yX2_alone ∈ zW := zq 462 (by decide +kernel) (by decide +kernel)
theorem q463 : Cond.instanceMethod yX2_alone ∈ zW := zq 463 (by decide +kernel) (by decide +kernel)
theorem q464 : Cond.selects "WordConcordance" yX2_alone yX2_alone ∈ zW := zq 464 (by decide +kernel) (by decide +kernel)
theorem q465 : Cond.code yX2_alone cX2_alone 7 (some FieldType.int) ∈ zW := zq 465 (by decide +kernel) (by decide +kernel)
theorem q466 : Cond.methodLink RL 250 yL_greatest ∈ zW := zq 466 (by decide +kernel) (by decide +kernel)
theorem q467 : Cond.static yL_greatest ∈ zW := zq 467 (by decide +kernel) (by decide +kernel)
theorem q468 : Cond.codeWith yL_greatest cL_greatest 5 (some FieldType.int) [(0, 10, 13, 13), (0, 10, 17, 21), (0, 10, 21, 93)] ∈ zW := zq 468 (by decide +kernel) (by decide +kernel)
theorem q469 : Cond.methodLink RL 102 yX2_greatest ∈ zW := zq 469 (by decide +kernel) (by decide +kernel)
theorem q470 : Cond.instanceMethod yX2_greatest ∈ zW := zq 470 (by decide +kernel) (by decide +kernel)
theorem q471 : Cond.selects "WordConcordance" yX2_greatest yX2_greatest ∈ zW := zq 471 (by decide +kernel) (by decide +kernel)
theorem q472 : Cond.code yX2_greatest cX2_greatest 6 (some FieldType.int) ∈ zW := zq 472 (by decide +kernel) (by decide +kernel)
theorem q473 : Cond.methodLink RX2 143 yX2_requireOrder ∈ zW := zq 473 (by decide +kernel) (by decide +kernel)
theorem q474 : Cond.static yX2_requireOrder ∈ zW := zq 474 (by decide +kernel) (by decide +kernel)
theorem q475 : Cond.code yX2_requireOrder cX2_requireOrder 1 none ∈ zW := zq 475 (by decide +kernel) (by decide +kernel)
theorem q477 : Cond.methodLink RX2 146 yX2_keyOf ∈ zW := zq 477 (by decide +kernel) (by decide +kernel)
theorem q479 : Cond.instanceMethod yX2_keyOf ∈ zW := zq 479 (by decide +kernel) (by decide +kernel)
theorem q480 : Cond.code yX2_keyOf cX2_keyOf 3 (some FieldType.int) ∈ zW := zq 480 (by decide +kernel) (by decide +kernel)
theorem q481 : Cond.methodLink RX2 150 yJ9_max_7cf53 ∈ zW := zq 481 (by decide +kernel) (by decide +kernel)
theorem q482 : Cond.static yJ9_max_7cf53 ∈ zW := zq 482 (by decide +kernel) (by decide +kernel)
theorem q483 : Cond.code yJ9_max_7cf53 cJ9_max_7cf53 2 (some FieldType.int) ∈ zW := zq 483 (by decide +kernel) (by decide +kernel)
theorem q484 : Cond.methodLink RL 253 yL_least ∈ zW := zq 484 (by decide +kernel) (by decide +kernel)
theorem q485 : Cond.static yL_least ∈ zW := zq 485 (by decide +kernel) (by decide +kernel)
theorem q486 : Cond.codeWith yL_least cL_least 5 (some FieldType.int) [(0, 10, 13, 13), (0, 10, 17, 21), (0, 10, 21, 93)] ∈ zW := zq 486 (by decide +kernel) (by decide +kernel)
theorem q487 : Cond.methodLink RL 105 yX2_least ∈ zW := zq 487 (by decide +kernel) (by decide +kernel)
theorem q488 : Cond.instanceMethod yX2_least ∈ zW := zq 488 (by decide +kernel) (by decide +kernel)
theorem q489 : Cond.selects "WordConcordance" yX2_least yX2_least ∈ zW := zq 489 (by decide +kernel) (by decide +kernel)
theorem q490 : Cond.code yX2_least cX2_least 6 (some FieldType.int) ∈ zW := zq 490 (by decide +kernel) (by decide +kernel)
theorem q491 : Cond.methodLink RX2 155 yJ9_min_7cf53 ∈ zW := zq 491 (by decide +kernel) (by decide +kernel)
theorem q492 : Cond.static yJ9_min_7cf53 ∈ zW := zq 492 (by decide +kernel) (by decide +kernel)
theorem q493 : Cond.code yJ9_min_7cf53 cJ9_min_7cf53 2 (some FieldType.int) ∈ zW := zq 493 (by decide +kernel) (by decide +kernel)
theorem q494 : Cond.methodLink RL 256 yL_sort ∈ zW := zq 494 (by decide +kernel) (by decide +kernel)
theorem q495 : Cond.static yL_sort ∈ zW := zq 495 (by decide +kernel) (by decide +kernel)
theorem q496 : Cond.codeWith yL_sort cL_sort 6 (some FieldType.int) [(0, 12, 15, 13), (0, 12, 19, 21)] ∈ zW := zq 496 (by decide +kernel) (by decide +kernel)
theorem q497 : Cond.methodLink RL 108 yX2_sort ∈ zW := zq 497 (by decide +kernel) (by decide +kernel)
theorem q498 : Cond.instanceMethod yX2_sort ∈ zW := zq 498 (by decide +kernel) (by decide +kernel)
theorem q499 : Cond.selects "WordConcordance" yX2_sort yX2_sort ∈ zW := zq 499 (by decide +kernel) (by decide +kernel)
theorem q500 : Cond.code yX2_sort cX2_sort 5 (some FieldType.int) ∈ zW := zq 500 (by decide +kernel) (by decide +kernel)
theorem q501 : Cond.methodLink RX2 158 yX2_putInOrder ∈ zW := zq 501 (by decide +kernel) (by decide +kernel)
theorem q503 : Cond.instanceMethod yX2_putInOrder ∈ zW := zq 503 (by decide +kernel) (by decide +kernel)
theorem q504 : Cond.code yX2_putInOrder cX2_putInOrder 7 none ∈ zW := zq 504 (by decide +kernel) (by decide +kernel)
theorem q505 : Cond.methodLink RX2 170 yX2_mustPass ∈ zW := zq 505 (by decide +kernel) (by decide +kernel)
theorem q507 : Cond.instanceMethod yX2_mustPass ∈ zW := zq 507 (by decide +kernel) (by decide +kernel)
theorem q508 : Cond.code yX2_mustPass cX2_mustPass 7 (some FieldType.boolean) ∈ zW := zq 508 (by decide +kernel) (by decide +kernel)
theorem q509 : Cond.methodLink RX2 162 yX1_differencesFrom ∈ zW := zq 509 (by decide +kernel) (by decide +kernel)
theorem q510 : Cond.instanceMethod yX1_differencesFrom ∈ zW := zq 510 (by decide +kernel) (by decide +kernel)
theorem q511 : Cond.selects "WordConcordance$Row" yX1_differencesFrom yX1_differencesFrom ∈ zW := zq 511 (by decide +kernel) (by decide +kernel)
theorem q512 : Cond.code yX1_differencesFrom cX1_differencesFrom 4 (some FieldType.int) ∈ zW := zq 512 (by decide +kernel) (by decide +kernel)
theorem q513 : Cond.methodLink RL 260 yL_isSorted ∈ zW := zq 513 (by decide +kernel) (by decide +kernel)
theorem q514 : Cond.static yL_isSorted ∈ zW := zq 514 (by decide +kernel) (by decide +kernel)
theorem q515 : Cond.codeWith yL_isSorted cL_isSorted 5 (some FieldType.int) [(0, 17, 20, 13), (0, 17, 24, 21)] ∈ zW := zq 515 (by decide +kernel) (by decide +kernel)
theorem q516 : Cond.methodLink RL 112 yX2_isSorted ∈ zW := zq 516 (by decide +kernel) (by decide +kernel)
theorem q517 : Cond.instanceMethod yX2_isSorted ∈ zW := zq 517 (by decide +kernel) (by decide +kernel)
theorem q518 : Cond.selects "WordConcordance" yX2_isSorted yX2_isSorted ∈ zW := zq 518 (by decide +kernel) (by decide +kernel)
theorem q519 : Cond.code yX2_isSorted cX2_isSorted 4 (some FieldType.boolean) ∈ zW := zq 519 (by decide +kernel) (by decide +kernel)
theorem q520 : Cond.methodLink RX2 165 yX2_isInOrder ∈ zW := zq 520 (by decide +kernel) (by decide +kernel)
theorem q522 : Cond.instanceMethod yX2_isInOrder ∈ zW := zq 522 (by decide +kernel) (by decide +kernel)
theorem q523 : Cond.code yX2_isInOrder cX2_isInOrder 4 (some FieldType.boolean) ∈ zW := zq 523 (by decide +kernel) (by decide +kernel)
theorem q524 : Cond.methodLink RL 263 yL_search ∈ zW := zq 524 (by decide +kernel) (by decide +kernel)
theorem q525 : Cond.static yL_search ∈ zW := zq 525 (by decide +kernel) (by decide +kernel)
theorem q526 : Cond.codeWith yL_search cL_search 6 (some FieldType.int) [(0, 12, 15, 13), (0, 12, 19, 21), (0, 12, 23, 15)] ∈ zW := zq 526 (by decide +kernel) (by decide +kernel)
theorem q527 : Cond.methodLink RL 115 yX2_search ∈ zW := zq 527 (by decide +kernel) (by decide +kernel)
theorem q528 : Cond.instanceMethod yX2_search ∈ zW := zq 528 (by decide +kernel) (by decide +kernel)
theorem q529 : Cond.selects "WordConcordance" yX2_search yX2_search ∈ zW := zq 529 (by decide +kernel) (by decide +kernel)
theorem q530 : Cond.code yX2_search cX2_search 8 (some FieldType.int) ∈ zW := zq 530 (by decide +kernel) (by decide +kernel)
theorem q532 : Cond.methodLink RL 266 yL_turn ∈ zW := zq 532 (by decide +kernel) (by decide +kernel)
theorem q533 : Cond.static yL_turn ∈ zW := zq 533 (by decide +kernel) (by decide +kernel)
theorem q534 : Cond.codeWith yL_turn cL_turn 6 (some FieldType.int) [(0, 12, 15, 13)] ∈ zW := zq 534 (by decide +kernel) (by decide +kernel)
theorem q535 : Cond.methodLink RL 118 yX2_turn ∈ zW := zq 535 (by decide +kernel) (by decide +kernel)
theorem q536 : Cond.instanceMethod yX2_turn ∈ zW := zq 536 (by decide +kernel) (by decide +kernel)
theorem q537 : Cond.selects "WordConcordance" yX2_turn yX2_turn ∈ zW := zq 537 (by decide +kernel) (by decide +kernel)
theorem q538 : Cond.code yX2_turn cX2_turn 5 (some FieldType.int) ∈ zW := zq 538 (by decide +kernel) (by decide +kernel)
theorem q539 : Cond.methodLink RX2 174 yX1_turnRound ∈ zW := zq 539 (by decide +kernel) (by decide +kernel)
theorem q540 : Cond.instanceMethod yX1_turnRound ∈ zW := zq 540 (by decide +kernel) (by decide +kernel)
theorem q541 : Cond.selects "WordConcordance$Row" yX1_turnRound yX1_turnRound ∈ zW := zq 541 (by decide +kernel) (by decide +kernel)
theorem q542 : Cond.code yX1_turnRound cX1_turnRound 5 none ∈ zW := zq 542 (by decide +kernel) (by decide +kernel)
theorem q543 : Cond.methodLink RX1 27 yX1_exchange ∈ zW := zq 543 (by decide +kernel) (by decide +kernel)
theorem q544 : Cond.instanceMethod yX1_exchange ∈ zW := zq 544 (by decide +kernel) (by decide +kernel)
theorem q545 : Cond.selects "WordConcordance$Row" yX1_exchange yX1_exchange ∈ zW := zq 545 (by decide +kernel) (by decide +kernel)
theorem q546 : Cond.code yX1_exchange cX1_exchange 4 none ∈ zW := zq 546 (by decide +kernel) (by decide +kernel)
theorem q547 : Cond.methodLink RL 269 yL_move ∈ zW := zq 547 (by decide +kernel) (by decide +kernel)
theorem q548 : Cond.static yL_move ∈ zW := zq 548 (by decide +kernel) (by decide +kernel)
theorem q549 : Cond.codeWith yL_move cL_move 7 (some FieldType.int) [(0, 14, 17, 13)] ∈ zW := zq 549 (by decide +kernel) (by decide +kernel)
theorem q550 : Cond.methodLink RL 121 yX2_move ∈ zW := zq 550 (by decide +kernel) (by decide +kernel)
theorem q551 : Cond.instanceMethod yX2_move ∈ zW := zq 551 (by decide +kernel) (by decide +kernel)
theorem q552 : Cond.selects "WordConcordance" yX2_move yX2_move ∈ zW := zq 552 (by decide +kernel) (by decide +kernel)
theorem q553 : Cond.code yX2_move cX2_move 6 (some FieldType.int) ∈ zW := zq 553 (by decide +kernel) (by decide +kernel)
theorem q554 : Cond.methodLink RX2 177 yX2_moveRound ∈ zW := zq 554 (by decide +kernel) (by decide +kernel)
theorem q556 : Cond.instanceMethod yX2_moveRound ∈ zW := zq 556 (by decide +kernel) (by decide +kernel)
theorem q557 : Cond.code yX2_moveRound cX2_moveRound 8 (some FieldType.int) ∈ zW := zq 557 (by decide +kernel) (by decide +kernel)
theorem q558 : Cond.methodLink RX2 181 yJ9_floorMod_7cf53 ∈ zW := zq 558 (by decide +kernel) (by decide +kernel)
theorem q559 : Cond.static yJ9_floorMod_7cf53 ∈ zW := zq 559 (by decide +kernel) (by decide +kernel)
theorem q560 : Cond.code yJ9_floorMod_7cf53 cJ9_floorMod_7cf53 3 (some FieldType.int) ∈ zW := zq 560 (by decide +kernel) (by decide +kernel)
theorem q561 : Cond.methodLink RL 272 yL_swap ∈ zW := zq 561 (by decide +kernel) (by decide +kernel)
theorem q562 : Cond.static yL_swap ∈ zW := zq 562 (by decide +kernel) (by decide +kernel)
theorem q563 : Cond.codeWith yL_swap cL_swap 6 (some FieldType.int) [(0, 12, 15, 13)] ∈ zW := zq 563 (by decide +kernel) (by decide +kernel)
theorem q564 : Cond.methodLink RL 124 yX2_swap ∈ zW := zq 564 (by decide +kernel) (by decide +kernel)
theorem q565 : Cond.instanceMethod yX2_swap ∈ zW := zq 565 (by decide +kernel) (by decide +kernel)
theorem q566 : Cond.selects "WordConcordance" yX2_swap yX2_swap ∈ zW := zq 566 (by decide +kernel) (by decide +kernel)
theorem q567 : Cond.code yX2_swap cX2_swap 5 (some FieldType.int) ∈ zW := zq 567 (by decide +kernel) (by decide +kernel)
theorem q568 : Cond.methodLink RX2 184 yX1_exchange ∈ zW := zq 568 (by decide +kernel) (by decide +kernel)
theorem q569 : Cond.methodLink RL 275 yL_fill ∈ zW := zq 569 (by decide +kernel) (by decide +kernel)
theorem q570 : Cond.static yL_fill ∈ zW := zq 570 (by decide +kernel) (by decide +kernel)
theorem q571 : Cond.codeWith yL_fill cL_fill 7 (some FieldType.int) [(0, 14, 17, 13)] ∈ zW := zq 571 (by decide +kernel) (by decide +kernel)
theorem q572 : Cond.methodLink RL 127 yX2_fill ∈ zW := zq 572 (by decide +kernel) (by decide +kernel)
theorem q573 : Cond.instanceMethod yX2_fill ∈ zW := zq 573 (by decide +kernel) (by decide +kernel)
theorem q574 : Cond.selects "WordConcordance" yX2_fill yX2_fill ∈ zW := zq 574 (by decide +kernel) (by decide +kernel)
theorem q575 : Cond.code yX2_fill cX2_fill 8 (some FieldType.int) ∈ zW := zq 575 (by decide +kernel) (by decide +kernel)
theorem q576 : Cond.methodLink RL 278 yL_copy ∈ zW := zq 576 (by decide +kernel) (by decide +kernel)
theorem q577 : Cond.static yL_copy ∈ zW := zq 577 (by decide +kernel) (by decide +kernel)
theorem q578 : Cond.codeWith yL_copy cL_copy 5 (some FieldType.int) [(0, 10, 13, 13), (0, 10, 17, 15)] ∈ zW := zq 578 (by decide +kernel) (by decide +kernel)
theorem q579 : Cond.methodLink RL 130 yX2_copy ∈ zW := zq 579 (by decide +kernel) (by decide +kernel)
theorem q580 : Cond.instanceMethod yX2_copy ∈ zW := zq 580 (by decide +kernel) (by decide +kernel)
theorem q581 : Cond.selects "WordConcordance" yX2_copy yX2_copy ∈ zW := zq 581 (by decide +kernel) (by decide +kernel)
theorem q582 : Cond.code yX2_copy cX2_copy 6 (some FieldType.int) ∈ zW := zq 582 (by decide +kernel) (by decide +kernel)
theorem q584 : Cond.methodLink RL 281 yL_stands ∈ zW := zq 584 (by decide +kernel) (by decide +kernel)
theorem q585 : Cond.static yL_stands ∈ zW := zq 585 (by decide +kernel) (by decide +kernel)
theorem q586 : Cond.codeWith yL_stands cL_stands 5 (some FieldType.int) [(0, 10, 13, 13), (0, 10, 17, 93)] ∈ zW := zq 586 (by decide +kernel) (by decide +kernel)
theorem q587 : Cond.methodLink RL 133 yX2_stands ∈ zW := zq 587 (by decide +kernel) (by decide +kernel)
theorem q588 : Cond.instanceMethod yX2_stands ∈ zW := zq 588 (by decide +kernel) (by decide +kernel)
theorem q589 : Cond.selects "WordConcordance" yX2_stands yX2_stands ∈ zW := zq 589 (by decide +kernel) (by decide +kernel)
theorem q590 : Cond.code yX2_stands cX2_stands 7 (some FieldType.int) ∈ zW := zq 590 (by decide +kernel) (by decide +kernel)
theorem q592 : Cond.methodLink RL 284 yL_near ∈ zW := zq 592 (by decide +kernel) (by decide +kernel)
theorem q593 : Cond.static yL_near ∈ zW := zq 593 (by decide +kernel) (by decide +kernel)
theorem q594 : Cond.codeWith yL_near cL_near 6 (some FieldType.int) [(0, 12, 15, 13)] ∈ zW := zq 594 (by decide +kernel) (by decide +kernel)
theorem q595 : Cond.methodLink RL 136 yX2_near ∈ zW := zq 595 (by decide +kernel) (by decide +kernel)
theorem q596 : Cond.instanceMethod yX2_near ∈ zW := zq 596 (by decide +kernel) (by decide +kernel)
theorem q597 : Cond.selects "WordConcordance" yX2_near yX2_near ∈ zW := zq 597 (by decide +kernel) (by decide +kernel)
theorem q598 : Cond.code yX2_near cX2_near 7 (some FieldType.int) ∈ zW := zq 598 (by decide +kernel) (by decide +kernel)
theorem q599 : Cond.methodLink RX2 194 yJ9_abs_0f7a4 ∈ zW := zq 599 (by decide +kernel) (by decide +kernel)
theorem q600 : Cond.static yJ9_abs_0f7a4 ∈ zW := zq 600 (by decide +kernel) (by decide +kernel)
theorem q601 : Cond.code yJ9_abs_0f7a4 cJ9_abs_0f7a4 1 (some FieldType.int) ∈ zW := zq 601 (by decide +kernel) (by decide +kernel)
theorem q602 : Cond.methodLink RL 287 yL_common ∈ zW := zq 602 (by decide +kernel) (by decide +kernel)
theorem q603 : Cond.static yL_common ∈ zW := zq 603 (by decide +kernel) (by decide +kernel)
theorem q604 : Cond.codeWith yL_common cL_common 6 (some FieldType.int) [(0, 12, 15, 13), (0, 12, 19, 21)] ∈ zW := zq 604 (by decide +kernel) (by decide +kernel)
theorem q605 : Cond.methodLink RL 139 yX2_common ∈ zW := zq 605 (by decide +kernel) (by decide +kernel)
theorem q606 : Cond.instanceMethod yX2_common ∈ zW := zq 606 (by decide +kernel) (by decide +kernel)
theorem q607 : Cond.selects "WordConcordance" yX2_common yX2_common ∈ zW := zq 607 (by decide +kernel) (by decide +kernel)
theorem q608 : Cond.code yX2_common cX2_common 11 (some FieldType.int) ∈ zW := zq 608 (by decide +kernel) (by decide +kernel)
theorem q609 : Cond.methodLink RX2 197 yX2_clearRuns ∈ zW := zq 609 (by decide +kernel) (by decide +kernel)
theorem q611 : Cond.instanceMethod yX2_clearRuns ∈ zW := zq 611 (by decide +kernel) (by decide +kernel)
theorem q612 : Cond.code yX2_clearRuns cX2_clearRuns 2 none ∈ zW := zq 612 (by decide +kernel) (by decide +kernel)
theorem q613 : Cond.methodLink RX2 200 yX2_longestRunFrom ∈ zW := zq 613 (by decide +kernel) (by decide +kernel)
theorem q615 : Cond.instanceMethod yX2_longestRunFrom ∈ zW := zq 615 (by decide +kernel) (by decide +kernel)
theorem q616 : Cond.code yX2_longestRunFrom cX2_longestRunFrom 7 (some FieldType.int) ∈ zW := zq 616 (by decide +kernel) (by decide +kernel)
theorem q617 : Cond.methodLink RL 290 yL_refuses ∈ zW := zq 617 (by decide +kernel) (by decide +kernel)
theorem q618 : Cond.static yL_refuses ∈ zW := zq 618 (by decide +kernel) (by decide +kernel)
theorem q619 : Cond.codeWith yL_refuses cL_refuses 4 (some FieldType.int) [(0, 16, 19, 21)] ∈ zW := zq 619 (by decide +kernel) (by decide +kernel)
theorem q620 : Cond.methodLink RL 142 yX2_refuses ∈ zW := zq 620 (by decide +kernel) (by decide +kernel)
theorem q621 : Cond.instanceMethod yX2_refuses ∈ zW := zq 621 (by decide +kernel) (by decide +kernel)
theorem q622 : Cond.selects "WordConcordance" yX2_refuses yX2_refuses ∈ zW := zq 622 (by decide +kernel) (by decide +kernel)
theorem q623 : Cond.code yX2_refuses cX2_refuses 2 (some FieldType.boolean) ∈ zW := zq 623 (by decide +kernel) (by decide +kernel)
theorem q624 : Cond.methodLink RX2 204 yX2_isRefused ∈ zW := zq 624 (by decide +kernel) (by decide +kernel)
theorem q625 : Cond.static yX2_isRefused ∈ zW := zq 625 (by decide +kernel) (by decide +kernel)
theorem q626 : Cond.codeWith yX2_isRefused cX2_isRefused 2 (some FieldType.boolean) [(0, 4, 7, 210), (0, 4, 28, 212), (0, 4, 40, 214)] ∈ zW := zq 626 (by decide +kernel) (by decide +kernel)
theorem q627 : Cond.classLink RX2 210 "java/lang/UnsupportedOperationException" ∈ zW := zq 627 (by decide +kernel) (by decide +kernel)
theorem q628 : Cond.methodLink RX2 207 yX2_attempt ∈ zW := zq 628 (by decide +kernel) (by decide +kernel)
theorem q629 : Cond.static yX2_attempt ∈ zW := zq 629 (by decide +kernel) (by decide +kernel)
theorem q630 : Cond.code yX2_attempt cX2_attempt 3 none ∈ zW := zq 630 (by decide +kernel) (by decide +kernel)
theorem q631 : Cond.methodLink RX2 216 yX0_of ∈ zW := zq 631 (by decide +kernel) (by decide +kernel)
theorem q632 : Cond.static yX0_of ∈ zW := zq 632 (by decide +kernel) (by decide +kernel)
theorem q633 : Cond.code yX0_of cX0_of 2 (some (FieldType.object "WordConcordance$Copies")) ∈ zW := zq 633 (by decide +kernel) (by decide +kernel)
theorem q634 : Cond.classLink RX0 16 "java/lang/IllegalArgumentException" ∈ zW := zq 634 (by decide +kernel) (by decide +kernel)
theorem q636 : Cond.methodLink RX0 20 ⟨"java/lang/IllegalArgumentException", "<init>", "(Ljava/lang/String;)V"⟩ ∈ zW := zq 636 (by decide +kernel) (by decide +kernel)
theorem q637 : Cond.classLink RX0 8 "WordConcordance$Copies" ∈ zW := zq 637 (by decide +kernel) (by decide +kernel)
theorem q638 : Cond.instantiable RX0 2 ∈ zW := zq 638 (by decide +kernel) (by decide +kernel)
theorem q639 : Cond.methodLink RX0 23 yX0_init ∈ zW := zq 639 (by decide +kernel) (by decide +kernel)
theorem q640 : Cond.instanceMethod yX0_init ∈ zW := zq 640 (by decide +kernel) (by decide +kernel)
theorem q641 : Cond.code yX0_init cX0_init 3 none ∈ zW := zq 641 (by decide +kernel) (by decide +kernel)
theorem q642 : Cond.methodLink RX0 1 ⟨"java/lang/Object", "<init>", "()V"⟩ ∈ zW := zq 642 (by decide +kernel) (by decide +kernel)
theorem q643 : Cond.fieldLink RX0 7 "WordConcordance$Copies" "word" "I" ∈ zW := zq 643 (by decide +kernel) (by decide +kernel)
theorem q644 : Cond.fieldLink RX0 13 "WordConcordance$Copies" "many" "I" ∈ zW := zq 644 (by decide +kernel) (by decide +kernel)
theorem q650 : Cond.methodLink RX2 222 yX0_putAt ∈ zW := zq 650 (by decide +kernel) (by decide +kernel)
theorem q651 : Cond.instanceMethod yX0_putAt ∈ zW := zq 651 (by decide +kernel) (by decide +kernel)
theorem q652 : Cond.selects "WordConcordance$Copies" yX0_putAt yX0_putAt ∈ zW := zq 652 (by decide +kernel) (by decide +kernel)
theorem q653 : Cond.code yX0_putAt cX0_putAt 3 none ∈ zW := zq 653 (by decide +kernel) (by decide +kernel)
theorem q654 : Cond.classLink RX0 31 "java/lang/UnsupportedOperationException" ∈ zW := zq 654 (by decide +kernel) (by decide +kernel)
theorem q655 : Cond.instantiable "java/lang/UnsupportedOperationException" 6 ∈ zW := zq 655 (by decide +kernel) (by decide +kernel)
theorem q657 : Cond.selects "java/lang/UnsupportedOperationException" ⟨"java/lang/Throwable", "fillInStackTrace", "(I)Ljava/lang/Throwable;"⟩ ⟨"java/lang/Throwable", "fillInStackTrace", "(I)Ljava/lang/Throwable;"⟩ ∈ zW := zq 657 (by decide +kernel) (by decide +kernel)
theorem q664 : Cond.methodLink RX0 35 ⟨"java/lang/UnsupportedOperationException", "<init>", "(Ljava/lang/String;)V"⟩ ∈ zW := zq 664 (by decide +kernel) (by decide +kernel)
theorem q665 : Cond.instanceMethod ⟨"java/lang/UnsupportedOperationException", "<init>", "(Ljava/lang/String;)V"⟩ ∈ zW := zq 665 (by decide +kernel) (by decide +kernel)
theorem q666 : Cond.code ⟨"java/lang/UnsupportedOperationException", "<init>", "(Ljava/lang/String;)V"⟩ prog_16_method_2_code 2 none ∈ zW := zq 666 (by decide +kernel) (by decide +kernel)
theorem q667 : Cond.methodLink "java/lang/UnsupportedOperationException" 7 ⟨"java/lang/RuntimeException", "<init>", "(Ljava/lang/String;)V"⟩ ∈ zW := zq 667 (by decide +kernel) (by decide +kernel)
theorem q670 : Cond.methodLink RX2 225 yX0_append ∈ zW := zq 670 (by decide +kernel) (by decide +kernel)
theorem q671 : Cond.instanceMethod yX0_append ∈ zW := zq 671 (by decide +kernel) (by decide +kernel)
theorem q672 : Cond.selects "WordConcordance$Copies" yX0_append yX0_append ∈ zW := zq 672 (by decide +kernel) (by decide +kernel)
theorem q673 : Cond.code yX0_append cX0_append 2 none ∈ zW := zq 673 (by decide +kernel) (by decide +kernel)
theorem q674 : Cond.methodLink RX2 226 yX0_takeOut ∈ zW := zq 674 (by decide +kernel) (by decide +kernel)
theorem q675 : Cond.instanceMethod yX0_takeOut ∈ zW := zq 675 (by decide +kernel) (by decide +kernel)
theorem q676 : Cond.selects "WordConcordance$Copies" yX0_takeOut yX0_takeOut ∈ zW := zq 676 (by decide +kernel) (by decide +kernel)
theorem q677 : Cond.code yX0_takeOut cX0_takeOut 2 none ∈ zW := zq 677 (by decide +kernel) (by decide +kernel)
theorem q678 : Cond.methodLink RX2 229 yX0_wordAt ∈ zW := zq 678 (by decide +kernel) (by decide +kernel)
theorem q679 : Cond.instanceMethod yX0_wordAt ∈ zW := zq 679 (by decide +kernel) (by decide +kernel)
theorem q680 : Cond.selects "WordConcordance$Copies" yX0_wordAt yX0_wordAt ∈ zW := zq 680 (by decide +kernel) (by decide +kernel)
theorem q681 : Cond.code yX0_wordAt cX0_wordAt 2 (some FieldType.int) ∈ zW := zq 681 (by decide +kernel) (by decide +kernel)
theorem q682 : Cond.classLink RX0 26 "java/lang/IndexOutOfBoundsException" ∈ zW := zq 682 (by decide +kernel) (by decide +kernel)
theorem q684 : Cond.methodLink RX0 30 ⟨"java/lang/IndexOutOfBoundsException", "<init>", "(Ljava/lang/String;)V"⟩ ∈ zW := zq 684 (by decide +kernel) (by decide +kernel)
theorem q685 : Cond.methodLink RL 293 yL_errors ∈ zW := zq 685 (by decide +kernel) (by decide +kernel)
theorem q686 : Cond.static yL_errors ∈ zW := zq 686 (by decide +kernel) (by decide +kernel)
theorem q687 : Cond.codeWith yL_errors cL_errors 4 (some FieldType.int) [(0, 9, 12, 13)] ∈ zW := zq 687 (by decide +kernel) (by decide +kernel)
theorem q688 : Cond.methodLink RL 146 yX2_errors ∈ zW := zq 688 (by decide +kernel) (by decide +kernel)
theorem q689 : Cond.instanceMethod yX2_errors ∈ zW := zq 689 (by decide +kernel) (by decide +kernel)
theorem q690 : Cond.selects "WordConcordance" yX2_errors yX2_errors ∈ zW := zq 690 (by decide +kernel) (by decide +kernel)
theorem q691 : Cond.code yX2_errors cX2_errors 4 (some FieldType.int) ∈ zW := zq 691 (by decide +kernel) (by decide +kernel)
theorem q692 : Cond.methodLink RX2 232 yX2_turnsBack ∈ zW := zq 692 (by decide +kernel) (by decide +kernel)
theorem q694 : Cond.instanceMethod yX2_turnsBack ∈ zW := zq 694 (by decide +kernel) (by decide +kernel)
theorem q695 : Cond.code yX2_turnsBack cX2_turnsBack 2 (some FieldType.boolean) ∈ zW := zq 695 (by decide +kernel) (by decide +kernel)
theorem q696 : Cond.methodLink RX2 236 yX2_movesBack ∈ zW := zq 696 (by decide +kernel) (by decide +kernel)
theorem q698 : Cond.instanceMethod yX2_movesBack ∈ zW := zq 698 (by decide +kernel) (by decide +kernel)
theorem q699 : Cond.code yX2_movesBack cX2_movesBack 2 (some FieldType.boolean) ∈ zW := zq 699 (by decide +kernel) (by decide +kernel)
theorem q700 : Cond.methodLink RX2 239 yX2_sortsItsWords ∈ zW := zq 700 (by decide +kernel) (by decide +kernel)
theorem q702 : Cond.instanceMethod yX2_sortsItsWords ∈ zW := zq 702 (by decide +kernel) (by decide +kernel)
theorem q703 : Cond.code yX2_sortsItsWords cX2_sortsItsWords 3 (some FieldType.boolean) ∈ zW := zq 703 (by decide +kernel) (by decide +kernel)
theorem q704 : Cond.methodLink RX2 242 yX2_findsWhatItCounts ∈ zW := zq 704 (by decide +kernel) (by decide +kernel)
theorem q706 : Cond.instanceMethod yX2_findsWhatItCounts ∈ zW := zq 706 (by decide +kernel) (by decide +kernel)
theorem q707 : Cond.code yX2_findsWhatItCounts cX2_findsWhatItCounts 6 (some FieldType.boolean) ∈ zW := zq 707 (by decide +kernel) (by decide +kernel)
theorem q708 : Cond.methodLink RX2 245 yX2_findsInMirror ∈ zW := zq 708 (by decide +kernel) (by decide +kernel)
theorem q710 : Cond.instanceMethod yX2_findsInMirror ∈ zW := zq 710 (by decide +kernel) (by decide +kernel)
theorem q711 : Cond.code yX2_findsInMirror cX2_findsInMirror 5 (some FieldType.boolean) ∈ zW := zq 711 (by decide +kernel) (by decide +kernel)
theorem q712 : Cond.methodLink RL 296 yL_meanWord ∈ zW := zq 712 (by decide +kernel) (by decide +kernel)
theorem q713 : Cond.static yL_meanWord ∈ zW := zq 713 (by decide +kernel) (by decide +kernel)
theorem q714 : Cond.codeWith yL_meanWord cL_meanWord 4 (some FieldType.int) [(0, 8, 11, 13)] ∈ zW := zq 714 (by decide +kernel) (by decide +kernel)
theorem q715 : Cond.methodLink RL 149 yX2_meanWord ∈ zW := zq 715 (by decide +kernel) (by decide +kernel)
theorem q716 : Cond.instanceMethod yX2_meanWord ∈ zW := zq 716 (by decide +kernel) (by decide +kernel)
theorem q717 : Cond.selects "WordConcordance" yX2_meanWord yX2_meanWord ∈ zW := zq 717 (by decide +kernel) (by decide +kernel)
theorem q718 : Cond.code yX2_meanWord cX2_meanWord 5 (some FieldType.double) ∈ zW := zq 718 (by decide +kernel) (by decide +kernel)
theorem q719 : Cond.methodLink RL 300 yL_share ∈ zW := zq 719 (by decide +kernel) (by decide +kernel)
theorem q720 : Cond.static yL_share ∈ zW := zq 720 (by decide +kernel) (by decide +kernel)
theorem q721 : Cond.codeWith yL_share cL_share 5 (some FieldType.int) [(0, 10, 13, 13)] ∈ zW := zq 721 (by decide +kernel) (by decide +kernel)
theorem q722 : Cond.methodLink RL 153 yX2_share ∈ zW := zq 722 (by decide +kernel) (by decide +kernel)
theorem q723 : Cond.instanceMethod yX2_share ∈ zW := zq 723 (by decide +kernel) (by decide +kernel)
theorem q724 : Cond.selects "WordConcordance" yX2_share yX2_share ∈ zW := zq 724 (by decide +kernel) (by decide +kernel)
theorem q725 : Cond.code yX2_share cX2_share 4 (some FieldType.float) ∈ zW := zq 725 (by decide +kernel) (by decide +kernel)
theorem q726 : Cond.methodLink RL 167 yX4_thrown ∈ zW := zq 726 (by decide +kernel) (by decide +kernel)
theorem q727 : Cond.instanceMethod yX4_thrown ∈ zW := zq 727 (by decide +kernel) (by decide +kernel)
theorem q728 : Cond.selects "WordConcordanceModel" yX4_thrown yX4_thrown ∈ zW := zq 728 (by decide +kernel) (by decide +kernel)
theorem q729 : Cond.code yX4_thrown cX4_thrown 1 (some FieldType.int) ∈ zW := zq 729 (by decide +kernel) (by decide +kernel)
theorem q730 : Cond.classLink RL 158 "WordConcordanceModel" ∈ zW := zq 730 (by decide +kernel) (by decide +kernel)
theorem q731 : Cond.instantiable RX4 5 ∈ zW := zq 731 (by decide +kernel) (by decide +kernel)
theorem q732 : Cond.methodLink RL 160 yX4_init ∈ zW := zq 732 (by decide +kernel) (by decide +kernel)
theorem q733 : Cond.instanceMethod yX4_init ∈ zW := zq 733 (by decide +kernel) (by decide +kernel)
theorem q734 : Cond.code yX4_init cX4_init 1 none ∈ zW := zq 734 (by decide +kernel) (by decide +kernel)
theorem q735 : Cond.methodLink RX4 15 ⟨"java/lang/Object", "<init>", "()V"⟩ ∈ zW := zq 735 (by decide +kernel) (by decide +kernel)
theorem q736 : Cond.classLink RX4 21 "WordConcordanceModel$Row" ∈ zW := zq 736 (by decide +kernel) (by decide +kernel)
theorem q738 : Cond.instantiable RX3 2 ∈ zW := zq 738 (by decide +kernel) (by decide +kernel)
theorem q740 : Cond.instanceMethod yX3_init ∈ zW := zq 740 (by decide +kernel) (by decide +kernel)
theorem q741 : Cond.code yX3_init cX3_init 1 none ∈ zW := zq 741 (by decide +kernel) (by decide +kernel)
theorem q742 : Cond.methodLink RX3 3 ⟨"java/lang/Object", "<init>", "()V"⟩ ∈ zW := zq 742 (by decide +kernel) (by decide +kernel)
theorem q743 : Cond.fieldLink RX3 9 "WordConcordanceModel$Row" "words" "[I" ∈ zW := zq 743 (by decide +kernel) (by decide +kernel)
theorem q745 : Cond.fieldLink RX3 15 "WordConcordanceModel$Row" "many" "I" ∈ zW := zq 745 (by decide +kernel) (by decide +kernel)
theorem q752 : Cond.fieldLink RX4 1 "WordConcordanceModel" "thrown" "I" ∈ zW := zq 752 (by decide +kernel) (by decide +kernel)
theorem q753 : Cond.fieldLink RX4 24 "WordConcordanceModel" "texts" "[LWordConcordanceModel$Row;" ∈ zW := zq 753 (by decide +kernel) (by decide +kernel)
theorem q754 : Cond.fieldLink RX4 28 "WordConcordanceModel" "phrases" "[LWordConcordanceModel$Row;" ∈ zW := zq 754 (by decide +kernel) (by decide +kernel)
theorem q755 : Cond.fieldLink RX4 31 "WordConcordanceModel" "spare" "LWordConcordanceModel$Row;" ∈ zW := zq 755 (by decide +kernel) (by decide +kernel)
theorem q756 : Cond.fieldLink RX4 35 "WordConcordanceModel" "ranks" "[I" ∈ zW := zq 756 (by decide +kernel) (by decide +kernel)
theorem q768 : Cond.methodLink RL 166 yX4_add ∈ zW := zq 768 (by decide +kernel) (by decide +kernel)
theorem q769 : Cond.instanceMethod yX4_add ∈ zW := zq 769 (by decide +kernel) (by decide +kernel)
theorem q770 : Cond.selects "WordConcordanceModel" yX4_add yX4_add ∈ zW := zq 770 (by decide +kernel) (by decide +kernel)
theorem q771 : Cond.code yX4_add cX4_add 3 (some FieldType.int) ∈ zW := zq 771 (by decide +kernel) (by decide +kernel)
theorem q772 : Cond.methodLink RX4 39 yX4_isText ∈ zW := zq 772 (by decide +kernel) (by decide +kernel)
theorem q773 : Cond.static yX4_isText ∈ zW := zq 773 (by decide +kernel) (by decide +kernel)
theorem q774 : Cond.code yX4_isText cX4_isText 1 (some FieldType.boolean) ∈ zW := zq 774 (by decide +kernel) (by decide +kernel)
theorem q775 : Cond.constantLong RX4 7 (3 : Int64) ∈ zW := zq 775 (by decide +kernel) (by decide +kernel)
theorem q776 : Cond.methodLink RX4 9 yX4_in ∈ zW := zq 776 (by decide +kernel) (by decide +kernel)
theorem q777 : Cond.static yX4_in ∈ zW := zq 777 (by decide +kernel) (by decide +kernel)
theorem q778 : Cond.code yX4_in cX4_in 6 (some FieldType.boolean) ∈ zW := zq 778 (by decide +kernel) (by decide +kernel)
theorem q779 : Cond.methodLink RX4 48 yX4_isWord ∈ zW := zq 779 (by decide +kernel) (by decide +kernel)
theorem q780 : Cond.static yX4_isWord ∈ zW := zq 780 (by decide +kernel) (by decide +kernel)
theorem q781 : Cond.code yX4_isWord cX4_isWord 1 (some FieldType.boolean) ∈ zW := zq 781 (by decide +kernel) (by decide +kernel)
theorem q782 : Cond.constantLong RX4 13 (99 : Int64) ∈ zW := zq 782 (by decide +kernel) (by decide +kernel)
theorem q783 : Cond.methodLink RX4 51 yX4_hasRoom ∈ zW := zq 783 (by decide +kernel) (by decide +kernel)
theorem q785 : Cond.instanceMethod yX4_hasRoom ∈ zW := zq 785 (by decide +kernel) (by decide +kernel)
theorem q786 : Cond.code yX4_hasRoom cX4_hasRoom 4 (some FieldType.boolean) ∈ zW := zq 786 (by decide +kernel) (by decide +kernel)
theorem q787 : Cond.constantLong RX4 46 (60 : Int64) ∈ zW := zq 787 (by decide +kernel) (by decide +kernel)
theorem q788 : Cond.methodLink RX4 55 yX4_passes ∈ zW := zq 788 (by decide +kernel) (by decide +kernel)
theorem q790 : Cond.instanceMethod yX4_passes ∈ zW := zq 790 (by decide +kernel) (by decide +kernel)
theorem q791 : Cond.code yX4_passes cX4_passes 4 (some FieldType.boolean) ∈ zW := zq 791 (by decide +kernel) (by decide +kernel)
theorem q792 : Cond.methodLink RX4 59 yX3_add ∈ zW := zq 792 (by decide +kernel) (by decide +kernel)
theorem q793 : Cond.instanceMethod yX3_add ∈ zW := zq 793 (by decide +kernel) (by decide +kernel)
theorem q794 : Cond.selects "WordConcordanceModel$Row" yX3_add yX3_add ∈ zW := zq 794 (by decide +kernel) (by decide +kernel)
theorem q795 : Cond.code yX3_add cX3_add 2 none ∈ zW := zq 795 (by decide +kernel) (by decide +kernel)
theorem q796 : Cond.methodLink RL 174 yX4_addMany ∈ zW := zq 796 (by decide +kernel) (by decide +kernel)
theorem q797 : Cond.instanceMethod yX4_addMany ∈ zW := zq 797 (by decide +kernel) (by decide +kernel)
theorem q798 : Cond.selects "WordConcordanceModel" yX4_addMany yX4_addMany ∈ zW := zq 798 (by decide +kernel) (by decide +kernel)
theorem q799 : Cond.code yX4_addMany cX4_addMany 5 (some FieldType.int) ∈ zW := zq 799 (by decide +kernel) (by decide +kernel)
theorem q800 : Cond.methodLink RL 178 yX4_scatter ∈ zW := zq 800 (by decide +kernel) (by decide +kernel)
theorem q801 : Cond.instanceMethod yX4_scatter ∈ zW := zq 801 (by decide +kernel) (by decide +kernel)
theorem q802 : Cond.selects "WordConcordanceModel" yX4_scatter yX4_scatter ∈ zW := zq 802 (by decide +kernel) (by decide +kernel)
theorem q803 : Cond.code yX4_scatter cX4_scatter 8 (some FieldType.int) ∈ zW := zq 803 (by decide +kernel) (by decide +kernel)
theorem q804 : Cond.constantLong RX4 63 (100 : Int64) ∈ zW := zq 804 (by decide +kernel) (by decide +kernel)
theorem q805 : Cond.constantLong RX4 65 (1103515245 : Int64) ∈ zW := zq 805 (by decide +kernel) (by decide +kernel)
theorem q806 : Cond.constantLong RX4 67 (12345 : Int64) ∈ zW := zq 806 (by decide +kernel) (by decide +kernel)
theorem q807 : Cond.constantLong RX4 69 (2147483648 : Int64) ∈ zW := zq 807 (by decide +kernel) (by decide +kernel)
theorem q808 : Cond.constantLong RX4 71 (65536 : Int64) ∈ zW := zq 808 (by decide +kernel) (by decide +kernel)
theorem q809 : Cond.methodLink RL 181 yX4_insert ∈ zW := zq 809 (by decide +kernel) (by decide +kernel)
theorem q810 : Cond.instanceMethod yX4_insert ∈ zW := zq 810 (by decide +kernel) (by decide +kernel)
theorem q811 : Cond.selects "WordConcordanceModel" yX4_insert yX4_insert ∈ zW := zq 811 (by decide +kernel) (by decide +kernel)
theorem q812 : Cond.code yX4_insert cX4_insert 4 (some FieldType.int) ∈ zW := zq 812 (by decide +kernel) (by decide +kernel)
theorem q813 : Cond.methodLink RX4 73 yX4_isPart ∈ zW := zq 813 (by decide +kernel) (by decide +kernel)
theorem q815 : Cond.instanceMethod yX4_isPart ∈ zW := zq 815 (by decide +kernel) (by decide +kernel)
theorem q816 : Cond.code yX4_isPart cX4_isPart 4 (some FieldType.boolean) ∈ zW := zq 816 (by decide +kernel) (by decide +kernel)
theorem q817 : Cond.methodLink RX4 77 yX3_insert ∈ zW := zq 817 (by decide +kernel) (by decide +kernel)
theorem q818 : Cond.instanceMethod yX3_insert ∈ zW := zq 818 (by decide +kernel) (by decide +kernel)
theorem q819 : Cond.selects "WordConcordanceModel$Row" yX3_insert yX3_insert ∈ zW := zq 819 (by decide +kernel) (by decide +kernel)
theorem q820 : Cond.code yX3_insert cX3_insert 4 none ∈ zW := zq 820 (by decide +kernel) (by decide +kernel)
theorem q821 : Cond.methodLink RL 184 yX4_set ∈ zW := zq 821 (by decide +kernel) (by decide +kernel)
theorem q822 : Cond.instanceMethod yX4_set ∈ zW := zq 822 (by decide +kernel) (by decide +kernel)
theorem q823 : Cond.selects "WordConcordanceModel" yX4_set yX4_set ∈ zW := zq 823 (by decide +kernel) (by decide +kernel)
theorem q824 : Cond.code yX4_set cX4_set 5 (some FieldType.int) ∈ zW := zq 824 (by decide +kernel) (by decide +kernel)
theorem q825 : Cond.methodLink RX4 81 yX4_isPlace ∈ zW := zq 825 (by decide +kernel) (by decide +kernel)
theorem q827 : Cond.instanceMethod yX4_isPlace ∈ zW := zq 827 (by decide +kernel) (by decide +kernel)
theorem q828 : Cond.code yX4_isPlace cX4_isPlace 3 (some FieldType.boolean) ∈ zW := zq 828 (by decide +kernel) (by decide +kernel)
theorem q829 : Cond.methodLink RX4 85 yX3_at ∈ zW := zq 829 (by decide +kernel) (by decide +kernel)
theorem q830 : Cond.instanceMethod yX3_at ∈ zW := zq 830 (by decide +kernel) (by decide +kernel)
theorem q831 : Cond.selects "WordConcordanceModel$Row" yX3_at yX3_at ∈ zW := zq 831 (by decide +kernel) (by decide +kernel)
theorem q832 : Cond.code yX3_at cX3_at 2 (some FieldType.int) ∈ zW := zq 832 (by decide +kernel) (by decide +kernel)
theorem q833 : Cond.methodLink RL 187 yX4_remove ∈ zW := zq 833 (by decide +kernel) (by decide +kernel)
theorem q834 : Cond.instanceMethod yX4_remove ∈ zW := zq 834 (by decide +kernel) (by decide +kernel)
theorem q835 : Cond.selects "WordConcordanceModel" yX4_remove yX4_remove ∈ zW := zq 835 (by decide +kernel) (by decide +kernel)
theorem q836 : Cond.code yX4_remove cX4_remove 3 (some FieldType.int) ∈ zW := zq 836 (by decide +kernel) (by decide +kernel)
theorem q837 : Cond.methodLink RX4 92 yX3_remove ∈ zW := zq 837 (by decide +kernel) (by decide +kernel)
theorem q838 : Cond.instanceMethod yX3_remove ∈ zW := zq 838 (by decide +kernel) (by decide +kernel)
theorem q839 : Cond.selects "WordConcordanceModel$Row" yX3_remove yX3_remove ∈ zW := zq 839 (by decide +kernel) (by decide +kernel)
theorem q840 : Cond.code yX3_remove cX3_remove 4 (some FieldType.int) ∈ zW := zq 840 (by decide +kernel) (by decide +kernel)
theorem q841 : Cond.methodLink RL 190 yX4_cut ∈ zW := zq 841 (by decide +kernel) (by decide +kernel)
theorem q842 : Cond.instanceMethod yX4_cut ∈ zW := zq 842 (by decide +kernel) (by decide +kernel)
theorem q843 : Cond.selects "WordConcordanceModel" yX4_cut yX4_cut ∈ zW := zq 843 (by decide +kernel) (by decide +kernel)
theorem q844 : Cond.code yX4_cut cX4_cut 6 (some FieldType.int) ∈ zW := zq 844 (by decide +kernel) (by decide +kernel)
theorem q845 : Cond.methodLink RL 194 yX4_size ∈ zW := zq 845 (by decide +kernel) (by decide +kernel)
theorem q846 : Cond.instanceMethod yX4_size ∈ zW := zq 846 (by decide +kernel) (by decide +kernel)
theorem q847 : Cond.selects "WordConcordanceModel" yX4_size yX4_size ∈ zW := zq 847 (by decide +kernel) (by decide +kernel)
theorem q848 : Cond.code yX4_size cX4_size 2 (some FieldType.int) ∈ zW := zq 848 (by decide +kernel) (by decide +kernel)
theorem q849 : Cond.methodLink RL 197 yX4_at ∈ zW := zq 849 (by decide +kernel) (by decide +kernel)
theorem q850 : Cond.instanceMethod yX4_at ∈ zW := zq 850 (by decide +kernel) (by decide +kernel)
theorem q851 : Cond.selects "WordConcordanceModel" yX4_at yX4_at ∈ zW := zq 851 (by decide +kernel) (by decide +kernel)
theorem q852 : Cond.code yX4_at cX4_at 3 (some FieldType.int) ∈ zW := zq 852 (by decide +kernel) (by decide +kernel)
theorem q853 : Cond.methodLink RL 200 yX4_digest ∈ zW := zq 853 (by decide +kernel) (by decide +kernel)
theorem q854 : Cond.instanceMethod yX4_digest ∈ zW := zq 854 (by decide +kernel) (by decide +kernel)
theorem q855 : Cond.selects "WordConcordanceModel" yX4_digest yX4_digest ∈ zW := zq 855 (by decide +kernel) (by decide +kernel)
theorem q856 : Cond.code yX4_digest cX4_digest 4 (some FieldType.int) ∈ zW := zq 856 (by decide +kernel) (by decide +kernel)
theorem q857 : Cond.methodLink RL 203 yX4_setRank ∈ zW := zq 857 (by decide +kernel) (by decide +kernel)
theorem q858 : Cond.instanceMethod yX4_setRank ∈ zW := zq 858 (by decide +kernel) (by decide +kernel)
theorem q859 : Cond.selects "WordConcordanceModel" yX4_setRank yX4_setRank ∈ zW := zq 859 (by decide +kernel) (by decide +kernel)
theorem q860 : Cond.code yX4_setRank cX4_setRank 4 (some FieldType.int) ∈ zW := zq 860 (by decide +kernel) (by decide +kernel)
theorem q861 : Cond.constantLong RX4 95 (-9 : Int64) ∈ zW := zq 861 (by decide +kernel) (by decide +kernel)
theorem q862 : Cond.constantLong RX4 97 (9 : Int64) ∈ zW := zq 862 (by decide +kernel) (by decide +kernel)
theorem q863 : Cond.methodLink RL 206 yX4_say ∈ zW := zq 863 (by decide +kernel) (by decide +kernel)
theorem q864 : Cond.instanceMethod yX4_say ∈ zW := zq 864 (by decide +kernel) (by decide +kernel)
theorem q865 : Cond.selects "WordConcordanceModel" yX4_say yX4_say ∈ zW := zq 865 (by decide +kernel) (by decide +kernel)
theorem q866 : Cond.code yX4_say cX4_say 4 (some FieldType.int) ∈ zW := zq 866 (by decide +kernel) (by decide +kernel)
theorem q867 : Cond.methodLink RX4 99 yX4_isPhrase ∈ zW := zq 867 (by decide +kernel) (by decide +kernel)
theorem q868 : Cond.static yX4_isPhrase ∈ zW := zq 868 (by decide +kernel) (by decide +kernel)
theorem q869 : Cond.code yX4_isPhrase cX4_isPhrase 1 (some FieldType.boolean) ∈ zW := zq 869 (by decide +kernel) (by decide +kernel)
theorem q870 : Cond.methodLink RL 209 yX4_quote ∈ zW := zq 870 (by decide +kernel) (by decide +kernel)
theorem q871 : Cond.instanceMethod yX4_quote ∈ zW := zq 871 (by decide +kernel) (by decide +kernel)
theorem q872 : Cond.selects "WordConcordanceModel" yX4_quote yX4_quote ∈ zW := zq 872 (by decide +kernel) (by decide +kernel)
theorem q873 : Cond.code yX4_quote cX4_quote 6 (some FieldType.int) ∈ zW := zq 873 (by decide +kernel) (by decide +kernel)
theorem q874 : Cond.constantLong RX4 102 (12 : Int64) ∈ zW := zq 874 (by decide +kernel) (by decide +kernel)
theorem q875 : Cond.methodLink RL 212 yX4_hush ∈ zW := zq 875 (by decide +kernel) (by decide +kernel)
theorem q876 : Cond.instanceMethod yX4_hush ∈ zW := zq 876 (by decide +kernel) (by decide +kernel)
theorem q877 : Cond.selects "WordConcordanceModel" yX4_hush yX4_hush ∈ zW := zq 877 (by decide +kernel) (by decide +kernel)
theorem q878 : Cond.code yX4_hush cX4_hush 3 (some FieldType.int) ∈ zW := zq 878 (by decide +kernel) (by decide +kernel)
theorem q879 : Cond.methodLink RL 215 yX4_wordOf ∈ zW := zq 879 (by decide +kernel) (by decide +kernel)
theorem q880 : Cond.instanceMethod yX4_wordOf ∈ zW := zq 880 (by decide +kernel) (by decide +kernel)
theorem q881 : Cond.selects "WordConcordanceModel" yX4_wordOf yX4_wordOf ∈ zW := zq 881 (by decide +kernel) (by decide +kernel)
theorem q882 : Cond.code yX4_wordOf cX4_wordOf 4 (some FieldType.int) ∈ zW := zq 882 (by decide +kernel) (by decide +kernel)
theorem q883 : Cond.methodLink RL 218 yX4_find ∈ zW := zq 883 (by decide +kernel) (by decide +kernel)
theorem q884 : Cond.instanceMethod yX4_find ∈ zW := zq 884 (by decide +kernel) (by decide +kernel)
theorem q885 : Cond.selects "WordConcordanceModel" yX4_find yX4_find ∈ zW := zq 885 (by decide +kernel) (by decide +kernel)
theorem q886 : Cond.code yX4_find cX4_find 2 (some FieldType.int) ∈ zW := zq 886 (by decide +kernel) (by decide +kernel)
theorem q887 : Cond.methodLink RX4 104 yX3_find ∈ zW := zq 887 (by decide +kernel) (by decide +kernel)
theorem q888 : Cond.instanceMethod yX3_find ∈ zW := zq 888 (by decide +kernel) (by decide +kernel)
theorem q889 : Cond.selects "WordConcordanceModel$Row" yX3_find yX3_find ∈ zW := zq 889 (by decide +kernel) (by decide +kernel)
theorem q890 : Cond.code yX3_find cX3_find 4 (some FieldType.int) ∈ zW := zq 890 (by decide +kernel) (by decide +kernel)
theorem q891 : Cond.methodLink RX3 23 yX3_has ∈ zW := zq 891 (by decide +kernel) (by decide +kernel)
theorem q892 : Cond.instanceMethod yX3_has ∈ zW := zq 892 (by decide +kernel) (by decide +kernel)
theorem q893 : Cond.selects "WordConcordanceModel$Row" yX3_has yX3_has ∈ zW := zq 893 (by decide +kernel) (by decide +kernel)
theorem q894 : Cond.code yX3_has cX3_has 3 (some FieldType.boolean) ∈ zW := zq 894 (by decide +kernel) (by decide +kernel)
theorem q895 : Cond.methodLink RX3 19 yX3_alike ∈ zW := zq 895 (by decide +kernel) (by decide +kernel)
theorem q896 : Cond.instanceMethod yX3_alike ∈ zW := zq 896 (by decide +kernel) (by decide +kernel)
theorem q897 : Cond.selects "WordConcordanceModel$Row" yX3_alike yX3_alike ∈ zW := zq 897 (by decide +kernel) (by decide +kernel)
theorem q898 : Cond.code yX3_alike cX3_alike 5 (some FieldType.int) ∈ zW := zq 898 (by decide +kernel) (by decide +kernel)
theorem q899 : Cond.methodLink RL 221 yX4_findLast ∈ zW := zq 899 (by decide +kernel) (by decide +kernel)
theorem q900 : Cond.instanceMethod yX4_findLast ∈ zW := zq 900 (by decide +kernel) (by decide +kernel)
theorem q901 : Cond.selects "WordConcordanceModel" yX4_findLast yX4_findLast ∈ zW := zq 901 (by decide +kernel) (by decide +kernel)
theorem q902 : Cond.code yX4_findLast cX4_findLast 4 (some FieldType.int) ∈ zW := zq 902 (by decide +kernel) (by decide +kernel)
theorem q903 : Cond.methodLink RX4 108 yX3_has ∈ zW := zq 903 (by decide +kernel) (by decide +kernel)
theorem q904 : Cond.methodLink RL 224 yX4_findIn ∈ zW := zq 904 (by decide +kernel) (by decide +kernel)
theorem q905 : Cond.instanceMethod yX4_findIn ∈ zW := zq 905 (by decide +kernel) (by decide +kernel)
theorem q906 : Cond.selects "WordConcordanceModel" yX4_findIn yX4_findIn ∈ zW := zq 906 (by decide +kernel) (by decide +kernel)
theorem q907 : Cond.code yX4_findIn cX4_findIn 5 (some FieldType.int) ∈ zW := zq 907 (by decide +kernel) (by decide +kernel)
theorem q908 : Cond.methodLink RL 228 yX4_count ∈ zW := zq 908 (by decide +kernel) (by decide +kernel)
theorem q909 : Cond.instanceMethod yX4_count ∈ zW := zq 909 (by decide +kernel) (by decide +kernel)
theorem q910 : Cond.selects "WordConcordanceModel" yX4_count yX4_count ∈ zW := zq 910 (by decide +kernel) (by decide +kernel)
theorem q911 : Cond.code yX4_count cX4_count 3 (some FieldType.int) ∈ zW := zq 911 (by decide +kernel) (by decide +kernel)
theorem q912 : Cond.methodLink RX4 112 yX3_count ∈ zW := zq 912 (by decide +kernel) (by decide +kernel)
theorem q913 : Cond.instanceMethod yX3_count ∈ zW := zq 913 (by decide +kernel) (by decide +kernel)
theorem q914 : Cond.selects "WordConcordanceModel$Row" yX3_count yX3_count ∈ zW := zq 914 (by decide +kernel) (by decide +kernel)
theorem q915 : Cond.code yX3_count cX3_count 5 (some FieldType.int) ∈ zW := zq 915 (by decide +kernel) (by decide +kernel)
theorem q916 : Cond.methodLink RX3 27 yX3_find ∈ zW := zq 916 (by decide +kernel) (by decide +kernel)
theorem q917 : Cond.methodLink RX3 31 yJ9_max_7cf53 ∈ zW := zq 917 (by decide +kernel) (by decide +kernel)
theorem q918 : Cond.methodLink RL 231 yX4_replace ∈ zW := zq 918 (by decide +kernel) (by decide +kernel)
theorem q919 : Cond.instanceMethod yX4_replace ∈ zW := zq 919 (by decide +kernel) (by decide +kernel)
theorem q920 : Cond.selects "WordConcordanceModel" yX4_replace yX4_replace ∈ zW := zq 920 (by decide +kernel) (by decide +kernel)
theorem q921 : Cond.code yX4_replace cX4_replace 9 (some FieldType.int) ∈ zW := zq 921 (by decide +kernel) (by decide +kernel)
theorem q922 : Cond.methodLink RX4 116 yX3_takes ∈ zW := zq 922 (by decide +kernel) (by decide +kernel)
theorem q923 : Cond.instanceMethod yX3_takes ∈ zW := zq 923 (by decide +kernel) (by decide +kernel)
theorem q924 : Cond.selects "WordConcordanceModel$Row" yX3_takes yX3_takes ∈ zW := zq 924 (by decide +kernel) (by decide +kernel)
theorem q925 : Cond.code yX3_takes cX3_takes 3 none ∈ zW := zq 925 (by decide +kernel) (by decide +kernel)
theorem q926 : Cond.methodLink RX3 37 yX3_add ∈ zW := zq 926 (by decide +kernel) (by decide +kernel)
theorem q927 : Cond.methodLink RL 234 yX4_replaceWord ∈ zW := zq 927 (by decide +kernel) (by decide +kernel)
theorem q928 : Cond.instanceMethod yX4_replaceWord ∈ zW := zq 928 (by decide +kernel) (by decide +kernel)
theorem q929 : Cond.selects "WordConcordanceModel" yX4_replaceWord yX4_replaceWord ∈ zW := zq 929 (by decide +kernel) (by decide +kernel)
theorem q930 : Cond.code yX4_replaceWord cX4_replaceWord 6 (some FieldType.boolean) ∈ zW := zq 930 (by decide +kernel) (by decide +kernel)
theorem q931 : Cond.methodLink RX4 120 yX3_often ∈ zW := zq 931 (by decide +kernel) (by decide +kernel)
theorem q932 : Cond.instanceMethod yX3_often ∈ zW := zq 932 (by decide +kernel) (by decide +kernel)
theorem q933 : Cond.selects "WordConcordanceModel$Row" yX3_often yX3_often ∈ zW := zq 933 (by decide +kernel) (by decide +kernel)
theorem q934 : Cond.code yX3_often cX3_often 4 (some FieldType.int) ∈ zW := zq 934 (by decide +kernel) (by decide +kernel)
theorem q935 : Cond.methodLink RL 237 yX4_frequency ∈ zW := zq 935 (by decide +kernel) (by decide +kernel)
theorem q936 : Cond.instanceMethod yX4_frequency ∈ zW := zq 936 (by decide +kernel) (by decide +kernel)
theorem q937 : Cond.selects "WordConcordanceModel" yX4_frequency yX4_frequency ∈ zW := zq 937 (by decide +kernel) (by decide +kernel)
theorem q938 : Cond.code yX4_frequency cX4_frequency 3 (some FieldType.int) ∈ zW := zq 938 (by decide +kernel) (by decide +kernel)
theorem q939 : Cond.methodLink RL 240 yX4_different ∈ zW := zq 939 (by decide +kernel) (by decide +kernel)
theorem q940 : Cond.instanceMethod yX4_different ∈ zW := zq 940 (by decide +kernel) (by decide +kernel)
theorem q941 : Cond.selects "WordConcordanceModel" yX4_different yX4_different ∈ zW := zq 941 (by decide +kernel) (by decide +kernel)
theorem q942 : Cond.code yX4_different cX4_different 4 (some FieldType.int) ∈ zW := zq 942 (by decide +kernel) (by decide +kernel)
theorem q943 : Cond.methodLink RL 243 yX4_most ∈ zW := zq 943 (by decide +kernel) (by decide +kernel)
theorem q944 : Cond.instanceMethod yX4_most ∈ zW := zq 944 (by decide +kernel) (by decide +kernel)
theorem q945 : Cond.selects "WordConcordanceModel" yX4_most yX4_most ∈ zW := zq 945 (by decide +kernel) (by decide +kernel)
theorem q946 : Cond.code yX4_most cX4_most 4 (some FieldType.int) ∈ zW := zq 946 (by decide +kernel) (by decide +kernel)
theorem q947 : Cond.methodLink RL 246 yX4_isApart ∈ zW := zq 947 (by decide +kernel) (by decide +kernel)
theorem q948 : Cond.instanceMethod yX4_isApart ∈ zW := zq 948 (by decide +kernel) (by decide +kernel)
theorem q949 : Cond.selects "WordConcordanceModel" yX4_isApart yX4_isApart ∈ zW := zq 949 (by decide +kernel) (by decide +kernel)
theorem q950 : Cond.code yX4_isApart cX4_isApart 4 (some FieldType.boolean) ∈ zW := zq 950 (by decide +kernel) (by decide +kernel)
theorem q951 : Cond.methodLink RL 249 yX4_alone ∈ zW := zq 951 (by decide +kernel) (by decide +kernel)
theorem q952 : Cond.instanceMethod yX4_alone ∈ zW := zq 952 (by decide +kernel) (by decide +kernel)
theorem q953 : Cond.selects "WordConcordanceModel" yX4_alone yX4_alone ∈ zW := zq 953 (by decide +kernel) (by decide +kernel)
theorem q954 : Cond.code yX4_alone cX4_alone 5 (some FieldType.int) ∈ zW := zq 954 (by decide +kernel) (by decide +kernel)
theorem q955 : Cond.methodLink RL 252 yX4_greatest ∈ zW := zq 955 (by decide +kernel) (by decide +kernel)
theorem q956 : Cond.instanceMethod yX4_greatest ∈ zW := zq 956 (by decide +kernel) (by decide +kernel)
theorem q957 : Cond.selects "WordConcordanceModel" yX4_greatest yX4_greatest ∈ zW := zq 957 (by decide +kernel) (by decide +kernel)
theorem q958 : Cond.code yX4_greatest cX4_greatest 3 (some FieldType.int) ∈ zW := zq 958 (by decide +kernel) (by decide +kernel)
theorem q959 : Cond.methodLink RX4 135 yX4_isOrder ∈ zW := zq 959 (by decide +kernel) (by decide +kernel)
theorem q960 : Cond.static yX4_isOrder ∈ zW := zq 960 (by decide +kernel) (by decide +kernel)
theorem q961 : Cond.code yX4_isOrder cX4_isOrder 1 (some FieldType.boolean) ∈ zW := zq 961 (by decide +kernel) (by decide +kernel)
theorem q962 : Cond.methodLink RX4 138 yX4_outermost ∈ zW := zq 962 (by decide +kernel) (by decide +kernel)
theorem q964 : Cond.instanceMethod yX4_outermost ∈ zW := zq 964 (by decide +kernel) (by decide +kernel)
theorem q965 : Cond.code yX4_outermost cX4_outermost 7 (some FieldType.int) ∈ zW := zq 965 (by decide +kernel) (by decide +kernel)
theorem q966 : Cond.methodLink RX4 123 yX4_valueOf ∈ zW := zq 966 (by decide +kernel) (by decide +kernel)
theorem q968 : Cond.instanceMethod yX4_valueOf ∈ zW := zq 968 (by decide +kernel) (by decide +kernel)
theorem q969 : Cond.code yX4_valueOf cX4_valueOf 3 (some FieldType.int) ∈ zW := zq 969 (by decide +kernel) (by decide +kernel)
theorem q970 : Cond.methodLink RX4 127 yJ9_max_7cf53 ∈ zW := zq 970 (by decide +kernel) (by decide +kernel)
theorem q971 : Cond.methodLink RX4 132 yJ9_min_7cf53 ∈ zW := zq 971 (by decide +kernel) (by decide +kernel)
theorem q972 : Cond.methodLink RL 255 yX4_least ∈ zW := zq 972 (by decide +kernel) (by decide +kernel)
theorem q973 : Cond.instanceMethod yX4_least ∈ zW := zq 973 (by decide +kernel) (by decide +kernel)
theorem q974 : Cond.selects "WordConcordanceModel" yX4_least yX4_least ∈ zW := zq 974 (by decide +kernel) (by decide +kernel)
theorem q975 : Cond.code yX4_least cX4_least 3 (some FieldType.int) ∈ zW := zq 975 (by decide +kernel) (by decide +kernel)
theorem q976 : Cond.methodLink RL 259 yX4_sort ∈ zW := zq 976 (by decide +kernel) (by decide +kernel)
theorem q977 : Cond.instanceMethod yX4_sort ∈ zW := zq 977 (by decide +kernel) (by decide +kernel)
theorem q978 : Cond.selects "WordConcordanceModel" yX4_sort yX4_sort ∈ zW := zq 978 (by decide +kernel) (by decide +kernel)
theorem q979 : Cond.code yX4_sort cX4_sort 7 (some FieldType.int) ∈ zW := zq 979 (by decide +kernel) (by decide +kernel)
theorem q980 : Cond.methodLink RX4 142 yX3_swap ∈ zW := zq 980 (by decide +kernel) (by decide +kernel)
theorem q981 : Cond.instanceMethod yX3_swap ∈ zW := zq 981 (by decide +kernel) (by decide +kernel)
theorem q982 : Cond.selects "WordConcordanceModel$Row" yX3_swap yX3_swap ∈ zW := zq 982 (by decide +kernel) (by decide +kernel)
theorem q983 : Cond.code yX3_swap cX3_swap 4 none ∈ zW := zq 983 (by decide +kernel) (by decide +kernel)
theorem q984 : Cond.methodLink RX4 145 yX3_others ∈ zW := zq 984 (by decide +kernel) (by decide +kernel)
theorem q985 : Cond.instanceMethod yX3_others ∈ zW := zq 985 (by decide +kernel) (by decide +kernel)
theorem q986 : Cond.selects "WordConcordanceModel$Row" yX3_others yX3_others ∈ zW := zq 986 (by decide +kernel) (by decide +kernel)
theorem q987 : Cond.code yX3_others cX3_others 4 (some FieldType.int) ∈ zW := zq 987 (by decide +kernel) (by decide +kernel)
theorem q988 : Cond.methodLink RL 262 yX4_isSorted ∈ zW := zq 988 (by decide +kernel) (by decide +kernel)
theorem q989 : Cond.instanceMethod yX4_isSorted ∈ zW := zq 989 (by decide +kernel) (by decide +kernel)
theorem q990 : Cond.selects "WordConcordanceModel" yX4_isSorted yX4_isSorted ∈ zW := zq 990 (by decide +kernel) (by decide +kernel)
theorem q991 : Cond.code yX4_isSorted cX4_isSorted 3 (some FieldType.boolean) ∈ zW := zq 991 (by decide +kernel) (by decide +kernel)
theorem q992 : Cond.methodLink RX4 149 yX4_areInOrder ∈ zW := zq 992 (by decide +kernel) (by decide +kernel)
theorem q994 : Cond.instanceMethod yX4_areInOrder ∈ zW := zq 994 (by decide +kernel) (by decide +kernel)
theorem q995 : Cond.code yX4_areInOrder cX4_areInOrder 4 (some FieldType.boolean) ∈ zW := zq 995 (by decide +kernel) (by decide +kernel)
theorem q996 : Cond.methodLink RL 265 yX4_search ∈ zW := zq 996 (by decide +kernel) (by decide +kernel)
theorem q997 : Cond.instanceMethod yX4_search ∈ zW := zq 997 (by decide +kernel) (by decide +kernel)
theorem q998 : Cond.selects "WordConcordanceModel" yX4_search yX4_search ∈ zW := zq 998 (by decide +kernel) (by decide +kernel)
theorem q999 : Cond.code yX4_search cX4_search 8 (some FieldType.int) ∈ zW := zq 999 (by decide +kernel) (by decide +kernel)
theorem q1000 : Cond.methodLink RL 268 yX4_turn ∈ zW := zq 1000 (by decide +kernel) (by decide +kernel)
theorem q1001 : Cond.instanceMethod yX4_turn ∈ zW := zq 1001 (by decide +kernel) (by decide +kernel)
theorem q1002 : Cond.selects "WordConcordanceModel" yX4_turn yX4_turn ∈ zW := zq 1002 (by decide +kernel) (by decide +kernel)
theorem q1003 : Cond.code yX4_turn cX4_turn 5 (some FieldType.int) ∈ zW := zq 1003 (by decide +kernel) (by decide +kernel)
theorem q1004 : Cond.methodLink RL 271 yX4_move ∈ zW := zq 1004 (by decide +kernel) (by decide +kernel)
theorem q1005 : Cond.instanceMethod yX4_move ∈ zW := zq 1005 (by decide +kernel) (by decide +kernel)
theorem q1006 : Cond.selects "WordConcordanceModel" yX4_move yX4_move ∈ zW := zq 1006 (by decide +kernel) (by decide +kernel)
theorem q1007 : Cond.code yX4_move cX4_move 8 (some FieldType.int) ∈ zW := zq 1007 (by decide +kernel) (by decide +kernel)
theorem q1008 : Cond.methodLink RL 274 yX4_swap ∈ zW := zq 1008 (by decide +kernel) (by decide +kernel)
theorem q1009 : Cond.instanceMethod yX4_swap ∈ zW := zq 1009 (by decide +kernel) (by decide +kernel)
theorem q1010 : Cond.selects "WordConcordanceModel" yX4_swap yX4_swap ∈ zW := zq 1010 (by decide +kernel) (by decide +kernel)
theorem q1011 : Cond.code yX4_swap cX4_swap 4 (some FieldType.int) ∈ zW := zq 1011 (by decide +kernel) (by decide +kernel)
theorem q1012 : Cond.methodLink RL 277 yX4_fill ∈ zW := zq 1012 (by decide +kernel) (by decide +kernel)
theorem q1013 : Cond.instanceMethod yX4_fill ∈ zW := zq 1013 (by decide +kernel) (by decide +kernel)
theorem q1014 : Cond.selects "WordConcordanceModel" yX4_fill yX4_fill ∈ zW := zq 1014 (by decide +kernel) (by decide +kernel)
theorem q1015 : Cond.code yX4_fill cX4_fill 7 (some FieldType.int) ∈ zW := zq 1015 (by decide +kernel) (by decide +kernel)
theorem q1016 : Cond.methodLink RL 280 yX4_copy ∈ zW := zq 1016 (by decide +kernel) (by decide +kernel)
theorem q1017 : Cond.instanceMethod yX4_copy ∈ zW := zq 1017 (by decide +kernel) (by decide +kernel)
theorem q1018 : Cond.selects "WordConcordanceModel" yX4_copy yX4_copy ∈ zW := zq 1018 (by decide +kernel) (by decide +kernel)
theorem q1019 : Cond.code yX4_copy cX4_copy 5 (some FieldType.int) ∈ zW := zq 1019 (by decide +kernel) (by decide +kernel)
theorem q1020 : Cond.methodLink RL 283 yX4_stands ∈ zW := zq 1020 (by decide +kernel) (by decide +kernel)
theorem q1021 : Cond.instanceMethod yX4_stands ∈ zW := zq 1021 (by decide +kernel) (by decide +kernel)
theorem q1022 : Cond.selects "WordConcordanceModel" yX4_stands yX4_stands ∈ zW := zq 1022 (by decide +kernel) (by decide +kernel)
theorem q1023 : Cond.code yX4_stands cX4_stands 7 (some FieldType.int) ∈ zW := zq 1023 (by decide +kernel) (by decide +kernel)
theorem q1024 : Cond.methodLink RL 286 yX4_near ∈ zW := zq 1024 (by decide +kernel) (by decide +kernel)
theorem q1025 : Cond.instanceMethod yX4_near ∈ zW := zq 1025 (by decide +kernel) (by decide +kernel)
theorem q1026 : Cond.selects "WordConcordanceModel" yX4_near yX4_near ∈ zW := zq 1026 (by decide +kernel) (by decide +kernel)
theorem q1027 : Cond.code yX4_near cX4_near 7 (some FieldType.int) ∈ zW := zq 1027 (by decide +kernel) (by decide +kernel)
theorem q1028 : Cond.methodLink RX4 152 yJ9_abs_0f7a4 ∈ zW := zq 1028 (by decide +kernel) (by decide +kernel)
theorem q1029 : Cond.methodLink RL 289 yX4_common ∈ zW := zq 1029 (by decide +kernel) (by decide +kernel)
theorem q1030 : Cond.instanceMethod yX4_common ∈ zW := zq 1030 (by decide +kernel) (by decide +kernel)
theorem q1031 : Cond.selects "WordConcordanceModel" yX4_common yX4_common ∈ zW := zq 1031 (by decide +kernel) (by decide +kernel)
theorem q1032 : Cond.code yX4_common cX4_common 8 (some FieldType.int) ∈ zW := zq 1032 (by decide +kernel) (by decide +kernel)
theorem q1033 : Cond.constantLong RX4 155 (2 : Int64) ∈ zW := zq 1033 (by decide +kernel) (by decide +kernel)
theorem q1034 : Cond.methodLink RX4 157 yX3_alike ∈ zW := zq 1034 (by decide +kernel) (by decide +kernel)
theorem q1035 : Cond.methodLink RL 292 yX4_refuses ∈ zW := zq 1035 (by decide +kernel) (by decide +kernel)
theorem q1036 : Cond.instanceMethod yX4_refuses ∈ zW := zq 1036 (by decide +kernel) (by decide +kernel)
theorem q1037 : Cond.selects "WordConcordanceModel" yX4_refuses yX4_refuses ∈ zW := zq 1037 (by decide +kernel) (by decide +kernel)
theorem q1038 : Cond.code yX4_refuses cX4_refuses 2 (some FieldType.boolean) ∈ zW := zq 1038 (by decide +kernel) (by decide +kernel)
theorem q1039 : Cond.constantLong RX4 161 (4 : Int64) ∈ zW := zq 1039 (by decide +kernel) (by decide +kernel)
theorem q1040 : Cond.methodLink RL 295 yX4_errors ∈ zW := zq 1040 (by decide +kernel) (by decide +kernel)
theorem q1041 : Cond.instanceMethod yX4_errors ∈ zW := zq 1041 (by decide +kernel) (by decide +kernel)
theorem q1042 : Cond.selects "WordConcordanceModel" yX4_errors yX4_errors ∈ zW := zq 1042 (by decide +kernel) (by decide +kernel)
theorem q1043 : Cond.code yX4_errors cX4_errors 10 (some FieldType.int) ∈ zW := zq 1043 (by decide +kernel) (by decide +kernel)
theorem q1044 : Cond.methodLink RX4 163 yX4_turned ∈ zW := zq 1044 (by decide +kernel) (by decide +kernel)
theorem q1045 : Cond.static yX4_turned ∈ zW := zq 1045 (by decide +kernel) (by decide +kernel)
theorem q1046 : Cond.code yX4_turned cX4_turned 3 (some (FieldType.object "WordConcordanceModel$Row")) ∈ zW := zq 1046 (by decide +kernel) (by decide +kernel)
theorem q1047 : Cond.methodLink RL 299 yX4_meanWord ∈ zW := zq 1047 (by decide +kernel) (by decide +kernel)
theorem q1048 : Cond.instanceMethod yX4_meanWord ∈ zW := zq 1048 (by decide +kernel) (by decide +kernel)
theorem q1049 : Cond.selects "WordConcordanceModel" yX4_meanWord yX4_meanWord ∈ zW := zq 1049 (by decide +kernel) (by decide +kernel)
theorem q1050 : Cond.code yX4_meanWord cX4_meanWord 4 (some FieldType.double) ∈ zW := zq 1050 (by decide +kernel) (by decide +kernel)
theorem q1051 : Cond.methodLink RL 303 yX4_share ∈ zW := zq 1051 (by decide +kernel) (by decide +kernel)
theorem q1052 : Cond.instanceMethod yX4_share ∈ zW := zq 1052 (by decide +kernel) (by decide +kernel)
theorem q1053 : Cond.selects "WordConcordanceModel" yX4_share yX4_share ∈ zW := zq 1053 (by decide +kernel) (by decide +kernel)
theorem q1054 : Cond.code yX4_share cX4_share 4 (some FieldType.float) ∈ zW := zq 1054 (by decide +kernel) (by decide +kernel)
theorem q1055 : Cond.arrayClass FieldType.long ∈ zW := zq 1055 (by decide +kernel) (by decide +kernel)
theorem q1056 : Cond.arrayClass FieldType.double ∈ zW := zq 1056 (by decide +kernel) (by decide +kernel)
theorem qp0 : Cond.selects RX2 yX2_textAt yX2_textAt ∈ zW := zqp 0 (by decide +kernel) (by decide +kernel)
theorem qp2 : Cond.selects RX2 yX2_phraseAt yX2_phraseAt ∈ zW := zqp 2 (by decide +kernel) (by decide +kernel)
theorem qp3 : Cond.selects RX2 yX2_draftReplaced yX2_draftReplaced ∈ zW := zqp 3 (by decide +kernel) (by decide +kernel)
theorem qp4 : Cond.selects RX2 yX2_keyOf yX2_keyOf ∈ zW := zqp 4 (by decide +kernel) (by decide +kernel)
theorem qp5 : Cond.selects RX2 yX2_putInOrder yX2_putInOrder ∈ zW := zqp 5 (by decide +kernel) (by decide +kernel)
theorem qp6 : Cond.selects RX2 yX2_mustPass yX2_mustPass ∈ zW := zqp 6 (by decide +kernel) (by decide +kernel)
theorem qp7 : Cond.selects RX2 yX2_isInOrder yX2_isInOrder ∈ zW := zqp 7 (by decide +kernel) (by decide +kernel)
theorem qp8 : Cond.selects RX2 yX2_moveRound yX2_moveRound ∈ zW := zqp 8 (by decide +kernel) (by decide +kernel)
theorem qp9 : Cond.selects RX2 yX2_clearRuns yX2_clearRuns ∈ zW := zqp 9 (by decide +kernel) (by decide +kernel)
theorem qp10 : Cond.selects RX2 yX2_longestRunFrom yX2_longestRunFrom ∈ zW := zqp 10 (by decide +kernel) (by decide +kernel)
theorem qp11 : Cond.selects RX2 yX2_turnsBack yX2_turnsBack ∈ zW := zqp 11 (by decide +kernel) (by decide +kernel)
theorem qp12 : Cond.selects RX2 yX2_movesBack yX2_movesBack ∈ zW := zqp 12 (by decide +kernel) (by decide +kernel)
theorem qp13 : Cond.selects RX2 yX2_sortsItsWords yX2_sortsItsWords ∈ zW := zqp 13 (by decide +kernel) (by decide +kernel)
theorem qp14 : Cond.selects RX2 yX2_findsWhatItCounts yX2_findsWhatItCounts ∈ zW := zqp 14 (by decide +kernel) (by decide +kernel)
theorem qp15 : Cond.selects RX2 yX2_findsInMirror yX2_findsInMirror ∈ zW := zqp 15 (by decide +kernel) (by decide +kernel)
theorem qp16 : Cond.selects RX4 yX4_hasRoom yX4_hasRoom ∈ zW := zqp 16 (by decide +kernel) (by decide +kernel)
theorem qp17 : Cond.selects RX4 yX4_passes yX4_passes ∈ zW := zqp 17 (by decide +kernel) (by decide +kernel)
theorem qp18 : Cond.selects RX4 yX4_isPart yX4_isPart ∈ zW := zqp 18 (by decide +kernel) (by decide +kernel)
theorem qp19 : Cond.selects RX4 yX4_isPlace yX4_isPlace ∈ zW := zqp 19 (by decide +kernel) (by decide +kernel)
theorem qp20 : Cond.selects RX4 yX4_outermost yX4_outermost ∈ zW := zqp 20 (by decide +kernel) (by decide +kernel)
theorem qp21 : Cond.selects RX4 yX4_valueOf yX4_valueOf ∈ zW := zqp 21 (by decide +kernel) (by decide +kernel)
theorem qp22 : Cond.selects RX4 yX4_areInOrder yX4_areInOrder ∈ zW := zqp 22 (by decide +kernel) (by decide +kernel)
theorem zlX0 : ∀ w ∈ u_ws RX0 TX0 2, w ∈ zW := zql _ [668, 670] (by decide +kernel) (by decide +kernel)
theorem zlX1 : ∀ w ∈ u_ws RX1 TX1 2, w ∈ zW := zql _ [57, 59] (by decide +kernel) (by decide +kernel)
theorem zlX2 : ∀ w ∈ u_ws RX2 TX2 7, w ∈ zW := zql _ [70, 72, 74, 76, 78, 80, 82] (by decide +kernel) (by decide +kernel)
theorem zlX3 : ∀ w ∈ u_ws RX3 TX3 2, w ∈ zW := zql _ [770, 772] (by decide +kernel) (by decide +kernel)
theorem zlX4 : ∀ w ∈ u_ws RX4 TX4 5, w ∈ zW := zql _ [780, 782, 784, 786, 788] (by decide +kernel) (by decide +kernel)
end
section
set_option maxRecDepth 20000 in
theorem zaX2_250 : ∀ w ∈ (vx_atS RX2 250 zEI zNames).filter goodWord, w ∈ zW := zql _ [28, 120, 129, 135, 138, 140, 121, 122, 44, 45, 123, 128, 136, 156, 110, 157, 112, 158, 114, 124, 126, 116, 152, 153, 155, 116, 143, 144, 145, 146, 146, 147, 148, 149, 149, 150, 151, 152, 142, 99, 107, 108, 109, 111, 113, 115, 119, 118, 117] (by decide +kernel) (by decide +kernel)
set_option maxRecDepth 20000 in
theorem zbX2_250 : ∀ w ∈ (vx_atS RX2 250 zEI zNames).filter (fun w => !goodWord w), w ∈ zBad zEI := by decide +kernel
set_option maxRecDepth 20000 in
theorem zaX2_96 : ∀ w ∈ (vx_atS RX2 96 zES zNames).filter goodWord, w ∈ zW := zql _ [28, 120, 129, 135, 138, 140, 121, 122, 44, 45, 123, 128, 136, 156, 110, 157, 112, 158, 114, 124, 126, 116, 152, 153, 155, 116, 186, 187, 188, 146, 146, 147, 148, 149, 149, 150, 151, 152, 185, 176, 178, 132, 179, 180, 181, 182, 119, 118, 183] (by decide +kernel) (by decide +kernel)
set_option maxRecDepth 20000 in
theorem zbX2_96 : ∀ w ∈ (vx_atS RX2 96 zES zNames).filter (fun w => !goodWord w), w ∈ zBad zES := by decide +kernel
set_option maxRecDepth 20000 in
theorem zaX2_261 : ∀ w ∈ (vx_atS RX2 261 zEA zNames).filter goodWord, w ∈ zW := zql _ [28, 120, 129, 135, 138, 140, 121, 122, 44, 45, 123, 128, 136, 156, 110, 157, 112, 158, 114, 124, 126, 116, 152, 153, 155, 116, 217, 218, 219, 146, 146, 147, 148, 149, 149, 150, 151, 152, 216, 207, 209, 131, 210, 211, 212, 213, 119, 118, 214] (by decide +kernel) (by decide +kernel)
set_option maxRecDepth 20000 in
theorem zbX2_261 : ∀ w ∈ (vx_atS RX2 261 zEA zNames).filter (fun w => !goodWord w), w ∈ zBad zEA := by decide +kernel
set_option maxRecDepth 20000 in
theorem zaX0_20 : ∀ w ∈ (vx_atS RX0 20 zEA zNames).filter goodWord, w ∈ zW := zql _ [28, 120, 129, 135, 138, 140, 121, 122, 44, 45, 123, 128, 136, 156, 110, 157, 112, 158, 114, 124, 126, 116, 152, 153, 155, 116, 217, 218, 219, 146, 146, 147, 148, 149, 149, 150, 151, 152, 659, 207, 209, 131, 210, 211, 212, 213, 119, 118, 214] (by decide +kernel) (by decide +kernel)
set_option maxRecDepth 20000 in
theorem zbX0_20 : ∀ w ∈ (vx_atS RX0 20 zEA zNames).filter (fun w => !goodWord w), w ∈ zBad zEA := by decide +kernel
set_option maxRecDepth 20000 in
theorem zaX0_35 : ∀ w ∈ (vx_atS RX0 35 zEU zNames).filter goodWord, w ∈ zW := zql _ [28, 120, 129, 135, 138, 140, 121, 122, 44, 45, 123, 128, 136, 156, 110, 157, 112, 158, 114, 124, 126, 116, 152, 153, 155, 116, 688, 689, 690, 146, 146, 147, 148, 149, 149, 150, 151, 152, 687, 678, 680, 133, 681, 682, 683, 684, 119, 118, 685] (by decide +kernel) (by decide +kernel)
set_option maxRecDepth 20000 in
theorem zbX0_35 : ∀ w ∈ (vx_atS RX0 35 zEU zNames).filter (fun w => !goodWord w), w ∈ zBad zEU := by decide +kernel
set_option maxRecDepth 20000 in
theorem zaX0_30 : ∀ w ∈ (vx_atS RX0 30 zEI zNames).filter goodWord, w ∈ zW := zql _ [28, 120, 129, 135, 138, 140, 121, 122, 44, 45, 123, 128, 136, 156, 110, 157, 112, 158, 114, 124, 126, 116, 152, 153, 155, 116, 143, 144, 145, 146, 146, 147, 148, 149, 149, 150, 151, 152, 707, 99, 107, 108, 109, 111, 113, 115, 119, 118, 117] (by decide +kernel) (by decide +kernel)
set_option maxRecDepth 20000 in
theorem zbX0_30 : ∀ w ∈ (vx_atS RX0 30 zEI zNames).filter (fun w => !goodWord w), w ∈ zBad zEI := by decide +kernel
end
section
/-! The worlds of this claim as one partial function: zM says what lies at which address; a method's contract speaks of any zM in which the cells that it uses lie, and says the zM behind it. What may change: all cells from B0 on (B0: the heap's size at the law's entry), so no frame rule is wanted. -/
abbrev zM : Type := Nat → Option va_E
abbrev zK : Type := va_G × (Nat → ClassId)
def zA (B0 : Nat) : Nat → Prop := fun q => B0 ≤ q
def zu (F : zM) (a : Nat) (e : va_E) : zM := fun q => if q = a then some e else F q
theorem zu_s {F : zM} {a : Nat} {e : va_E} : zu F a e a = some e := if_pos rfl
theorem zu_n {F : zM} {a b : Nat} {e : va_E} (h : b ≠ a) : zu F a e b = F b := if_neg h
theorem zu_k {F : zM} {a b : Nat} {e e0 e1 : va_E} (ha : F a = some e0) (hb : F b = some e1) (h : e1 ≠ e0) : zu F a e b = some e1 := by
  rw [zu_n (fun q => h ?_), hb]
  subst q
  exact Option.some.inj (hb.symm.trans ha)
def zH (D : va_G) (F : zM) (H : Heap) : Prop := ∀ (a : Nat) (e : va_E), F a = some e → va_at D vwCl (a, e) H
def zt (G : zK) : List (ClassId × FieldType) := [(G.2 0, .int), (G.2 1, .object RX1), (G.2 2, .object RX3), (G.2 3, .long), (G.2 4, .double)]
abbrev zAI (G : zK) (n : Nat) (f : Nat → Int32) : va_E := .inl (G.2 0, n, .inl f)
abbrev zA1 (G : zK) (n : Nat) (f : Nat → Option Nat) : va_E := .inl (G.2 1, n, .inr (.inr (.inr (.inr f))))
abbrev zA3 (G : zK) (n : Nat) (f : Nat → Option Nat) : va_E := .inl (G.2 2, n, .inr (.inr (.inr (.inr f))))
abbrev zAL (G : zK) (n : Nat) (f : Nat → Int64) : va_E := .inl (G.2 3, n, .inr (.inl f))
abbrev zAD (G : zK) (n : Nat) (f : Nat → UInt64) : va_E := .inl (G.2 4, n, .inr (.inr (.inr (.inl f))))
abbrev zO (ci : Nat) (fs : List Value) : va_E := .inr (ci, fs)
def zNest : List Cond := [.fieldLinkNest RX2 53 "WordConcordance$Row" "length" "I" RX2, .fieldLinkNest RX2 83 "WordConcordance$Row" "words" "[I" RX2, .fieldLinkNest RX4 43 "WordConcordanceModel$Row" "many" "I" RX4, .fieldLinkNest RX4 89 "WordConcordanceModel$Row" "words" "[I" RX4, .methodLinkNest RX4 23 yX3_init RX4, .declares (Bundle.initS "java/lang/RuntimeException"), .declares (Bundle.initS "java/lang/Exception"), .declares (Bundle.initS Bundle.tN)]
def zStr : List (String × Nat × String) := [(RX2, 113, "the wanted phrase has no words"), (RX2, 168, "the text is not sorted"), (RX2, 187, "the other text has fewer words"), (RX2, 191, "the word does not stand so often"), (RX2, 248, "no such text"), (RX2, 251, "no such phrase"), (RX2, 253, "no such word"), (RX2, 255, "no such place"), (RX2, 257, "no such part"), (RX2, 259, "out of range"), (RX2, 262, "less than 0"), (RX2, 264, "no such order"), (RX2, 266, "too many words"), (RX2, 268, "the text has no words"), (RX2, 94, "too many words for a phrase"), (RX0, 18, "fewer than no copies"), (RX0, 28, "no such place"), (RX0, 33, "the copies never change")]
def zNcs : List (String × String) := [(zES, zEI), (zEA, zEI), (zEN, zEI), (zEU, zEI), (zEI, zES), (zEA, zES), (zEN, zES), (zEU, zES), (zEI, zEA), (zES, zEA), (zEN, zEA), (zEU, zEA), (zEI, zEN), (zES, zEN), (zEA, zEN), (zEI, zEU), (zES, zEU), (zEA, zEU), (zEN, zEU)]
def zEx : List String := [zEI, zES, zEA, zEN, zEU]
def zCs (E : String) (U : State) : Prop := ∃ c t : ClassId, U.vm.findClass E = some c ∧ U.vm.findClass E = some t ∧ U.vm.assignable c t = true
theorem zCs.moved {E : String} {u U : State} (hvm : u.vm.Alike U.vm) (h : zCs E u) : zCs E U := by
  obtain ⟨c, t, h1, h2, h3⟩ := h
  exact ⟨c, t, by rw [hvm.findClass]; exact h1, by rw [hvm.findClass]; exact h2, by rw [hvm.assignable]; exact h3⟩
theorem zCs.of {E : String} {args : Array Value} {s : State} (h : (Cond.castable E E).before args s = true) : zCs E s := by
  obtain ⟨c, t, h1, h2, h3⟩ := Cond.castable_spec h
  exact ⟨c, t, h1, h2, h3⟩
theorem zCs.use {E : String} {args : Array Value} {s : State} (h : zCs E s) : (Cond.castable E E).before args s = true := by
  obtain ⟨c, t, h1, h2, h3⟩ := h
  cases Option.some.inj (h1.symm.trans h2)
  simp [Cond.before, Cond.holds, Cond.value, h1, h3]
/-- what the tables give at every state of the run -/
def zG (G : zK) (B0 : Nat) (U : State) : Prop := va_K G.1 vwCl (zt G) U ∧ (∀ w ∈ zNest, va_Nw w U) ∧ (∀ q ∈ zStr, ∃ a, vk_R q.1 q.2.1 q.2.2 a U) ∧ vx_Zq Bundle.tN "UNASSIGNED_STACK" Bundle.steD (zA B0) U U.heap ∧ vx_Zq Bundle.tN "SUPPRESSED_SENTINEL" Bundle.listD (zA B0) U U.heap ∧ va_AO RX1 U ∧ va_AO RX3 U ∧ (∀ q ∈ zNcs, va_Nc q.1 q.2 U) ∧ (∀ E ∈ zEx, zCs E U)
theorem zNw_go {s U : State} (hW : s.WarmedH U.vm) (h : ∀ w ∈ zNest, va_Nw w s) : ∀ w ∈ zNest, va_Nw w U := by
  intro w hw
  have h1 := h w hw
  simp only [zNest, List.mem_cons, List.not_mem_nil, or_false] at hw
  rcases hw with rfl | rfl | rfl | rfl | rfl | rfl | rfl | rfl
  · exact va_Nw.warmF hW h1
  · exact va_Nw.warmF hW h1
  · exact va_Nw.warmF hW h1
  · exact va_Nw.warmF hW h1
  · exact va_Nw.warmM hW h1
  · exact va_Nw.warmD hW h1
  · exact va_Nw.warmD hW h1
  · exact va_Nw.warmD hW h1
theorem zG.go {G : zK} {B0 : Nat} {s U : State} (h : zG G B0 s) (hW : s.WarmedH U.vm) (hk : ∀ a : Nat, a < s.heap.size → ¬ zA B0 a → U.heap[a]? = s.heap[a]?) : zG G B0 U := by
  obtain ⟨h1, h2, h3, h4, h5, h6, h7, h8, h9⟩ := h
  refine ⟨va_K.moved hW.alike h1, zNw_go hW h2, fun q hq => ?_, (h4.moved hW.alike).kept hk, (h5.moved hW.alike).kept hk, h6.moved hW.alike, h7.moved hW.alike, fun q hq => (h8 q hq).moved hW.alike, fun q hq => (h9 q hq).moved hW.alike⟩
  obtain ⟨a, ha⟩ := h3 q hq
  exact ⟨a, ha.warm hW⟩
/-- at a point of a walk: the tables, what has been kept, the world -/
def zI (G : zK) (B0 : Nat) (s : State) (H : Heap) (locs : List Loc) (F : zM) : Prop := zG G B0 s ∧ va_S (zA B0) s.heap H locs ∧ zH G.1 F H ∧ (∀ (a : Nat) (e : va_E), F a = some e → B0 ≤ a) ∧ B0 ≤ s.heap.size
theorem zI.P {G : zK} {B0 : Nat} {s : State} {H : Heap} {locs : List Loc} {F : zM} (h : zI G B0 s H locs F) {a : Nat} {e : va_E} (he : F a = some e) : va_P G.1 vwCl [(a, e)] H := by
  intro k q hk
  have hz : k < 1 := (List.getElem?_eq_some_iff.mp hk).1
  rw [show k = 0 by omega] at hk
  cases hk
  exact h.2.2.1 a e he
theorem zI.lt {G : zK} {B0 : Nat} {s : State} {H : Heap} {locs : List Loc} {F : zM} (h : zI G B0 s H locs F) {a : Nat} {e : va_E} (he : F a = some e) : a < H.size := (h.2.2.1 a e he).lt
theorem zH.put {D : va_G} {F : zM} {H H1 : Heap} {a : Nat} {e : va_E} (h : zH D F H) (he : va_at D vwCl (a, e) H1) (oq : ∀ q : Nat, q ≠ a → H1[q]? = H[q]?) : zH D (zu F a e) H1 := by
  intro b e' hb
  by_cases hba : b = a
  · subst hba
    rw [zu_s] at hb
    cases hb
    exact he
  · rw [zu_n hba] at hb
    exact (h b e' hb).kept (oq b hba)
theorem zI.put {G : zK} {B0 : Nat} {s : State} {H H1 : Heap} {locs : List Loc} {F : zM} (h : zI G B0 s H locs F) {a k : Nat} {e0 e : va_E} (h0 : F a = some e0) (he : va_at G.1 vwCl (a, e) H1) (z : H1.size = H.size) (oq : ∀ q : Nat, q ≠ a → H1[q]? = H[q]?) : zI G B0 s H1 (locs ++ [⟨a, k⟩]) (zu F a e) := by
  refine ⟨h.1, h.2.1.put z oq (h.2.2.2.1 a e0 h0), h.2.2.1.put he oq, fun b e' hb => ?_, h.2.2.2.2⟩
  by_cases hba : b = a
  · subst hba
    exact h.2.2.2.1 b e0 h0
  · rw [zu_n hba] at hb
    exact h.2.2.2.1 b e' hb
theorem zI.new {G : zK} {B0 : Nat} {s : State} {H H1 : Heap} {locs : List Loc} {F : zM} (h : zI G B0 s H locs F) {e : va_E} (he : va_at G.1 vwCl (H.size, e) H1) (z : H.size ≤ H1.size) (oq : ∀ q : Nat, q < H.size → H1[q]? = H[q]?) : zI G B0 s H1 locs (zu F H.size e) := by
  refine ⟨h.1, ⟨Nat.le_trans h.2.1.1 z, fun q h1 h2 => (oq q (Nat.lt_of_lt_of_le h1 h.2.1.1)).trans (h.2.1.2.1 q h1 h2), h.2.1.2.2⟩, fun b e' hb => ?_, fun b e' hb => ?_, h.2.2.2.2⟩
  · by_cases hba : b = H.size
    · subst hba
      rw [zu_s] at hb
      cases hb
      exact he
    · rw [zu_n hba] at hb
      exact (h.2.2.1 b e' hb).kept (oq b (h.lt hb))
  · by_cases hba : b = H.size
    · subst hba
      exact Nat.le_trans h.2.2.2.2 h.2.1.1
    · rw [zu_n hba] at hb
      exact h.2.2.2.1 b e' hb
/-- what every contract asks of the state, and says of the world behind -/
def zPre (G : zK) (B0 : Nat) (F : zM) (U : State) : Prop := zG G B0 U ∧ zH G.1 F U.heap ∧ (∀ (a : Nat) (e : va_E), F a = some e → B0 ≤ a) ∧ B0 ≤ U.heap.size
def zQ (G : zK) (B0 : Nat) (F : zM) (t : State) : Prop := zH G.1 F t.heap ∧ ∀ (a : Nat) (e : va_E), F a = some e → B0 ≤ a
theorem zPre.I {G : zK} {B0 : Nat} {F : zM} {s : State} (h : zPre G B0 F s) : zI G B0 s s.heap [] F := ⟨h.1, va_S.rf, h.2.1, h.2.2.1, h.2.2.2⟩
theorem zI.pre {G : zK} {B0 : Nat} {s : State} {H : Heap} {locs : List Loc} {F : zM} (h : zI G B0 s H locs F) {U : State} (hU : U.heap = H) (hW : s.WarmedH U.vm) : zPre G B0 F U := by
  refine ⟨h.1.go hW (fun a h1 h2 => by rw [hU]; exact h.2.1.2.1 a h1 h2), by rw [hU]; exact h.2.2.1, h.2.2.2.1, Nat.le_trans h.2.2.2.2 (by rw [hU]; exact h.2.1.1)⟩
theorem z_blind {G : zK} {B0 : Nat} {F : zM} {av : List Value} : FrameBlind (va_Pc av (zPre G B0 F)) := by
  intro a U g mk q
  obtain ⟨q0, q1, q2, q3, q4⟩ := q
  exact ⟨q0, q1.go (s := U) (U := U.calling g mk a) (State.WarmedH.refl U) (fun _ _ _ => rfl), q2, q3, q4⟩
theorem zI.call {G : zK} {B0 : Nat} {s : State} {H H1 : Heap} {locs locs1 : List Loc} {F F' : zM} (h : zI G B0 s H locs F) {t : State} (ht : t.heap = H1) (hq : zQ G B0 F' t) (hS : va_S (zA B0) s.heap H1 locs1) : zI G B0 s H1 locs1 F' := ⟨h.1, hS, by rw [← ht]; exact hq.1, hq.2, h.2.2.2.2⟩
section ZR
variable {p : Program} {l : Launch} {e : Env} {R : Room} {s : State} {m : MethodId} {args : Array Value} {below : List Frame} {meth : Method} {c : Code} {H : Heap} {locs : List Loc} {cells slots : Nat} {Q : State → Prop}
variable {cc : ByteArray} {pc : Nat} {ls : Array Slot} {rest : List Value} {a : Nat} {G : zK} {B0 : Nat} {F : zM}
theorem z_get (hexec : p.tables.exec = Jvm.exec) (hb : c.code = cc) {own ref C : String} {T : u_T} {N ci index : Nat} {Ts : List Cond} (hts : ∀ w ∈ Ts, w.before args s = true) (hown : s.vm.findClass own = some m.cls) (hin : ∀ w ∈ u_ws C T N, w ∈ Ts) (hc : vwCl[ci]? = some (C, T, N)) (k : Nat) (hk : k < N) (hlink : (Cond.fieldLink own index ref (T k).2.1 (T k).2.2.1).before args s = true) (hsame : ref = (T k).1) (hI : zI G B0 s H locs F) {fs : List Value} (he : F a = some (zO ci fs)) {v : Value} (hv : fs[k]? = some v) (hdg : decode cc pc = .ok (.getfield index, 3))
    (kk : W p l e R s m args below meth c H locs cells slots Q (F0 m (pc + 3) ls (v :: rest))) : W p l e R s m args below meth c H locs cells slots Q (F0 m pc ls (.ref a :: rest)) :=
  va_get hexec hb hts hin hown hI.1.1 (hI.P he) 0 rfl hc k hk hlink (fun _ h => by rw [hsame]; exact h) hv hdg kk
theorem z_getN (hexec : p.tables.exec = Jvm.exec) (hb : c.code = cc) {own ref C host : String} {T : u_T} {N ci index : Nat} {Ts : List Cond} (hts : ∀ w ∈ Ts, w.before args s = true) (hown : s.vm.findClass own = some m.cls) (hin : ∀ w ∈ u_ws C T N, w ∈ Ts) (hc : vwCl[ci]? = some (C, T, N)) (k : Nat) (hk : k < N) (hlink : Cond.fieldLinkNest own index ref (T k).2.1 (T k).2.2.1 host ∈ zNest) (hsame : ref = (T k).1) (hI : zI G B0 s H locs F) {fs : List Value} (he : F a = some (zO ci fs)) {v : Value} (hv : fs[k]? = some v) (hdg : decode cc pc = .ok (.getfield index, 3))
    (kk : W p l e R s m args below meth c H locs cells slots Q (F0 m (pc + 3) ls (v :: rest))) : W p l e R s m args below meth c H locs cells slots Q (F0 m pc ls (.ref a :: rest)) :=
  va_getN hexec hb hts hin hown hI.1.1 (hI.P he) 0 rfl hc k hk (va_Nw.use rfl (hI.1.2.1 _ hlink)) (fun _ h => by rw [hsame]; exact h) hv hdg kk
theorem z_put (hexec : p.tables.exec = Jvm.exec) (hb : c.code = cc) {own ref C : String} {T : u_T} {N ci index : Nat} {Ts : List Cond} (hts : ∀ w ∈ Ts, w.before args s = true) (hown : s.vm.findClass own = some m.cls) (hin : ∀ w ∈ u_ws C T N, w ∈ Ts) (ty0 : Nat → FieldType) (hty : ∀ k, k < N → parseFieldDescriptor (T k).2.2.1 = some (ty0 k)) (hnm : ∀ a, a < N → ∀ b, b < N → a ≠ b → (T a).2.1 ≠ (T b).2.1) (hc : vwCl[ci]? = some (C, T, N)) (k : Nat) (hk : k < N) (hlink : (Cond.fieldLink own index ref (T k).2.1 (T k).2.2.1).before args s = true) (hsame : ref = (T k).1) (hI : zI G B0 s H locs F) {fs : List Value} (he : F a = some (zO ci fs)) (hfin : (T k).2.2.2 = false) {ty : FieldType} {v : Value} (hd : parseFieldDescriptor (T k).2.2.1 = some ty) (hn : narrow ty v = v) (hfit : fits ty v = true) (hl : k < fs.length)
    (hdg : decode cc pc = .ok (.putfield index, 3)) (kk : ∀ (H1 : Heap) (locs1 : List Loc), ∀ F1 : zM, F1 a = some (zO ci (fs.set k v)) → (∀ b, b ≠ a → F1 b = F b) → zI G B0 s H1 locs1 F1 → W p l e R s m args below meth c H1 locs1 cells slots Q (F0 m (pc + 3) ls rest)) : W p l e R s m args below meth c H locs cells slots Q (F0 m pc ls (v :: .ref a :: rest)) := by
  have hap := va_apart (own := own) hts hin ty0 hty hnm hI.1.1 hc
  obtain ⟨r, h1, cell, q1, q2, q3, q4⟩ := hI.2.2.1 a _ he
  have hr : r = (C, T, N) := Option.some.inj (h1.symm.trans hc)
  subst hr
  obtain ⟨hS, hfc, kC, hkC, hkind⟩ := hI.1.1.1 ci _ hc
  obtain ⟨cf, kf, fi, f, hi, hsl⟩ := hS k hk
  have hlay := hts _ (hin _ (u_in_lay hk))
  unfold u_lay at hlay
  rw [if_neg (by rw [hfin]; decide)] at hlay
  have hst := (u_facts hfc hkC (u_lays hts hin hk) hi).1
  have h6 := u_store hfc hkC hkind hlay hi hd hn hfit
  refine W.putK hexec hb (f := f) ⟨hown, hlink, ⟨_, _, _, (by rw [hsame]; exact hi)⟩, hst⟩ (by rw [q2]; exact h6) q1 q3 (by rw [hsl]; exact k2_hasslot (q4 k hk)) rfl rfl hdg fun H' e1 e2 e3 => ?_
  rw [hsl] at e1 ⊢
  exact kk H' _ _ zu_s (fun b h => zu_n h) (hI.put he ⟨_, hc, t_OB.to (V := updV (vp_V fs) k v) ⟨_, e1, q2, q3, t_set q4 hap hk v⟩ (fun j _ => vp_updV_set hl v j)⟩ e2 e3)
theorem z_putN (hexec : p.tables.exec = Jvm.exec) (hb : c.code = cc) {own ref C host : String} {T : u_T} {N ci index : Nat} {Ts : List Cond} (hts : ∀ w ∈ Ts, w.before args s = true) (hown : s.vm.findClass own = some m.cls) (hin : ∀ w ∈ u_ws C T N, w ∈ Ts) (ty0 : Nat → FieldType) (hty : ∀ k, k < N → parseFieldDescriptor (T k).2.2.1 = some (ty0 k)) (hnm : ∀ a, a < N → ∀ b, b < N → a ≠ b → (T a).2.1 ≠ (T b).2.1) (hc : vwCl[ci]? = some (C, T, N)) (k : Nat) (hk : k < N) (hlink : Cond.fieldLinkNest own index ref (T k).2.1 (T k).2.2.1 host ∈ zNest) (hsame : ref = (T k).1) (hI : zI G B0 s H locs F) {fs : List Value} (he : F a = some (zO ci fs)) (hfin : (T k).2.2.2 = false) {ty : FieldType} {v : Value} (hd : parseFieldDescriptor (T k).2.2.1 = some ty) (hn : narrow ty v = v) (hfit : fits ty v = true) (hl : k < fs.length)
    (hdg : decode cc pc = .ok (.putfield index, 3)) (kk : ∀ (H1 : Heap) (locs1 : List Loc), ∀ F1 : zM, F1 a = some (zO ci (fs.set k v)) → (∀ b, b ≠ a → F1 b = F b) → zI G B0 s H1 locs1 F1 → W p l e R s m args below meth c H1 locs1 cells slots Q (F0 m (pc + 3) ls rest)) : W p l e R s m args below meth c H locs cells slots Q (F0 m pc ls (v :: .ref a :: rest)) := by
  have hap := va_apart (own := own) hts hin ty0 hty hnm hI.1.1 hc
  obtain ⟨r, h1, cell, q1, q2, q3, q4⟩ := hI.2.2.1 a _ he
  have hr : r = (C, T, N) := Option.some.inj (h1.symm.trans hc)
  subst hr
  obtain ⟨hS, hfc, kC, hkC, hkind⟩ := hI.1.1.1 ci _ hc
  obtain ⟨cf, kf, fi, f, hi, hsl⟩ := hS k hk
  have hlay := hts _ (hin _ (u_in_lay hk))
  unfold u_lay at hlay
  rw [if_neg (by rw [hfin]; decide)] at hlay
  have hst := (u_facts hfc hkC (u_lays hts hin hk) hi).1
  have h6 := u_store hfc hkC hkind hlay hi hd hn hfit
  refine va_WputK hexec hb (f := f) hown (va_Nw.use rfl (hI.1.2.1 _ hlink)) (by rw [hsame]; exact hi) hst (by rw [q2]; exact h6) q1 q3 (by rw [hsl]; exact k2_hasslot (q4 k hk)) rfl rfl hdg fun H' e1 e2 e3 => ?_
  rw [hsl] at e1 ⊢
  exact kk H' _ _ zu_s (fun b h => zu_n h) (hI.put he ⟨_, hc, t_OB.to (V := updV (vp_V fs) k v) ⟨_, e1, q2, q3, t_set q4 hap hk v⟩ (fun j _ => vp_updV_set hl v j)⟩ e2 e3)
theorem z_putF (hexec : p.tables.exec = Jvm.exec) (hb : c.code = cc) {own ref C : String} {T : u_T} {N ci index : Nat} {Ts : List Cond} (hts : ∀ w ∈ Ts, w.before args s = true) (hown : s.vm.findClass own = some m.cls) (hin : ∀ w ∈ u_ws C T N, w ∈ Ts) (ty0 : Nat → FieldType) (hty : ∀ k, k < N → parseFieldDescriptor (T k).2.2.1 = some (ty0 k)) (hnm : ∀ a, a < N → ∀ b, b < N → a ≠ b → (T a).2.1 ≠ (T b).2.1) (hc : vwCl[ci]? = some (C, T, N)) (k : Nat) (hk : k < N) (hlink : (Cond.fieldLink own index ref (T k).2.1 (T k).2.2.1).before args s = true) (hsame : ref = (T k).1) (hI : zI G B0 s H locs F) {fs : List Value} (he : F a = some (zO ci fs)) (hfin : (T k).2.2.2 = true) (hin2 : meth.name = "<init>") (hdecl : (T k).1 = own) {ty : FieldType} {v : Value} (hd : parseFieldDescriptor (T k).2.2.1 = some ty) (hn : narrow ty v = v) (hfit : fits ty v = true) (hl : k < fs.length)
    (hdg : decode cc pc = .ok (.putfield index, 3)) (kk : ∀ (H1 : Heap) (locs1 : List Loc), H1.size = H.size → ∀ F1 : zM, F1 a = some (zO ci (fs.set k v)) → (∀ b, b ≠ a → F1 b = F b) → zI G B0 s H1 locs1 F1 → W p l e R s m args below meth c H1 locs1 cells slots Q (F0 m (pc + 3) ls rest)) : W p l e R s m args below meth c H locs cells slots Q (F0 m pc ls (v :: .ref a :: rest)) := by
  have hap := va_apart (own := own) hts hin ty0 hty hnm hI.1.1 hc
  obtain ⟨r, h1, cell, q1, q2, q3, q4⟩ := hI.2.2.1 a _ he
  have hr : r = (C, T, N) := Option.some.inj (h1.symm.trans hc)
  subst hr
  obtain ⟨hS, hfc, kC, hkC, hkind⟩ := hI.1.1.1 ci _ hc
  obtain ⟨cf, kf, fi, f, hi, hsl⟩ := hS k hk
  have hlay := hts _ (hin _ (u_in_lay hk))
  unfold u_lay at hlay
  rw [if_pos hfin] at hlay
  have hst := (u_facts hfc hkC (u_lays hts hin hk) hi).1
  have hcf : m.cls = cf := by
    obtain ⟨_, _, c', _, _, _, -, -, hf', -, -, -, hown2, -⟩ := Cond.laysFinal_spec hlay
    have e1 : c' = cf := by have := hi.symm.trans hf'; simp at this; exact this.1.symm
    rw [hdecl] at hown2
    rw [← e1]; exact Option.some.inj (hown.symm.trans hown2)
  have h6 := u_fits hfc hkC hkind (Or.inr hlay) hi hd hn hfit
  refine W.putFinK hexec hb hown hlink (by rw [hsame]; exact hi) hst hcf hin2 (by rw [q2]; exact h6) q1 q3 (by rw [hsl]; exact k2_hasslot (q4 k hk)) rfl rfl hdg fun H' e1 e2 e3 => ?_
  rw [hsl] at e1 ⊢
  exact kk H' _ e2 _ zu_s (fun b h => zu_n h) (hI.put he ⟨_, hc, t_OB.to (V := updV (vp_V fs) k v) ⟨_, e1, q2, q3, t_set q4 hap hk v⟩ (fun j _ => vp_updV_set hl v j)⟩ e2 e3)
theorem z_ild (hexec : p.tables.exec = Jvm.exec) (hb : c.code = cc) (hI : zI G B0 s H locs F) {n : Nat} {f : Nat → Int32} (he : F a = some (zAI G n f)) {k : Nat} (hk : k < n) (hn : n < 2 ^ 31) {v : Int32} (hv : f k = v) (hdg : decode cc pc = .ok (.iaload, 1))
    (kk : W p l e R s m args below meth c H locs cells slots Q (F0 m (pc + 1) ls (.int v :: rest))) : W p l e R s m args below meth c H locs cells slots Q (F0 m pc ls (.int (nI k) :: .ref a :: rest)) := by
  subst hv
  refine va_iald hexec hb hI.1.1 (hI.P he) 0 0 rfl rfl (vp_in_nI hk hn) hdg ?_
  rw [nI_clamp (by omega)]
  exact kk
theorem z_alenI (hexec : p.tables.exec = Jvm.exec) (hb : c.code = cc) (hI : zI G B0 s H locs F) {n : Nat} {f : Nat → Int32} (he : F a = some (zAI G n f)) (hdg : decode cc pc = .ok (.arraylength, 1))
    (kk : W p l e R s m args below meth c H locs cells slots Q (F0 m (pc + 1) ls (.int (nI n) :: rest))) : W p l e R s m args below meth c H locs cells slots Q (F0 m pc ls (.ref a :: rest)) :=
  va_alen hexec hb hI.1.1 (hI.P he) 0 0 rfl rfl rfl hdg kk
theorem z_ald1 (hexec : p.tables.exec = Jvm.exec) (hb : c.code = cc) (hI : zI G B0 s H locs F) {n : Nat} {f : Nat → Option Nat} (he : F a = some (zA1 G n f)) {k : Nat} (hk : k < n) (hn : n < 2 ^ 31) {v : Nat} (hv : f k = some v) (hdg : decode cc pc = .ok (.aaload, 1))
    (kk : W p l e R s m args below meth c H locs cells slots Q (F0 m (pc + 1) ls (.ref v :: rest))) : W p l e R s m args below meth c H locs cells slots Q (F0 m pc ls (.int (nI k) :: .ref a :: rest)) := by
  refine va_aldq hexec hb hI.1.1 (hI.P he) 0 1 rfl rfl (vp_in_nI hk hn) hdg ?_
  rw [nI_clamp (by omega), hv]
  exact kk
theorem z_ald3 (hexec : p.tables.exec = Jvm.exec) (hb : c.code = cc) (hI : zI G B0 s H locs F) {n : Nat} {f : Nat → Option Nat} (he : F a = some (zA3 G n f)) {k : Nat} (hk : k < n) (hn : n < 2 ^ 31) {v : Nat} (hv : f k = some v) (hdg : decode cc pc = .ok (.aaload, 1))
    (kk : W p l e R s m args below meth c H locs cells slots Q (F0 m (pc + 1) ls (.ref v :: rest))) : W p l e R s m args below meth c H locs cells slots Q (F0 m pc ls (.int (nI k) :: .ref a :: rest)) := by
  refine va_aldq hexec hb hI.1.1 (hI.P he) 0 2 rfl rfl (vp_in_nI hk hn) hdg ?_
  rw [nI_clamp (by omega), hv]
  exact kk
theorem z_lld (hexec : p.tables.exec = Jvm.exec) (hb : c.code = cc) (hI : zI G B0 s H locs F) {n : Nat} {f : Nat → Int64} (he : F a = some (zAL G n f)) {k : Nat} (hk : k < n) (hn : n < 2 ^ 31) (hdg : decode cc pc = .ok (.laload, 1))
    (kk : W p l e R s m args below meth c H locs cells slots Q (F0 m (pc + 1) ls (.long (f k) :: rest))) : W p l e R s m args below meth c H locs cells slots Q (F0 m pc ls (.int (nI k) :: .ref a :: rest)) := by
  refine va_lald hexec hb hI.1.1 (hI.P he) 0 3 rfl rfl (vp_in_nI hk hn) hdg ?_
  rw [nI_clamp (by omega)]
  exact kk
theorem z_dld (hexec : p.tables.exec = Jvm.exec) (hb : c.code = cc) (hI : zI G B0 s H locs F) {n : Nat} {f : Nat → UInt64} (he : F a = some (zAD G n f)) {k : Nat} (hk : k < n) (hn : n < 2 ^ 31) (hdg : decode cc pc = .ok (.daload, 1))
    (kk : W p l e R s m args below meth c H locs cells slots Q (F0 m (pc + 1) ls (.double (f k) :: rest))) : W p l e R s m args below meth c H locs cells slots Q (F0 m pc ls (.int (nI k) :: .ref a :: rest)) := by
  refine va_dald hexec hb hI.1.1 (hI.P he) 0 4 rfl rfl (vp_in_nI hk hn) hdg ?_
  rw [nI_clamp (by omega)]
  exact kk
theorem z_ist (hexec : p.tables.exec = Jvm.exec) (hb : c.code = cc) (hI : zI G B0 s H locs F) {n : Nat} {f : Nat → Int32} (he : F a = some (zAI G n f)) {k : Nat} (hk : k < n) (hn : n < 2 ^ 31) {x : Int32} (hdg : decode cc pc = .ok (.iastore, 1))
    (kk : ∀ (H1 : Heap) (locs1 : List Loc), ∀ F1 : zM, F1 a = some (zAI G n (upd f k x)) → (∀ b, b ≠ a → F1 b = F b) → zI G B0 s H1 locs1 F1 → W p l e R s m args below meth c H1 locs1 cells slots Q (F0 m (pc + 1) ls rest)) : W p l e R s m args below meth c H locs cells slots Q (F0 m pc ls (.int x :: .int (nI k) :: .ref a :: rest)) := by
  have hin : vp_in (nI k) n := vp_in_nI hk hn
  have hcl : (nI k).toNatClampNeg = k := nI_clamp (by omega)
  refine W.iast hexec hb (hI.P he 0 _ rfl) ((hI.1.1.2 0 _ rfl).1 n (fun j => .int (f j))) (fun q => by cases q) (by show ¬ ((nI k) < 0 ∨ (arrV _ _ _).slots.size ≤ _); rw [arrV_size]; exact hin) rfl rfl hdg fun H1 e z oq => ?_
  refine kk H1 _ _ zu_s (fun b h => zu_n h) (hI.put he ?_ z oq)
  show H1[a]? = some (vp_cell _ _)
  rw [e, hcl]
  rw [vp_cell_i, vp_cell_i, arrV_store]
  congr 2
  funext q
  by_cases hq : q = k
  · subst hq
    simp [updV, upd]
  · simp [updV, upd, hq]
theorem z_lst (hexec : p.tables.exec = Jvm.exec) (hb : c.code = cc) (hI : zI G B0 s H locs F) {n : Nat} {f : Nat → Int64} (he : F a = some (zAL G n f)) {k : Nat} (hk : k < n) (hn : n < 2 ^ 31) {x : Int64} (hdg : decode cc pc = .ok (.lastore, 1))
    (kk : ∀ (H1 : Heap) (locs1 : List Loc), ∀ F1 : zM, F1 a = some (zAL G n (vp_updL f k x)) → (∀ b, b ≠ a → F1 b = F b) → zI G B0 s H1 locs1 F1 → W p l e R s m args below meth c H1 locs1 cells slots Q (F0 m (pc + 1) ls rest)) : W p l e R s m args below meth c H locs cells slots Q (F0 m pc ls (.long x :: .int (nI k) :: .ref a :: rest)) := by
  have hin : vp_in (nI k) n := vp_in_nI hk hn
  have hcl : (nI k).toNatClampNeg = k := nI_clamp (by omega)
  refine W.last hexec hb (hI.P he 0 _ rfl) ((hI.1.1.2 3 _ rfl).1 n (fun j => .long (f j))) (fun q => by cases q) (by show ¬ ((nI k) < 0 ∨ (arrV _ _ _).slots.size ≤ _); rw [arrV_size]; exact hin) rfl rfl hdg fun H1 e z oq => ?_
  refine kk H1 _ _ zu_s (fun b h => zu_n h) (hI.put he ?_ z oq)
  show H1[a]? = some (vp_cell _ _)
  rw [e, hcl]
  rw [vp_cell_l, vp_cell_l, arrV_store]
  congr 2
  funext q
  by_cases hq : q = k
  · subst hq
    simp [updV, vp_updL]
  · simp [updV, vp_updL, hq]
theorem z_dst (hexec : p.tables.exec = Jvm.exec) (hb : c.code = cc) (hI : zI G B0 s H locs F) {n : Nat} {f : Nat → UInt64} (he : F a = some (zAD G n f)) {k : Nat} (hk : k < n) (hn : n < 2 ^ 31) {x : UInt64} (hdg : decode cc pc = .ok (.dastore, 1))
    (kk : ∀ (H1 : Heap) (locs1 : List Loc), ∀ F1 : zM, F1 a = some (zAD G n (vf_upd f k x)) → (∀ b, b ≠ a → F1 b = F b) → zI G B0 s H1 locs1 F1 → W p l e R s m args below meth c H1 locs1 cells slots Q (F0 m (pc + 1) ls rest)) : W p l e R s m args below meth c H locs cells slots Q (F0 m pc ls (.double x :: .int (nI k) :: .ref a :: rest)) := by
  have hin : vp_in (nI k) n := vp_in_nI hk hn
  have hcl : (nI k).toNatClampNeg = k := nI_clamp (by omega)
  refine W.dast hexec hb (hI.P he 0 _ rfl) ((hI.1.1.2 4 _ rfl).1 n (fun j => .double (f j))) (fun q => by cases q) (by show ¬ ((nI k) < 0 ∨ (arrV _ _ _).slots.size ≤ _); rw [arrV_size]; exact hin) rfl rfl hdg fun H1 e z oq => ?_
  refine kk H1 _ _ zu_s (fun b h => zu_n h) (hI.put he ?_ z oq)
  show H1[a]? = some (vp_cell _ _)
  rw [e, hcl]
  rw [vp_cell_d, vp_cell_d, arrV_store]
  congr 2
  funext q
  by_cases hq : q = k
  · subst hq
    simp [updV, vf_upd]
  · simp [updV, vf_upd, hq]
theorem z_ast (t0 ci : Nat) {r : vw_C} {C : ClassId} (ht : (zt G)[t0]? = some (C, .object r.1)) (hc : vwCl[ci]? = some r) (hexec : p.tables.exec = Jvm.exec) (hb : c.code = cc) (hI : zI G B0 s H locs F) {n v : Nat} {vs : List Value} {f : Nat → Option Nat} (he : F a = some (.inl (C, n, .inr (.inr (.inr (.inr f)))))) (hv : F v = some (zO ci vs)) {k : Nat} (hk : k < n) (hn : n < 2 ^ 31) (hdg : decode cc pc = .ok (.aastore, 1))
    (kk : ∀ (H1 : Heap) (locs1 : List Loc), H1.size = H.size → ∀ F1 : zM, F1 a = some (.inl (C, n, .inr (.inr (.inr (.inr (va_up f k (some v))))))) → (∀ b, b ≠ a → F1 b = F b) → zI G B0 s H1 locs1 F1 → W p l e R s m args below meth c H1 locs1 cells slots Q (F0 m (pc + 1) ls rest)) : W p l e R s m args below meth c H locs cells slots Q (F0 m pc ls (.ref v :: .int (nI k) :: .ref a :: rest)) := by
  have hcl : (nI k).toNatClampNeg = k := nI_clamp (by omega)
  have h0 : ¬ nI k < 0 := fun q => vp_in_nI hk hn (Or.inl q)
  obtain ⟨r', hr', cellV, g1, g2, g3, -⟩ := hI.2.2.1 v _ hv
  have hcls := (hI.1.1.1 ci r hc).2
  obtain ⟨kA, comp, k1, k2, k3, -⟩ := (hI.1.1.2 t0 _ ht).2
  have hcomp : comp = G.1.1 ci := Option.some.inj (k3.symm.trans hcls.1)
  subst hcomp
  obtain ⟨kC, hkC, -⟩ := hcls.2
  refine W.aast hexec hb (hI.P he 0 _ rfl) (fun q h => by cases h) (fun h => by cases h) k1 k2 rfl hkC ⟨h0, by show _ < (arrV _ _ _).slots.size; rw [arrV_size, hcl]; exact hk⟩ g1 (fun q h => by rw [g3] at h; cases h) (by rw [g2]; exact hkC) (by rw [g2]; exact va_assign hcls) rfl rfl hdg fun H1 e z oq => ?_
  refine kk H1 _ z _ zu_s (fun b h => zu_n h) (hI.put he ?_ z oq)
  show H1[a]? = some (vp_cell _ _)
  rw [e, hcl]
  rw [vp_cell_q, vp_cell_q, arrV_store]
  congr 2
  funext q
  by_cases hq : q = k
  · subst hq
    simp [updV, va_up, va_rf]
  · simp [updV, va_up, hq]
theorem z_new (hexec : p.tables.exec = Jvm.exec) (hb : c.code = cc) {own C : String} {T : u_T} {N ci index : Nat} {Ts : List Cond} (hts : ∀ w ∈ Ts, w.before args s = true) (hown : s.vm.findClass own = some m.cls) (hin : ∀ w ∈ u_ws C T N, w ∈ Ts) (ty : Nat → FieldType) (hty : ∀ k, k < N → parseFieldDescriptor (T k).2.2.1 = some (ty k)) (hcl : (Cond.classLink own index C).before args s = true) (hinst : (Cond.instantiable C N).before args s = true) (hini : (Cond.initialized C).before args s = true)
    (hI : zI G B0 s H locs F) (hc : vwCl[ci]? = some (C, T, N)) {fs : List Value} (hfs : ∀ j, j < N → defaultValue (ty j) = vp_V fs j) (hcells : cells + 1 ≤ R.cells) (hslots : slots + N ≤ R.slots) (hdg : decode cc pc = .ok (.new index, 3))
    (kk : ∀ (q : Nat) (H1 : Heap), q = H.size → H1.size = q + 1 → ∀ F1 : zM, F1 q = some (zO ci fs) → (∀ b, b ≠ q → F1 b = F b) → zI G B0 s H1 locs F1 → W p l e R s m args below meth c H1 locs (cells + 1) (slots + N) Q (F0 m (pc + 3) ls (.ref q :: rest))) : W p l e R s m args below meth c H locs cells slots Q (F0 m pc ls rest) := by
  have hKn := hI.1.1.1 ci _ hc
  refine W.newcK hexec hb hown hcl hinst hini rfl hdg hcells hslots hKn.2.1 rfl fun H1 kC hkC e1 z1 o1 => ?_
  exact kk H.size H1 rfl z1 _ zu_s (fun b h => zu_n h) (hI.new ⟨_, hc, (u_born ty hts hin hKn hkC e1 hty).to hfs⟩ (by omega) o1)
theorem z_newI (hexec : p.tables.exec = Jvm.exec) (hb : c.code = cc) (harr : (Cond.arrayClass .int).before args s = true) (hI : zI G B0 s H locs F) {N' : Nat} (hN : N' < 1000) (hcells : cells + 1 ≤ R.cells) (hslots : slots + N' ≤ R.slots) (hdg : decode cc pc = .ok (.newarray .int, 2))
    (kk : ∀ (q : Nat) (H1 : Heap), q = H.size → H1.size = q + 1 → ∀ F1 : zM, F1 q = some (zAI G N' (fun _ => 0)) → (∀ b, b ≠ q → F1 b = F b) → zI G B0 s H1 locs F1 → W p l e R s m args below meth c H1 locs (cells + 1) (slots + N') Q (F0 m (pc + 2) ls (.ref q :: rest))) : W p l e R s m args below meth c H locs cells slots Q (F0 m pc ls (.int (nI N') :: rest)) := by
  refine va_newaK (atype := .int) hexec hb harr rfl hdg rfl (nI_pos (by omega)) (nI_clamp (by omega)) (by show N' * 4 ≤ 536870912; omega) hcells hslots rfl fun H1 cA e1 z1 o1 hAr hNm => ?_
  have hcA : cA = G.2 0 := by
    have h1 : s.vm.findClass ("[" ++ (FieldType.int).toString) = some (G.2 0) := (hI.1.1.2 0 _ rfl).2
    exact Option.some.inj (hNm.symm.trans h1)
  subst hcA
  exact kk H.size H1 rfl z1 _ zu_s (fun b h => zu_n h) (hI.new (by show H1[H.size]? = some (vp_cell _ _); rw [vp_cell_i]; exact e1) (by omega) o1)
theorem z_newJ (hexec : p.tables.exec = Jvm.exec) (hb : c.code = cc) (harr : (Cond.arrayClass .long).before args s = true) (hI : zI G B0 s H locs F) {N' : Nat} (hN : N' < 1000) (hcells : cells + 1 ≤ R.cells) (hslots : slots + N' ≤ R.slots) (hdg : decode cc pc = .ok (.newarray .long, 2))
    (kk : ∀ (q : Nat) (H1 : Heap), q = H.size → H1.size = q + 1 → ∀ F1 : zM, F1 q = some (zAL G N' (fun _ => 0)) → (∀ b, b ≠ q → F1 b = F b) → zI G B0 s H1 locs F1 → W p l e R s m args below meth c H1 locs (cells + 1) (slots + N') Q (F0 m (pc + 2) ls (.ref q :: rest))) : W p l e R s m args below meth c H locs cells slots Q (F0 m pc ls (.int (nI N') :: rest)) := by
  refine va_newaK (atype := .long) hexec hb harr rfl hdg rfl (nI_pos (by omega)) (nI_clamp (by omega)) (by show N' * 8 ≤ 536870912; omega) hcells hslots rfl fun H1 cA e1 z1 o1 hAr hNm => ?_
  have hcA : cA = G.2 3 := by
    have h1 : s.vm.findClass ("[" ++ (FieldType.long).toString) = some (G.2 3) := (hI.1.1.2 3 _ rfl).2
    exact Option.some.inj (hNm.symm.trans h1)
  subst hcA
  exact kk H.size H1 rfl z1 _ zu_s (fun b h => zu_n h) (hI.new (by show H1[H.size]? = some (vp_cell _ _); rw [vp_cell_l]; exact e1) (by omega) o1)
theorem z_newD (hexec : p.tables.exec = Jvm.exec) (hb : c.code = cc) (harr : (Cond.arrayClass .double).before args s = true) (hI : zI G B0 s H locs F) {N' : Nat} (hN : N' < 1000) (hcells : cells + 1 ≤ R.cells) (hslots : slots + N' ≤ R.slots) (hdg : decode cc pc = .ok (.newarray .double, 2))
    (kk : ∀ (q : Nat) (H1 : Heap), q = H.size → H1.size = q + 1 → ∀ F1 : zM, F1 q = some (zAD G N' (fun _ => 0)) → (∀ b, b ≠ q → F1 b = F b) → zI G B0 s H1 locs F1 → W p l e R s m args below meth c H1 locs (cells + 1) (slots + N') Q (F0 m (pc + 2) ls (.ref q :: rest))) : W p l e R s m args below meth c H locs cells slots Q (F0 m pc ls (.int (nI N') :: rest)) := by
  refine va_newaK (atype := .double) hexec hb harr rfl hdg rfl (nI_pos (by omega)) (nI_clamp (by omega)) (by show N' * 8 ≤ 536870912; omega) hcells hslots rfl fun H1 cA e1 z1 o1 hAr hNm => ?_
  have hcA : cA = G.2 4 := by
    have h1 : s.vm.findClass ("[" ++ (FieldType.double).toString) = some (G.2 4) := (hI.1.1.2 4 _ rfl).2
    exact Option.some.inj (hNm.symm.trans h1)
  subst hcA
  exact kk H.size H1 rfl z1 _ zu_s (fun b h => zu_n h) (hI.new (by show H1[H.size]? = some (vp_cell _ _); rw [vp_cell_d]; exact e1) (by omega) o1)
theorem z_newQ (t0 : Nat) {C : String} (ht : (zt G)[t0]? = some (G.2 t0, .object C)) (hexec : p.tables.exec = Jvm.exec) (hb : c.code = cc) {own : String} {index : Nat} (hown : s.vm.findClass own = some m.cls) (hclink : (Cond.classLink own index C).before args s = true) (hover : va_AO C s) (hI : zI G B0 s H locs F) {N' : Nat} (hN : N' < 1000) (hcells : cells + 1 ≤ R.cells) (hslots : slots + N' ≤ R.slots) (hdg : decode cc pc = .ok (.anewarray index, 3))
    (kk : ∀ (q : Nat) (H1 : Heap), q = H.size → H1.size = q + 1 → ∀ F1 : zM, F1 q = some (.inl (G.2 t0, N', .inr (.inr (.inr (.inr (fun _ => none)))))) → (∀ b, b ≠ q → F1 b = F b) → zI G B0 s H1 locs F1 → W p l e R s m args below meth c H1 locs (cells + 1) (slots + N') Q (F0 m (pc + 3) ls (.ref q :: rest))) : W p l e R s m args below meth c H locs cells slots Q (F0 m pc ls (.int (nI N') :: rest)) := by
  have hcl : (nI N').toNatClampNeg = N' := nI_clamp (by omega)
  refine W.anew hexec hb hown hclink (va_AO.use hover) rfl hdg rfl (nI_pos (by omega)) (by rw [hcl]; omega) hcells (by rw [hcl]; exact hslots) fun cA kA comp f1 f2 f3 f4 => ?_
  rw [hcl]
  generalize hH1 : H.push ({ cls := cA, slots := Array.replicate N' .null, vm := .none } : Cell) = H1
  have z1 : H1.size = H.size + 1 := by rw [← hH1, Array.size_push]
  have e1 : H1[H.size]? = some (arrV cA N' (fun _ => .null)) := by rw [← hH1, Array.getElem?_push_size, ← arrV_new]
  have o1 : ∀ q : Nat, q < H.size → H1[q]? = H[q]? := fun q hq => by rw [← hH1, Array.getElem?_push, if_neg (Nat.ne_of_lt hq)]
  have hcA : cA = G.2 t0 := by
    obtain ⟨kA', comp', k1, k2, k3, k4⟩ := (hI.1.1.2 t0 _ ht).2
    exact Option.some.inj (f1.symm.trans k4)
  subst hcA
  exact kk H.size H1 rfl z1 _ zu_s (fun b h => zu_n h) (hI.new (by show H1[H.size]? = some (vp_cell _ _); rw [vp_cell_q]; exact e1) (by omega) o1)
theorem z_top {x y : Value} (h : x = y) (k : W p l e R s m args below meth c H locs cells slots Q (F0 m pc ls (y :: rest))) : W p l e R s m args below meth c H locs cells slots Q (F0 m pc ls (x :: rest)) := by rw [h]; exact k
theorem z_topi {x y : Int32} (h : x = y) (k : W p l e R s m args below meth c H locs cells slots Q (F0 m pc ls (.int y :: rest))) : W p l e R s m args below meth c H locs cells slots Q (F0 m pc ls (.int x :: rest)) := by rw [h]; exact k
end ZR
end
section
/-! calls, ends and entries over such worlds -/
def zQo (G : zK) (B0 : Nat) (post : Option Value → zM → Prop) : Array Value → State → Outcome → State → Prop := fun _ st oc t => (∃ (v : Option Value) (F' : zM), oc = .returned v ∧ post v F' ∧ zQ G B0 F' t) ∧ va_F (zA B0) st t
abbrev zQi (G : zK) (B0 : Nat) (post : Int32 → zM → Prop) := zQo G B0 (fun v F' => ∃ r : Int32, v = some (.int r) ∧ post r F')
abbrev zQv (G : zK) (B0 : Nat) (post : zM → Prop) := zQo G B0 (fun v F' => v = none ∧ post F')
abbrev zQr (G : zK) (B0 : Nat) (post : Nat → zM → Prop) := zQo G B0 (fun v F' => ∃ r : Nat, v = some (.ref r) ∧ post r F')
abbrev zQd (G : zK) (B0 : Nat) (post : UInt64 → zM → Prop) := zQo G B0 (fun v F' => ∃ r : UInt64, v = some (.double r) ∧ post r F')
abbrev zQf (G : zK) (B0 : Nat) (post : UInt32 → zM → Prop) := zQo G B0 (fun v F' => ∃ r : UInt32, v = some (.float r) ∧ post r F')
def zXC (G : zK) (B0 : Nat) (F : zM) (PX : String → Prop) : String → State → State → Prop := vx_X (fun _ : Unit => True) (fun E _ t => PX E ∧ zQ G B0 F t) (zA B0)
theorem zW_in {w : Cond} (h : w ∈ zW) : w ∈ lw_tbl := (List.mem_filter.mp h).1
theorem zW_good {c0 : Cond} (h : c0 ∈ zW) : GoodIn zW (c0 :: zW) := fun w hw => (List.mem_cons.mp hw).elim (fun e => by rw [e]; exact ⟨h, good_of_word (List.mem_filter.mp h).2⟩) (fun h1 => ⟨h1, good_of_word (List.mem_filter.mp h1).2⟩)
def zMB (y : MethodName) (bytes : ByteArray) (maxL : Nat) (ret : Option FieldType) (n : Nat) : Prop := Cond.code y bytes maxL ret ∈ zW ∧ Cond.initialized y.cls ∈ zW ∧ (y.cls ≠ "java/lang/invoke/MethodHandle" ∧ y.cls ≠ "java/lang/invoke/VarHandle" ∧ (parseMethodDescriptor y.desc).map (fun d => d.parameters.length) = some n)
def zMV (C : String) (y : MethodName) (bytes : ByteArray) (maxL : Nat) (ret : Option FieldType) (n : Nat) : Prop := zMB y bytes maxL ret n ∧ Cond.instanceMethod y ∈ zW ∧ Cond.selects C y y ∈ zW
def zMS (y : MethodName) (bytes : ByteArray) (maxL : Nat) (ret : Option FieldType) (n : Nat) : Prop := zMB y bytes maxL ret n ∧ Cond.static y ∈ zW
def zMI (y : MethodName) (bytes : ByteArray) (maxL : Nat) (n : Nat) : Prop := zMB y bytes maxL none n ∧ y.name = "<init>" ∧ Cond.instanceMethod y ∈ zW
def zMH (y : MethodName) (bytes : ByteArray) (maxL : Nat) (ret : Option FieldType) (hh : List (Nat × Nat × Nat × Nat)) (n : Nat) : Prop := Cond.codeWith y bytes maxL ret hh ∈ zW ∧ Cond.initialized y.cls ∈ zW ∧ (y.cls ≠ "java/lang/invoke/MethodHandle" ∧ y.cls ≠ "java/lang/invoke/VarHandle" ∧ (parseMethodDescriptor y.desc).map (fun d => d.parameters.length) = some n) ∧ Cond.static y ∈ zW
section ZCW
variable {R : Room} {s : State} {args : Array Value}
theorem z_cb {own : String} {index maxL n : Nat} {y : MethodName} {bytes : ByteArray} {ret : Option FieldType} {rm : Room} (hB : zMB y bytes maxL ret n) (ht : ∀ w ∈ zW, w.before args s = true) (hl : Cond.methodLink own index y ∈ zW) (hR : rm.frames + 1 ≤ R.frames ∧ 8 + (maxL + 11) + rm.locals ≤ R.locals) : CallB R s args own index y bytes maxL ret (Cond.code y bytes maxL ret :: zW) rm rm.cells rm.slots n :=
  callB_of n ht (zW_good hB.1) rfl rfl rfl (ht _ hB.2.1) (ht _ hl) hB.2.2 hR
theorem z_cwV {own C : String} {index maxL n : Nat} {y : MethodName} {bytes : ByteArray} {ret : Option FieldType} {rm : Room} (hB : zMV C y bytes maxL ret n) (ht : ∀ w ∈ zW, w.before args s = true) (hl : Cond.methodLink own index y ∈ zW) (hR : rm.frames + 1 ≤ R.frames ∧ 8 + (maxL + 11) + rm.locals ≤ R.locals) : CallW R s args own C index y bytes maxL ret (Cond.code y bytes maxL ret :: zW) rm rm.cells rm.slots n :=
  ⟨z_cb hB.1 ht hl hR, ht _ hB.2.1, ht _ hB.2.2⟩
theorem z_cwS {own : String} {index maxL n : Nat} {y : MethodName} {bytes : ByteArray} {ret : Option FieldType} {rm : Room} (hB : zMS y bytes maxL ret n) (ht : ∀ w ∈ zW, w.before args s = true) (hl : Cond.methodLink own index y ∈ zW) (hR : rm.frames + 1 ≤ R.frames ∧ 8 + (maxL + 11) + rm.locals ≤ R.locals) : CallB R s args own index y bytes maxL ret (Cond.code y bytes maxL ret :: zW) rm rm.cells rm.slots n ∧ (Cond.static y).before args s = true :=
  ⟨z_cb hB.1 ht hl hR, ht _ hB.2⟩
theorem z_cwI {own : String} {index maxL n : Nat} {y : MethodName} {bytes : ByteArray} {rm : Room} (hB : zMI y bytes maxL n) (ht : ∀ w ∈ zW, w.before args s = true) (hl : Cond.methodLink own index y ∈ zW) (hR : rm.frames + 1 ≤ R.frames ∧ 8 + (maxL + 11) + rm.locals ≤ R.locals) : CallB R s args own index y bytes maxL none (Cond.code y bytes maxL none :: zW) rm rm.cells rm.slots n ∧ y.name = "<init>" ∧ (Cond.instanceMethod y).before args s = true :=
  ⟨z_cb hB.1 ht hl hR, hB.2.1, ht _ hB.2.2⟩
theorem z_cwH {own : String} {index maxL n : Nat} {y : MethodName} {bytes : ByteArray} {ret : Option FieldType} {hh : List (Nat × Nat × Nat × Nat)} {rm : Room} (hB : zMH y bytes maxL ret hh n) (ht : ∀ w ∈ zW, w.before args s = true) (hl : Cond.methodLink own index y ∈ zW) (hR : rm.frames + 1 ≤ R.frames ∧ 8 + (maxL + 11) + rm.locals ≤ R.locals) : vx_CSW R s args own index y bytes maxL ret hh (Cond.codeWith y bytes maxL ret hh :: zW) rm rm.cells rm.slots n := by
  obtain ⟨h1, h2, h3, h4⟩ := hB
  refine ⟨⟨rfl, rfl, hR.1, hR.2, pay_in ht (zW_good h1), List.mem_cons_self⟩, ht _ h1, ht _ h2, ⟨h3.1, h3.2.1⟩, fun sig h => ?_, ht _ hl, ht _ h4⟩
  have h5 := h3.2.2
  rw [h] at h5
  exact (Option.some.inj h5).symm
end ZCW
section ZC
variable {p : Program} {l : Launch} {e : Env} {R : Room} {s : State} {m : MethodId} {args : Array Value} {below : List Frame} {meth : Method} {c : Code} {H : Heap} {locs : List Loc} {cells slots : Nat} {Q : State → Prop}
variable {cc : ByteArray} {pc : Nat} {ls : Array Slot} {rest st0 : List Value} {G : zK} {B0 : Nat} {F : zM}
variable {y : MethodName} {bytes : ByteArray} {maxL nL mc ms n index : Nat} {ret : Option FieldType} {ws : List Cond} {rm : Room} {Qc : Array Value → State → Outcome → State → Prop} {XC : String → State → State → Prop} {free : Addr → Prop} {Ts : List Cond} {own C : String} {b : Addr} {As : List Value} {g : JFrame}
theorem z_V {T : u_T} {N ci : Nat} {fs : List Value} (S : CallFix p m c cc nL s args Ts own) (hI : zI G B0 s H locs F) (he : F b = some (zO ci fs)) (hc : vwCl[ci]? = some (C, T, N)) (hM : Met l y ws rm (va_Pc (.ref b :: As) (zPre G B0 F)) Qc mc ms free) (cw : CallW R s args own C index y bytes maxL ret ws rm mc ms n) (hn : As.length = n) (hsize : ls.size = nL) (hstack : st0 = As.reverse ++ .ref b :: rest) (hW : 2 * (F0 m pc ls st0).monitorRoom + (rest.map fun v => v.category).sum ≤ 8) (hdg : decode cc pc = .ok (.invokevirtual index, 3)) (hf : cells + mc ≤ R.cells ∧ slots + ms ≤ R.slots) : va_Run p l e R s m args below meth c H locs cells slots mc ms (F0 m pc ls st0) rest (Qc (Value.ref b :: As).toArray) free :=
  va_runV S hM cw ⟨z_blind, va_recv hI.1.1 (hI.P he) hc rfl, fun U hU hW => ⟨rfl, hI.pre hU hW⟩⟩ rfl hn hsize hstack hW hdg hf
theorem z_S (S : CallFix p m c cc nL s args Ts own) (hI : zI G B0 s H locs F) (hM : Met l y ws rm (va_Pc As (zPre G B0 F)) Qc mc ms free) (cw : CallB R s args own index y bytes maxL ret ws rm mc ms n ∧ (Cond.static y).before args s = true) (hn : As.length = n) (hsize : ls.size = nL) (hstack : st0 = As.reverse ++ rest) (hW : 2 * (F0 m pc ls st0).monitorRoom + (rest.map fun v => v.category).sum ≤ 8) (hdg : decode cc pc = .ok (.invokestatic index, 3)) (hf : cells + mc ≤ R.cells ∧ slots + ms ≤ R.slots) : va_Run p l e R s m args below meth c H locs cells slots mc ms (F0 m pc ls st0) rest (Qc As.toArray) free :=
  va_runS S hM cw ⟨z_blind, fun U hU hW => ⟨rfl, hI.pre hU hW⟩⟩ rfl hn hsize hstack hW hdg hf
theorem z_H {hh : List (Nat × Nat × Nat × Nat)} (S : CallFix p m c cc nL s args Ts own) (hI : zI G B0 s H locs F) (hM : Met l y ws rm (va_Pc As (zPre G B0 F)) Qc mc ms free) (cw : vx_CSW R s args own index y bytes maxL ret hh ws rm mc ms n) (hn : As.length = n) (hsize : ls.size = nL) (hstack : st0 = As.reverse ++ rest) (hW : 2 * (F0 m pc ls st0).monitorRoom + (rest.map fun v => v.category).sum ≤ 8) (hdg : decode cc pc = .ok (.invokestatic index, 3)) (hf : cells + mc ≤ R.cells ∧ slots + ms ≤ R.slots) : va_Run p l e R s m args below meth c H locs cells slots mc ms (F0 m pc ls st0) rest (Qc As.toArray) free :=
  vx_runSW S hM cw ⟨z_blind, fun U hU hW => ⟨rfl, hI.pre hU hW⟩⟩ rfl hn hsize hstack hW hdg hf
theorem z_In (S : CallFix p m c cc nL s args Ts own) (hI : zI G B0 s H locs F) (hM : Met l y ws rm (va_Pc (.ref b :: As) (zPre G B0 F)) Qc mc ms free) (cw : CallB R s args own index y bytes maxL none ws rm mc ms n ∧ y.name = "<init>" ∧ (Cond.instanceMethod y).before args s = true) (hn : As.length = n) (hsize : ls.size = nL) (hstack : st0 = As.reverse ++ .ref b :: rest) (hW : 2 * (F0 m pc ls st0).monitorRoom + (rest.map fun v => v.category).sum ≤ 8) (hdg : decode cc pc = .ok (.invokespecial index, 3)) (hf : cells + mc ≤ R.cells ∧ slots + ms ≤ R.slots) : va_Run p l e R s m args below meth c H locs cells slots mc ms (F0 m pc ls st0) rest (Qc (Value.ref b :: As).toArray) free :=
  va_runI S hM cw ⟨z_blind, fun U hU hW => ⟨rfl, hI.pre hU hW⟩⟩ rfl hn hsize hstack hW hdg hf
theorem z_xV {T : u_T} {N ci : Nat} {fs : List Value} (S : CallFix p m c cc nL s args Ts own) (hI : zI G B0 s H locs F) (he : F b = some (zO ci fs)) (hc : vwCl[ci]? = some (C, T, N)) (hM : vx_Met l y ws rm (va_Pc (.ref b :: As) (zPre G B0 F)) Qc XC mc ms free) (cw : CallW R s args own C index y bytes maxL ret ws rm mc ms n) (hn : As.length = n) (hsize : ls.size = nL) (hstack : st0 = As.reverse ++ .ref b :: rest) (hW : 2 * (F0 m pc ls st0).monitorRoom + (rest.map fun v => v.category).sum ≤ 8) (hdg : decode cc pc = .ok (.invokevirtual index, 3)) (hf : cells + mc ≤ R.cells ∧ slots + ms ≤ R.slots) : vx_Run p l e R s m args below meth c H locs cells slots mc ms (F0 m pc ls st0) rest (Qc (Value.ref b :: As).toArray) XC free :=
  vx_runV S hM cw ⟨z_blind, va_recv hI.1.1 (hI.P he) hc rfl, fun U hU hW => ⟨rfl, hI.pre hU hW⟩⟩ rfl hn hsize hstack hW hdg hf
theorem z_xS (S : CallFix p m c cc nL s args Ts own) (hI : zI G B0 s H locs F) (hM : vx_Met l y ws rm (va_Pc As (zPre G B0 F)) Qc XC mc ms free) (cw : CallB R s args own index y bytes maxL ret ws rm mc ms n ∧ (Cond.static y).before args s = true) (hn : As.length = n) (hsize : ls.size = nL) (hstack : st0 = As.reverse ++ rest) (hW : 2 * (F0 m pc ls st0).monitorRoom + (rest.map fun v => v.category).sum ≤ 8) (hdg : decode cc pc = .ok (.invokestatic index, 3)) (hf : cells + mc ≤ R.cells ∧ slots + ms ≤ R.slots) : vx_Run p l e R s m args below meth c H locs cells slots mc ms (F0 m pc ls st0) rest (Qc As.toArray) XC free :=
  vx_runS S hM cw ⟨z_blind, fun U hU hW => ⟨rfl, hI.pre hU hW⟩⟩ rfl hn hsize hstack hW hdg hf
variable {a : Array Value} {post : Option Value → zM → Prop}
theorem z_call (hI : zI G B0 s H locs F) (hr : va_Run p l e R s m args below meth c H locs cells slots mc ms (F0 m pc ls st0) rest (zQo G B0 post a) (zA B0))
    (kk : ∀ (v : Option Value) (F' : zM) (H1 : Heap) (locs1 : List Loc), post v F' → zI G B0 s H1 locs1 F' → H.size ≤ H1.size → W p l e R s m args below meth c H1 locs1 (cells + mc) (slots + ms) Q (F0 m (pc + 3) ls (v.toList ++ rest))) : W p l e R s m args below meth c H locs cells slots Q (F0 m pc ls st0) := by
  intro T hT X
  obtain ⟨v, st₀, t, T', L, h0, X', hL, e1, e2, ⟨⟨v', F', hv, hp, hq⟩, hz, hk⟩, st⟩ := hr T hT X
  cases hv
  rw [h0] at hz hk
  have hS := hI.2.1
  obtain ⟨t2, a1, b1⟩ := kk v F' T'.heap (locs ++ L) hp (hI.call e1.symm hq ⟨Nat.le_trans hS.1 (by rw [e1]; exact hz), fun q h1 h2 => by rw [e1, hk q (Nat.lt_of_lt_of_le h1 hS.1) h2]; exact hS.2.1 q h1 h2, fun q hq => by
      rcases List.mem_append.mp hq with h | h
      · exact hS.2.2 q h
      · exact hL q h⟩) (by rw [e1]; exact hz) T' rfl X'
  exact ⟨t2, st t2 a1, b1⟩
theorem z_calli {post : Int32 → zM → Prop} (hI : zI G B0 s H locs F) (hr : va_Run p l e R s m args below meth c H locs cells slots mc ms (F0 m pc ls st0) rest (zQi G B0 post a) (zA B0))
    (kk : ∀ (r : Int32) (F' : zM) (H1 : Heap) (locs1 : List Loc), post r F' → zI G B0 s H1 locs1 F' → W p l e R s m args below meth c H1 locs1 (cells + mc) (slots + ms) Q (F0 m (pc + 3) ls (.int r :: rest))) : W p l e R s m args below meth c H locs cells slots Q (F0 m pc ls st0) :=
  z_call hI hr (fun v F' H1 locs1 hp hI1 _ => by obtain ⟨r, rfl, hp⟩ := hp; exact kk r F' H1 locs1 hp hI1)
theorem z_callv {post : zM → Prop} (hI : zI G B0 s H locs F) (hr : va_Run p l e R s m args below meth c H locs cells slots mc ms (F0 m pc ls st0) rest (zQv G B0 post a) (zA B0))
    (kk : ∀ (F' : zM) (H1 : Heap) (locs1 : List Loc), post F' → zI G B0 s H1 locs1 F' → W p l e R s m args below meth c H1 locs1 (cells + mc) (slots + ms) Q (F0 m (pc + 3) ls rest)) : W p l e R s m args below meth c H locs cells slots Q (F0 m pc ls st0) :=
  z_call hI hr (fun v F' H1 locs1 hp hI1 _ => by obtain ⟨rfl, hp⟩ := hp; exact kk F' H1 locs1 hp hI1)
theorem z_callr {post : Nat → zM → Prop} (hI : zI G B0 s H locs F) (hr : va_Run p l e R s m args below meth c H locs cells slots mc ms (F0 m pc ls st0) rest (zQr G B0 post a) (zA B0))
    (kk : ∀ (r : Nat) (F' : zM) (H1 : Heap) (locs1 : List Loc), post r F' → zI G B0 s H1 locs1 F' → W p l e R s m args below meth c H1 locs1 (cells + mc) (slots + ms) Q (F0 m (pc + 3) ls (.ref r :: rest))) : W p l e R s m args below meth c H locs cells slots Q (F0 m pc ls st0) :=
  z_call hI hr (fun v F' H1 locs1 hp hI1 _ => by obtain ⟨r, rfl, hp⟩ := hp; exact kk r F' H1 locs1 hp hI1)
theorem z_calld {post : UInt64 → zM → Prop} (hI : zI G B0 s H locs F) (hr : va_Run p l e R s m args below meth c H locs cells slots mc ms (F0 m pc ls st0) rest (zQd G B0 post a) (zA B0))
    (kk : ∀ (r : UInt64) (F' : zM) (H1 : Heap) (locs1 : List Loc), post r F' → zI G B0 s H1 locs1 F' → W p l e R s m args below meth c H1 locs1 (cells + mc) (slots + ms) Q (F0 m (pc + 3) ls (.double r :: rest))) : W p l e R s m args below meth c H locs cells slots Q (F0 m pc ls st0) :=
  z_call hI hr (fun v F' H1 locs1 hp hI1 _ => by obtain ⟨r, rfl, hp⟩ := hp; exact kk r F' H1 locs1 hp hI1)
theorem z_callf {post : UInt32 → zM → Prop} (hI : zI G B0 s H locs F) (hr : va_Run p l e R s m args below meth c H locs cells slots mc ms (F0 m pc ls st0) rest (zQf G B0 post a) (zA B0))
    (kk : ∀ (r : UInt32) (F' : zM) (H1 : Heap) (locs1 : List Loc), post r F' → zI G B0 s H1 locs1 F' → W p l e R s m args below meth c H1 locs1 (cells + mc) (slots + ms) Q (F0 m (pc + 3) ls (.float r :: rest))) : W p l e R s m args below meth c H locs cells slots Q (F0 m pc ls st0) :=
  z_call hI hr (fun v F' H1 locs1 hp hI1 _ => by obtain ⟨r, rfl, hp⟩ := hp; exact kk r F' H1 locs1 hp hI1)
/-- a callee that may throw, called where nothing catches -/
theorem z_xcallG {PX : String → Prop} (hI : zI G B0 s H locs F) (hr : vx_Run p l e R s m args below meth c H locs cells slots mc ms (F0 m pc ls st0) rest (zQo G B0 post a) (zXC G B0 F PX) (zA B0))
    (kx : ∀ (E : String) (ce : Cell) (q9 : Addr) (H1 : Heap) (locs1 : List Loc), PX E → zI G B0 s H1 locs1 F → H1[q9]? = some ce → ce.vm = .none → s.vm.findClass E = some ce.cls → vx_W p l e R s m args below meth c H1 locs1 (cells + mc) (slots + ms) Q (F0 m pc ls rest) q9)
    (kk : ∀ (v : Option Value) (F' : zM) (H1 : Heap) (locs1 : List Loc), post v F' → zI G B0 s H1 locs1 F' → W p l e R s m args below meth c H1 locs1 (cells + mc) (slots + ms) Q (F0 m (pc + 3) ls (v.toList ++ rest))) : W p l e R s m args below meth c H locs cells slots Q (F0 m pc ls st0) := by
  intro T hT X
  rcases hr T hT X with ⟨v, st₀, t, T', L, h0, X', hL, e1, e2, ⟨⟨v', F', hv, hp, hq⟩, hF⟩, st⟩ | ⟨q, st₀, t, T', L, E, ce, h0, X', hL, e1, e2, ⟨u, -, ⟨hp, hq⟩, hF⟩, hce, hcv, hcl, st⟩
  · cases hv
    obtain ⟨k1, k2, k3⟩ := vx_keep (A0 := zA B0) h0 e1 hI.2.1 (fun q _ h => h) (fun q h => h) hL hF
    obtain ⟨t2, a1, b1⟩ := kk v F' T'.heap (locs ++ L) hp (hI.call e1.symm hq k3) T' rfl X'
    exact ⟨t2, st t2 a1, b1⟩
  · obtain ⟨k1, k2, k3⟩ := vx_keep (A0 := zA B0) h0 e1 hI.2.1 (fun q _ h => h) (fun q h => h) hL hF
    obtain ⟨t2, a1, b1⟩ := kx E ce q T'.heap (locs ++ L) hp (hI.call e1.symm hq k3) (by rw [e1]; exact hce) hcv hcl T' rfl X'
    exact ⟨t2, st.trans a1, b1⟩
end ZC
section ZE
variable {p : Program} {l : Launch} {e : Env} {R : Room} {s : State} {m : MethodId} {args : Array Value} {below : List Frame} {meth : Method} {c : Code} {H : Heap} {locs : List Loc} {cells slots : Nat} {Q : State → Prop}
variable {cc : ByteArray} {pc : Nat} {ls : Array Slot} {rest st0 : List Value} {G : zK} {B0 : Nat} {F F' : zM} {mc ms : Nat} {post : Option Value → zM → Prop} {PX : String → Prop}
theorem zI.Q (h : zI G B0 s H locs F) {t : State} (ht : t.heap = H) : zQ G B0 F t := ⟨by rw [ht]; exact h.2.2.1, h.2.2.2.1⟩
/-- the ends: what is answered, and the world behind -/
theorem z_ri {v : Int32} (hexec : p.tables.exec = Jvm.exec) (hb : c.code = cc) (hr : meth.sig.returnType = some .int) (hlocks : meth.locks = false) (hI : zI G B0 s H locs F') (hp : post (some (.int v)) F') (h1 : cells ≤ mc) (h2 : slots ≤ ms) (hdg : decode cc pc = .ok (.ireturn, 1)) : W p l e R s m args below meth c H locs cells slots (MQ below (zQo G B0 post) args s mc ms (zA B0)) (F0 m pc ls [.int v]) :=
  W.widen h1 h2 (W.iret hexec hb hr (fun t ht hW => ⟨⟨_, F', rfl, hp, hI.Q ht⟩, hI.2.1.F ht⟩) hI.2.1.2.2 hdg hlocks)
theorem z_rz {v : Int32} (hexec : p.tables.exec = Jvm.exec) (hb : c.code = cc) (hr : meth.sig.returnType = some .boolean) (hlocks : meth.locks = false) (hv : v = 0 ∨ v = 1) (hI : zI G B0 s H locs F') (hp : post (some (.int v)) F') (h1 : cells ≤ mc) (h2 : slots ≤ ms) (hdg : decode cc pc = .ok (.ireturn, 1)) : W p l e R s m args below meth c H locs cells slots (MQ below (zQo G B0 post) args s mc ms (zA B0)) (F0 m pc ls [.int v]) :=
  W.widen h1 h2 (W.zret hexec hb hr (by rcases hv with rfl | rfl <;> rfl) (fun t ht hW => ⟨⟨_, F', rfl, hp, hI.Q ht⟩, hI.2.1.F ht⟩) hI.2.1.2.2 hdg hlocks)
theorem z_rv (hexec : p.tables.exec = Jvm.exec) (hb : c.code = cc) (hr : meth.sig.returnType = none) (hlocks : meth.locks = false) (hI : zI G B0 s H locs F') (hp : post none F') (h1 : cells ≤ mc) (h2 : slots ≤ ms) (hdg : decode cc pc = .ok (.return_, 1)) : W p l e R s m args below meth c H locs cells slots (MQ below (zQo G B0 post) args s mc ms (zA B0)) (F0 m pc ls []) :=
  W.widen h1 h2 (W.vret hexec hb hr (fun t ht hW => ⟨⟨_, F', rfl, hp, hI.Q ht⟩, hI.2.1.F ht⟩) hI.2.1.2.2 hdg hlocks)
theorem z_rr {v : Nat} {rt : FieldType} (hrt : (∃ n, rt = .object n) ∨ ∃ t, rt = .array t) (hexec : p.tables.exec = Jvm.exec) (hb : c.code = cc) (hr : meth.sig.returnType = some rt) (hlocks : meth.locks = false) (hI : zI G B0 s H locs F') (hp : post (some (.ref v)) F') (h1 : cells ≤ mc) (h2 : slots ≤ ms) (hdg : decode cc pc = .ok (.areturn, 1)) : W p l e R s m args below meth c H locs cells slots (MQ below (zQo G B0 post) args s mc ms (zA B0)) (F0 m pc ls [.ref v]) :=
  W.widen h1 h2 (W.aret hexec hb hr hrt (Or.inr ⟨v, rfl⟩) (fun t ht hW => ⟨⟨_, F', rfl, hp, hI.Q ht⟩, hI.2.1.F ht⟩) hI.2.1.2.2 hdg hlocks)
theorem z_rd {v : UInt64} (hexec : p.tables.exec = Jvm.exec) (hb : c.code = cc) (hr : meth.sig.returnType = some .double) (hlocks : meth.locks = false) (hI : zI G B0 s H locs F') (hp : post (some (.double v)) F') (h1 : cells ≤ mc) (h2 : slots ≤ ms) (hdg : decode cc pc = .ok (.dreturn, 1)) : W p l e R s m args below meth c H locs cells slots (MQ below (zQo G B0 post) args s mc ms (zA B0)) (F0 m pc ls [.double v]) :=
  W.widen h1 h2 (W.dret hexec hb hr (fun t ht hW => ⟨⟨_, F', rfl, hp, hI.Q ht⟩, hI.2.1.F ht⟩) hI.2.1.2.2 hdg hlocks)
theorem z_rf {v : UInt32} (hexec : p.tables.exec = Jvm.exec) (hb : c.code = cc) (hr : meth.sig.returnType = some .float) (hlocks : meth.locks = false) (hI : zI G B0 s H locs F') (hp : post (some (.float v)) F') (h1 : cells ≤ mc) (h2 : slots ≤ ms) (hdg : decode cc pc = .ok (.freturn, 1)) : W p l e R s m args below meth c H locs cells slots (MQ below (zQo G B0 post) args s mc ms (zA B0)) (F0 m pc ls [.float v]) :=
  W.widen h1 h2 (W.fret hexec hb hr (fun t ht hW => ⟨⟨_, F', rfl, hp, hI.Q ht⟩, hI.2.1.F ht⟩) hI.2.1.2.2 hdg hlocks)
/-- what a callee threw goes on to the caller -/
theorem z_out {PX PX' : String → Prop} {Qc : Array Value → State → Outcome → State → Prop} (hout : ∀ x ∈ c.exceptionTable.toList, False) (hlocks : meth.locks = false) {F0' : zM} (hPX : ∀ E, PX E → PX' E) (h1 : cells ≤ mc) (h2 : slots ≤ ms) : ∀ (E : String) (ce : Cell) (q9 : Addr) (H1 : Heap) (locs1 : List Loc), PX E → zI G B0 s H1 locs1 F0' → H1[q9]? = some ce → ce.vm = .none → s.vm.findClass E = some ce.cls → vx_W p l e R s m args below meth c H1 locs1 cells slots (vx_MQ below Qc (zXC G B0 F0' PX') args s mc ms (zA B0)) (F0 m pc ls rest) q9 :=
  fun E ce q9 H1 locs1 hp hI hce hcv hcl => vx_out (fun x hx => (hout x hx).elim) hlocks hce hcv hcl (fun t ht _ => ⟨(), trivial, ⟨hPX E hp, hI.Q ht⟩, hI.2.1.F ht⟩) hI.2.1.2.2 h1 h2
theorem z_throw {Qc : Array Value → State → Outcome → State → Prop} {own cls text : String} {ik is ic : Nat} (hexec : p.tables.exec = Jvm.exec) (hb : c.code = cc) (hl : l.stackTraces = false) (hown : s.vm.findClass own = some m.cls) (hlocks : meth.locks = false) (hout : ∀ x ∈ c.exceptionTable.toList, False) (hts : ∀ w ∈ zW, w.before args s = true)
    (ha : ∀ w ∈ (vx_atS own ic cls zNames).filter goodWord, w ∈ zW) (hbb : ∀ w ∈ (vx_atS own ic cls zNames).filter (fun w => !goodWord w), w ∈ zBad cls)
    (hk : Cond.classLink own ik cls ∈ zW) (hini : Cond.initialized cls ∈ zW) (hstr : (own, is, text) ∈ zStr) (hcls : Bundle.fit cls = true) (hcs : cls ∈ zEx)
    (hI : zI G B0 s H locs F) (hsize : ls.size = c.maxLocals)
    (d0 : decode cc pc = .ok (.new ik, 3)) (d3 : decode cc (pc + 3) = .ok (.dup, 1)) (d4 : decode cc (pc + 4) = .ok (.ldc is, 2)) (d6 : decode cc (pc + 6) = .ok (.invokespecial ic, 3)) (d9 : decode cc (pc + 9) = .ok (.athrow, 1))
    (hR : 5 < R.frames ∧ (rest.map fun v => v.category).sum + 82 ≤ R.locals ∧ cells + 1 ≤ R.cells ∧ slots + 6 ≤ R.slots) (hp : PX cls) (h1 : cells + 1 ≤ mc) (h2 : slots + 6 ≤ ms) :
    W p l e R s m args below meth c H locs cells slots (vx_MQ below Qc (zXC G B0 F PX) args s mc ms (zA B0)) (F0 m pc ls rest) := by
  obtain ⟨sa, hsa⟩ := hI.1.2.2.1 _ hstr
  have hcast : (Cond.castable cls cls).before args s = true := zCs.use (hI.1.2.2.2.2.2.2.2.2 cls hcs)
  refine vx_throwS (names := zNames) hexec hb hl hown hcls (by decide +kernel) (hts _ hk) (hts _ hini) hsa (vx_hat (fun w hw => hts w (ha w hw)) hbb (vx_c hcast (vx_c (va_Nw.use rfl (hI.1.2.1 _ (List.mem_of_getElem? (i := 5) rfl))) (vx_c (va_Nw.use rfl (hI.1.2.1 _ (List.mem_of_getElem? (i := 6) rfl))) (vx_c (va_Nw.use rfl (hI.1.2.1 _ (List.mem_of_getElem? (i := 7) rfl))) vx_n))))) (fun w hw => ?_) hI.1.2.2.2.1 hI.1.2.2.2.2.1 hI.2.1 hsize d0 d3 d4 d6 d9 (fun x hx => (hout x hx).elim) hR.1 hR.2.1 hR.2.2.1 hR.2.2.2 hlocks (fun t hvm hz hk9 => ⟨(), trivial, ⟨hp, fun b e' hb' => (hI.2.2.1 b e' hb').kept (hk9 b (hI.lt hb')), hI.2.2.2.1⟩, Nat.le_trans hI.2.1.1 hz, fun q q1 q2 => (hk9 q (Nat.lt_of_lt_of_le q1 hI.2.1.1)).trans (hI.2.1.2.1 q q1 q2)⟩) hI.2.1.2.2 h1 h2
  have key : ∀ x : Cond, x ∈ zW → vx_ot x = true := fun x hx => by
    have h3 := (List.mem_filter.mp hx).2
    simp only [vx_ot, h3, Bool.or_true]
  rcases List.mem_cons.mp hw with rfl | hw
  · exact key _ hk
  · rcases List.mem_cons.mp hw with rfl | hw
    · exact key _ hini
    · by_cases g : goodWord w = true
      · simp only [vx_ot, g, Bool.or_true]
      · have h4 := hbb w (List.mem_filter.mpr ⟨hw, by simp [g]⟩)
        simp only [zBad, List.mem_cons, List.not_mem_nil, or_false] at h4
        rcases h4 with rfl | rfl | rfl | rfl <;> rfl
/-- the entry of a method -/
theorem z_of {y : MethodName} {maxL : Nat} {ret : Option FieldType} {rm : Room} {av : List Value} {own : String} (hy : plainName y.cls = true) (hown : y.cls = own) (hn : (lg_sl av).length ≤ maxL)
    (body : ∀ (p : Program) (e : Env) (s : State) (m : MethodId) (below : List Frame) (meth : Method) (c : Code) (ls : Array Slot), p.tables.exec = Jvm.exec → c.code = cc → meth.sig.returnType = ret → c.maxLocals = maxL → s.vm.findClass own = some m.cls → meth.locks = false → meth.name = y.name → (∀ w ∈ zW, w.before av.toArray s = true) → lv_has ls maxL (lv_args 0 av) → zI G B0 s s.heap [] F →
      W p l e rm s m av.toArray below meth c s.heap [] 0 0 (MQ below (zQo G B0 post) av.toArray s mc ms (zA B0)) (F0 m 0 ls [])) : Met l y (Cond.code y cc maxL ret :: zW) rm (va_Pc av (zPre G B0 F)) (zQo G B0 post) mc ms (zA B0) := by
  subst hown
  refine Met.ofW (cc := cc) (maxL := maxL) (ret := ret) hy rfl ?_
  intro p e s m args below meth c s₁ B hml hv
  obtain ⟨rfl, hI⟩ := hv
  have hts := atoms_spec (ws := Cond.code y cc maxL ret :: zW) B.pre
  have hl := lv_entry av (n := maxL) hn
  rw [lg_entry_eq]
  exact body p e s m below meth c _ B.exec B.bytes B.returns hml (findClass_of_methodNamed B.named) B.notSynchronized (name_of_methodNamed B.named B.method).1 (fun w hw => hts w (List.mem_cons_of_mem _ hw)) hl hI.I
theorem z_ofx {y : MethodName} {maxL : Nat} {ret : Option FieldType} {rm : Room} {av : List Value} {own : String} {XC : String → State → State → Prop} (hy : plainName y.cls = true) (hown : y.cls = own) (hn : (lg_sl av).length ≤ maxL)
    (body : ∀ (p : Program) (e : Env) (s : State) (m : MethodId) (below : List Frame) (meth : Method) (c : Code) (ls : Array Slot), p.tables.exec = Jvm.exec → c.code = cc → meth.sig.returnType = ret → c.maxLocals = maxL → s.vm.findClass own = some m.cls → meth.locks = false → (∀ x ∈ c.exceptionTable.toList, False) → (∀ w ∈ zW, w.before av.toArray s = true) → lv_has ls maxL (lv_args 0 av) → zI G B0 s s.heap [] F →
      W p l e rm s m av.toArray below meth c s.heap [] 0 0 (vx_MQ below (zQo G B0 post) XC av.toArray s mc ms (zA B0)) (F0 m 0 ls [])) : vx_Met l y (Cond.code y cc maxL ret :: zW) rm (va_Pc av (zPre G B0 F)) (zQo G B0 post) XC mc ms (zA B0) := by
  subst hown
  refine vx_ofW (cc := cc) (maxL := maxL) (ret := ret) hy rfl ?_
  intro p e s m args below meth c s₁ B hml hout hv
  obtain ⟨rfl, hI⟩ := hv
  have hts := atoms_spec (ws := Cond.code y cc maxL ret :: zW) B.pre
  have hl := lv_entry av (n := maxL) hn
  rw [lg_entry_eq]
  exact body p e s m below meth c _ B.exec B.bytes B.returns hml (findClass_of_methodNamed B.named) B.notSynchronized hout (fun w hw => hts w (List.mem_cons_of_mem _ hw)) hl hI.I
end ZE
end
section
section ZP
variable {p : Program} {l : Launch} {e : Env} {R : Room} {s : State} {m : MethodId} {args : Array Value} {below : List Frame} {meth : Method} {c : Code} {H : Heap} {locs : List Loc} {cells slots : Nat} {Q : State → Prop}
variable {cc : ByteArray} {pc : Nat} {ls : Array Slot} {rest st0 : List Value} {G : zK} {B0 : Nat} {F : zM}
/-- a loop by a measure; x: what changes in it -/
theorem z_loop {σ : Type} (lvf : σ → List (Nat × Value)) (I : σ → zM → Prop) (μ : σ → Nat) (x0 : σ) {nL : Nat} {st : List Value} (hI0 : I x0 F) (hl : lv_has ls nL (lvf x0)) (hI : zI G B0 s H locs F)
    (body : ∀ (x : σ) (F : zM) (ls : Array Slot) (H : Heap) (locs : List Loc), I x F → lv_has ls nL (lvf x) → zI G B0 s H locs F → (∀ (x' : σ) (F' : zM) (ls' : Array Slot) (H' : Heap) (locs' : List Loc), μ x' < μ x → I x' F' → lv_has ls' nL (lvf x') → zI G B0 s H' locs' F' → W p l e R s m args below meth c H' locs' cells slots Q (F0 m pc ls' st)) → W p l e R s m args below meth c H locs cells slots Q (F0 m pc ls st)) : W p l e R s m args below meth c H locs cells slots Q (F0 m pc ls st) := by
  have key : ∀ (d : Nat) (x : σ) (F : zM) (ls : Array Slot) (H : Heap) (locs : List Loc), μ x < d → I x F → lv_has ls nL (lvf x) → zI G B0 s H locs F → W p l e R s m args below meth c H locs cells slots Q (F0 m pc ls st) := by
    intro d
    induction d with
    | zero => intro x F ls H locs h; omega
    | succ d ih =>
      intro x F ls H locs h h1 h2 h3
      exact body x F ls H locs h1 h2 h3 (fun x' F' ls' H' locs' q1 q2 q3 q4 => ih x' F' ls' H' locs' (by omega) q2 q3 q4)
  exact key (μ x0 + 1) x0 F ls H locs (by omega) hI0 hl hI
/-- ways that meet again at pcJ -/
theorem z_join {σ : Type} (lvf : σ → List (Nat × Value)) (stf : σ → List Value) (I : σ → zM → Prop) (pcJ nL : Nat) {g : JFrame} (G : zK) (B0 : Nat)
    (kJ : ∀ (x : σ) (F : zM) (ls : Array Slot) (H : Heap) (locs : List Loc), I x F → lv_has ls nL (lvf x) → zI G B0 s H locs F → W p l e R s m args below meth c H locs cells slots Q (F0 m pcJ ls (stf x)))
    (body : (∀ (x : σ) (F : zM) (ls : Array Slot) (H : Heap) (locs : List Loc), I x F → lv_has ls nL (lvf x) → zI G B0 s H locs F → W p l e R s m args below meth c H locs cells slots Q (F0 m pcJ ls (stf x))) → W p l e R s m args below meth c H locs cells slots Q g) : W p l e R s m args below meth c H locs cells slots Q g := body kJ
section
theorem z_icmp_ge (hexec : p.tables.exec = Jvm.exec) (hb : c.code = cc) {a b : Nat} {off : Int} {tgt : Nat} (hdg : decode cc pc = .ok (.if_icmp .ge off, 3)) (ht : (pc : Int) + off = (tgt : Int)) (ha : a < 2 ^ 31 ∧ b < 2 ^ 31) (kt : b ≤ a → W p l e R s m args below meth c H locs cells slots Q (F0 m tgt ls rest)) (kf : a < b → W p l e R s m args below meth c H locs cells slots Q (F0 m (pc + 3) ls rest)) : W p l e R s m args below meth c H locs cells slots Q (F0 m pc ls (.int (nI b) :: .int (nI a) :: rest)) :=
  lv_icmp_ge hexec hb hdg ht (fun h => kt ((nI_leI ha.2 ha.1).mp h)) (fun h => kf (Nat.lt_of_not_le fun q => h ((nI_leI ha.2 ha.1).mpr q)))
theorem z_icmp_le (hexec : p.tables.exec = Jvm.exec) (hb : c.code = cc) {a b : Nat} {off : Int} {tgt : Nat} (hdg : decode cc pc = .ok (.if_icmp .le off, 3)) (ht : (pc : Int) + off = (tgt : Int)) (ha : a < 2 ^ 31 ∧ b < 2 ^ 31) (kt : a ≤ b → W p l e R s m args below meth c H locs cells slots Q (F0 m tgt ls rest)) (kf : b < a → W p l e R s m args below meth c H locs cells slots Q (F0 m (pc + 3) ls rest)) : W p l e R s m args below meth c H locs cells slots Q (F0 m pc ls (.int (nI b) :: .int (nI a) :: rest)) :=
  lv_icmp_le hexec hb hdg ht (fun h => kt ((nI_leI ha.1 ha.2).mp h)) (fun h => kf (Nat.lt_of_not_le fun q => h ((nI_leI ha.1 ha.2).mpr q)))
theorem z_icmp_lt (hexec : p.tables.exec = Jvm.exec) (hb : c.code = cc) {a b : Nat} {off : Int} {tgt : Nat} (hdg : decode cc pc = .ok (.if_icmp .lt off, 3)) (ht : (pc : Int) + off = (tgt : Int)) (ha : a < 2 ^ 31 ∧ b < 2 ^ 31) (kt : a < b → W p l e R s m args below meth c H locs cells slots Q (F0 m tgt ls rest)) (kf : b ≤ a → W p l e R s m args below meth c H locs cells slots Q (F0 m (pc + 3) ls rest)) : W p l e R s m args below meth c H locs cells slots Q (F0 m pc ls (.int (nI b) :: .int (nI a) :: rest)) :=
  lv_icmp_lt hexec hb hdg ht (fun h => kt ((nI_ltI ha.1 ha.2).mp h)) (fun h => kf (Nat.le_of_not_lt fun q => h ((nI_ltI ha.1 ha.2).mpr q)))
theorem z_icmp_gt (hexec : p.tables.exec = Jvm.exec) (hb : c.code = cc) {a b : Nat} {off : Int} {tgt : Nat} (hdg : decode cc pc = .ok (.if_icmp .gt off, 3)) (ht : (pc : Int) + off = (tgt : Int)) (ha : a < 2 ^ 31 ∧ b < 2 ^ 31) (kt : b < a → W p l e R s m args below meth c H locs cells slots Q (F0 m tgt ls rest)) (kf : a ≤ b → W p l e R s m args below meth c H locs cells slots Q (F0 m (pc + 3) ls rest)) : W p l e R s m args below meth c H locs cells slots Q (F0 m pc ls (.int (nI b) :: .int (nI a) :: rest)) :=
  lv_icmp_gt hexec hb hdg ht (fun h => kt ((nI_ltI ha.2 ha.1).mp h)) (fun h => kf (Nat.le_of_not_lt fun q => h ((nI_ltI ha.2 ha.1).mpr q)))
theorem z_icmp_eq (hexec : p.tables.exec = Jvm.exec) (hb : c.code = cc) {a b : Nat} {off : Int} {tgt : Nat} (hdg : decode cc pc = .ok (.if_icmp .eq off, 3)) (ht : (pc : Int) + off = (tgt : Int)) (ha : a < 2 ^ 31 ∧ b < 2 ^ 31) (kt : a = b → W p l e R s m args below meth c H locs cells slots Q (F0 m tgt ls rest)) (kf : a ≠ b → W p l e R s m args below meth c H locs cells slots Q (F0 m (pc + 3) ls rest)) : W p l e R s m args below meth c H locs cells slots Q (F0 m pc ls (.int (nI b) :: .int (nI a) :: rest)) :=
  lv_icmp_eq hexec hb hdg ht (fun h => kt ((nI_eq ha.1 ha.2).mp h)) (fun h => kf (fun q => h ((nI_eq ha.1 ha.2).mpr q)))
theorem z_icmp_ne (hexec : p.tables.exec = Jvm.exec) (hb : c.code = cc) {a b : Nat} {off : Int} {tgt : Nat} (hdg : decode cc pc = .ok (.if_icmp .ne off, 3)) (ht : (pc : Int) + off = (tgt : Int)) (ha : a < 2 ^ 31 ∧ b < 2 ^ 31) (kt : a ≠ b → W p l e R s m args below meth c H locs cells slots Q (F0 m tgt ls rest)) (kf : a = b → W p l e R s m args below meth c H locs cells slots Q (F0 m (pc + 3) ls rest)) : W p l e R s m args below meth c H locs cells slots Q (F0 m pc ls (.int (nI b) :: .int (nI a) :: rest)) :=
  lv_icmp_ne hexec hb hdg ht (fun h => kt (fun q => h ((nI_eq ha.1 ha.2).mpr q))) (fun h => kf ((nI_eq ha.1 ha.2).mp h))
theorem z_if_eq (hexec : p.tables.exec = Jvm.exec) (hb : c.code = cc) {a : Nat} {off : Int} {tgt : Nat} (hdg : decode cc pc = .ok (.ifCond .eq off, 3)) (ht : (pc : Int) + off = (tgt : Int)) (ha : a < 2 ^ 31) (kt : a = 0 → W p l e R s m args below meth c H locs cells slots Q (F0 m tgt ls rest)) (kf : 0 < a → W p l e R s m args below meth c H locs cells slots Q (F0 m (pc + 3) ls rest)) : W p l e R s m args below meth c H locs cells slots Q (F0 m pc ls (.int (nI a) :: rest)) :=
  lv_if_eq hexec hb hdg ht (fun h => kt ((nI_eq ha (by decide)).mp (h.trans nI_0.symm))) (fun h => kf (Nat.pos_of_ne_zero fun q => h (by rw [q]; exact nI_0)))
theorem z_if_ne (hexec : p.tables.exec = Jvm.exec) (hb : c.code = cc) {a : Nat} {off : Int} {tgt : Nat} (hdg : decode cc pc = .ok (.ifCond .ne off, 3)) (ht : (pc : Int) + off = (tgt : Int)) (ha : a < 2 ^ 31) (kt : 0 < a → W p l e R s m args below meth c H locs cells slots Q (F0 m tgt ls rest)) (kf : a = 0 → W p l e R s m args below meth c H locs cells slots Q (F0 m (pc + 3) ls rest)) : W p l e R s m args below meth c H locs cells slots Q (F0 m pc ls (.int (nI a) :: rest)) :=
  lv_if_ne hexec hb hdg ht (fun h => kt (Nat.pos_of_ne_zero fun q => h (by rw [q]; exact nI_0))) (fun h => kf ((nI_eq ha (by decide)).mp (h.trans nI_0.symm)))
theorem z_if_le (hexec : p.tables.exec = Jvm.exec) (hb : c.code = cc) {a : Nat} {off : Int} {tgt : Nat} (hdg : decode cc pc = .ok (.ifCond .le off, 3)) (ht : (pc : Int) + off = (tgt : Int)) (ha : a < 2 ^ 31) (kt : a = 0 → W p l e R s m args below meth c H locs cells slots Q (F0 m tgt ls rest)) (kf : 0 < a → W p l e R s m args below meth c H locs cells slots Q (F0 m (pc + 3) ls rest)) : W p l e R s m args below meth c H locs cells slots Q (F0 m pc ls (.int (nI a) :: rest)) :=
  lv_if_le hexec hb hdg ht (fun h => kt (by rw [← nI_0] at h; exact Nat.le_zero.mp ((nI_leI ha (by decide)).mp h))) (fun h => kf (Nat.pos_of_ne_zero fun q => h (by rw [q, nI_0]; decide)))
theorem z_if_gt (hexec : p.tables.exec = Jvm.exec) (hb : c.code = cc) {a : Nat} {off : Int} {tgt : Nat} (hdg : decode cc pc = .ok (.ifCond .gt off, 3)) (ht : (pc : Int) + off = (tgt : Int)) (ha : a < 2 ^ 31) (kt : 0 < a → W p l e R s m args below meth c H locs cells slots Q (F0 m tgt ls rest)) (kf : a = 0 → W p l e R s m args below meth c H locs cells slots Q (F0 m (pc + 3) ls rest)) : W p l e R s m args below meth c H locs cells slots Q (F0 m pc ls (.int (nI a) :: rest)) :=
  lv_if_gt hexec hb hdg ht (fun h => kt (by rw [← nI_0] at h; exact (nI_ltI (by decide) ha).mp h)) (fun h => kf (Nat.eq_zero_of_not_pos fun q => h (by rw [← nI_0]; exact (nI_ltI (by decide) ha).mpr q)))
theorem z_if_ge (hexec : p.tables.exec = Jvm.exec) (hb : c.code = cc) {a : Nat} {off : Int} {tgt : Nat} (hdg : decode cc pc = .ok (.ifCond .ge off, 3)) (ht : (pc : Int) + off = (tgt : Int)) (ha : a < 2 ^ 31) (kt : W p l e R s m args below meth c H locs cells slots Q (F0 m tgt ls rest)) : W p l e R s m args below meth c H locs cells slots Q (F0 m pc ls (.int (nI a) :: rest)) :=
  lv_if_ge hexec hb hdg ht (fun _ => kt) (fun h => absurd (nI_pos' ha) h)
theorem z_if_lt (hexec : p.tables.exec = Jvm.exec) (hb : c.code = cc) {a : Nat} {off : Int} {tgt : Nat} (hdg : decode cc pc = .ok (.ifCond .lt off, 3)) (ht : (pc : Int) + off = (tgt : Int)) (ha : a < 2 ^ 31) (kf : W p l e R s m args below meth c H locs cells slots Q (F0 m (pc + 3) ls rest)) : W p l e R s m args below meth c H locs cells slots Q (F0 m pc ls (.int (nI a) :: rest)) :=
  lv_if_lt hexec hb hdg ht (fun h => absurd h (nI_pos ha)) (fun _ => kf)
end
end ZP
end
