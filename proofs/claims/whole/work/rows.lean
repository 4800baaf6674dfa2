section
-- ===== PART A: goes FIRST, ahead of the names: the tables' words, and 'selects' of the private methods out of them =====
/-- a private method of a class that the tables say can be made, by its rows of tables_1 -/
def lw_okq (q : MethodName × Nat) : Prop := (q.1.cls ≠ "java/lang/invoke/MethodHandle" ∧ q.1.cls ≠ "java/lang/invoke/VarHandle") ∧ Cond.instantiable q.1.cls q.2 ∈ tables_1 ∧ Cond.privateMethod q.1 ∈ tables_1 ∧ Cond.instanceMethod q.1 ∈ tables_1
theorem lw_p0 : lw_okq (⟨"WordConcordance", "textAt", "(I)LWordConcordance$Row;"⟩, 7) := ⟨⟨by decide +kernel, by decide +kernel⟩, List.mem_of_getElem? (i := 16) (by decide +kernel), List.mem_of_getElem? (i := 72) (by decide +kernel), List.mem_of_getElem? (i := 73) (by decide +kernel)⟩
theorem lw_p1 : lw_okq (⟨"java/lang/Throwable", "fillInStackTrace", "(I)Ljava/lang/Throwable;"⟩, 6) := ⟨⟨by decide +kernel, by decide +kernel⟩, List.mem_of_getElem? (i := 116) (by decide +kernel), List.mem_of_getElem? (i := 114) (by decide +kernel), List.mem_of_getElem? (i := 115) (by decide +kernel)⟩
theorem lw_p2 : lw_okq (⟨"WordConcordance", "phraseAt", "(I)LWordConcordance$Row;"⟩, 7) := ⟨⟨by decide +kernel, by decide +kernel⟩, List.mem_of_getElem? (i := 16) (by decide +kernel), List.mem_of_getElem? (i := 294) (by decide +kernel), List.mem_of_getElem? (i := 295) (by decide +kernel)⟩
theorem lw_p3 : lw_okq (⟨"WordConcordance", "draftReplaced", "(LWordConcordance$Row;)V"⟩, 7) := ⟨⟨by decide +kernel, by decide +kernel⟩, List.mem_of_getElem? (i := 16) (by decide +kernel), List.mem_of_getElem? (i := 377) (by decide +kernel), List.mem_of_getElem? (i := 378) (by decide +kernel)⟩
theorem lw_p4 : lw_okq (⟨"WordConcordance", "keyOf", "(II)I"⟩, 7) := ⟨⟨by decide +kernel, by decide +kernel⟩, List.mem_of_getElem? (i := 16) (by decide +kernel), List.mem_of_getElem? (i := 478) (by decide +kernel), List.mem_of_getElem? (i := 479) (by decide +kernel)⟩
theorem lw_p5 : lw_okq (⟨"WordConcordance", "putInOrder", "(LWordConcordance$Row;IZ)V"⟩, 7) := ⟨⟨by decide +kernel, by decide +kernel⟩, List.mem_of_getElem? (i := 16) (by decide +kernel), List.mem_of_getElem? (i := 502) (by decide +kernel), List.mem_of_getElem? (i := 503) (by decide +kernel)⟩
theorem lw_p6 : lw_okq (⟨"WordConcordance", "mustPass", "(IIIZ)Z"⟩, 7) := ⟨⟨by decide +kernel, by decide +kernel⟩, List.mem_of_getElem? (i := 16) (by decide +kernel), List.mem_of_getElem? (i := 506) (by decide +kernel), List.mem_of_getElem? (i := 507) (by decide +kernel)⟩
theorem lw_p7 : lw_okq (⟨"WordConcordance", "isInOrder", "(LWordConcordance$Row;I)Z"⟩, 7) := ⟨⟨by decide +kernel, by decide +kernel⟩, List.mem_of_getElem? (i := 16) (by decide +kernel), List.mem_of_getElem? (i := 521) (by decide +kernel), List.mem_of_getElem? (i := 522) (by decide +kernel)⟩
theorem lw_p8 : lw_okq (⟨"WordConcordance", "moveRound", "(LWordConcordance$Row;III)I"⟩, 7) := ⟨⟨by decide +kernel, by decide +kernel⟩, List.mem_of_getElem? (i := 16) (by decide +kernel), List.mem_of_getElem? (i := 555) (by decide +kernel), List.mem_of_getElem? (i := 556) (by decide +kernel)⟩
theorem lw_p9 : lw_okq (⟨"WordConcordance", "clearRuns", "()V"⟩, 7) := ⟨⟨by decide +kernel, by decide +kernel⟩, List.mem_of_getElem? (i := 16) (by decide +kernel), List.mem_of_getElem? (i := 610) (by decide +kernel), List.mem_of_getElem? (i := 611) (by decide +kernel)⟩
theorem lw_p10 : lw_okq (⟨"WordConcordance", "longestRunFrom", "(LWordConcordance$Row;ILWordConcordance$Row;)I"⟩, 7) := ⟨⟨by decide +kernel, by decide +kernel⟩, List.mem_of_getElem? (i := 16) (by decide +kernel), List.mem_of_getElem? (i := 614) (by decide +kernel), List.mem_of_getElem? (i := 615) (by decide +kernel)⟩
theorem lw_p11 : lw_okq (⟨"WordConcordance", "turnsBack", "(LWordConcordance$Row;)Z"⟩, 7) := ⟨⟨by decide +kernel, by decide +kernel⟩, List.mem_of_getElem? (i := 16) (by decide +kernel), List.mem_of_getElem? (i := 693) (by decide +kernel), List.mem_of_getElem? (i := 694) (by decide +kernel)⟩
theorem lw_p12 : lw_okq (⟨"WordConcordance", "movesBack", "(LWordConcordance$Row;)Z"⟩, 7) := ⟨⟨by decide +kernel, by decide +kernel⟩, List.mem_of_getElem? (i := 16) (by decide +kernel), List.mem_of_getElem? (i := 697) (by decide +kernel), List.mem_of_getElem? (i := 698) (by decide +kernel)⟩
theorem lw_p13 : lw_okq (⟨"WordConcordance", "sortsItsWords", "(LWordConcordance$Row;)Z"⟩, 7) := ⟨⟨by decide +kernel, by decide +kernel⟩, List.mem_of_getElem? (i := 16) (by decide +kernel), List.mem_of_getElem? (i := 701) (by decide +kernel), List.mem_of_getElem? (i := 702) (by decide +kernel)⟩
theorem lw_p14 : lw_okq (⟨"WordConcordance", "findsWhatItCounts", "(LWordConcordance$Row;)Z"⟩, 7) := ⟨⟨by decide +kernel, by decide +kernel⟩, List.mem_of_getElem? (i := 16) (by decide +kernel), List.mem_of_getElem? (i := 705) (by decide +kernel), List.mem_of_getElem? (i := 706) (by decide +kernel)⟩
theorem lw_p15 : lw_okq (⟨"WordConcordance", "findsInMirror", "(LWordConcordance$Row;)Z"⟩, 7) := ⟨⟨by decide +kernel, by decide +kernel⟩, List.mem_of_getElem? (i := 16) (by decide +kernel), List.mem_of_getElem? (i := 709) (by decide +kernel), List.mem_of_getElem? (i := 710) (by decide +kernel)⟩
def lw_privs_1 : List (MethodName × Nat) := [(⟨"WordConcordance", "textAt", "(I)LWordConcordance$Row;"⟩, 7), (⟨"java/lang/Throwable", "fillInStackTrace", "(I)Ljava/lang/Throwable;"⟩, 6), (⟨"WordConcordance", "phraseAt", "(I)LWordConcordance$Row;"⟩, 7), (⟨"WordConcordance", "draftReplaced", "(LWordConcordance$Row;)V"⟩, 7), (⟨"WordConcordance", "keyOf", "(II)I"⟩, 7), (⟨"WordConcordance", "putInOrder", "(LWordConcordance$Row;IZ)V"⟩, 7), (⟨"WordConcordance", "mustPass", "(IIIZ)Z"⟩, 7), (⟨"WordConcordance", "isInOrder", "(LWordConcordance$Row;I)Z"⟩, 7), (⟨"WordConcordance", "moveRound", "(LWordConcordance$Row;III)I"⟩, 7), (⟨"WordConcordance", "clearRuns", "()V"⟩, 7), (⟨"WordConcordance", "longestRunFrom", "(LWordConcordance$Row;ILWordConcordance$Row;)I"⟩, 7), (⟨"WordConcordance", "turnsBack", "(LWordConcordance$Row;)Z"⟩, 7), (⟨"WordConcordance", "movesBack", "(LWordConcordance$Row;)Z"⟩, 7), (⟨"WordConcordance", "sortsItsWords", "(LWordConcordance$Row;)Z"⟩, 7), (⟨"WordConcordance", "findsWhatItCounts", "(LWordConcordance$Row;)Z"⟩, 7), (⟨"WordConcordance", "findsInMirror", "(LWordConcordance$Row;)Z"⟩, 7)]
theorem lw_r1 : ∀ q ∈ lw_privs_1, lw_okq q := List.forall_mem_cons.mpr ⟨lw_p0, List.forall_mem_cons.mpr ⟨lw_p1, List.forall_mem_cons.mpr ⟨lw_p2, List.forall_mem_cons.mpr ⟨lw_p3, List.forall_mem_cons.mpr ⟨lw_p4, List.forall_mem_cons.mpr ⟨lw_p5, List.forall_mem_cons.mpr ⟨lw_p6, List.forall_mem_cons.mpr ⟨lw_p7, List.forall_mem_cons.mpr ⟨lw_p8, List.forall_mem_cons.mpr ⟨lw_p9, List.forall_mem_cons.mpr ⟨lw_p10, List.forall_mem_cons.mpr ⟨lw_p11, List.forall_mem_cons.mpr ⟨lw_p12, List.forall_mem_cons.mpr ⟨lw_p13, List.forall_mem_cons.mpr ⟨lw_p14, List.forall_mem_cons.mpr ⟨lw_p15, fun _ h => absurd h List.not_mem_nil⟩⟩⟩⟩⟩⟩⟩⟩⟩⟩⟩⟩⟩⟩⟩⟩
theorem lw_p16 : lw_okq (⟨"WordConcordanceModel", "hasRoom", "(IJ)Z"⟩, 5) := ⟨⟨by decide +kernel, by decide +kernel⟩, List.mem_of_getElem? (i := 731) (by decide +kernel), List.mem_of_getElem? (i := 784) (by decide +kernel), List.mem_of_getElem? (i := 785) (by decide +kernel)⟩
theorem lw_p17 : lw_okq (⟨"WordConcordanceModel", "passes", "(ZZZ)Z"⟩, 5) := ⟨⟨by decide +kernel, by decide +kernel⟩, List.mem_of_getElem? (i := 731) (by decide +kernel), List.mem_of_getElem? (i := 789) (by decide +kernel), List.mem_of_getElem? (i := 790) (by decide +kernel)⟩
theorem lw_p18 : lw_okq (⟨"WordConcordanceModel", "isPart", "(III)Z"⟩, 5) := ⟨⟨by decide +kernel, by decide +kernel⟩, List.mem_of_getElem? (i := 731) (by decide +kernel), List.mem_of_getElem? (i := 814) (by decide +kernel), List.mem_of_getElem? (i := 815) (by decide +kernel)⟩
theorem lw_p19 : lw_okq (⟨"WordConcordanceModel", "isPlace", "(II)Z"⟩, 5) := ⟨⟨by decide +kernel, by decide +kernel⟩, List.mem_of_getElem? (i := 731) (by decide +kernel), List.mem_of_getElem? (i := 826) (by decide +kernel), List.mem_of_getElem? (i := 827) (by decide +kernel)⟩
theorem lw_p20 : lw_okq (⟨"WordConcordanceModel", "outermost", "(IIZ)I"⟩, 5) := ⟨⟨by decide +kernel, by decide +kernel⟩, List.mem_of_getElem? (i := 731) (by decide +kernel), List.mem_of_getElem? (i := 963) (by decide +kernel), List.mem_of_getElem? (i := 964) (by decide +kernel)⟩
theorem lw_p21 : lw_okq (⟨"WordConcordanceModel", "valueOf", "(II)I"⟩, 5) := ⟨⟨by decide +kernel, by decide +kernel⟩, List.mem_of_getElem? (i := 731) (by decide +kernel), List.mem_of_getElem? (i := 967) (by decide +kernel), List.mem_of_getElem? (i := 968) (by decide +kernel)⟩
theorem lw_p22 : lw_okq (⟨"WordConcordanceModel", "areInOrder", "(LWordConcordanceModel$Row;I)Z"⟩, 5) := ⟨⟨by decide +kernel, by decide +kernel⟩, List.mem_of_getElem? (i := 731) (by decide +kernel), List.mem_of_getElem? (i := 993) (by decide +kernel), List.mem_of_getElem? (i := 994) (by decide +kernel)⟩
def lw_privs_2 : List (MethodName × Nat) := [(⟨"WordConcordanceModel", "hasRoom", "(IJ)Z"⟩, 5), (⟨"WordConcordanceModel", "passes", "(ZZZ)Z"⟩, 5), (⟨"WordConcordanceModel", "isPart", "(III)Z"⟩, 5), (⟨"WordConcordanceModel", "isPlace", "(II)Z"⟩, 5), (⟨"WordConcordanceModel", "outermost", "(IIZ)I"⟩, 5), (⟨"WordConcordanceModel", "valueOf", "(II)I"⟩, 5), (⟨"WordConcordanceModel", "areInOrder", "(LWordConcordanceModel$Row;I)Z"⟩, 5)]
theorem lw_r2 : ∀ q ∈ lw_privs_2, lw_okq q := List.forall_mem_cons.mpr ⟨lw_p16, List.forall_mem_cons.mpr ⟨lw_p17, List.forall_mem_cons.mpr ⟨lw_p18, List.forall_mem_cons.mpr ⟨lw_p19, List.forall_mem_cons.mpr ⟨lw_p20, List.forall_mem_cons.mpr ⟨lw_p21, List.forall_mem_cons.mpr ⟨lw_p22, fun _ h => absurd h List.not_mem_nil⟩⟩⟩⟩⟩⟩⟩
def lw_privs : List (MethodName × Nat) := lw_privs_1 ++ (lw_privs_2)
def lw_tbl : List Cond := k2_sels lw_privs ++ tables_1
theorem lw_privs_ok : ∀ q ∈ lw_privs, lw_okq q := by
  show ∀ q ∈ lw_privs_1 ++ (lw_privs_2), lw_okq q
  exact List.forall_mem_append.mpr ⟨lw_r1, lw_r2⟩
/-- the streams that the claim lets the run draw from -/
abbrev lw_cs : List Choice := [Jvm.Choice.named "NaN.bits"]
theorem lw_bits : nanBits ∈ lw_cs := by first | decide | exact List.mem_cons_self | simp [lw_cs, nanBits]
-- ===== end of PART A; then your names; then what follows =====
end
section
/-! ===== BEGIN words of one list among another's, by their places ===== -/
theorem goodIn_r {big : List Cond} (ws : List Cond) (ps : List Nat) (hp : ws = ps.filterMap (fun i => big[i]?)) (h : ws.all goodWord = true) : GoodIn big ws := by
  intro w hw
  have h1 := List.all_eq_true.mp h w hw
  rw [hp] at hw
  obtain ⟨i, -, hi⟩ := List.mem_filterMap.mp hw
  have hm : w ∈ big := by first | exact List.mem_of_getElem? hi | exact List.getElem?_mem hi
  exact ⟨hm, good_of_word h1⟩
theorem goodIn_app {big a b : List Cond} (ha : GoodIn big a) (hb : GoodIn big b) : GoodIn big (a ++ b) := fun w h => (List.mem_append.mp h).elim (ha w) (hb w)
theorem goodIn_ca {big a b : List Cond} {c : Cond} (ha : GoodIn big (c :: a)) (hb : GoodIn big b) : GoodIn big (c :: (a ++ b)) := fun w h => (List.mem_cons.mp h).elim (fun e => ha w (List.mem_cons.mpr (Or.inl e))) (fun h => (List.mem_append.mp h).elim (fun h => ha w (List.mem_cons.mpr (Or.inr h))) (hb w))
theorem goodIn_sub {big ws : List Cond} (hm : ∀ w ∈ ws, w ∈ big) (h : ws.all goodWord = true) : GoodIn big ws := fun w hw => ⟨hm w hw, good_of_word (List.all_eq_true.mp h w hw)⟩
/-! ===== END ===== -/

/-! ===== BEGIN exceptions that leave a method, and their catching by the caller (launches without stack traces) ===== -/
section VXA
/-! The laws vx_back, vx_callV, vx_callS, vx_callSW, vx_throw0, vx_throwS follow proofs of the library, with one case more: JvmDerived/Free/Laws.lean (Back.of_free), Shelf42/LK1.lean (callV, callS), Shelf/KitTraced.lean (throwNew0V, throwNewS). -/
/-- where a method has thrown q: the class by its name, the cell, what was written, the world -/
def vx_T (XC : String → State → State → Prop) (st : State) (q : Addr) (t : State) (mc ms : Nat) (free : Addr → Prop) : Prop :=
  ∃ (E : String) (ce : Cell) (L : List Loc), XC E st t ∧ t.heap[q]? = some ce ∧ ce.vm = .none ∧ st.vm.findClass E = some ce.cls ∧ st.WarmedH t.vm ∧ st.sameButNew ({ t with vm := st.vm } : State) L mc ms ∧ ∀ z ∈ L, free z.base
def vx_Q (Qc : Array Value → State → Outcome → State → Prop) (XC : String → State → State → Prop) (mc ms : Nat) (free : Addr → Prop) : Array Value → State → Outcome → State → Prop := fun a st o t =>
  (Qc a st o t ∧ ∃ L, FrameEnd st o t L mc ms ∧ ∀ q ∈ L, free q.base) ∨ ∃ q, o = .threw q ∧ vx_T XC st q t mc ms free
/-- a callee that returns or throws -/
def vx_Met (l : Launch) (y : MethodName) (ws : List Cond) (rm : Room) (Pc : Array Value → State → Prop) (Qc : Array Value → State → Outcome → State → Prop) (XC : String → State → State → Prop) (mc ms : Nat) (free : Addr → Prop) : Prop :=
  MetFree l y (headSpec ws rm) Pc (fun _ _ _ _ _ => True) (vx_Q Qc XC mc ms free)
def vx_Post (XC : String → State → State → Prop) (mc ms : Nat) (free : Addr → Prop) : Pt → Array Value → Addr → Pt → Prop := fun A a q B =>
  ∃ (g : JFrame) (mk : MethodId) (t : State) (L : List Loc) (E : String) (ce : Cell), B.U.heap = t.heap ∧ B.U.vm = t.vm ∧ XC E (A.U.calling g mk a) t ∧ t.heap[q]? = some ce ∧ ce.vm = .none ∧ A.U.vm.findClass E = some ce.cls ∧ B.locs = A.locs ++ L ∧ (∀ z ∈ L, free z.base) ∧ B.cells = A.cells + mc ∧ B.slots = A.slots + ms
def vx_Back (l : Launch) (R : Room) (p : Program) (e : Env) (below : List Frame) (s : State) (sargs : Array Value) (y : MethodName) (len W9 : Nat)
    (Pre : Pt → Array Value → Prop) (Post : Pt → Array Value → Option Value → Pt → Prop) (PostX : Pt → Array Value → Addr → Pt → Prop) : Prop :=
  ∀ (m : MethodId) (meth : Method) (c : Code) (A : Pt) (g : JFrame) (ig : Instr) (mk : MethodId) (a : Array Value),
    Stand p l e R s m sargs below meth c A.U A.locs A.cells A.slots → g.method = m → g.locals.size = c.maxLocals → decode c.code g.pc = .ok (ig, len) →
    2 * g.monitorRoom + (g.stack.map fun v => v.category).sum ≤ W9 → A.U.methodNamed? y = some mk → Pre A a →
    (∃ (v : Option Value) (B : Pt), Stand p l e R s m sargs below meth c B.U B.locs B.cells B.slots ∧ Post A a v B ∧
      Steps p.tables e below (doInvoke e (A.U.setTop g) [] mk a).1 (B.U.setTop { g with pc := g.pc + len, stack := v.toList ++ g.stack })) ∨
    (∃ (q : Addr) (B : Pt), Stand p l e R s m sargs below meth c B.U B.locs B.cells B.slots ∧ PostX A a q B ∧
      Steps p.tables e below (doInvoke e (A.U.setTop g) [] mk a).1 ((B.U.setTop g).pushFrame (.throwing q)))
section Payer
variable {l : Launch} {R : Room} {p : Program} {e : Env} {below : List Frame} {s : State} {sargs : Array Value} {y : MethodName} {len W9 : Nat}
theorem vx_back {ws : List Cond} {rm : Room} {Pc : Array Value → State → Prop} {Qc : Array Value → State → Outcome → State → Prop} {XC : String → State → State → Prop} {mc ms : Nat} {free : Addr → Prop} {bytes : ByteArray} {maxL : Nat} {ret : Option FieldType}
    (hM : vx_Met l y ws rm Pc Qc XC mc ms free) (hblind : FrameBlind Pc) (hrc : rm.cells = mc) (hrs : rm.slots = ms)
    (hframes : rm.frames + 1 ≤ R.frames) (hlocals : W9 + (maxL + 11) + rm.locals ≤ R.locals)
    (hws : ∀ w ∈ ws, ∀ a' U, s.WarmedH U.vm → w.before a' U = true) (hcode : Cond.code y bytes maxL ret ∈ ws) (hinit : ∀ a' U, s.WarmedH U.vm → (Cond.initialized y.cls).before a' U = true) :
    vx_Back l R p e below s sargs y len W9 (PreOf R mc ms Pc) (PostOf Qc mc ms free) (vx_Post XC mc ms free) := by
  intro m meth c A g ig mk a X hg hsize hdg hW hn hp
  have h1 : (headSpec ws rm).pre.before a A.U = true := atoms_intro fun w hw => hws w hw _ _ X.warmed
  have h2 : (Cond.code y bytes maxL ret).before a A.U = true := hws _ hcode _ _ X.warmed
  have h3 : (Cond.initialized y.cls).before a A.U = true := hinit _ _ X.warmed
  have h4 : A.cells + (headSpec ws rm).room.cells ≤ R.cells := by rw [show (headSpec ws rm).room.cells = mc from hrc]; exact hp.1
  have h5 : A.slots + (headSpec ws rm).room.slots ≤ R.slots := by rw [show (headSpec ws rm).room.slots = ms from hrs]; exact hp.2.1
  have hPc : Pc a (A.U.calling g mk a) := hblind _ _ _ _ hp.2.2
  obtain ⟨U, Ls, c0, s0⟩ := A
  dsimp only [Pt.U, Pt.locs, Pt.cells, Pt.slots] at h1 h2 h3 h4 h5 X hn hPc ⊢
  obtain ⟨methY, cY, hmY, hcY, -, hlY, -, -, -, -⟩ := Cond.code_spec hn h2
  obtain ⟨kY, hkY, -⟩ := className_of_methodNamed hn
  have hinitY : kY.init = .initialized := Cond.initialized_spec (findClass_of_methodNamed hn) hkY h3
  have h : At U g.method c below := by rw [hg]; exact X.here
  have hlocals9 : W9 + (maxL + 11) + (headSpec ws rm).room.locals ≤ R.locals := hlocals
  have happ : (headSpec ws rm).appliesLoose y e.platform (U.calling g mk a) = true :=
    Spec.appliesLoose_calling (g := g) h hdg hn hkY hinitY
      (X.room_calling (g := g) (R' := (headSpec ws rm).room) hsize hmY hcY hframes (by rw [hlY]; omega) h4 h5) h1
  obtain ⟨mid, hmid⟩ := h.above
  have hfr : (U.setTop g).frames = (.java g :: mid) ++ below := by rw [State.frames_setTop' g h.top, hmid]; rfl
  obtain ⟨o, s₂, hsteps, -, hend, hq⟩ := Steps.callFree hM p X.admits X.cas X.clock (acts := []) hfr happ hPc trivial
  have hq' : vx_Q Qc XC mc ms free a (U.calling g mk a) o s₂ := hq
  rw [State.frames_setTop' g h.top] at hend
  obtain ⟨g₀, hg0⟩ := Option.isSome_iff_exists.mp h.top
  obtain ⟨r, hr⟩ := State.topJava?_eq_some.mp hg0
  have hr' : (({ U with heap := s₂.heap, slotsUsed := s₂.slotsUsed } : State).setVm s₂.vm).frames = .java g₀ :: r := hr
  rcases hq' with ⟨hqc, L, hfe, hL⟩ | ⟨q, rfl, E, ce, L, hx, hce, hcv, hcl, hW₂, hsm, hL⟩
  · obtain ⟨⟨v, rfl⟩, hW₂, e2, q2, q3, q4, q5, q6⟩ := id hfe
    have e3 : s₂ = ({ (U.calling g mk a).setFrames s₂.frames with heap := s₂.heap, slotsUsed := s₂.slotsUsed } : State).setVm s₂.vm := by
      have : s₂ = ({ s₂ with vm := (U.calling g mk a).vm } : State).setVm s₂.vm := rfl
      rw [e2] at this
      exact this
    obtain ⟨c₂, i₂, len₂, hc₂, hd₂, hf₂⟩ := hend
    have hW' : U.WarmedH s₂.vm := hW₂
    have hcc : c₂ = c := by
      have h1 : s₂.code? g.method = U.code? g.method := by
        rw [State.code?_eq, State.code?_eq, hW'.alike.method?]
      exact Option.some.inj (hc₂.symm.trans (h1.trans h.code))
    subst hcc
    have hlen : len₂ = len := by rw [hdg] at hd₂; cases hd₂; rfl
    subst hlen
    have hs₂ : s₂ = (({ U with heap := s₂.heap, slotsUsed := s₂.slotsUsed } : State).setVm s₂.vm).setTop { g with pc := g.pc + len₂, stack := v.toList ++ g.stack } := by
      refine e3.trans ?_
      rw [hf₂, State.calling_eq h.top, State.setFrames_setFrames, State.setTop_of_frames _ hr', hr]
      rfl
    have hsame : U.sameButNew ({ U with heap := s₂.heap, slotsUsed := s₂.slotsUsed } : State) L mc ms := by
      refine ⟨?_, q2, q3, q4, q5, q6⟩
      obtain ⟨t, ht, -⟩ := State.frames_cons hr
      show ({ U with heap := s₂.heap, slotsUsed := s₂.slotsUsed } : State) = { U.setFrames U.frames with heap := s₂.heap, slotsUsed := s₂.slotsUsed }
      rw [State.setFrames_self ht]
    subst hg
    refine Or.inl ⟨v, ⟨(({ U with heap := s₂.heap, slotsUsed := s₂.slotsUsed } : State).setVm s₂.vm), Ls ++ L, c0 + mc, s0 + ms⟩,
      ⟨X.admits, X.cas, X.clock, X.frames, X.room, X.hears, X.method, X.code, (X.here.setHeapUsed s₂.heap s₂.slotsUsed).setVm hW'.alike, X.tail, State.WarmedH.trans X.warmed hW', X.limits, X.bytes, X.same.trans (hsame.setVm s.vm)⟩,
      ⟨g, mk, s₂, L, rfl, rfl, hqc, rfl, hL, rfl, rfl⟩, ?_⟩
    show Steps p.tables e below _ ((({ U with heap := s₂.heap, slotsUsed := s₂.slotsUsed } : State).setVm s₂.vm).setTop { g with pc := g.pc + len₂, stack := v.toList ++ g.stack })
    rw [← hs₂]
    exact hsteps
  · obtain ⟨e2, q2, q3, q4, q5, q6⟩ := id hsm
    have e3 : s₂ = ({ (U.calling g mk a).setFrames s₂.frames with heap := s₂.heap, slotsUsed := s₂.slotsUsed } : State).setVm s₂.vm := by
      have : s₂ = ({ s₂ with vm := (U.calling g mk a).vm } : State).setVm s₂.vm := rfl
      rw [e2] at this
      exact this
    have hf₂ : s₂.frames = .throwing q :: .java g :: U.frames.tail := hend
    have hW' : U.WarmedH s₂.vm := hW₂
    have hs₂ : s₂ = ((({ U with heap := s₂.heap, slotsUsed := s₂.slotsUsed } : State).setVm s₂.vm).setTop g).pushFrame (.throwing q) := by
      refine e3.trans ?_
      rw [hf₂, State.calling_eq h.top, State.setFrames_setFrames, State.pushFrame, State.frames_setTop _ hr', State.setTop_of_frames _ hr', State.setFrames_setFrames, hr]
      rfl
    have hsame : U.sameButNew ({ U with heap := s₂.heap, slotsUsed := s₂.slotsUsed } : State) L mc ms := by
      refine ⟨?_, q2, q3, q4, q5, q6⟩
      obtain ⟨t, ht, -⟩ := State.frames_cons hr
      show ({ U with heap := s₂.heap, slotsUsed := s₂.slotsUsed } : State) = { U.setFrames U.frames with heap := s₂.heap, slotsUsed := s₂.slotsUsed }
      rw [State.setFrames_self ht]
    subst hg
    refine Or.inr ⟨q, ⟨(({ U with heap := s₂.heap, slotsUsed := s₂.slotsUsed } : State).setVm s₂.vm), Ls ++ L, c0 + mc, s0 + ms⟩,
      ⟨X.admits, X.cas, X.clock, X.frames, X.room, X.hears, X.method, X.code, (X.here.setHeapUsed s₂.heap s₂.slotsUsed).setVm hW'.alike, X.tail, State.WarmedH.trans X.warmed hW', X.limits, X.bytes, X.same.trans (hsame.setVm s.vm)⟩,
      ⟨g, mk, s₂, L, E, ce, rfl, rfl, hx, hce, hcv, hcl, rfl, hL, rfl, rfl⟩, ?_⟩
    show Steps p.tables e below _ (((({ U with heap := s₂.heap, slotsUsed := s₂.slotsUsed } : State).setVm s₂.vm).setTop g).pushFrame (.throwing q))
    rw [← hs₂]
    exact hsteps
end Payer
section Calls
variable {p : Program} {l : Launch} {e : Env} {R : Room} {s : State} {m : MethodId} {args : Array Value} {below : List Frame} {meth : Method} {c : Code} {T : State} {locs : List Loc} {cells slots : Nat}
theorem vx_callV (X : Stand p l e R s m args below meth c T locs cells slots) (hexec : p.tables.exec = Jvm.exec) {own C : String} {index : Nat} {y : MethodName} {bytes : ByteArray} {maxL : Nat} {ret : Option FieldType}
    (hown : s.vm.findClass own = some m.cls) (hlink : (Cond.methodLink own index y).before args s = true) (hinst : (Cond.instanceMethod y).before args s = true) (hsel : (Cond.selects C y y).before args s = true)
    (hcode : (Cond.code y bytes maxL ret).before args s = true) (hy : y.cls ≠ "java/lang/invoke/MethodHandle" ∧ y.cls ≠ "java/lang/invoke/VarHandle")
    {W9 : Nat} {Pre : Pt → Array Value → Prop} {Post : Pt → Array Value → Option Value → Pt → Prop} {PostX : Pt → Array Value → Addr → Pt → Prop} (hK : vx_Back l R p e below s args y 3 W9 Pre Post PostX)
    {b : Addr} {cellB : Cell} (hcell : T.heap[b]? = some cellB) (hobj : cellB.vm.isStatics = false) (hcls : s.vm.findClass C = some cellB.cls)
    {g : JFrame} (hg : g.method = m) (hsize : g.locals.size = c.maxLocals) {argsL rest : List Value} (hlen : ∀ sig, parseMethodDescriptor y.desc = some sig → argsL.length = sig.parameters.length)
    (hstack : g.stack = argsL.reverse ++ .ref b :: rest) (hW : 2 * g.monitorRoom + (rest.map fun v => v.category).sum ≤ W9) (hdg : decode c.code g.pc = .ok (.invokevirtual index, 3))
    (hpre : ∀ vm₁, s.WarmedH vm₁ → Pre ⟨T.setVm vm₁, locs, cells, slots⟩ (Value.ref b :: argsL).toArray) :
    (∃ (v : Option Value) (vm₁ : Vm) (B : Pt), s.WarmedH vm₁ ∧ Stand p l e R s m args below meth c B.U B.locs B.cells B.slots ∧ Post ⟨T.setVm vm₁, locs, cells, slots⟩ (Value.ref b :: argsL).toArray v B ∧
      ∀ target, Steps p.tables e below (B.U.setTop { g with pc := g.pc + 3, stack := v.toList ++ rest }) target → Steps p.tables e below (T.setTop g) target) ∨
    (∃ (q : Addr) (vm₁ : Vm) (B : Pt), s.WarmedH vm₁ ∧ Stand p l e R s m args below meth c B.U B.locs B.cells B.slots ∧ PostX ⟨T.setVm vm₁, locs, cells, slots⟩ (Value.ref b :: argsL).toArray q B ∧
      Steps p.tables e below (T.setTop g) ((B.U.setTop { g with stack := rest }).pushFrame (.throwing q))) := by
  obtain ⟨mk, methM, hnamed, hmethM, hstM, habM⟩ := Cond.instanceMethod_spec hinst
  obtain ⟨methM', cM, hmethM', -, -, -, -, -, -, hsigM⟩ := Cond.code_spec hnamed hcode
  cases hmethM.symm.trans hmethM'
  obtain ⟨c2, r2, m2, q1, q2, q3, q4, kP, hkP, hkPi⟩ := Cond.selects_spec hsel
  cases hcls.symm.trans q1
  cases (State.methodFound?_of_named hnamed hy).symm.trans q2
  cases hnamed.symm.trans q3
  have hselP : selectMethod e.platform s.vm cellB.cls mk = .method mk := by rw [Launch.admits_selectMethod X.admits]; exact q4
  obtain ⟨vm₁, X₁, hstep₁⟩ := X.invokevirtual hexec hown hlink hnamed hmethM hstM hkP hkPi hy (a := b) (cell := cellB) hcell
    (fun z h => by rw [h] at hobj; cases hobj) hselP hmethM habM hkP hkPi (g := g) hg (argsL := argsL) (rest := rest) (hlen _ hsigM) hstack hdg
  rcases hK m meth c ⟨T.setVm vm₁, locs, cells, slots⟩ { g with stack := rest } (.invokevirtual index) mk (Value.ref b :: argsL).toArray X₁ hg hsize hdg hW (X₁.named hnamed) (hpre vm₁ X₁.warmed) with ⟨v, B, X', hpost, hsteps⟩ | ⟨q, B, X', hpost, hsteps⟩
  · exact Or.inl ⟨v, vm₁, B, X₁.warmed, X', hpost, fun target h => hstep₁ _ fun acts => by rw [doInvoke_state]; exact hsteps.trans h⟩
  · exact Or.inr ⟨q, vm₁, B, X₁.warmed, X', hpost, hstep₁ _ fun acts => by rw [doInvoke_state]; exact hsteps⟩
theorem vx_callS (X : Stand p l e R s m args below meth c T locs cells slots) (hexec : p.tables.exec = Jvm.exec) {own : String} {index : Nat} {y : MethodName} {bytes : ByteArray} {maxL : Nat} {ret : Option FieldType}
    (hown : s.vm.findClass own = some m.cls) (hlink : (Cond.methodLink own index y).before args s = true) (hstat : (Cond.static y).before args s = true) (hinit : (Cond.initialized y.cls).before args s = true)
    (hcode : (Cond.code y bytes maxL ret).before args s = true) (hy : y.cls ≠ "java/lang/invoke/MethodHandle" ∧ y.cls ≠ "java/lang/invoke/VarHandle")
    {W9 : Nat} {Pre : Pt → Array Value → Prop} {Post : Pt → Array Value → Option Value → Pt → Prop} {PostX : Pt → Array Value → Addr → Pt → Prop} (hK : vx_Back l R p e below s args y 3 W9 Pre Post PostX)
    {g : JFrame} (hg : g.method = m) (hsize : g.locals.size = c.maxLocals) {argsL rest : List Value} (hlen : ∀ sig, parseMethodDescriptor y.desc = some sig → argsL.length = sig.parameters.length)
    (hstack : g.stack = argsL.reverse ++ rest) (hW : 2 * g.monitorRoom + (rest.map fun v => v.category).sum ≤ W9) (hdg : decode c.code g.pc = .ok (.invokestatic index, 3))
    (hpre : ∀ vm₁, s.WarmedH vm₁ → Pre ⟨T.setVm vm₁, locs, cells, slots⟩ argsL.toArray) :
    (∃ (v : Option Value) (vm₁ : Vm) (B : Pt), s.WarmedH vm₁ ∧ Stand p l e R s m args below meth c B.U B.locs B.cells B.slots ∧ Post ⟨T.setVm vm₁, locs, cells, slots⟩ argsL.toArray v B ∧
      ∀ target, Steps p.tables e below (B.U.setTop { g with pc := g.pc + 3, stack := v.toList ++ rest }) target → Steps p.tables e below (T.setTop g) target) ∨
    (∃ (q : Addr) (vm₁ : Vm) (B : Pt), s.WarmedH vm₁ ∧ Stand p l e R s m args below meth c B.U B.locs B.cells B.slots ∧ PostX ⟨T.setVm vm₁, locs, cells, slots⟩ argsL.toArray q B ∧
      Steps p.tables e below (T.setTop g) ((B.U.setTop { g with stack := rest }).pushFrame (.throwing q))) := by
  obtain ⟨mk, hnamed⟩ := Cond.code_named hcode
  obtain ⟨methM, cM, hmethM, -, -, -, -, -, -, hsigM⟩ := Cond.code_spec hnamed hcode
  have hstatic : methM.isStatic = true := Cond.static_spec hnamed hmethM hstat
  obtain ⟨kP, hkP, -⟩ := className_of_methodNamed hnamed
  have hinitP : kP.init = .initialized := Cond.initialized_spec (findClass_of_methodNamed hnamed) hkP hinit
  obtain ⟨vm₁, X₁, hstep₁⟩ := X.invokestatic hexec hown hlink hnamed hmethM hstatic hkP hinitP hy (g := g) hg (argsL := argsL) (rest := rest) (hlen _ hsigM) hstack hdg
  rcases hK m meth c ⟨T.setVm vm₁, locs, cells, slots⟩ { g with stack := rest } (.invokestatic index) mk argsL.toArray X₁ hg hsize hdg hW (X₁.named hnamed) (hpre vm₁ X₁.warmed) with ⟨v, B, X', hpost, hsteps⟩ | ⟨q, B, X', hpost, hsteps⟩
  · exact Or.inl ⟨v, vm₁, B, X₁.warmed, X', hpost, fun target h => hstep₁ _ fun acts => by rw [doInvoke_state]; exact hsteps.trans h⟩
  · exact Or.inr ⟨q, vm₁, B, X₁.warmed, X', hpost, hstep₁ _ fun acts => by rw [doInvoke_state]; exact hsteps⟩
end Calls
theorem vx_cls {s : State} {T : State} {vm₁ : Vm} {E : String} {k : ClassId} (hW : s.WarmedH vm₁) (h : (T.setVm vm₁).vm.findClass E = some k) : s.vm.findClass E = some k := by
  have h1 : vm₁.findClass E = some k := h
  rw [hW.alike.findClass] at h1
  exact h1
/-- the method's frame g, with q thrown over it -/
def vx_W (p : Program) (l : Launch) (e : Env) (R : Room) (s : State) (m : MethodId) (args : Array Value) (below : List Frame) (meth : Method) (c : Code) (H : Heap) (locs : List Loc) (cells slots : Nat) (Q : State → Prop) (g : JFrame) (q : Addr) : Prop :=
  ∀ T : State, T.heap = H → Stand p l e R s m args below meth c T locs cells slots → ∃ t, Steps p.tables e below ((T.setTop g).pushFrame (.throwing q)) t ∧ Q t
def vx_Run (p : Program) (l : Launch) (e : Env) (R : Room) (s : State) (m : MethodId) (args : Array Value) (below : List Frame) (meth : Method) (c : Code) (H : Heap) (locs : List Loc) (cells slots mc ms : Nat) (g : JFrame) (rest : List Value) (Qa : State → Outcome → State → Prop) (XC : String → State → State → Prop) (free : Addr → Prop) : Prop :=
  ∀ T : State, T.heap = H → Stand p l e R s m args below meth c T locs cells slots →
    (∃ (v : Option Value) (st₀ t T' : State) (L : List Loc), st₀.heap = H ∧ Stand p l e R s m args below meth c T' (locs ++ L) (cells + mc) (slots + ms) ∧ (∀ q ∈ L, free q.base) ∧ T'.heap = t.heap ∧ T'.vm = t.vm ∧ Qa st₀ (.returned v) t ∧
      Goes p e below T g T' { g with pc := g.pc + 3, stack := v.toList ++ rest }) ∨
    (∃ (q : Addr) (st₀ t T' : State) (L : List Loc) (E : String) (ce : Cell), st₀.heap = H ∧ Stand p l e R s m args below meth c T' (locs ++ L) (cells + mc) (slots + ms) ∧ (∀ z ∈ L, free z.base) ∧ T'.heap = t.heap ∧ T'.vm = t.vm ∧ XC E st₀ t ∧ t.heap[q]? = some ce ∧ ce.vm = .none ∧ s.vm.findClass E = some ce.cls ∧
      Steps p.tables e below (T.setTop g) ((T'.setTop { g with stack := rest }).pushFrame (.throwing q)))
def vx_X {S : Type} (px : S → Prop) (B : String → S → State → Prop) (A : Nat → Prop) : String → State → State → Prop := fun E st t => ∃ u : S, px u ∧ B E u t ∧ va_F A st t
section Runs
variable {p : Program} {l : Launch} {e : Env} {R : Room} {s : State} {m : MethodId} {args : Array Value} {below : List Frame} {meth : Method} {c : Code} {H : Heap} {locs : List Loc} {cells slots : Nat}
variable {y : MethodName} {bytes cc : ByteArray} {maxL nL mc ms n index : Nat} {ret : Option FieldType} {ws : List Cond} {rm : Room} {Pc : Array Value → State → Prop} {Qc : Array Value → State → Outcome → State → Prop} {XC : String → State → State → Prop} {free : Addr → Prop} {Ts : List Cond} {own C : String} {b : Addr} {As rest : List Value} {g : JFrame}
theorem vx_callBack (cb : CallB R s args own index y bytes maxL ret ws rm mc ms n) (hM : vx_Met l y ws rm Pc Qc XC mc ms free) (hbl : FrameBlind Pc) : vx_Back l R p e below s args y 3 8 (PreOf R mc ms Pc) (PostOf Qc mc ms free) (vx_Post XC mc ms free) := by
  obtain ⟨hrc, hrs, hfr, hlo, hws, hcw, -, hini, -⟩ := cb
  exact vx_back (bytes := bytes) (maxL := maxL) (ret := ret) hM hbl hrc hrs hfr hlo hws hcw (fun a' U hW => word_at hW (Or.inl (by first | rfl | simp [Cond.onTables, Cond.keeps, Cond.steady])) hini)
theorem vx_runV (S : CallFix p m c cc nL s args Ts own) (hM : vx_Met l y ws rm Pc Qc XC mc ms free) (cw : CallW R s args own C index y bytes maxL ret ws rm mc ms n) (hp : PreV s H C b Pc As)
    (hg : g.method = m) (hn : As.length = n) (hsize : g.locals.size = nL) (hstack : g.stack = As.reverse ++ .ref b :: rest) (hW : 2 * g.monitorRoom + (rest.map fun v => v.category).sum ≤ 8) (hdg : decode cc g.pc = .ok (.invokevirtual index, 3)) (hf : cells + mc ≤ R.cells ∧ slots + ms ≤ R.slots) :
    vx_Run p l e R s m args below meth c H locs cells slots mc ms g rest (Qc (Value.ref b :: As).toArray) XC free := by
  have hK : vx_Back l R p e below s args y 3 8 (PreOf R mc ms Pc) (PostOf Qc mc ms free) (vx_Post XC mc ms free) := vx_callBack cw.1 hM hp.1
  obtain ⟨⟨-, -, -, -, -, -, hcode, -, hy, hlen, hl⟩, hin, hse⟩ := cw
  obtain ⟨hx, hb, hml, ho, -⟩ := S
  obtain ⟨-, ⟨cellB, hcB, hoB, hclB⟩, hPc⟩ := hp
  intro T hT X
  rcases vx_callV X hx (C := C) (bytes := bytes) (maxL := maxL) (ret := ret) ho hl hin hse hcode hy hK (by rw [hT]; exact hcB) hoB hclB hg (hsize.trans hml.symm) (argsL := As) (rest := rest) (fun sig h => hn.trans (hlen sig h)) hstack hW (by rw [hb]; exact hdg)
    (fun vm₁ hW₁ => ⟨hf.1, hf.2, hPc (T.setVm vm₁) hT hW₁⟩) with ⟨v, vm₁, ⟨U', l2, c2, s2⟩, hW₁, X', ⟨g', mk, t, L, e1, e2, hq, h1, hL, h2, h3⟩, st⟩ | ⟨q, vm₁, ⟨U', l2, c2, s2⟩, hW₁, X', ⟨g', mk, t, L, E, ce, e1, e2, hq, hce, hcv, hcl, h1, hL, h2, h3⟩, st⟩
  · dsimp only [Pt.U, Pt.locs, Pt.cells, Pt.slots] at X' e1 e2 h1 h2 h3 st
    subst h1; subst h2; subst h3
    exact Or.inl ⟨v, (T.setVm vm₁).calling g' mk (Value.ref b :: As).toArray, t, U', L, hT, X', hL, e1, e2, hq, st⟩
  · dsimp only [Pt.U, Pt.locs, Pt.cells, Pt.slots] at X' e1 e2 h1 h2 h3 st hcl
    subst h1; subst h2; subst h3
    exact Or.inr ⟨q, (T.setVm vm₁).calling g' mk (Value.ref b :: As).toArray, t, U', L, E, ce, hT, X', hL, e1, e2, hq, hce, hcv, vx_cls hW₁ hcl, st⟩
theorem vx_runS (S : CallFix p m c cc nL s args Ts own) (hM : vx_Met l y ws rm Pc Qc XC mc ms free) (cw : CallB R s args own index y bytes maxL ret ws rm mc ms n ∧ (Cond.static y).before args s = true) (hp : PreS s H Pc As)
    (hg : g.method = m) (hn : As.length = n) (hsize : g.locals.size = nL) (hstack : g.stack = As.reverse ++ rest) (hW : 2 * g.monitorRoom + (rest.map fun v => v.category).sum ≤ 8) (hdg : decode cc g.pc = .ok (.invokestatic index, 3)) (hf : cells + mc ≤ R.cells ∧ slots + ms ≤ R.slots) :
    vx_Run p l e R s m args below meth c H locs cells slots mc ms g rest (Qc As.toArray) XC free := by
  have hK : vx_Back l R p e below s args y 3 8 (PreOf R mc ms Pc) (PostOf Qc mc ms free) (vx_Post XC mc ms free) := vx_callBack cw.1 hM hp.1
  obtain ⟨⟨-, -, -, -, -, -, hcode, hini, hy, hlen, hl⟩, hstt⟩ := cw
  obtain ⟨hx, hb, hml, ho, -⟩ := S
  intro T hT X
  rcases vx_callS X hx (bytes := bytes) (maxL := maxL) (ret := ret) ho hl hstt hini hcode hy hK hg (hsize.trans hml.symm) (argsL := As) (rest := rest) (fun sig h => hn.trans (hlen sig h)) hstack hW (by rw [hb]; exact hdg)
    (fun vm₁ hW₁ => ⟨hf.1, hf.2, hp.2 (T.setVm vm₁) hT hW₁⟩) with ⟨v, vm₁, ⟨U', l2, c2, s2⟩, hW₁, X', ⟨g', mk, t, L, e1, e2, hq, h1, hL, h2, h3⟩, st⟩ | ⟨q, vm₁, ⟨U', l2, c2, s2⟩, hW₁, X', ⟨g', mk, t, L, E, ce, e1, e2, hq, hce, hcv, hcl, h1, hL, h2, h3⟩, st⟩
  · dsimp only [Pt.U, Pt.locs, Pt.cells, Pt.slots] at X' e1 e2 h1 h2 h3 st
    subst h1; subst h2; subst h3
    exact Or.inl ⟨v, (T.setVm vm₁).calling g' mk As.toArray, t, U', L, hT, X', hL, e1, e2, hq, st⟩
  · dsimp only [Pt.U, Pt.locs, Pt.cells, Pt.slots] at X' e1 e2 h1 h2 h3 st hcl
    subst h1; subst h2; subst h3
    exact Or.inr ⟨q, (T.setVm vm₁).calling g' mk As.toArray, t, U', L, E, ce, hT, X', hL, e1, e2, hq, hce, hcv, vx_cls hW₁ hcl, st⟩
end Runs
section Rows
variable {p : Program} {l : Launch} {e : Env} {R : Room} {s : State} {m : MethodId} {args : Array Value} {below : List Frame} {meth : Method} {c : Code} {H : Heap} {locs : List Loc} {cells slots : Nat} {Q : State → Prop}
variable {mc ms : Nat} {free : Addr → Prop} {A0 A1 : Nat → Prop} {H0 : Heap} {a : Array Value} {pc : Nat} {ls : Array Slot} {st0 rest : List Value}
theorem vx_keep {st₀ t T' : State} {L : List Loc} (h0 : st₀.heap = H) (e1 : T'.heap = t.heap) (hS : va_S A0 H0 H locs) (hA : ∀ q, q < H.size → A1 q → A0 q) (hf : ∀ q, free q → A0 q) (hL : ∀ q ∈ L, free q.base) (hF : va_F A1 st₀ t) :
    H.size ≤ T'.heap.size ∧ (∀ q : Nat, q < H.size → ¬ A1 q → T'.heap[q]? = H[q]?) ∧ va_S A0 H0 T'.heap (locs ++ L) := by
  obtain ⟨hz, hk⟩ := hF
  rw [h0] at hz hk
  exact ⟨by rw [e1]; exact hz, fun q h1 h2 => by rw [e1]; exact hk q h1 h2,
    ⟨Nat.le_trans hS.1 (by rw [e1]; exact hz), fun q h1 h2 => by rw [e1, hk q (Nat.lt_of_lt_of_le h1 hS.1) (fun z => h2 (hA q (Nat.lt_of_lt_of_le h1 hS.1) z))]; exact hS.2.1 q h1 h2, fun q hq => by
      rcases List.mem_append.mp hq with h | h
      · exact hS.2.2 q h
      · exact hf _ (hL q h)⟩⟩
theorem vx_calli {S SX : Type} {post : Int32 → S → Prop} {px : SX → Prop} {B : S → State → Prop} {BX : String → SX → State → Prop} {AX : Nat → Prop} (hr : vx_Run p l e R s m args below meth c H locs cells slots mc ms (F0 m pc ls st0) rest (va_Qi post B A1 a) (vx_X px BX AX) free) (hS : va_S A0 H0 H locs) (hA : ∀ q, q < H.size → A1 q → A0 q) (hf : ∀ q, free q → A0 q) (hAX : ∀ q, q < H.size → AX q → A0 q)
    (kx : ∀ (E : String) (ce : Cell) (q9 : Addr) (u : SX) (t : State) (H1 : Heap) (locs1 : List Loc), t.heap = H1 → s.vm.Alike t.vm → px u → BX E u t → H.size ≤ H1.size → (∀ q : Nat, q < H.size → ¬ AX q → H1[q]? = H[q]?) → va_S A0 H0 H1 locs1 → H1[q9]? = some ce → ce.vm = .none → s.vm.findClass E = some ce.cls → vx_W p l e R s m args below meth c H1 locs1 (cells + mc) (slots + ms) Q (F0 m pc ls rest) q9)
    (kk : ∀ (r : Int32) (u : S) (t : State) (H1 : Heap) (locs1 : List Loc), t.heap = H1 → s.vm.Alike t.vm → post r u → B u t → H.size ≤ H1.size → (∀ q : Nat, q < H.size → ¬ A1 q → H1[q]? = H[q]?) → va_S A0 H0 H1 locs1 → W p l e R s m args below meth c H1 locs1 (cells + mc) (slots + ms) Q (F0 m (pc + 3) ls (.int r :: rest))) : W p l e R s m args below meth c H locs cells slots Q (F0 m pc ls st0) := by
  intro T hT X
  rcases hr T hT X with ⟨v, st₀, t, T', L, h0, X', hL, e1, e2, ⟨⟨r, u, hv, hp, hb⟩, hF⟩, st⟩ | ⟨q, st₀, t, T', L, E, ce, h0, X', hL, e1, e2, ⟨u, hp, hb, hF⟩, hce, hcv, hcl, st⟩
  · cases hv
    obtain ⟨k1, k2, k3⟩ := vx_keep h0 e1 hS hA hf hL hF
    obtain ⟨t2, a1, b1⟩ := kk r u t T'.heap (locs ++ L) e1.symm (by rw [← e2]; exact X'.warmed.alike) hp hb k1 k2 k3 T' rfl X'
    exact ⟨t2, st t2 a1, b1⟩
  · obtain ⟨k1, k2, k3⟩ := vx_keep h0 e1 hS hAX hf hL hF
    obtain ⟨t2, a1, b1⟩ := kx E ce q u t T'.heap (locs ++ L) e1.symm (by rw [← e2]; exact X'.warmed.alike) hp hb k1 k2 k3 (by rw [e1]; exact hce) hcv hcl T' rfl X'
    exact ⟨t2, st.trans a1, b1⟩
theorem vx_calll {S SX : Type} {post : Int64 → S → Prop} {px : SX → Prop} {B : S → State → Prop} {BX : String → SX → State → Prop} {AX : Nat → Prop} (hr : vx_Run p l e R s m args below meth c H locs cells slots mc ms (F0 m pc ls st0) rest (va_Ql post B A1 a) (vx_X px BX AX) free) (hS : va_S A0 H0 H locs) (hA : ∀ q, q < H.size → A1 q → A0 q) (hf : ∀ q, free q → A0 q) (hAX : ∀ q, q < H.size → AX q → A0 q)
    (kx : ∀ (E : String) (ce : Cell) (q9 : Addr) (u : SX) (t : State) (H1 : Heap) (locs1 : List Loc), t.heap = H1 → s.vm.Alike t.vm → px u → BX E u t → H.size ≤ H1.size → (∀ q : Nat, q < H.size → ¬ AX q → H1[q]? = H[q]?) → va_S A0 H0 H1 locs1 → H1[q9]? = some ce → ce.vm = .none → s.vm.findClass E = some ce.cls → vx_W p l e R s m args below meth c H1 locs1 (cells + mc) (slots + ms) Q (F0 m pc ls rest) q9)
    (kk : ∀ (r : Int64) (u : S) (t : State) (H1 : Heap) (locs1 : List Loc), t.heap = H1 → s.vm.Alike t.vm → post r u → B u t → H.size ≤ H1.size → (∀ q : Nat, q < H.size → ¬ A1 q → H1[q]? = H[q]?) → va_S A0 H0 H1 locs1 → W p l e R s m args below meth c H1 locs1 (cells + mc) (slots + ms) Q (F0 m (pc + 3) ls (.long r :: rest))) : W p l e R s m args below meth c H locs cells slots Q (F0 m pc ls st0) := by
  intro T hT X
  rcases hr T hT X with ⟨v, st₀, t, T', L, h0, X', hL, e1, e2, ⟨⟨r, u, hv, hp, hb⟩, hF⟩, st⟩ | ⟨q, st₀, t, T', L, E, ce, h0, X', hL, e1, e2, ⟨u, hp, hb, hF⟩, hce, hcv, hcl, st⟩
  · cases hv
    obtain ⟨k1, k2, k3⟩ := vx_keep h0 e1 hS hA hf hL hF
    obtain ⟨t2, a1, b1⟩ := kk r u t T'.heap (locs ++ L) e1.symm (by rw [← e2]; exact X'.warmed.alike) hp hb k1 k2 k3 T' rfl X'
    exact ⟨t2, st t2 a1, b1⟩
  · obtain ⟨k1, k2, k3⟩ := vx_keep h0 e1 hS hAX hf hL hF
    obtain ⟨t2, a1, b1⟩ := kx E ce q u t T'.heap (locs ++ L) e1.symm (by rw [← e2]; exact X'.warmed.alike) hp hb k1 k2 k3 (by rw [e1]; exact hce) hcv hcl T' rfl X'
    exact ⟨t2, st.trans a1, b1⟩
theorem vx_callf {S SX : Type} {post : UInt32 → S → Prop} {px : SX → Prop} {B : S → State → Prop} {BX : String → SX → State → Prop} {AX : Nat → Prop} (hr : vx_Run p l e R s m args below meth c H locs cells slots mc ms (F0 m pc ls st0) rest (va_Qf post B A1 a) (vx_X px BX AX) free) (hS : va_S A0 H0 H locs) (hA : ∀ q, q < H.size → A1 q → A0 q) (hf : ∀ q, free q → A0 q) (hAX : ∀ q, q < H.size → AX q → A0 q)
    (kx : ∀ (E : String) (ce : Cell) (q9 : Addr) (u : SX) (t : State) (H1 : Heap) (locs1 : List Loc), t.heap = H1 → s.vm.Alike t.vm → px u → BX E u t → H.size ≤ H1.size → (∀ q : Nat, q < H.size → ¬ AX q → H1[q]? = H[q]?) → va_S A0 H0 H1 locs1 → H1[q9]? = some ce → ce.vm = .none → s.vm.findClass E = some ce.cls → vx_W p l e R s m args below meth c H1 locs1 (cells + mc) (slots + ms) Q (F0 m pc ls rest) q9)
    (kk : ∀ (r : UInt32) (u : S) (t : State) (H1 : Heap) (locs1 : List Loc), t.heap = H1 → s.vm.Alike t.vm → post r u → B u t → H.size ≤ H1.size → (∀ q : Nat, q < H.size → ¬ A1 q → H1[q]? = H[q]?) → va_S A0 H0 H1 locs1 → W p l e R s m args below meth c H1 locs1 (cells + mc) (slots + ms) Q (F0 m (pc + 3) ls (.float r :: rest))) : W p l e R s m args below meth c H locs cells slots Q (F0 m pc ls st0) := by
  intro T hT X
  rcases hr T hT X with ⟨v, st₀, t, T', L, h0, X', hL, e1, e2, ⟨⟨r, u, hv, hp, hb⟩, hF⟩, st⟩ | ⟨q, st₀, t, T', L, E, ce, h0, X', hL, e1, e2, ⟨u, hp, hb, hF⟩, hce, hcv, hcl, st⟩
  · cases hv
    obtain ⟨k1, k2, k3⟩ := vx_keep h0 e1 hS hA hf hL hF
    obtain ⟨t2, a1, b1⟩ := kk r u t T'.heap (locs ++ L) e1.symm (by rw [← e2]; exact X'.warmed.alike) hp hb k1 k2 k3 T' rfl X'
    exact ⟨t2, st t2 a1, b1⟩
  · obtain ⟨k1, k2, k3⟩ := vx_keep h0 e1 hS hAX hf hL hF
    obtain ⟨t2, a1, b1⟩ := kx E ce q u t T'.heap (locs ++ L) e1.symm (by rw [← e2]; exact X'.warmed.alike) hp hb k1 k2 k3 (by rw [e1]; exact hce) hcv hcl T' rfl X'
    exact ⟨t2, st.trans a1, b1⟩
theorem vx_calld {S SX : Type} {post : UInt64 → S → Prop} {px : SX → Prop} {B : S → State → Prop} {BX : String → SX → State → Prop} {AX : Nat → Prop} (hr : vx_Run p l e R s m args below meth c H locs cells slots mc ms (F0 m pc ls st0) rest (va_Qd post B A1 a) (vx_X px BX AX) free) (hS : va_S A0 H0 H locs) (hA : ∀ q, q < H.size → A1 q → A0 q) (hf : ∀ q, free q → A0 q) (hAX : ∀ q, q < H.size → AX q → A0 q)
    (kx : ∀ (E : String) (ce : Cell) (q9 : Addr) (u : SX) (t : State) (H1 : Heap) (locs1 : List Loc), t.heap = H1 → s.vm.Alike t.vm → px u → BX E u t → H.size ≤ H1.size → (∀ q : Nat, q < H.size → ¬ AX q → H1[q]? = H[q]?) → va_S A0 H0 H1 locs1 → H1[q9]? = some ce → ce.vm = .none → s.vm.findClass E = some ce.cls → vx_W p l e R s m args below meth c H1 locs1 (cells + mc) (slots + ms) Q (F0 m pc ls rest) q9)
    (kk : ∀ (r : UInt64) (u : S) (t : State) (H1 : Heap) (locs1 : List Loc), t.heap = H1 → s.vm.Alike t.vm → post r u → B u t → H.size ≤ H1.size → (∀ q : Nat, q < H.size → ¬ A1 q → H1[q]? = H[q]?) → va_S A0 H0 H1 locs1 → W p l e R s m args below meth c H1 locs1 (cells + mc) (slots + ms) Q (F0 m (pc + 3) ls (.double r :: rest))) : W p l e R s m args below meth c H locs cells slots Q (F0 m pc ls st0) := by
  intro T hT X
  rcases hr T hT X with ⟨v, st₀, t, T', L, h0, X', hL, e1, e2, ⟨⟨r, u, hv, hp, hb⟩, hF⟩, st⟩ | ⟨q, st₀, t, T', L, E, ce, h0, X', hL, e1, e2, ⟨u, hp, hb, hF⟩, hce, hcv, hcl, st⟩
  · cases hv
    obtain ⟨k1, k2, k3⟩ := vx_keep h0 e1 hS hA hf hL hF
    obtain ⟨t2, a1, b1⟩ := kk r u t T'.heap (locs ++ L) e1.symm (by rw [← e2]; exact X'.warmed.alike) hp hb k1 k2 k3 T' rfl X'
    exact ⟨t2, st t2 a1, b1⟩
  · obtain ⟨k1, k2, k3⟩ := vx_keep h0 e1 hS hAX hf hL hF
    obtain ⟨t2, a1, b1⟩ := kx E ce q u t T'.heap (locs ++ L) e1.symm (by rw [← e2]; exact X'.warmed.alike) hp hb k1 k2 k3 (by rw [e1]; exact hce) hcv hcl T' rfl X'
    exact ⟨t2, st.trans a1, b1⟩
theorem vx_callv {S SX : Type} {post : S → Prop} {px : SX → Prop} {B : S → State → Prop} {BX : String → SX → State → Prop} {AX : Nat → Prop} (hr : vx_Run p l e R s m args below meth c H locs cells slots mc ms (F0 m pc ls st0) rest (va_Qv post B A1 a) (vx_X px BX AX) free) (hS : va_S A0 H0 H locs) (hA : ∀ q, q < H.size → A1 q → A0 q) (hf : ∀ q, free q → A0 q) (hAX : ∀ q, q < H.size → AX q → A0 q)
    (kx : ∀ (E : String) (ce : Cell) (q9 : Addr) (u : SX) (t : State) (H1 : Heap) (locs1 : List Loc), t.heap = H1 → s.vm.Alike t.vm → px u → BX E u t → H.size ≤ H1.size → (∀ q : Nat, q < H.size → ¬ AX q → H1[q]? = H[q]?) → va_S A0 H0 H1 locs1 → H1[q9]? = some ce → ce.vm = .none → s.vm.findClass E = some ce.cls → vx_W p l e R s m args below meth c H1 locs1 (cells + mc) (slots + ms) Q (F0 m pc ls rest) q9)
    (kk : ∀ (u : S) (t : State) (H1 : Heap) (locs1 : List Loc), t.heap = H1 → s.vm.Alike t.vm → post u → B u t → H.size ≤ H1.size → (∀ q : Nat, q < H.size → ¬ A1 q → H1[q]? = H[q]?) → va_S A0 H0 H1 locs1 → W p l e R s m args below meth c H1 locs1 (cells + mc) (slots + ms) Q (F0 m (pc + 3) ls (rest))) : W p l e R s m args below meth c H locs cells slots Q (F0 m pc ls st0) := by
  intro T hT X
  rcases hr T hT X with ⟨v, st₀, t, T', L, h0, X', hL, e1, e2, ⟨⟨u, hv, hp, hb⟩, hF⟩, st⟩ | ⟨q, st₀, t, T', L, E, ce, h0, X', hL, e1, e2, ⟨u, hp, hb, hF⟩, hce, hcv, hcl, st⟩
  · cases hv
    obtain ⟨k1, k2, k3⟩ := vx_keep h0 e1 hS hA hf hL hF
    obtain ⟨t2, a1, b1⟩ := kk u t T'.heap (locs ++ L) e1.symm (by rw [← e2]; exact X'.warmed.alike) hp hb k1 k2 k3 T' rfl X'
    exact ⟨t2, st t2 a1, b1⟩
  · obtain ⟨k1, k2, k3⟩ := vx_keep h0 e1 hS hAX hf hL hF
    obtain ⟨t2, a1, b1⟩ := kx E ce q u t T'.heap (locs ++ L) e1.symm (by rw [← e2]; exact X'.warmed.alike) hp hb k1 k2 k3 (by rw [e1]; exact hce) hcv hcl T' rfl X'
    exact ⟨t2, st.trans a1, b1⟩
/-- caught by the row x of this method's table; the rows ahead don't take it -/
theorem vx_catch {own name : String} {E : String} {ce : Cell} {q : Addr} (hown : s.vm.findClass own = some m.cls) (pre : List ExceptionTableEntry) (x : ExceptionTableEntry) (suf : List ExceptionTableEntry) (hsplit : c.exceptionTable.toList = pre ++ x :: suf)
    (hpass : ∀ z ∈ pre, covers z pc = false ∨ (z.catchType ≠ 0 ∧ ∃ nm : String, (Cond.classLink own z.catchType nm).before args s = true ∧ va_Nc E nm s)) (hx : covers x pc = true) (h0 : x.catchType ≠ 0)
    (hlink : (Cond.classLink own x.catchType name).before args s = true) (hcast : (Cond.castable E name).before args s = true) (hcell : H[q]? = some ce) (hv : ce.vm = .none) (hcl : s.vm.findClass E = some ce.cls)
    (kk : W p l e R s m args below meth c H locs cells slots Q (F0 m x.handlerPc ls [.ref q])) : vx_W p l e R s m args below meth c H locs cells slots Q (F0 m pc ls rest) q := by
  intro T hT X
  have hpl : e.platform.magicAccessors = ({} : Platform).magicAccessors := by rw [X.admits.platform]
  obtain ⟨c3, c4, hc3, hc4, hasg⟩ := Cond.castable_spec hcast
  cases Option.some.inj (hc3.symm.trans hcl)
  obtain ⟨c5, hc5, hcl5⟩ := Cond.classLink_spec hown hlink e.platform hpl
  cases Option.some.inj (hc4.symm.trans hc5)
  obtain ⟨vm', X', st⟩ := X.thenCaughtThrough q (g := F0 m pc ls rest) rfl (Steps.refl _) (by rw [hT]; exact hcell) (by rw [hv]; rfl) (by obtain ⟨k9, h9, -⟩ := Vm.findClass_spec hcl; exact ⟨k9, h9⟩) pre x suf hsplit
    (fun z hz => by
      rcases hpass z hz with h | ⟨hz0, nm, hl1, hn1⟩
      · exact Or.inl h
      · obtain ⟨c6, hc6, hcl6⟩ := Cond.classLink_spec hown hl1 e.platform hpl
        obtain ⟨a8, b8, h1, h2, h3⟩ := hn1
        cases Option.some.inj (h1.symm.trans hcl)
        cases Option.some.inj (h2.symm.trans hc6)
        exact Or.inr ⟨hz0, _, hcl6, h3⟩) hx (Or.inr ⟨h0, c4, hcl5, hasg⟩)
  obtain ⟨t, a1, b1⟩ := kk (T.setVm vm') hT X'
  exact ⟨t, st.trans a1, b1⟩
end Rows
section Ends
variable {p : Program} {l : Launch} {e : Env} {R : Room} {s : State} {m : MethodId} {args : Array Value} {below : List Frame} {meth : Method} {c : Code} {H : Heap} {locs : List Loc} {cells slots : Nat} {Q : State → Prop}
variable {mc ms : Nat} {free : Addr → Prop} {A0 A1 : Nat → Prop} {H0 : Heap} {a : Array Value} {ls : Array Slot} {st0 rest : List Value}
variable {Qc : Array Value → State → Outcome → State → Prop} {XC : String → State → State → Prop}
/-- what a body that may throw owes at its end -/
def vx_MQ (below : List Frame) (Qc : Array Value → State → Outcome → State → Prop) (XC : String → State → State → Prop) (a : Array Value) (s : State) (mc ms : Nat) (free : Addr → Prop) : State → Prop := fun t =>
  ∃ o, t.status = .running ∧ Ended t below o ∧ vx_Q Qc XC mc ms free a s o t
theorem vx_ret {g : JFrame} {mc ms : Nat} (k : W p l e R s m args below meth c H locs cells slots (MQ below Qc args s mc ms free) g) : W p l e R s m args below meth c H locs cells slots (vx_MQ below Qc XC args s mc ms free) g := by
  intro T hT X
  obtain ⟨t, a1, o, b1, b2, b3, b4⟩ := k T hT X
  exact ⟨t, a1, o, b1, b2, Or.inl ⟨b3, b4⟩⟩
/-- not caught here: it goes on to the caller -/
theorem vx_widen {g : JFrame} {q : Addr} {k n : Nat} (h1 : cells ≤ k) (h2 : slots ≤ n) (kk : vx_W p l e R s m args below meth c H locs k n Q g q) : vx_W p l e R s m args below meth c H locs cells slots Q g q := fun T hT X => kk T hT (stand_widen X h1 h2)
theorem vx_out {pc : Nat} {E : String} {ce : Cell} {q : Addr} {mc ms : Nat} (hout : ∀ x ∈ c.exceptionTable.toList, covers x pc = false) (hlocks : meth.locks = false) (hcell : H[q]? = some ce) (hv : ce.vm = .none) (hcl : s.vm.findClass E = some ce.cls)
    (hx : ∀ t : State, t.heap = H → s.vm.Alike t.vm → XC E s t) (hf : ∀ z ∈ locs, free z.base) (hc : cells ≤ mc) (hs : slots ≤ ms) :
    vx_W p l e R s m args below meth c H locs cells slots (vx_MQ below Qc XC args s mc ms free) (F0 m pc ls rest) q := by
  intro T hT X
  obtain ⟨st1, hrun, hend, hW, hsm⟩ := X.leaveThrown q (g := F0 m pc ls rest) rfl rfl rfl hout hlocks
  have hcell9 : (T.setFrames (.throwing q :: below)).heap[q]? = some ce := by
    show T.heap[q]? = some ce
    rw [hT]; exact hcell
  exact ⟨_, st1, .threw q, hrun, hend, Or.inr ⟨q, rfl, E, ce, locs, hx _ hT hW.alike, hcell9, hv, hcl, hW, hsm.mono hc hs, hf⟩⟩
theorem vx_frame {U : State} {k n : Nat} (h : s.sameButNew ({ U with vm := s.vm } : State) locs k n) : s.heap.size ≤ U.heap.size ∧ ∀ q : Nat, q < s.heap.size → (∀ z ∈ locs, z.base ≠ q) → U.heap[q]? = s.heap[q]? := by
  obtain ⟨-, h2, -, -, -, h6⟩ := h
  refine ⟨h2, fun q hq hz => ?_⟩
  obtain ⟨c9, e1, e2, e3, e4⟩ := h6 q _ (Array.getElem?_eq_getElem hq)
  have hs : c9.slots = (s.heap[q]).slots := Array.ext_getElem? fun i => e4 i fun hm => hz _ hm rfl
  have h9 : c9 = s.heap[q] := by
    rw [hs] at e2
    exact e2
  have e5 : U.heap[q]? = some c9 := e1
  rw [e5, h9, Array.getElem?_eq_getElem hq]
/-- the words of a throw but the four that speak of the heap -/
def vx_no (w : Cond) : Bool := decide (w ≠ .isRef (.static Bundle.tN "UNASSIGNED_STACK" Bundle.steD)) && decide (w ≠ .isRef (.static Bundle.tN "SUPPRESSED_SENTINEL" Bundle.listD)) && decide (w ≠ .laysStatic Bundle.tN "UNASSIGNED_STACK" Bundle.steD) && decide (w ≠ .laysStatic Bundle.tN "SUPPRESSED_SENTINEL" Bundle.listD)
def vx_at0 (own : String) (ic : Nat) (X : String) (names : List String) : List Cond := (Bundle.ownAtoms0 own ic X names).filter vx_no
def vx_atS (own : String) (ic : Nat) (X : String) (names : List String) : List Cond := (Bundle.ownAtoms own ic X names).filter vx_no
/-- a word that the tables alone decide, or a good one -/
def vx_ot (w : Cond) : Bool := w.onTables || goodWord w
theorem vx_ot_at {args a' : Array Value} {s U : State} {w : Cond} (hW : s.WarmedH U.vm) (hvm : s.vm = U.vm) (hg : vx_ot w = true) (h : w.before args s = true) : w.before a' U = true := by
  simp only [vx_ot, Bool.or_eq_true] at hg
  rcases hg with hg | hg
  · exact va_tabs hg hvm h
  · exact word_at hW (good_of_word hg) h
/-- a list's words: the good ones out of the method's own list, the others by premises of their own -/
theorem vx_hat {args : Array Value} {s : State} {L B : List Cond} (h1 : ∀ w ∈ L.filter goodWord, w.before args s = true) (h2 : ∀ w ∈ L.filter (fun w => !goodWord w), w ∈ B) (h3 : ∀ w ∈ B, w.before args s = true) : ∀ w ∈ L, w.before args s = true := by
  intro w hw
  by_cases g : goodWord w = true
  · exact h1 w (List.mem_filter.mpr ⟨hw, g⟩)
  · refine h3 w (h2 w (List.mem_filter.mpr ⟨hw, ?_⟩))
    show (!goodWord w) = true
    cases hgw : goodWord w
    · rfl
    · exact absurd hgw g
theorem vx_c {args : Array Value} {s : State} {w : Cond} {B : List Cond} (h : w.before args s = true) (t : ∀ w ∈ B, w.before args s = true) : ∀ w' ∈ w :: B, w'.before args s = true := fun w' h' => (List.mem_cons.mp h').elim (fun e => by rw [e]; exact h) (t w')
theorem vx_n {args : Array Value} {s : State} : ∀ w ∈ ([] : List Cond), w.before args s = true := fun _ h => nomatch h
theorem vx_own {args : Array Value} {s : State} {L : List Cond} (h1 : ∀ w ∈ L.filter vx_no, w.before args s = true)
    (hU : (Cond.isRef (.static Bundle.tN "UNASSIGNED_STACK" Bundle.steD)).before args s = true) (hN : (Cond.isRef (.static Bundle.tN "SUPPRESSED_SENTINEL" Bundle.listD)).before args s = true)
    (lU : (Cond.laysStatic Bundle.tN "UNASSIGNED_STACK" Bundle.steD).before args s = true) (lN : (Cond.laysStatic Bundle.tN "SUPPRESSED_SENTINEL" Bundle.listD).before args s = true) : ∀ w ∈ L, w.before args s = true := by
  intro w hw
  by_cases e1 : w = .isRef (.static Bundle.tN "UNASSIGNED_STACK" Bundle.steD)
  · rw [e1]; exact hU
  · by_cases e2 : w = .isRef (.static Bundle.tN "SUPPRESSED_SENTINEL" Bundle.listD)
    · rw [e2]; exact hN
    · by_cases e3 : w = .laysStatic Bundle.tN "UNASSIGNED_STACK" Bundle.steD
      · rw [e3]; exact lU
      · by_cases e4 : w = .laysStatic Bundle.tN "SUPPRESSED_SENTINEL" Bundle.listD
        · rw [e4]; exact lN
        · exact h1 w (List.mem_filter.mpr ⟨hw, by unfold vx_no; rw [decide_eq_true e1, decide_eq_true e2, decide_eq_true e3, decide_eq_true e4]; rfl⟩)
/-- where a static field lies, its class's statics cell in H -/
def vx_L (C n d : String) (A : Nat → Prop) (U : State) (H : Heap) : Prop := ∃ (c : ClassId) (k : Class) (i : Nat) (f : Field) (a : Nat) (cell : Cell), U.vm.findClass C = some c ∧ U.fieldFound? C n d = some (c, k, i, f) ∧ f.isStatic = true ∧ k.statics = some a ∧ H[a]? = some cell ∧ cell.vm.isStatics = true ∧ cell.cls = c ∧ f.slot < cell.slots.size ∧ k.staticTypes[f.slot]? = some f.type ∧ ¬ A a
theorem vx_L.moved {C n d : String} {A : Nat → Prop} {u U : State} {H : Heap} (hvm : u.vm.Alike U.vm) (h : vx_L C n d A u H) : vx_L C n d A U H := by
  obtain ⟨c, k, i, f, a, cell, h1, h2, h3, h4, h5, h6, h7, h8, h9, h10⟩ := h
  obtain ⟨k', hi', he⟩ := State.fieldFound?_setVm hvm h2
  exact ⟨c, k', i, f, a, cell, by rw [hvm.findClass]; exact h1, hi', h3, by rw [he]; exact h4, h5, h6, h7, h8, by rw [he]; exact h9, h10⟩
theorem vx_L.kept {C n d : String} {A : Nat → Prop} {U : State} {H H1 : Heap} (h : vx_L C n d A U H) (hq : ∀ a : Nat, a < H.size → ¬ A a → H1[a]? = H[a]?) : vx_L C n d A U H1 := by
  obtain ⟨c, k, i, f, a, cell, h1, h2, h3, h4, h5, h6, h7, h8, h9, h10⟩ := h
  exact ⟨c, k, i, f, a, cell, h1, h2, h3, h4, by rw [hq a (Array.getElem?_eq_some_iff.mp h5).1 h10]; exact h5, h6, h7, h8, h9, h10⟩
theorem vx_L.narrow {C n d : String} {A B : Nat → Prop} {U : State} {H : Heap} (h : vx_L C n d A U H) (hAB : ∀ q, B q → A q) : vx_L C n d B U H := by
  obtain ⟨c, k, i, f, a, cell, h1, h2, h3, h4, h5, h6, h7, h8, h9, h10⟩ := h
  exact ⟨c, k, i, f, a, cell, h1, h2, h3, h4, h5, h6, h7, h8, h9, fun z => h10 (hAB _ z)⟩
theorem vx_L.word {C n d : String} {A : Nat → Prop} {s : State} {args : Array Value} (h : vx_L C n d A s s.heap) : (Cond.laysStatic C n d).before args s = true := by
  obtain ⟨c, k, i, f, a, cell, h1, h2, h3, h4, h5, h6, h7, h8, h9, -⟩ := h
  show (Cond.laysStatic C n d).holds args s none s [] = true
  exact Cond.laysStatic_of h1 h2 h3 h4 h5 h6 h7 h8 h9
/-- .. and what it holds: null or some reference -/
def vx_Zq (C n d : String) (A : Nat → Prop) (U : State) (H : Heap) : Prop := va_Zq C n d A U H ∧ vx_L C n d A U H
theorem vx_Zq.moved {C n d : String} {A : Nat → Prop} {u U : State} {H : Heap} (hvm : u.vm.Alike U.vm) (h : vx_Zq C n d A u H) : vx_Zq C n d A U H := ⟨va_Zq.moved hvm h.1, vx_L.moved hvm h.2⟩
theorem vx_Zq.kept {C n d : String} {A : Nat → Prop} {U : State} {H H1 : Heap} (h : vx_Zq C n d A U H) (hq : ∀ a : Nat, a < H.size → ¬ A a → H1[a]? = H[a]?) : vx_Zq C n d A U H1 := ⟨va_Zq.kept h.1 hq, vx_L.kept h.2 hq⟩
theorem vx_Zq.narrow {C n d : String} {A B : Nat → Prop} {U : State} {H : Heap} (h : vx_Zq C n d A U H) (hAB : ∀ q, B q → A q) : vx_Zq C n d B U H := ⟨va_Zq.narrow h.1 hAB, vx_L.narrow h.2 hAB⟩
theorem vx_Zqof {args : Array Value} {s : State} {C n d : String} {A : Nat → Prop} (hl : (Cond.laysStatic C n d).before args s = true) (hini : (Cond.initialized C).before args s = true) (h : (Cond.isRef (.static C n d)).before args s = true) (hA : ∀ a : Nat, a < s.heap.size → ¬ A a) : vx_Zq C n d A s s.heap := by
  refine ⟨va_Zqof hl hini h hA, ?_⟩
  obtain ⟨c, k, i, f, a, cell, h1, h2, h3, h4, h5, h6, h7, h8, h9⟩ := Cond.laysStatic_spec hl
  exact ⟨c, k, i, f, a, cell, h1, h2, h3, h4, h5, h6, h7, h8, h9, hA a (Array.getElem?_eq_some_iff.mp h5).1⟩
theorem vx_isRef {C n d : String} {v : Value} {A : Nat → Prop} {s : State} {args : Array Value} (h : va_Z C n d v A s s.heap) (hv : v.isRef = true) : (Cond.isRef (.static C n d)).before args s = true := by
  obtain ⟨cf, kf, fi, f, a, cell, h1, h2, h3, h4, h5, h6, h7, -⟩ := h
  have he : (Term.static C n d).eval args s none [] s = some v := by
    simp [Term.eval, State.fieldNamed?, h1, h2, h4, h5, h6, h7]
  simp only [Cond.before, Cond.holds, Cond.value, he]
  cases v <;> simp_all [Value.isRef]
theorem vx_isRefq {C n d : String} {A : Nat → Prop} {s : State} {args : Array Value} (h : va_Zq C n d A s s.heap) : (Cond.isRef (.static C n d)).before args s = true := by
  rcases h with h | ⟨t, h⟩
  · exact vx_isRef h rfl
  · exact vx_isRef h rfl
/-- the same frame, seen from here: as if the method were called anew in this heap -/
theorem vx_rebase {T : State} (X : Stand p l e R s m args below meth c T locs cells slots) {R' : Room} (hf : R'.frames ≤ R.frames) (hl : R'.locals ≤ R.locals) (hc : cells + R'.cells ≤ R.cells) (hs : slots + R'.slots ≤ R.slots) :
    Stand p l e R' ((T.setVm s.vm).setFrames (.invoking m args :: below)) m args below meth c T [] 0 0 := by
  have htop : (T.setVm s.vm).topJava?.isSome := X.here.top
  have hF : ((T.setVm s.vm).setFrames (.invoking m args :: below)).frames = .invoking m args :: below := State.frames_setFrames _ (State.cur_lt_of_top htop)
  obtain ⟨g₀, hg0⟩ := Option.isSome_iff_exists.mp htop
  obtain ⟨r, hr⟩ := State.topJava?_eq_some.mp hg0
  have hl9 : e.platform.stackLimits (T.setVm s.vm).me = e.platform.stackLimits s.me := X.limits
  have hb9 : (T.setVm s.vm).me.stackBytes = s.me.stackBytes := X.bytes
  refine ⟨X.admits, X.cas, X.clock, hF, ?_, X.hears, X.method, X.code, X.here, X.tail, X.warmed, ?_, ?_, ?_⟩
  · have h := X.room
    have hU : ((T.setVm s.vm).setFrames (.invoking m args :: below)).localsInUse = s.localsInUse := by
      rw [State.localsInUse_invoking hF (meth := meth) (c := c) X.method X.code, State.localsInUse_invoking X.frames X.method X.code]
    simp only [State.hasRoom, Bool.and_eq_true, decide_eq_true_eq] at h ⊢
    obtain ⟨⟨⟨⟨h1, h2, h3, h4, h5, h6⟩, h7⟩, h8⟩, h9⟩ := h
    rw [X.frames, List.length_cons] at h2 h3
    have q1 := X.heapSize
    have q2 := X.used
    simp only [hF, hU, List.length_cons, State.stackLimits_setFrames, State.stackBytes_setFrames, hl9, hb9]
    refine ⟨⟨⟨⟨by omega, by omega, by omega, by omega, by omega, h6⟩, ?_⟩, ?_⟩, X.book⟩
    · show T.heap.size + R'.cells ≤ e.platform.maxCells
      omega
    · show T.slotsUsed + R'.slots ≤ e.platform.maxSlots
      omega
  · rw [State.stackLimits_setFrames]; rfl
  · rw [State.stackBytes_setFrames]; rfl
  · refine ⟨?_, Nat.le_refl _, Nat.le_refl _, ?_, ?_, fun a c9 h9 => ⟨c9, h9, rfl, rfl, fun _ _ => rfl⟩⟩
    · obtain ⟨t, ht, -⟩ := State.frames_cons hr
      show T.setVm s.vm = { ((T.setVm s.vm).setFrames (.invoking m args :: below)).setFrames (T.setVm s.vm).frames with heap := T.heap, slotsUsed := T.slotsUsed }
      rw [State.setFrames_setFrames, State.setFrames_self ht]
      rfl
    · show T.slotsUsed = T.slotsUsed + ((T.heap.toList.drop T.heap.size).map (·.slots.size)).sum
      rw [List.drop_eq_nil_of_le (Nat.le_of_eq Array.length_toList)]
      rfl
    · show ((T.heap.toList.drop T.heap.size).map (·.slots.size)).sum ≤ 0
      rw [List.drop_eq_nil_of_le (Nat.le_of_eq Array.length_toList)]
      exact Nat.le_refl _
/-- 'throw new E()': new; dup; invokespecial; athrow -/
theorem vx_throw0 {cc : ByteArray} {pc : Nat} (hexec : p.tables.exec = Jvm.exec) (hb : c.code = cc) (hl : l.stackTraces = false) {own cls : String} {names : List String} {ik ic mc ms : Nat} {A : Nat → Prop}
    (hown : s.vm.findClass own = some m.cls) (hcls : Bundle.fit cls = true) (hnames : ∀ n ∈ names, Bundle.fit n = true)
    (hk : (Cond.classLink own ik cls).before args s = true) (hini : (Cond.initialized cls).before args s = true) (hat : ∀ w ∈ vx_at0 own ic cls names, w.before args s = true)
    (hgood : ∀ w ∈ Cond.classLink own ik cls :: Cond.initialized cls :: vx_at0 own ic cls names, vx_ot w = true)
    (hU : vx_Zq Bundle.tN "UNASSIGNED_STACK" Bundle.steD A s s.heap) (hN : vx_Zq Bundle.tN "SUPPRESSED_SENTINEL" Bundle.listD A s s.heap) (hS : va_S A s.heap H locs) (hsize : ls.size = c.maxLocals)
    (d0 : decode cc pc = .ok (.new ik, 3)) (d3 : decode cc (pc + 3) = .ok (.dup, 1)) (d4 : decode cc (pc + 4) = .ok (.invokespecial ic, 3)) (d7 : decode cc (pc + 7) = .ok (.athrow, 1))
    (hout : ∀ x ∈ c.exceptionTable.toList, covers x (pc + 7) = false)
    (hRframes : names.length + 3 < R.frames) (hRlocals : (rest.map fun v => v.category).sum + (13 * (names.length + 1) + 42) ≤ R.locals) (hRcells : cells + 1 ≤ R.cells) (hRslots : slots + 6 ≤ R.slots) (hlocks : meth.locks = false)
    (hx : ∀ t : State, s.vm.Alike t.vm → H.size ≤ t.heap.size → (∀ q : Nat, q < H.size → t.heap[q]? = H[q]?) → XC cls s t)
    (hf : ∀ z ∈ locs, free z.base) (hc : cells + 1 ≤ mc) (hs : slots + 6 ≤ ms) :
    W p l e R s m args below meth c H locs cells slots (vx_MQ below Qc XC args s mc ms free) (F0 m pc ls rest) := by
  intro T hT X
  have htr : e.platform.stackTraces = false := (show e.platform.stackTraces = l.stackTraces by rw [X.admits.platform]).trans hl
  have Y := vx_rebase X (R' := { frames := R.frames, locals := R.locals, cells := 1, slots := 6 }) (Nat.le_refl _) (Nat.le_refl _) hRcells hRslots
  obtain ⟨s', hA⟩ : ∃ z, z = (T.setVm s.vm).setFrames (.invoking m args :: below) := ⟨_, rfl⟩
  rw [← hA] at Y
  have hvm : s'.vm = s.vm := by rw [hA]; rfl
  have hhp : s'.heap = H := by rw [hA]; exact hT
  have hW0 : s.WarmedH s'.vm := by rw [hvm]; exact State.WarmedH.refl s
  have hat' : ∀ w ∈ vx_at0 own ic cls names, w.before args s' = true := fun w hw => vx_ot_at hW0 hvm.symm (hgood w (List.mem_cons_of_mem _ (List.mem_cons_of_mem _ hw))) (hat w hw)
  have hk' : (Cond.classLink own ik cls).before args s' = true := vx_ot_at hW0 hvm.symm (hgood _ List.mem_cons_self) hk
  have hini' : (Cond.initialized cls).before args s' = true := vx_ot_at hW0 hvm.symm (hgood _ (List.mem_cons_of_mem _ List.mem_cons_self)) hini
  have hU' : vx_Zq Bundle.tN "UNASSIGNED_STACK" Bundle.steD A s' s'.heap := by rw [hhp]; exact vx_Zq.moved hW0.alike (hU.kept hS.2.1)
  have hN' : vx_Zq Bundle.tN "SUPPRESSED_SENTINEL" Bundle.listD A s' s'.heap := by rw [hhp]; exact vx_Zq.moved hW0.alike (hN.kept hS.2.1)
  have h : ∀ w ∈ Bundle.ownAtoms0 own ic cls names, w.before args s' = true := vx_own hat' (vx_isRefq hU'.1) (vx_isRefq hN'.1) hU'.2.word hN'.2.word
  have hown' : s'.vm.findClass own = some m.cls := by rw [hvm]; exact hown
  have hins : (Cond.instantiable cls 6).before args s' = true := h _ (by simp [Bundle.ownAtoms0])
  obtain ⟨vm₁, cX, kX, hfX, hkX, -, -, X₁, st1⟩ := Y.newCold hexec (own := own) (C := cls) (index := ik) (n := 6) hown' hk' hins hini'
    (g := F0 m pc ls rest) rfl (by rw [hb]; exact d0) (Nat.le_refl _) (Nat.le_refl _)
  generalize hT1 : (T.setVm vm₁).pushCell { cls := cX, slots := kX.instanceTypes.map defaultValue, vm := .none } = T1 at X₁ st1
  have hcat : (Value.ref T.heap.size).category = 1 := rfl
  have hcellA : T1.heap[T.heap.size]? = some (freshCell cX kX) := by rw [← hT1]; exact State.heap_pushCell_size _ _
  have d3' : decode c.code (pc + 3) = .ok (.dup, 1) := by rw [hb]; exact d3
  obtain ⟨U, hsteps, hrun, hend, hW, hsame, ce, hce, hO⟩ := X₁.ctorThrow0 hexec htr (own := own) (cls := cls) (names := names) (ic := ic) hown' hcls hnames h (fun x hx => nomatch hx) hfX hkX hcellA (by rw [hhp, hT]; exact Nat.le_refl _)
    (g := { method := m, pc := pc + 4, locals := ls, stack := .ref T.heap.size :: .ref T.heap.size :: rest, locked := none }) rfl hsize rfl rfl (rest := rest) rfl
    (by rw [hb]; exact d4) (by rw [hb]; exact d7) hout hRframes (by simp only [List.map_cons, List.sum_cons, hcat]; omega) hlocks
  obtain ⟨f1, f2⟩ := vx_frame hsame
  rw [hhp] at f1 f2
  have hWs : s.WarmedH U.vm := State.WarmedH.trans hW0 hW
  have hcl : s.vm.findClass cls = some ce.cls := by
    have h9 := hO.cls
    rw [hvm] at h9
    exact h9
  have hall : s.sameButNew ({ U with vm := s.vm } : State) locs mc ms := by
    subst hA
    obtain ⟨e1, e2⟩ := hsame
    rw [State.setFrames_setFrames] at e1
    have h2 : (T.setVm s.vm).sameButNew ({ U with vm := s.vm } : State) [] (0 + 1) (0 + 6) := ⟨e1, e2⟩
    have h3 := X.same.trans h2
    rw [List.append_nil] at h3
    exact h3.mono hc hs
  refine ⟨U, ?_, .threw T.heap.size, hrun, hend, Or.inr ⟨T.heap.size, rfl, cls, ce, locs, hx U hWs.alike f1 (fun q hq => f2 q hq (fun z hz => nomatch hz)), hce, hO.vm, hcl, hWs, hall, hf⟩⟩
  refine st1 _ ?_
  show Steps p.tables e below (T1.setTop { method := m, pc := pc + 3, locals := ls, stack := .ref T.heap.size :: rest, locked := none }) _
  jvm_step X₁.here [X₁.here.top, hexec, d3', Value.category]
  exact hsteps
/-- 'throw new E("text")': new; dup; ldc; invokespecial; athrow -/
theorem vx_throwS {cc : ByteArray} {pc : Nat} (hexec : p.tables.exec = Jvm.exec) (hb : c.code = cc) (hl : l.stackTraces = false) {own cls text : String} {names : List String} {ik is ic mc ms sa : Nat} {A : Nat → Prop}
    (hown : s.vm.findClass own = some m.cls) (hcls : Bundle.fit cls = true) (hnames : ∀ n ∈ names, Bundle.fit n = true)
    (hk : (Cond.classLink own ik cls).before args s = true) (hini : (Cond.initialized cls).before args s = true) (hstr : vk_R own is text sa s) (hat : ∀ w ∈ vx_atS own ic cls names, w.before args s = true)
    (hgood : ∀ w ∈ Cond.classLink own ik cls :: Cond.initialized cls :: vx_atS own ic cls names, vx_ot w = true)
    (hU : vx_Zq Bundle.tN "UNASSIGNED_STACK" Bundle.steD A s s.heap) (hN : vx_Zq Bundle.tN "SUPPRESSED_SENTINEL" Bundle.listD A s s.heap) (hS : va_S A s.heap H locs) (hsize : ls.size = c.maxLocals)
    (d0 : decode cc pc = .ok (.new ik, 3)) (d3 : decode cc (pc + 3) = .ok (.dup, 1)) (d4 : decode cc (pc + 4) = .ok (.ldc is, 2)) (d6 : decode cc (pc + 6) = .ok (.invokespecial ic, 3)) (d9 : decode cc (pc + 9) = .ok (.athrow, 1))
    (hout : ∀ x ∈ c.exceptionTable.toList, covers x (pc + 9) = false)
    (hRframes : names.length + 3 < R.frames) (hRlocals : (rest.map fun v => v.category).sum + (13 * (names.length + 1) + 43) ≤ R.locals) (hRcells : cells + 1 ≤ R.cells) (hRslots : slots + 6 ≤ R.slots) (hlocks : meth.locks = false)
    (hx : ∀ t : State, s.vm.Alike t.vm → H.size ≤ t.heap.size → (∀ q : Nat, q < H.size → t.heap[q]? = H[q]?) → XC cls s t)
    (hf : ∀ z ∈ locs, free z.base) (hc : cells + 1 ≤ mc) (hs : slots + 6 ≤ ms) :
    W p l e R s m args below meth c H locs cells slots (vx_MQ below Qc XC args s mc ms free) (F0 m pc ls rest) := by
  intro T hT X
  have htr : e.platform.stackTraces = false := (show e.platform.stackTraces = l.stackTraces by rw [X.admits.platform]).trans hl
  have Y := vx_rebase X (R' := { frames := R.frames, locals := R.locals, cells := 1, slots := 6 }) (Nat.le_refl _) (Nat.le_refl _) hRcells hRslots
  obtain ⟨s', hA⟩ : ∃ z, z = (T.setVm s.vm).setFrames (.invoking m args :: below) := ⟨_, rfl⟩
  rw [← hA] at Y
  have hvm : s'.vm = s.vm := by rw [hA]; rfl
  have hhp : s'.heap = H := by rw [hA]; exact hT
  have hW0 : s.WarmedH s'.vm := by rw [hvm]; exact State.WarmedH.refl s
  have hat' : ∀ w ∈ vx_atS own ic cls names, w.before args s' = true := fun w hw => vx_ot_at hW0 hvm.symm (hgood w (List.mem_cons_of_mem _ (List.mem_cons_of_mem _ hw))) (hat w hw)
  have hk' : (Cond.classLink own ik cls).before args s' = true := vx_ot_at hW0 hvm.symm (hgood _ List.mem_cons_self) hk
  have hini' : (Cond.initialized cls).before args s' = true := vx_ot_at hW0 hvm.symm (hgood _ (List.mem_cons_of_mem _ List.mem_cons_self)) hini
  have hU' : vx_Zq Bundle.tN "UNASSIGNED_STACK" Bundle.steD A s' s'.heap := by rw [hhp]; exact vx_Zq.moved hW0.alike (hU.kept hS.2.1)
  have hN' : vx_Zq Bundle.tN "SUPPRESSED_SENTINEL" Bundle.listD A s' s'.heap := by rw [hhp]; exact vx_Zq.moved hW0.alike (hN.kept hS.2.1)
  have h : ∀ w ∈ Bundle.ownAtoms own ic cls names, w.before args s' = true := vx_own hat' (vx_isRefq hU'.1) (vx_isRefq hN'.1) hU'.2.word hN'.2.word
  have hown' : s'.vm.findClass own = some m.cls := by rw [hvm]; exact hown
  have hins : (Cond.instantiable cls 6).before args s' = true := h _ (by simp [Bundle.ownAtoms])
  obtain ⟨vm₁, cX, kX, hfX, hkX, -, -, X₁, st1⟩ := Y.newCold hexec (own := own) (C := cls) (index := ik) (n := 6) hown' hk' hins hini'
    (g := F0 m pc ls rest) rfl (by rw [hb]; exact d0) (Nat.le_refl _) (Nat.le_refl _)
  generalize hT1 : (T.setVm vm₁).pushCell { cls := cX, slots := kX.instanceTypes.map defaultValue, vm := .none } = T1 at X₁ st1
  have hcat : (Value.ref T.heap.size).category = 1 := rfl
  have hcellA : T1.heap[T.heap.size]? = some (freshCell cX kX) := by rw [← hT1]; exact State.heap_pushCell_size _ _
  have d3' : decode c.code (pc + 3) = .ok (.dup, 1) := by rw [hb]; exact d3
  have d4' : decode c.code (pc + 4) = .ok (.ldc is, 2) := by rw [hb]; exact d4
  have hstr' : vk_R own is text sa s' := vk_R.warm hW0 hstr
  obtain ⟨U, hsteps, hrun, hend, hW, hsame, ce, hce, hO⟩ := X₁.ctorThrowS hexec htr (own := own) (cls := cls) (names := names) (ic := ic) hown' hcls hnames h (fun x hx => nomatch hx) hfX hkX hcellA (by rw [hhp, hT]; exact Nat.le_refl _) (msg := .ref sa) rfl
    (g := { method := m, pc := pc + 6, locals := ls, stack := .ref sa :: .ref T.heap.size :: .ref T.heap.size :: rest, locked := none }) rfl hsize rfl rfl (rest := rest) rfl
    (by rw [hb]; exact d6) (by rw [hb]; exact d9) hout hRframes (by simp only [List.map_cons, List.sum_cons, hcat]; omega) hlocks
  obtain ⟨f1, f2⟩ := vx_frame hsame
  rw [hhp] at f1 f2
  have hWs : s.WarmedH U.vm := State.WarmedH.trans hW0 hW
  have hcl : s.vm.findClass cls = some ce.cls := by
    have h9 := hO.cls
    rw [hvm] at h9
    exact h9
  have hall : s.sameButNew ({ U with vm := s.vm } : State) locs mc ms := by
    subst hA
    obtain ⟨e1, e2⟩ := hsame
    rw [State.setFrames_setFrames] at e1
    have h2 : (T.setVm s.vm).sameButNew ({ U with vm := s.vm } : State) [] (0 + 1) (0 + 6) := ⟨e1, e2⟩
    have h3 := X.same.trans h2
    rw [List.append_nil] at h3
    exact h3.mono hc hs
  refine ⟨U, ?_, .threw T.heap.size, hrun, hend, Or.inr ⟨T.heap.size, rfl, cls, ce, locs, hx U hWs.alike f1 (fun q hq => f2 q hq (fun z hz => nomatch hz)), hce, hO.vm, hcl, hWs, hall, hf⟩⟩
  refine st1 _ ?_
  show Steps p.tables e below (T1.setTop { method := m, pc := pc + 3, locals := ls, stack := .ref T.heap.size :: rest, locked := none }) _
  jvm_step X₁.here [X₁.here.top, hexec, d3', Value.category]
  exact X₁.ldcString hexec (own := own) (text := text) (index := is) (a := sa) hown' hstr'.1 hstr'.2
    (g := { method := m, pc := pc + 4, locals := ls, stack := .ref T.heap.size :: .ref T.heap.size :: rest, locked := none }) rfl d4' _ hsteps
/-- 'throw new E("text")', the text by a wide index -/
theorem vx_throwSW {cc : ByteArray} {pc : Nat} (hexec : p.tables.exec = Jvm.exec) (hb : c.code = cc) (hl : l.stackTraces = false) {own cls text : String} {names : List String} {ik is ic mc ms sa : Nat} {A : Nat → Prop}
    (hown : s.vm.findClass own = some m.cls) (hcls : Bundle.fit cls = true) (hnames : ∀ n ∈ names, Bundle.fit n = true)
    (hk : (Cond.classLink own ik cls).before args s = true) (hini : (Cond.initialized cls).before args s = true) (hstr : vk_R own is text sa s) (hat : ∀ w ∈ vx_atS own ic cls names, w.before args s = true)
    (hgood : ∀ w ∈ Cond.classLink own ik cls :: Cond.initialized cls :: vx_atS own ic cls names, vx_ot w = true)
    (hU : vx_Zq Bundle.tN "UNASSIGNED_STACK" Bundle.steD A s s.heap) (hN : vx_Zq Bundle.tN "SUPPRESSED_SENTINEL" Bundle.listD A s s.heap) (hS : va_S A s.heap H locs) (hsize : ls.size = c.maxLocals)
    (d0 : decode cc pc = .ok (.new ik, 3)) (d3 : decode cc (pc + 3) = .ok (.dup, 1)) (d4 : decode cc (pc + 4) = .ok (.ldc_w is, 3)) (d7 : decode cc (pc + 7) = .ok (.invokespecial ic, 3)) (d10 : decode cc (pc + 10) = .ok (.athrow, 1))
    (hout : ∀ x ∈ c.exceptionTable.toList, covers x (pc + 10) = false)
    (hRframes : names.length + 3 < R.frames) (hRlocals : (rest.map fun v => v.category).sum + (13 * (names.length + 1) + 43) ≤ R.locals) (hRcells : cells + 1 ≤ R.cells) (hRslots : slots + 6 ≤ R.slots) (hlocks : meth.locks = false)
    (hx : ∀ t : State, s.vm.Alike t.vm → H.size ≤ t.heap.size → (∀ q : Nat, q < H.size → t.heap[q]? = H[q]?) → XC cls s t)
    (hf : ∀ z ∈ locs, free z.base) (hc : cells + 1 ≤ mc) (hs : slots + 6 ≤ ms) :
    W p l e R s m args below meth c H locs cells slots (vx_MQ below Qc XC args s mc ms free) (F0 m pc ls rest) := by
  intro T hT X
  have htr : e.platform.stackTraces = false := (show e.platform.stackTraces = l.stackTraces by rw [X.admits.platform]).trans hl
  have Y := vx_rebase X (R' := { frames := R.frames, locals := R.locals, cells := 1, slots := 6 }) (Nat.le_refl _) (Nat.le_refl _) hRcells hRslots
  obtain ⟨s', hA⟩ : ∃ z, z = (T.setVm s.vm).setFrames (.invoking m args :: below) := ⟨_, rfl⟩
  rw [← hA] at Y
  have hvm : s'.vm = s.vm := by rw [hA]; rfl
  have hhp : s'.heap = H := by rw [hA]; exact hT
  have hW0 : s.WarmedH s'.vm := by rw [hvm]; exact State.WarmedH.refl s
  have hat' : ∀ w ∈ vx_atS own ic cls names, w.before args s' = true := fun w hw => vx_ot_at hW0 hvm.symm (hgood w (List.mem_cons_of_mem _ (List.mem_cons_of_mem _ hw))) (hat w hw)
  have hk' : (Cond.classLink own ik cls).before args s' = true := vx_ot_at hW0 hvm.symm (hgood _ List.mem_cons_self) hk
  have hini' : (Cond.initialized cls).before args s' = true := vx_ot_at hW0 hvm.symm (hgood _ (List.mem_cons_of_mem _ List.mem_cons_self)) hini
  have hU' : vx_Zq Bundle.tN "UNASSIGNED_STACK" Bundle.steD A s' s'.heap := by rw [hhp]; exact vx_Zq.moved hW0.alike (hU.kept hS.2.1)
  have hN' : vx_Zq Bundle.tN "SUPPRESSED_SENTINEL" Bundle.listD A s' s'.heap := by rw [hhp]; exact vx_Zq.moved hW0.alike (hN.kept hS.2.1)
  have h : ∀ w ∈ Bundle.ownAtoms own ic cls names, w.before args s' = true := vx_own hat' (vx_isRefq hU'.1) (vx_isRefq hN'.1) hU'.2.word hN'.2.word
  have hown' : s'.vm.findClass own = some m.cls := by rw [hvm]; exact hown
  have hins : (Cond.instantiable cls 6).before args s' = true := h _ (by simp [Bundle.ownAtoms])
  obtain ⟨vm₁, cX, kX, hfX, hkX, -, -, X₁, st1⟩ := Y.newCold hexec (own := own) (C := cls) (index := ik) (n := 6) hown' hk' hins hini'
    (g := F0 m pc ls rest) rfl (by rw [hb]; exact d0) (Nat.le_refl _) (Nat.le_refl _)
  generalize hT1 : (T.setVm vm₁).pushCell { cls := cX, slots := kX.instanceTypes.map defaultValue, vm := .none } = T1 at X₁ st1
  have hcat : (Value.ref T.heap.size).category = 1 := rfl
  have hcellA : T1.heap[T.heap.size]? = some (freshCell cX kX) := by rw [← hT1]; exact State.heap_pushCell_size _ _
  have d3' : decode c.code (pc + 3) = .ok (.dup, 1) := by rw [hb]; exact d3
  have d4' : decode c.code (pc + 4) = .ok (.ldc_w is, 3) := by rw [hb]; exact d4
  have hstr' : vk_R own is text sa s' := vk_R.warm hW0 hstr
  obtain ⟨U, hsteps, hrun, hend, hW, hsame, ce, hce, hO⟩ := X₁.ctorThrowS hexec htr (own := own) (cls := cls) (names := names) (ic := ic) hown' hcls hnames h (fun x hx => nomatch hx) hfX hkX hcellA (by rw [hhp, hT]; exact Nat.le_refl _) (msg := .ref sa) rfl
    (g := { method := m, pc := pc + 7, locals := ls, stack := .ref sa :: .ref T.heap.size :: .ref T.heap.size :: rest, locked := none }) rfl hsize rfl rfl (rest := rest) rfl
    (by rw [hb]; exact d7) (by rw [hb]; exact d10) hout hRframes (by simp only [List.map_cons, List.sum_cons, hcat]; omega) hlocks
  obtain ⟨f1, f2⟩ := vx_frame hsame
  rw [hhp] at f1 f2
  have hWs : s.WarmedH U.vm := State.WarmedH.trans hW0 hW
  have hcl : s.vm.findClass cls = some ce.cls := by
    have h9 := hO.cls
    rw [hvm] at h9
    exact h9
  have hall : s.sameButNew ({ U with vm := s.vm } : State) locs mc ms := by
    subst hA
    obtain ⟨e1, e2⟩ := hsame
    rw [State.setFrames_setFrames] at e1
    have h2 : (T.setVm s.vm).sameButNew ({ U with vm := s.vm } : State) [] (0 + 1) (0 + 6) := ⟨e1, e2⟩
    have h3 := X.same.trans h2
    rw [List.append_nil] at h3
    exact h3.mono hc hs
  refine ⟨U, ?_, .threw T.heap.size, hrun, hend, Or.inr ⟨T.heap.size, rfl, cls, ce, locs, hx U hWs.alike f1 (fun q hq => f2 q hq (fun z hz => nomatch hz)), hce, hO.vm, hcl, hWs, hall, hf⟩⟩
  refine st1 _ ?_
  show Steps p.tables e below (T1.setTop { method := m, pc := pc + 3, locals := ls, stack := .ref T.heap.size :: rest, locked := none }) _
  jvm_step X₁.here [X₁.here.top, hexec, d3', Value.category]
  exact X₁.ldcStringW hexec (own := own) (text := text) (index := is) (a := sa) hown' hstr'.1 hstr'.2
    (g := { method := m, pc := pc + 4, locals := ls, stack := .ref T.heap.size :: .ref T.heap.size :: rest, locked := none }) rfl d4' _ hsteps
end Ends
section Bodies
variable {l : Launch}
theorem vx_ofW {y : MethodName} {ws ws' : List Cond} {rm : Room} {Pc : Array Value → State → Prop} {Qc : Array Value → State → Outcome → State → Prop} {XC : String → State → State → Prop} {mc ms : Nat} {free : Addr → Prop} {cc : ByteArray} {maxL : Nat} {ret : Option FieldType}
    (hy : plainName y.cls = true) (hw : ws = Cond.code y cc maxL ret :: ws')
    (body : ∀ p e s m args below meth c s₁, BodyLoose p l y (headSpec ws rm) cc maxL ret e s m args below meth c s₁ → c.maxLocals = maxL → (∀ x ∈ c.exceptionTable.toList, False) → Pc args s →
      W p l e (headSpec ws rm).room s m args below meth c s.heap [] 0 0 (vx_MQ below Qc XC args s mc ms free) (entryFrame m args maxL)) : vx_Met l y ws rm Pc Qc XC mc ms free := by
  refine MetFree.of_bodyS (code := cc) (maxLocals := maxL) (ret := ret) hy ?_ ?_
  · intro args s m h hn
    obtain ⟨meth, c, h1, h2, h3, h4, h5, h6, -, -⟩ := Cond.code_spec hn (atoms_spec (ws := ws) h _ (by rw [hw]; exact List.mem_cons_self))
    exact ⟨meth, c, h1, h2, h3, h4, h5, h6⟩
  · intro p e s m args below meth c s₁ B hml hP _
    have hh0 : s₁.heap = s.heap := by rw [B.state]; rfl
    have ht : ∀ x ∈ c.exceptionTable.toList, False := by
      obtain ⟨meth9, c9, h1, h2, -, -, -, -, h7, -⟩ := Cond.code_spec B.named (atoms_spec (ws := ws) B.pre _ (by rw [hw]; exact List.mem_cons_self))
      cases Option.some.inj (h1.symm.trans B.method)
      cases Option.some.inj (h2.symm.trans (Stand.of_body B).code)
      intro x hx
      rw [Array.isEmpty_iff.mp h7] at hx
      cases hx
    obtain ⟨t, a1, o, b1, b2, b3⟩ := body p e s m args below meth c s₁ B hml ht hP s₁ hh0 (Stand.of_body B)
    exact ⟨t, o, a1, b1, b2, b3⟩
/-- the table of a body with handlers -/
theorem vx_table {p : Program} {x y : MethodName} {S : Spec} {cc bytes : ByteArray} {maxL maxL' : Nat} {ret ret' : Option FieldType} {e : Env} {s s₁ : State} {m : MethodId} {args : Array Value} {below : List Frame} {meth : Method} {c : Code} {hh : List (Nat × Nat × Nat × Nat)}
    (B : BodyLoose p l y S cc maxL ret e s m args below meth c s₁) (h : (Cond.codeWith y bytes maxL' ret' hh).before args s = true) : c.exceptionTable.toList = tableOf hh := by
  obtain ⟨m9, meth9, c9, hn9, h1, h2, -, -, h6, -⟩ := Cond.codeWith_spec h
  cases Option.some.inj (hn9.symm.trans B.named)
  cases Option.some.inj (h1.symm.trans B.method)
  cases Option.some.inj (h2.symm.trans (Stand.of_body B).code)
  rw [← h6, table_eq]
end Bodies
end VXA
/-! ===== END ===== -/
/-! ===== BEGIN a static call of a method with an exception table ===== -/
section VXS
variable {p : Program} {l : Launch} {e : Env} {R : Room} {s : State} {m : MethodId} {args : Array Value} {below : List Frame} {meth : Method} {c : Code} {T : State} {H : Heap} {locs : List Loc} {cells slots : Nat}
abbrev vx_CSW (R : Room) (s : State) (args : Array Value) (own : String) (index : Nat) (y : MethodName) (bytes : ByteArray) (maxL : Nat) (ret : Option FieldType) (hh : List (Nat × Nat × Nat × Nat)) (ws : List Cond) (rm : Room) (mc ms n : Nat) : Prop :=
  (rm.cells = mc ∧ rm.slots = ms ∧ rm.frames + 1 ≤ R.frames ∧ 8 + (maxL + 11) + rm.locals ≤ R.locals ∧ (∀ w ∈ ws, ∀ (a' : Array Value) (U : State), s.WarmedH U.vm → w.before a' U = true) ∧ Cond.codeWith y bytes maxL ret hh ∈ ws) ∧
  (Cond.codeWith y bytes maxL ret hh).before args s = true ∧ (Cond.initialized y.cls).before args s = true ∧ (y.cls ≠ "java/lang/invoke/MethodHandle" ∧ y.cls ≠ "java/lang/invoke/VarHandle") ∧
  (∀ sig, parseMethodDescriptor y.desc = some sig → n = sig.parameters.length) ∧ (Cond.methodLink own index y).before args s = true ∧ (Cond.static y).before args s = true
theorem vx_cwSW {own : String} {index maxL mc ms : Nat} {y : MethodName} {bytes : ByteArray} {ret : Option FieldType} {hh : List (Nat × Nat × Nat × Nat)} {Ts ws ws' : List Cond} {rm : Room} (n : Nat) (ht : ∀ w ∈ Ts, w.before args s = true) (hT : GoodIn Ts (va_wsS own index y ws)) (hw : ws = Cond.codeWith y bytes maxL ret hh :: ws') (hrc : rm.cells = mc) (hrs : rm.slots = ms)
    (hd : y.cls ≠ "java/lang/invoke/MethodHandle" ∧ y.cls ≠ "java/lang/invoke/VarHandle" ∧ (parseMethodDescriptor y.desc).map (fun d => d.parameters.length) = some n) (hR : rm.frames + 1 ≤ R.frames ∧ 8 + (maxL + 11) + rm.locals ≤ R.locals) :
    vx_CSW R s args own index y bytes maxL ret hh ws rm mc ms n := by
  have ok : ∀ w ∈ va_wsS own index y ws, w.before args s = true := fun w h => ht w (hT w h).1
  have hG : GoodIn Ts ws := fun w h => hT w (by unfold va_wsS; exact List.mem_append_right _ h)
  have hc : Cond.codeWith y bytes maxL ret hh ∈ ws := by rw [hw]; exact List.mem_cons_self
  refine ⟨⟨hrc, hrs, hR.1, hR.2, pay_in ht hG, hc⟩, ht _ (hG _ hc).1, ok _ (by simp [va_wsS]), ⟨hd.1, hd.2.1⟩, fun sig h => ?_, ok _ (by simp [va_wsS]), ok _ (by simp [va_wsS])⟩
  have h2 := hd.2.2
  rw [h] at h2
  exact (Option.some.inj h2).symm
theorem vx_callSW (X : Stand p l e R s m args below meth c T locs cells slots) (hexec : p.tables.exec = Jvm.exec) {own : String} {index : Nat} {y : MethodName} {bytes : ByteArray} {maxL : Nat} {ret : Option FieldType} {hh : List (Nat × Nat × Nat × Nat)}
    (hown : s.vm.findClass own = some m.cls) (hlink : (Cond.methodLink own index y).before args s = true) (hstat : (Cond.static y).before args s = true) (hinit : (Cond.initialized y.cls).before args s = true)
    (hcode : (Cond.codeWith y bytes maxL ret hh).before args s = true) (hy : y.cls ≠ "java/lang/invoke/MethodHandle" ∧ y.cls ≠ "java/lang/invoke/VarHandle")
    {W9 : Nat} {Pre : Pt → Array Value → Prop} {Post : Pt → Array Value → Option Value → Pt → Prop} (hK : Back l R p e below s args y 3 W9 Pre Post)
    {g : JFrame} (hg : g.method = m) (hsize : g.locals.size = c.maxLocals) {argsL rest : List Value} (hlen : ∀ sig, parseMethodDescriptor y.desc = some sig → argsL.length = sig.parameters.length)
    (hstack : g.stack = argsL.reverse ++ rest) (hW : 2 * g.monitorRoom + (rest.map fun v => v.category).sum ≤ W9) (hdg : decode c.code g.pc = .ok (.invokestatic index, 3))
    (hpre : ∀ vm₁, s.WarmedH vm₁ → Pre ⟨T.setVm vm₁, locs, cells, slots⟩ argsL.toArray) :
    ∃ (v : Option Value) (vm₁ : Vm) (B : Pt), s.WarmedH vm₁ ∧ Stand p l e R s m args below meth c B.U B.locs B.cells B.slots ∧ Post ⟨T.setVm vm₁, locs, cells, slots⟩ argsL.toArray v B ∧
      ∀ target, Steps p.tables e below (B.U.setTop { g with pc := g.pc + 3, stack := v.toList ++ rest }) target → Steps p.tables e below (T.setTop g) target := by
  obtain ⟨mk, methM, cM, hnamed, hmethM, -, -, -, -, -, -, hsigM⟩ := Cond.codeWith_spec hcode
  have hstatic : methM.isStatic = true := Cond.static_spec hnamed hmethM hstat
  obtain ⟨kP, hkP, -⟩ := className_of_methodNamed hnamed
  have hinitP : kP.init = .initialized := Cond.initialized_spec (findClass_of_methodNamed hnamed) hkP hinit
  obtain ⟨vm₁, X₁, hstep₁⟩ := X.invokestatic hexec hown hlink hnamed hmethM hstatic hkP hinitP hy (g := g) hg (argsL := argsL) (rest := rest) (hlen _ hsigM) hstack hdg
  obtain ⟨v, B, X', hpost, hsteps⟩ := hK m meth c ⟨T.setVm vm₁, locs, cells, slots⟩ { g with stack := rest } (.invokestatic index) mk argsL.toArray X₁ hg hsize hdg hW (X₁.named hnamed) (hpre vm₁ X₁.warmed)
  exact ⟨v, vm₁, B, X₁.warmed, X', hpost, fun target h => hstep₁ _ fun acts => by rw [doInvoke_state]; exact hsteps.trans h⟩
theorem vx_runSW {y : MethodName} {bytes cc : ByteArray} {maxL nL mc ms n index : Nat} {ret : Option FieldType} {hh : List (Nat × Nat × Nat × Nat)} {ws : List Cond} {rm : Room} {Pc : Array Value → State → Prop} {Qc : Array Value → State → Outcome → State → Prop} {free : Addr → Prop} {Ts : List Cond} {own : String} {As rest : List Value} {g : JFrame}
    (S : CallFix p m c cc nL s args Ts own) (hM : Met l y ws rm Pc Qc mc ms free) (cw : vx_CSW R s args own index y bytes maxL ret hh ws rm mc ms n) (hp : PreS s H Pc As)
    (hg : g.method = m) (hn : As.length = n) (hsize : g.locals.size = nL) (hstack : g.stack = As.reverse ++ rest) (hW : 2 * g.monitorRoom + (rest.map fun v => v.category).sum ≤ 8) (hdg : decode cc g.pc = .ok (.invokestatic index, 3)) (hf : cells + mc ≤ R.cells ∧ slots + ms ≤ R.slots) :
    va_Run p l e R s m args below meth c H locs cells slots mc ms g rest (Qc As.toArray) (free) := by
  obtain ⟨⟨hrc, hrs, hfr, hlo, hws, hcw⟩, hcode, hini, hy, hlen, hl, hstt⟩ := cw
  have hK : Back l R p e below s args y 3 8 (PreOf R mc ms Pc) (PostOf Qc mc ms free) := va_backW (hh := hh) (bytes := bytes) (maxL := maxL) (ret := ret) hM hp.1 hrc hrs hfr hlo hws hcw (fun a' U hW => word_at hW (Or.inl (by first | rfl | simp [Cond.onTables, Cond.keeps, Cond.steady])) hini)
  obtain ⟨hx, hb, hml, ho, -⟩ := S
  intro T hT X
  obtain ⟨v, vm₁, ⟨U', l2, c2, s2⟩, hW₁, X', ⟨g', mk, t, L, e1, e2, hq, h1, hL, h2, h3⟩, st⟩ := vx_callSW X hx (hh := hh) (bytes := bytes) (maxL := maxL) (ret := ret) ho hl hstt hini hcode hy hK hg (hsize.trans hml.symm) (argsL := As) (rest := rest) (fun sig h => hn.trans (hlen sig h)) hstack hW (by rw [hb]; exact hdg)
    (fun vm₁ hW₁ => ⟨hf.1, hf.2, hp.2 (T.setVm vm₁) hT hW₁⟩)
  dsimp only [Pt.U, Pt.locs, Pt.cells, Pt.slots] at X' e1 e2 h1 h2 h3 st
  subst h1; subst h2; subst h3
  exact ⟨v, (T.setVm vm₁).calling g' mk As.toArray, t, U', L, hT, X', hL, e1, e2, hq, st⟩
/-- not caught here, past rows that name other classes: it goes on to the caller -/
theorem vx_outP {p : Program} {l : Launch} {e : Env} {R : Room} {s : State} {m : MethodId} {args : Array Value} {below : List Frame} {meth : Method} {c : Code} {H : Heap} {locs : List Loc} {cells slots : Nat} {free : Addr → Prop} {ls : Array Slot} {rest : List Value} {Qc : Array Value → State → Outcome → State → Prop} {XC : String → State → State → Prop}
    {pc : Nat} {own E : String} {ce : Cell} {q : Addr} {mc ms : Nat} (hown : s.vm.findClass own = some m.cls) (hlocks : meth.locks = false)
    (hpass : ∀ z ∈ c.exceptionTable.toList, covers z pc = false ∨ (z.catchType ≠ 0 ∧ ∃ nm : String, (Cond.classLink own z.catchType nm).before args s = true ∧ va_Nc E nm s)) (hcell : H[q]? = some ce) (hv : ce.vm = .none) (hcl : s.vm.findClass E = some ce.cls)
    (hx : ∀ t : State, t.heap = H → s.vm.Alike t.vm → XC E s t) (hf : ∀ z ∈ locs, free z.base) (hc : cells ≤ mc) (hs : slots ≤ ms) :
    vx_W p l e R s m args below meth c H locs cells slots (vx_MQ below Qc XC args s mc ms free) (F0 m pc ls rest) q := by
  intro T hT X
  have hpl : e.platform.magicAccessors = ({} : Platform).magicAccessors := by rw [X.admits.platform]
  obtain ⟨vm', hW', X', st⟩ := X.outThrough hlocks q (g := F0 m pc ls rest) rfl rfl rfl (cell := ce) (by rw [hT]; exact hcell) (by rw [hv]; rfl)
    (by obtain ⟨k9, h9, -⟩ := Vm.findClass_spec hcl; exact ⟨k9, h9⟩) (fun z hz => by
      rcases hpass z hz with h | ⟨hz0, nm, hl1, hn1⟩
      · exact Or.inl h
      · obtain ⟨c6, hc6, hcl6⟩ := Cond.classLink_spec hown hl1 e.platform hpl
        obtain ⟨a8, b8, h1, h2, h3⟩ := hn1
        cases Option.some.inj (h1.symm.trans hcl)
        cases Option.some.inj (h2.symm.trans hc6)
        exact Or.inr ⟨hz0, _, hcl6, h3⟩)
  obtain ⟨g₀, hfr⟩ := X'.frames_eq
  have hcell9 : ((T.setVm vm').setFrames (.throwing q :: below)).heap[q]? = some ce := by
    show T.heap[q]? = some ce
    rw [hT]; exact hcell
  have hend : Ended ((T.setVm vm').setFrames (.throwing q :: below)) below (.threw q) := State.frames_setFrames _ (State.cur_lt_of_frames hfr)
  refine ⟨(T.setVm vm').setFrames (.throwing q :: below), ?_, .threw q, X'.here.running, hend, Or.inr ⟨q, rfl, E, ce, locs, hx _ hT (X'.ends _).1.alike, hcell9, hv, hcl, (X'.ends _).1, (X'.ends _).2.mono hc hs, hf⟩⟩
  rw [X.pushThrowing_eq]
  exact st
/-- a thing of a world lies in the heap -/
theorem vx_lt {D : va_G} {cl : List vw_C} {ws : va_W} {H1 : Heap} (h : va_P D cl ws H1) {k : Nat} {q : Nat × va_E} (hk : ws[k]? = some q) : q.1 < H1.size := (h k q hk).lt
end VXS
/-! ===== END ===== -/
/-! ===== BEGIN methods with a table of their own: called by a name, returning or throwing ===== -/
section VXH
/-! vx_backW, vx_callVX, vx_callSX, vx_callVW, vx_runVW, vx_runVX, vx_runSX, vx_ofWH follow the same proofs as their sisters above (Free/Laws.lean, Shelf42/LK1.lean); vx_outP calls Shelf42/NT130.lean (outThrough). -/
section
variable {l : Launch} {R : Room} {p : Program} {e : Env} {below : List Frame} {s : State} {sargs : Array Value} {y : MethodName} {len W9 : Nat}
theorem vx_backW {ws : List Cond} {rm : Room} {Pc : Array Value → State → Prop} {Qc : Array Value → State → Outcome → State → Prop} {XC : String → State → State → Prop} {mc ms : Nat} {free : Addr → Prop} {bytes : ByteArray} {maxL : Nat} {ret : Option FieldType} {hh : List (Nat × Nat × Nat × Nat)}
    (hM : vx_Met l y ws rm Pc Qc XC mc ms free) (hblind : FrameBlind Pc) (hrc : rm.cells = mc) (hrs : rm.slots = ms)
    (hframes : rm.frames + 1 ≤ R.frames) (hlocals : W9 + (maxL + 11) + rm.locals ≤ R.locals)
    (hws : ∀ w ∈ ws, ∀ a' U, s.WarmedH U.vm → w.before a' U = true) (hcode : Cond.codeWith y bytes maxL ret hh ∈ ws) (hinit : ∀ a' U, s.WarmedH U.vm → (Cond.initialized y.cls).before a' U = true) :
    vx_Back l R p e below s sargs y len W9 (PreOf R mc ms Pc) (PostOf Qc mc ms free) (vx_Post XC mc ms free) := by
  intro m meth c A g ig mk a X hg hsize hdg hW hn hp
  have h1 : (headSpec ws rm).pre.before a A.U = true := atoms_intro fun w hw => hws w hw _ _ X.warmed
  have h2 : (Cond.codeWith y bytes maxL ret hh).before a A.U = true := hws _ hcode _ _ X.warmed
  have h3 : (Cond.initialized y.cls).before a A.U = true := hinit _ _ X.warmed
  have h4 : A.cells + (headSpec ws rm).room.cells ≤ R.cells := by rw [show (headSpec ws rm).room.cells = mc from hrc]; exact hp.1
  have h5 : A.slots + (headSpec ws rm).room.slots ≤ R.slots := by rw [show (headSpec ws rm).room.slots = ms from hrs]; exact hp.2.1
  have hPc : Pc a (A.U.calling g mk a) := hblind _ _ _ _ hp.2.2
  obtain ⟨U, Ls, c0, s0⟩ := A
  dsimp only [Pt.U, Pt.locs, Pt.cells, Pt.slots] at h1 h2 h3 h4 h5 X hn hPc ⊢
  obtain ⟨m9, methY, cY, hn9, hmY, hcY, -, hlY, -⟩ := Cond.codeWith_spec h2
  cases Option.some.inj (hn9.symm.trans hn)
  obtain ⟨kY, hkY, -⟩ := className_of_methodNamed hn
  have hinitY : kY.init = .initialized := Cond.initialized_spec (findClass_of_methodNamed hn) hkY h3
  have h : At U g.method c below := by rw [hg]; exact X.here
  have hlocals9 : W9 + (maxL + 11) + (headSpec ws rm).room.locals ≤ R.locals := hlocals
  have happ : (headSpec ws rm).appliesLoose y e.platform (U.calling g mk a) = true :=
    Spec.appliesLoose_calling (g := g) h hdg hn hkY hinitY
      (X.room_calling (g := g) (R' := (headSpec ws rm).room) hsize hmY hcY hframes (by rw [hlY]; omega) h4 h5) h1
  obtain ⟨mid, hmid⟩ := h.above
  have hfr : (U.setTop g).frames = (.java g :: mid) ++ below := by rw [State.frames_setTop' g h.top, hmid]; rfl
  obtain ⟨o, s₂, hsteps, -, hend, hq⟩ := Steps.callFree hM p X.admits X.cas X.clock (acts := []) hfr happ hPc trivial
  have hq' : vx_Q Qc XC mc ms free a (U.calling g mk a) o s₂ := hq
  rw [State.frames_setTop' g h.top] at hend
  obtain ⟨g₀, hg0⟩ := Option.isSome_iff_exists.mp h.top
  obtain ⟨r, hr⟩ := State.topJava?_eq_some.mp hg0
  have hr' : (({ U with heap := s₂.heap, slotsUsed := s₂.slotsUsed } : State).setVm s₂.vm).frames = .java g₀ :: r := hr
  rcases hq' with ⟨hqc, L, hfe, hL⟩ | ⟨q, rfl, E, ce, L, hx, hce, hcv, hcl, hW₂, hsm, hL⟩
  · obtain ⟨⟨v, rfl⟩, hW₂, e2, q2, q3, q4, q5, q6⟩ := id hfe
    have e3 : s₂ = ({ (U.calling g mk a).setFrames s₂.frames with heap := s₂.heap, slotsUsed := s₂.slotsUsed } : State).setVm s₂.vm := by
      have : s₂ = ({ s₂ with vm := (U.calling g mk a).vm } : State).setVm s₂.vm := rfl
      rw [e2] at this
      exact this
    obtain ⟨c₂, i₂, len₂, hc₂, hd₂, hf₂⟩ := hend
    have hW' : U.WarmedH s₂.vm := hW₂
    have hcc : c₂ = c := by
      have h1 : s₂.code? g.method = U.code? g.method := by
        rw [State.code?_eq, State.code?_eq, hW'.alike.method?]
      exact Option.some.inj (hc₂.symm.trans (h1.trans h.code))
    subst hcc
    have hlen : len₂ = len := by rw [hdg] at hd₂; cases hd₂; rfl
    subst hlen
    have hs₂ : s₂ = (({ U with heap := s₂.heap, slotsUsed := s₂.slotsUsed } : State).setVm s₂.vm).setTop { g with pc := g.pc + len₂, stack := v.toList ++ g.stack } := by
      refine e3.trans ?_
      rw [hf₂, State.calling_eq h.top, State.setFrames_setFrames, State.setTop_of_frames _ hr', hr]
      rfl
    have hsame : U.sameButNew ({ U with heap := s₂.heap, slotsUsed := s₂.slotsUsed } : State) L mc ms := by
      refine ⟨?_, q2, q3, q4, q5, q6⟩
      obtain ⟨t, ht, -⟩ := State.frames_cons hr
      show ({ U with heap := s₂.heap, slotsUsed := s₂.slotsUsed } : State) = { U.setFrames U.frames with heap := s₂.heap, slotsUsed := s₂.slotsUsed }
      rw [State.setFrames_self ht]
    subst hg
    refine Or.inl ⟨v, ⟨(({ U with heap := s₂.heap, slotsUsed := s₂.slotsUsed } : State).setVm s₂.vm), Ls ++ L, c0 + mc, s0 + ms⟩,
      ⟨X.admits, X.cas, X.clock, X.frames, X.room, X.hears, X.method, X.code, (X.here.setHeapUsed s₂.heap s₂.slotsUsed).setVm hW'.alike, X.tail, State.WarmedH.trans X.warmed hW', X.limits, X.bytes, X.same.trans (hsame.setVm s.vm)⟩,
      ⟨g, mk, s₂, L, rfl, rfl, hqc, rfl, hL, rfl, rfl⟩, ?_⟩
    show Steps p.tables e below _ ((({ U with heap := s₂.heap, slotsUsed := s₂.slotsUsed } : State).setVm s₂.vm).setTop { g with pc := g.pc + len₂, stack := v.toList ++ g.stack })
    rw [← hs₂]
    exact hsteps
  · obtain ⟨e2, q2, q3, q4, q5, q6⟩ := id hsm
    have e3 : s₂ = ({ (U.calling g mk a).setFrames s₂.frames with heap := s₂.heap, slotsUsed := s₂.slotsUsed } : State).setVm s₂.vm := by
      have : s₂ = ({ s₂ with vm := (U.calling g mk a).vm } : State).setVm s₂.vm := rfl
      rw [e2] at this
      exact this
    have hf₂ : s₂.frames = .throwing q :: .java g :: U.frames.tail := hend
    have hW' : U.WarmedH s₂.vm := hW₂
    have hs₂ : s₂ = ((({ U with heap := s₂.heap, slotsUsed := s₂.slotsUsed } : State).setVm s₂.vm).setTop g).pushFrame (.throwing q) := by
      refine e3.trans ?_
      rw [hf₂, State.calling_eq h.top, State.setFrames_setFrames, State.pushFrame, State.frames_setTop _ hr', State.setTop_of_frames _ hr', State.setFrames_setFrames, hr]
      rfl
    have hsame : U.sameButNew ({ U with heap := s₂.heap, slotsUsed := s₂.slotsUsed } : State) L mc ms := by
      refine ⟨?_, q2, q3, q4, q5, q6⟩
      obtain ⟨t, ht, -⟩ := State.frames_cons hr
      show ({ U with heap := s₂.heap, slotsUsed := s₂.slotsUsed } : State) = { U.setFrames U.frames with heap := s₂.heap, slotsUsed := s₂.slotsUsed }
      rw [State.setFrames_self ht]
    subst hg
    refine Or.inr ⟨q, ⟨(({ U with heap := s₂.heap, slotsUsed := s₂.slotsUsed } : State).setVm s₂.vm), Ls ++ L, c0 + mc, s0 + ms⟩,
      ⟨X.admits, X.cas, X.clock, X.frames, X.room, X.hears, X.method, X.code, (X.here.setHeapUsed s₂.heap s₂.slotsUsed).setVm hW'.alike, X.tail, State.WarmedH.trans X.warmed hW', X.limits, X.bytes, X.same.trans (hsame.setVm s.vm)⟩,
      ⟨g, mk, s₂, L, E, ce, rfl, rfl, hx, hce, hcv, hcl, rfl, hL, rfl, rfl⟩, ?_⟩
    show Steps p.tables e below _ (((({ U with heap := s₂.heap, slotsUsed := s₂.slotsUsed } : State).setVm s₂.vm).setTop g).pushFrame (.throwing q))
    rw [← hs₂]
    exact hsteps
end
variable {p : Program} {l : Launch} {e : Env} {R : Room} {s : State} {m : MethodId} {args : Array Value} {below : List Frame} {meth : Method} {c : Code} {T : State} {H : Heap} {locs : List Loc} {cells slots : Nat}
theorem vx_callVX (X : Stand p l e R s m args below meth c T locs cells slots) (hexec : p.tables.exec = Jvm.exec) {own C : String} {index : Nat} {y : MethodName} {bytes : ByteArray} {maxL : Nat} {ret : Option FieldType} {hh : List (Nat × Nat × Nat × Nat)}
    (hown : s.vm.findClass own = some m.cls) (hlink : (Cond.methodLink own index y).before args s = true) (hinst : (Cond.instanceMethod y).before args s = true) (hsel : (Cond.selects C y y).before args s = true)
    (hcode : (Cond.codeWith y bytes maxL ret hh).before args s = true) (hy : y.cls ≠ "java/lang/invoke/MethodHandle" ∧ y.cls ≠ "java/lang/invoke/VarHandle")
    {W9 : Nat} {Pre : Pt → Array Value → Prop} {Post : Pt → Array Value → Option Value → Pt → Prop} {PostX : Pt → Array Value → Addr → Pt → Prop} (hK : vx_Back l R p e below s args y 3 W9 Pre Post PostX)
    {b : Addr} {cellB : Cell} (hcell : T.heap[b]? = some cellB) (hobj : cellB.vm.isStatics = false) (hcls : s.vm.findClass C = some cellB.cls)
    {g : JFrame} (hg : g.method = m) (hsize : g.locals.size = c.maxLocals) {argsL rest : List Value} (hlen : ∀ sig, parseMethodDescriptor y.desc = some sig → argsL.length = sig.parameters.length)
    (hstack : g.stack = argsL.reverse ++ .ref b :: rest) (hW : 2 * g.monitorRoom + (rest.map fun v => v.category).sum ≤ W9) (hdg : decode c.code g.pc = .ok (.invokevirtual index, 3))
    (hpre : ∀ vm₁, s.WarmedH vm₁ → Pre ⟨T.setVm vm₁, locs, cells, slots⟩ (Value.ref b :: argsL).toArray) :
    (∃ (v : Option Value) (vm₁ : Vm) (B : Pt), s.WarmedH vm₁ ∧ Stand p l e R s m args below meth c B.U B.locs B.cells B.slots ∧ Post ⟨T.setVm vm₁, locs, cells, slots⟩ (Value.ref b :: argsL).toArray v B ∧
      ∀ target, Steps p.tables e below (B.U.setTop { g with pc := g.pc + 3, stack := v.toList ++ rest }) target → Steps p.tables e below (T.setTop g) target) ∨
    (∃ (q : Addr) (vm₁ : Vm) (B : Pt), s.WarmedH vm₁ ∧ Stand p l e R s m args below meth c B.U B.locs B.cells B.slots ∧ PostX ⟨T.setVm vm₁, locs, cells, slots⟩ (Value.ref b :: argsL).toArray q B ∧
      Steps p.tables e below (T.setTop g) ((B.U.setTop { g with stack := rest }).pushFrame (.throwing q))) := by
  obtain ⟨mk, methM, hnamed, hmethM, hstM, habM⟩ := Cond.instanceMethod_spec hinst
  obtain ⟨m8, methM', cM, hn8, hmethM', -, -, -, -, -, -, hsigM⟩ := Cond.codeWith_spec hcode
  cases Option.some.inj (hn8.symm.trans hnamed)
  cases hmethM.symm.trans hmethM'
  obtain ⟨c2, r2, m2, q1, q2, q3, q4, kP, hkP, hkPi⟩ := Cond.selects_spec hsel
  cases hcls.symm.trans q1
  cases (State.methodFound?_of_named hnamed hy).symm.trans q2
  cases hnamed.symm.trans q3
  have hselP : selectMethod e.platform s.vm cellB.cls mk = .method mk := by rw [Launch.admits_selectMethod X.admits]; exact q4
  obtain ⟨vm₁, X₁, hstep₁⟩ := X.invokevirtual hexec hown hlink hnamed hmethM hstM hkP hkPi hy (a := b) (cell := cellB) hcell
    (fun z h => by rw [h] at hobj; cases hobj) hselP hmethM habM hkP hkPi (g := g) hg (argsL := argsL) (rest := rest) (hlen _ hsigM) hstack hdg
  rcases hK m meth c ⟨T.setVm vm₁, locs, cells, slots⟩ { g with stack := rest } (.invokevirtual index) mk (Value.ref b :: argsL).toArray X₁ hg hsize hdg hW (X₁.named hnamed) (hpre vm₁ X₁.warmed) with ⟨v, B, X', hpost, hsteps⟩ | ⟨q, B, X', hpost, hsteps⟩
  · exact Or.inl ⟨v, vm₁, B, X₁.warmed, X', hpost, fun target h => hstep₁ _ fun acts => by rw [doInvoke_state]; exact hsteps.trans h⟩
  · exact Or.inr ⟨q, vm₁, B, X₁.warmed, X', hpost, hstep₁ _ fun acts => by rw [doInvoke_state]; exact hsteps⟩
theorem vx_callSX (X : Stand p l e R s m args below meth c T locs cells slots) (hexec : p.tables.exec = Jvm.exec) {own : String} {index : Nat} {y : MethodName} {bytes : ByteArray} {maxL : Nat} {ret : Option FieldType} {hh : List (Nat × Nat × Nat × Nat)}
    (hown : s.vm.findClass own = some m.cls) (hlink : (Cond.methodLink own index y).before args s = true) (hstat : (Cond.static y).before args s = true) (hinit : (Cond.initialized y.cls).before args s = true)
    (hcode : (Cond.codeWith y bytes maxL ret hh).before args s = true) (hy : y.cls ≠ "java/lang/invoke/MethodHandle" ∧ y.cls ≠ "java/lang/invoke/VarHandle")
    {W9 : Nat} {Pre : Pt → Array Value → Prop} {Post : Pt → Array Value → Option Value → Pt → Prop} {PostX : Pt → Array Value → Addr → Pt → Prop} (hK : vx_Back l R p e below s args y 3 W9 Pre Post PostX)
    {g : JFrame} (hg : g.method = m) (hsize : g.locals.size = c.maxLocals) {argsL rest : List Value} (hlen : ∀ sig, parseMethodDescriptor y.desc = some sig → argsL.length = sig.parameters.length)
    (hstack : g.stack = argsL.reverse ++ rest) (hW : 2 * g.monitorRoom + (rest.map fun v => v.category).sum ≤ W9) (hdg : decode c.code g.pc = .ok (.invokestatic index, 3))
    (hpre : ∀ vm₁, s.WarmedH vm₁ → Pre ⟨T.setVm vm₁, locs, cells, slots⟩ argsL.toArray) :
    (∃ (v : Option Value) (vm₁ : Vm) (B : Pt), s.WarmedH vm₁ ∧ Stand p l e R s m args below meth c B.U B.locs B.cells B.slots ∧ Post ⟨T.setVm vm₁, locs, cells, slots⟩ argsL.toArray v B ∧
      ∀ target, Steps p.tables e below (B.U.setTop { g with pc := g.pc + 3, stack := v.toList ++ rest }) target → Steps p.tables e below (T.setTop g) target) ∨
    (∃ (q : Addr) (vm₁ : Vm) (B : Pt), s.WarmedH vm₁ ∧ Stand p l e R s m args below meth c B.U B.locs B.cells B.slots ∧ PostX ⟨T.setVm vm₁, locs, cells, slots⟩ argsL.toArray q B ∧
      Steps p.tables e below (T.setTop g) ((B.U.setTop { g with stack := rest }).pushFrame (.throwing q))) := by
  obtain ⟨mk, methM, cM, hnamed, hmethM, -, -, -, -, -, -, hsigM⟩ := Cond.codeWith_spec hcode
  have hstatic : methM.isStatic = true := Cond.static_spec hnamed hmethM hstat
  obtain ⟨kP, hkP, -⟩ := className_of_methodNamed hnamed
  have hinitP : kP.init = .initialized := Cond.initialized_spec (findClass_of_methodNamed hnamed) hkP hinit
  obtain ⟨vm₁, X₁, hstep₁⟩ := X.invokestatic hexec hown hlink hnamed hmethM hstatic hkP hinitP hy (g := g) hg (argsL := argsL) (rest := rest) (hlen _ hsigM) hstack hdg
  rcases hK m meth c ⟨T.setVm vm₁, locs, cells, slots⟩ { g with stack := rest } (.invokestatic index) mk argsL.toArray X₁ hg hsize hdg hW (X₁.named hnamed) (hpre vm₁ X₁.warmed) with ⟨v, B, X', hpost, hsteps⟩ | ⟨q, B, X', hpost, hsteps⟩
  · exact Or.inl ⟨v, vm₁, B, X₁.warmed, X', hpost, fun target h => hstep₁ _ fun acts => by rw [doInvoke_state]; exact hsteps.trans h⟩
  · exact Or.inr ⟨q, vm₁, B, X₁.warmed, X', hpost, hstep₁ _ fun acts => by rw [doInvoke_state]; exact hsteps⟩
theorem vx_callVW (X : Stand p l e R s m args below meth c T locs cells slots) (hexec : p.tables.exec = Jvm.exec) {own C : String} {index : Nat} {y : MethodName} {bytes : ByteArray} {maxL : Nat} {ret : Option FieldType} {hh : List (Nat × Nat × Nat × Nat)}
    (hown : s.vm.findClass own = some m.cls) (hlink : (Cond.methodLink own index y).before args s = true) (hinst : (Cond.instanceMethod y).before args s = true) (hsel : (Cond.selects C y y).before args s = true)
    (hcode : (Cond.codeWith y bytes maxL ret hh).before args s = true) (hy : y.cls ≠ "java/lang/invoke/MethodHandle" ∧ y.cls ≠ "java/lang/invoke/VarHandle")
    {W9 : Nat} {Pre : Pt → Array Value → Prop} {Post : Pt → Array Value → Option Value → Pt → Prop} (hK : Back l R p e below s args y 3 W9 Pre Post)
    {b : Addr} {cellB : Cell} (hcell : T.heap[b]? = some cellB) (hobj : cellB.vm.isStatics = false) (hcls : s.vm.findClass C = some cellB.cls)
    {g : JFrame} (hg : g.method = m) (hsize : g.locals.size = c.maxLocals) {argsL rest : List Value} (hlen : ∀ sig, parseMethodDescriptor y.desc = some sig → argsL.length = sig.parameters.length)
    (hstack : g.stack = argsL.reverse ++ .ref b :: rest) (hW : 2 * g.monitorRoom + (rest.map fun v => v.category).sum ≤ W9) (hdg : decode c.code g.pc = .ok (.invokevirtual index, 3))
    (hpre : ∀ vm₁, s.WarmedH vm₁ → Pre ⟨T.setVm vm₁, locs, cells, slots⟩ (Value.ref b :: argsL).toArray) :
    ∃ (v : Option Value) (vm₁ : Vm) (B : Pt), s.WarmedH vm₁ ∧ Stand p l e R s m args below meth c B.U B.locs B.cells B.slots ∧ Post ⟨T.setVm vm₁, locs, cells, slots⟩ (Value.ref b :: argsL).toArray v B ∧
      ∀ target, Steps p.tables e below (B.U.setTop { g with pc := g.pc + 3, stack := v.toList ++ rest }) target → Steps p.tables e below (T.setTop g) target := by
  obtain ⟨mk, methM, hnamed, hmethM, hstM, habM⟩ := Cond.instanceMethod_spec hinst
  obtain ⟨m8, methM', cM, hn8, hmethM', -, -, -, -, -, -, hsigM⟩ := Cond.codeWith_spec hcode
  cases Option.some.inj (hn8.symm.trans hnamed)
  cases hmethM.symm.trans hmethM'
  obtain ⟨c2, r2, m2, q1, q2, q3, q4, kP, hkP, hkPi⟩ := Cond.selects_spec hsel
  cases hcls.symm.trans q1
  cases (State.methodFound?_of_named hnamed hy).symm.trans q2
  cases hnamed.symm.trans q3
  have hselP : selectMethod e.platform s.vm cellB.cls mk = .method mk := by rw [Launch.admits_selectMethod X.admits]; exact q4
  obtain ⟨vm₁, X₁, hstep₁⟩ := X.invokevirtual hexec hown hlink hnamed hmethM hstM hkP hkPi hy (a := b) (cell := cellB) hcell
    (fun z h => by rw [h] at hobj; cases hobj) hselP hmethM habM hkP hkPi (g := g) hg (argsL := argsL) (rest := rest) (hlen _ hsigM) hstack hdg
  obtain ⟨v, B, X', hpost, hsteps⟩ := hK m meth c ⟨T.setVm vm₁, locs, cells, slots⟩ { g with stack := rest } (.invokevirtual index) mk (Value.ref b :: argsL).toArray X₁ hg hsize hdg hW (X₁.named hnamed) (hpre vm₁ X₁.warmed)
  exact ⟨v, vm₁, B, X₁.warmed, X', hpost, fun target h => hstep₁ _ fun acts => by rw [doInvoke_state]; exact hsteps.trans h⟩
abbrev vx_CVW (R : Room) (s : State) (args : Array Value) (own C : String) (index : Nat) (y : MethodName) (bytes : ByteArray) (maxL : Nat) (ret : Option FieldType) (hh : List (Nat × Nat × Nat × Nat)) (ws : List Cond) (rm : Room) (mc ms n : Nat) : Prop :=
  (rm.cells = mc ∧ rm.slots = ms ∧ rm.frames + 1 ≤ R.frames ∧ 8 + (maxL + 11) + rm.locals ≤ R.locals ∧ (∀ w ∈ ws, ∀ (a' : Array Value) (U : State), s.WarmedH U.vm → w.before a' U = true) ∧ Cond.codeWith y bytes maxL ret hh ∈ ws) ∧
  (Cond.codeWith y bytes maxL ret hh).before args s = true ∧ (Cond.initialized y.cls).before args s = true ∧ (y.cls ≠ "java/lang/invoke/MethodHandle" ∧ y.cls ≠ "java/lang/invoke/VarHandle") ∧
  (∀ sig, parseMethodDescriptor y.desc = some sig → n = sig.parameters.length) ∧ (Cond.methodLink own index y).before args s = true ∧ (Cond.instanceMethod y).before args s = true ∧ (Cond.selects C y y).before args s = true
theorem vx_cwVW {own C : String} {index maxL mc ms : Nat} {y : MethodName} {bytes : ByteArray} {ret : Option FieldType} {hh : List (Nat × Nat × Nat × Nat)} {Ts ws ws' : List Cond} {rm : Room} (n : Nat) (ht : ∀ w ∈ Ts, w.before args s = true) (hT : GoodIn Ts (wsV own index C y ws)) (hw : ws = Cond.codeWith y bytes maxL ret hh :: ws') (hrc : rm.cells = mc) (hrs : rm.slots = ms)
    (hd : y.cls = C ∧ y.cls ≠ "java/lang/invoke/MethodHandle" ∧ y.cls ≠ "java/lang/invoke/VarHandle" ∧ (parseMethodDescriptor y.desc).map (fun d => d.parameters.length) = some n) (hR : rm.frames + 1 ≤ R.frames ∧ 8 + (maxL + 11) + rm.locals ≤ R.locals) :
    vx_CVW R s args own C index y bytes maxL ret hh ws rm mc ms n := by
  obtain ⟨hC, hd⟩ := hd
  subst hC
  have ok : ∀ w ∈ wsV own index y.cls y ws, w.before args s = true := fun w h => ht w (hT w h).1
  have hG : GoodIn Ts ws := fun w h => hT w (by unfold wsV; exact List.mem_append_right _ h)
  have hc : Cond.codeWith y bytes maxL ret hh ∈ ws := by rw [hw]; exact List.mem_cons_self
  refine ⟨⟨hrc, hrs, hR.1, hR.2, pay_in ht hG, hc⟩, ht _ (hG _ hc).1, ok _ (by simp [wsV]), ⟨hd.1, hd.2.1⟩, fun sig h => ?_, ok _ (by simp [wsV]), ok _ (by simp [wsV]), ok _ (by simp [wsV])⟩
  have h2 := hd.2.2
  rw [h] at h2
  exact (Option.some.inj h2).symm
theorem vx_runVW {y : MethodName} {bytes cc : ByteArray} {maxL nL mc ms n index : Nat} {ret : Option FieldType} {hh : List (Nat × Nat × Nat × Nat)} {ws : List Cond} {rm : Room} {Pc : Array Value → State → Prop} {Qc : Array Value → State → Outcome → State → Prop} {free : Addr → Prop} {Ts : List Cond} {own C : String} {b : Addr} {As rest : List Value} {g : JFrame}
    (S : CallFix p m c cc nL s args Ts own) (hM : Met l y ws rm Pc Qc mc ms free) (cw : vx_CVW R s args own C index y bytes maxL ret hh ws rm mc ms n) (hp : PreV s H C b Pc As)
    (hg : g.method = m) (hn : As.length = n) (hsize : g.locals.size = nL) (hstack : g.stack = As.reverse ++ .ref b :: rest) (hW : 2 * g.monitorRoom + (rest.map fun v => v.category).sum ≤ 8) (hdg : decode cc g.pc = .ok (.invokevirtual index, 3)) (hf : cells + mc ≤ R.cells ∧ slots + ms ≤ R.slots) :
    va_Run p l e R s m args below meth c H locs cells slots mc ms g rest (Qc (Value.ref b :: As).toArray) free := by
  obtain ⟨⟨hrc, hrs, hfr, hlo, hws, hcw⟩, hcode, hini, hy, hlen, hl, hin, hse⟩ := cw
  have hK : Back l R p e below s args y 3 8 (PreOf R mc ms Pc) (PostOf Qc mc ms free) := va_backW (hh := hh) (bytes := bytes) (maxL := maxL) (ret := ret) hM hp.1 hrc hrs hfr hlo hws hcw (fun a' U hW => word_at hW (Or.inl (by first | rfl | simp [Cond.onTables, Cond.keeps, Cond.steady])) hini)
  obtain ⟨hx, hb, hml, ho, -⟩ := S
  obtain ⟨-, ⟨cellB, hcB, hoB, hclB⟩, hPc⟩ := hp
  intro T hT X
  obtain ⟨v, vm₁, ⟨U', l2, c2, s2⟩, hW₁, X', ⟨g', mk, t, L, e1, e2, hq, h1, hL, h2, h3⟩, st⟩ := vx_callVW X hx (C := C) (hh := hh) (bytes := bytes) (maxL := maxL) (ret := ret) ho hl hin hse hcode hy hK (by rw [hT]; exact hcB) hoB hclB hg (hsize.trans hml.symm) (argsL := As) (rest := rest) (fun sig h => hn.trans (hlen sig h)) hstack hW (by rw [hb]; exact hdg)
    (fun vm₁ hW₁ => ⟨hf.1, hf.2, hPc (T.setVm vm₁) hT hW₁⟩)
  dsimp only [Pt.U, Pt.locs, Pt.cells, Pt.slots] at X' e1 e2 h1 h2 h3 st
  subst h1; subst h2; subst h3
  exact ⟨v, (T.setVm vm₁).calling g' mk (Value.ref b :: As).toArray, t, U', L, hT, X', hL, e1, e2, hq, st⟩
section
variable {y : MethodName} {bytes cc : ByteArray} {maxL nL mc ms n index : Nat} {ret : Option FieldType} {ws : List Cond} {rm : Room} {Pc : Array Value → State → Prop} {Qc : Array Value → State → Outcome → State → Prop} {XC : String → State → State → Prop} {free : Addr → Prop} {Ts : List Cond} {own C : String} {b : Addr} {As rest : List Value} {g : JFrame}
theorem vx_runVX {hh : List (Nat × Nat × Nat × Nat)} (S : CallFix p m c cc nL s args Ts own) (hM : vx_Met l y ws rm Pc Qc XC mc ms free) (cw : vx_CVW R s args own C index y bytes maxL ret hh ws rm mc ms n) (hp : PreV s H C b Pc As)
    (hg : g.method = m) (hn : As.length = n) (hsize : g.locals.size = nL) (hstack : g.stack = As.reverse ++ .ref b :: rest) (hW : 2 * g.monitorRoom + (rest.map fun v => v.category).sum ≤ 8) (hdg : decode cc g.pc = .ok (.invokevirtual index, 3)) (hf : cells + mc ≤ R.cells ∧ slots + ms ≤ R.slots) :
    vx_Run p l e R s m args below meth c H locs cells slots mc ms g rest (Qc (Value.ref b :: As).toArray) XC free := by
  obtain ⟨⟨hrc, hrs, hfr, hlo, hws, hcw⟩, hcode, hini, hy, hlen, hl, hin, hse⟩ := cw
  have hK : vx_Back l R p e below s args y 3 8 (PreOf R mc ms Pc) (PostOf Qc mc ms free) (vx_Post XC mc ms free) := vx_backW (hh := hh) (bytes := bytes) (maxL := maxL) (ret := ret) hM hp.1 hrc hrs hfr hlo hws hcw (fun a' U hW => word_at hW (Or.inl (by first | rfl | simp [Cond.onTables, Cond.keeps, Cond.steady])) hini)
  obtain ⟨hx, hb, hml, ho, -⟩ := S
  obtain ⟨-, ⟨cellB, hcB, hoB, hclB⟩, hPc⟩ := hp
  intro T hT X
  rcases vx_callVX X hx (C := C) (hh := hh) (bytes := bytes) (maxL := maxL) (ret := ret) ho hl hin hse hcode hy hK (by rw [hT]; exact hcB) hoB hclB hg (hsize.trans hml.symm) (argsL := As) (rest := rest) (fun sig h => hn.trans (hlen sig h)) hstack hW (by rw [hb]; exact hdg)
    (fun vm₁ hW₁ => ⟨hf.1, hf.2, hPc (T.setVm vm₁) hT hW₁⟩) with ⟨v, vm₁, ⟨U', l2, c2, s2⟩, hW₁, X', ⟨g', mk, t, L, e1, e2, hq, h1, hL, h2, h3⟩, st⟩ | ⟨q, vm₁, ⟨U', l2, c2, s2⟩, hW₁, X', ⟨g', mk, t, L, E, ce, e1, e2, hq, hce, hcv, hcl, h1, hL, h2, h3⟩, st⟩
  · dsimp only [Pt.U, Pt.locs, Pt.cells, Pt.slots] at X' e1 e2 h1 h2 h3 st
    subst h1; subst h2; subst h3
    exact Or.inl ⟨v, (T.setVm vm₁).calling g' mk (Value.ref b :: As).toArray, t, U', L, hT, X', hL, e1, e2, hq, st⟩
  · dsimp only [Pt.U, Pt.locs, Pt.cells, Pt.slots] at X' e1 e2 h1 h2 h3 st hcl
    subst h1; subst h2; subst h3
    exact Or.inr ⟨q, (T.setVm vm₁).calling g' mk (Value.ref b :: As).toArray, t, U', L, E, ce, hT, X', hL, e1, e2, hq, hce, hcv, vx_cls hW₁ hcl, st⟩
theorem vx_runSX {hh : List (Nat × Nat × Nat × Nat)} (S : CallFix p m c cc nL s args Ts own) (hM : vx_Met l y ws rm Pc Qc XC mc ms free) (cw : vx_CSW R s args own index y bytes maxL ret hh ws rm mc ms n) (hp : PreS s H Pc As)
    (hg : g.method = m) (hn : As.length = n) (hsize : g.locals.size = nL) (hstack : g.stack = As.reverse ++ rest) (hW : 2 * g.monitorRoom + (rest.map fun v => v.category).sum ≤ 8) (hdg : decode cc g.pc = .ok (.invokestatic index, 3)) (hf : cells + mc ≤ R.cells ∧ slots + ms ≤ R.slots) :
    vx_Run p l e R s m args below meth c H locs cells slots mc ms g rest (Qc As.toArray) XC free := by
  obtain ⟨⟨hrc, hrs, hfr, hlo, hws, hcw⟩, hcode, hini, hy, hlen, hl, hstt⟩ := cw
  have hK : vx_Back l R p e below s args y 3 8 (PreOf R mc ms Pc) (PostOf Qc mc ms free) (vx_Post XC mc ms free) := vx_backW (hh := hh) (bytes := bytes) (maxL := maxL) (ret := ret) hM hp.1 hrc hrs hfr hlo hws hcw (fun a' U hW => word_at hW (Or.inl (by first | rfl | simp [Cond.onTables, Cond.keeps, Cond.steady])) hini)
  obtain ⟨hx, hb, hml, ho, -⟩ := S
  intro T hT X
  rcases vx_callSX X hx (hh := hh) (bytes := bytes) (maxL := maxL) (ret := ret) ho hl hstt hini hcode hy hK hg (hsize.trans hml.symm) (argsL := As) (rest := rest) (fun sig h => hn.trans (hlen sig h)) hstack hW (by rw [hb]; exact hdg)
    (fun vm₁ hW₁ => ⟨hf.1, hf.2, hp.2 (T.setVm vm₁) hT hW₁⟩) with ⟨v, vm₁, ⟨U', l2, c2, s2⟩, hW₁, X', ⟨g', mk, t, L, e1, e2, hq, h1, hL, h2, h3⟩, st⟩ | ⟨q, vm₁, ⟨U', l2, c2, s2⟩, hW₁, X', ⟨g', mk, t, L, E, ce, e1, e2, hq, hce, hcv, hcl, h1, hL, h2, h3⟩, st⟩
  · dsimp only [Pt.U, Pt.locs, Pt.cells, Pt.slots] at X' e1 e2 h1 h2 h3 st
    subst h1; subst h2; subst h3
    exact Or.inl ⟨v, (T.setVm vm₁).calling g' mk As.toArray, t, U', L, hT, X', hL, e1, e2, hq, st⟩
  · dsimp only [Pt.U, Pt.locs, Pt.cells, Pt.slots] at X' e1 e2 h1 h2 h3 st hcl
    subst h1; subst h2; subst h3
    exact Or.inr ⟨q, (T.setVm vm₁).calling g' mk As.toArray, t, U', L, E, ce, hT, X', hL, e1, e2, hq, hce, hcv, vx_cls hW₁ hcl, st⟩
end
end VXH
theorem vx_ofWH {l : Launch} {y : MethodName} {ws ws' : List Cond} {rm : Room} {Pc : Array Value → State → Prop} {Qc : Array Value → State → Outcome → State → Prop} {XC : String → State → State → Prop} {mc ms : Nat} {free : Addr → Prop} {cc : ByteArray} {maxL : Nat} {ret : Option FieldType} {hh : List (Nat × Nat × Nat × Nat)}
    (hy : plainName y.cls = true) (hw : ws = Cond.codeWith y cc maxL ret hh :: ws')
    (body : ∀ p e s m args below meth c s₁, BodyLoose p l y (headSpec ws rm) cc maxL ret e s m args below meth c s₁ → c.maxLocals = maxL → Pc args s →
      W p l e (headSpec ws rm).room s m args below meth c s.heap [] 0 0 (vx_MQ below Qc XC args s mc ms free) (entryFrame m args maxL)) : vx_Met l y ws rm Pc Qc XC mc ms free := by
  refine MetFree.of_bodyS (code := cc) (maxLocals := maxL) (ret := ret) hy ?_ ?_
  · intro args s m h hn
    obtain ⟨m9, meth, c, hn9, h1, h2, h3, h4, -, h5, h6, -⟩ := Cond.codeWith_spec (atoms_spec (ws := ws) h _ (by rw [hw]; exact List.mem_cons_self))
    cases hn.symm.trans hn9
    exact ⟨meth, c, h1, h2, h3, h4, h5, h6⟩
  · intro p e s m args below meth c s₁ B hml hP _
    have hh0 : s₁.heap = s.heap := by rw [B.state]; rfl
    obtain ⟨t, a1, o, b1, b2, b3⟩ := body p e s m args below meth c s₁ B hml hP s₁ hh0 (Stand.of_body B)
    exact ⟨t, o, a1, b1, b2, b3⟩
/-! ===== END ===== -/

/-! ===== BEGIN printed: names, fields, word lists, decode rows ===== -/
end
section
def RX0 : String := "WordConcordance$Copies"
def TX0 : u_T := fun k => match k with
  | 0 => ("WordConcordance$Copies", "word", "I", true)
  | _ => ("WordConcordance$Copies", "many", "I", true)
def tyX0 : Nat → FieldType := fun k => match k with
  | 0 => .int
  | _ => .int
abbrev wsX00 : List Cond := u_ws RX0 TX0 2
theorem nmX0 : ∀ a, a < 2 → ∀ b, b < 2 → a ≠ b → (TX0 a).2.1 ≠ (TX0 b).2.1 := by decide +kernel
theorem tyX0_ok : ∀ k, k < 2 → parseFieldDescriptor (TX0 k).2.2.1 = some (tyX0 k) := by decide +kernel
abbrev cX0_init : ByteArray := prog_2_method_1_code
def yX0_init : MethodName := ⟨RX0, "<init>", "(II)V"⟩
abbrev cX0_of : ByteArray := prog_2_method_2_code
def yX0_of : MethodName := ⟨RX0, "of", "(II)LWordConcordance$Copies;"⟩
abbrev cX0_wordAt : ByteArray := prog_2_method_3_code
def yX0_wordAt : MethodName := ⟨RX0, "wordAt", "(I)I"⟩
abbrev cX0_putAt : ByteArray := prog_2_method_4_code
def yX0_putAt : MethodName := ⟨RX0, "putAt", "(II)V"⟩
abbrev cX0_append : ByteArray := prog_2_method_5_code
def yX0_append : MethodName := ⟨RX0, "append", "(I)V"⟩
abbrev cX0_takeOut : ByteArray := prog_2_method_6_code
def yX0_takeOut : MethodName := ⟨RX0, "takeOut", "(I)V"⟩
def RX1 : String := "WordConcordance$Row"
def TX1 : u_T := fun k => match k with
  | 0 => ("WordConcordance$Row", "words", "[I", true)
  | _ => ("WordConcordance$Row", "length", "I", false)
def tyX1 : Nat → FieldType := fun k => match k with
  | 0 => .array .int
  | _ => .int
abbrev wsX10 : List Cond := u_ws RX1 TX1 2
theorem nmX1 : ∀ a, a < 2 → ∀ b, b < 2 → a ≠ b → (TX1 a).2.1 ≠ (TX1 b).2.1 := by decide +kernel
theorem tyX1_ok : ∀ k, k < 2 → parseFieldDescriptor (TX1 k).2.2.1 = some (tyX1 k) := by decide +kernel
abbrev cX1_init : ByteArray := prog_3_method_1_code
def yX1_init : MethodName := ⟨RX1, "<init>", "([I)V"⟩
abbrev cX1_append : ByteArray := prog_3_method_2_code
def yX1_append : MethodName := ⟨RX1, "append", "(I)V"⟩
abbrev cX1_appendAll : ByteArray := prog_3_method_3_code
def yX1_appendAll : MethodName := ⟨RX1, "appendAll", "(LWordConcordance$Row;)V"⟩
abbrev cX1_become : ByteArray := prog_3_method_4_code
def yX1_become : MethodName := ⟨RX1, "become", "(LWordConcordance$Row;)V"⟩
abbrev cX1_openUp : ByteArray := prog_3_method_5_code
def yX1_openUp : MethodName := ⟨RX1, "openUp", "(II)V"⟩
abbrev cX1_closeUp : ByteArray := prog_3_method_6_code
def yX1_closeUp : MethodName := ⟨RX1, "closeUp", "(II)V"⟩
abbrev cX1_exchange : ByteArray := prog_3_method_7_code
def yX1_exchange : MethodName := ⟨RX1, "exchange", "(II)V"⟩
abbrev cX1_turnRound : ByteArray := prog_3_method_8_code
def yX1_turnRound : MethodName := ⟨RX1, "turnRound", "(II)V"⟩
abbrev cX1_timesOf : ByteArray := prog_3_method_9_code
def yX1_timesOf : MethodName := ⟨RX1, "timesOf", "(I)I"⟩
abbrev cX1_hasWord : ByteArray := prog_3_method_10_code
def yX1_hasWord : MethodName := ⟨RX1, "hasWord", "(I)Z"⟩
abbrev cX1_isFirstOfItsWord : ByteArray := prog_3_method_11_code
def yX1_isFirstOfItsWord : MethodName := ⟨RX1, "isFirstOfItsWord", "(I)Z"⟩
abbrev cX1_differencesFrom : ByteArray := prog_3_method_12_code
def yX1_differencesFrom : MethodName := ⟨RX1, "differencesFrom", "(LWordConcordance$Row;)I"⟩
abbrev cX1_holds : ByteArray := prog_3_method_13_code
def yX1_holds : MethodName := ⟨RX1, "holds", "(LWordConcordance$Row;I)Z"⟩
abbrev cX1_firstPlaceOf : ByteArray := prog_3_method_14_code
def yX1_firstPlaceOf : MethodName := ⟨RX1, "firstPlaceOf", "(LWordConcordance$Row;II)I"⟩
abbrev cX1_lastPlaceOf : ByteArray := prog_3_method_15_code
def yX1_lastPlaceOf : MethodName := ⟨RX1, "lastPlaceOf", "(LWordConcordance$Row;)I"⟩
abbrev cX1_timesAnywhere : ByteArray := prog_3_method_16_code
def yX1_timesAnywhere : MethodName := ⟨RX1, "timesAnywhere", "(LWordConcordance$Row;)I"⟩
abbrev cX1_timesApart : ByteArray := prog_3_method_17_code
def yX1_timesApart : MethodName := ⟨RX1, "timesApart", "(LWordConcordance$Row;)I"⟩
def RX2 : String := "WordConcordance"
def TX2 : u_T := fun k => match k with
  | 0 => ("WordConcordance", "texts", "[LWordConcordance$Row;", true)
  | 1 => ("WordConcordance", "phrases", "[LWordConcordance$Row;", true)
  | 2 => ("WordConcordance", "ranks", "[I", true)
  | 3 => ("WordConcordance", "draft", "LWordConcordance$Row;", true)
  | 4 => ("WordConcordance", "trial", "LWordConcordance$Row;", true)
  | 5 => ("WordConcordance", "trialPhrase", "LWordConcordance$Row;", true)
  | _ => ("WordConcordance", "runs", "[I", true)
def tyX2 : Nat → FieldType := fun k => match k with
  | 0 => .array (.object "WordConcordance$Row")
  | 1 => .array (.object "WordConcordance$Row")
  | 2 => .array .int
  | 3 => .object "WordConcordance$Row"
  | 4 => .object "WordConcordance$Row"
  | 5 => .object "WordConcordance$Row"
  | _ => .array .int
abbrev wsX20 : List Cond := u_ws RX2 TX2 7
theorem nmX2 : ∀ a, a < 7 → ∀ b, b < 7 → a ≠ b → (TX2 a).2.1 ≠ (TX2 b).2.1 := by decide +kernel
theorem tyX2_ok : ∀ k, k < 7 → parseFieldDescriptor (TX2 k).2.2.1 = some (tyX2 k) := by decide +kernel
abbrev cX2_init : ByteArray := prog_1_method_1_code
def yX2_init : MethodName := ⟨RX2, "<init>", "()V"⟩
abbrev cX2_add : ByteArray := prog_1_method_2_code
def yX2_add : MethodName := ⟨RX2, "add", "(II)I"⟩
abbrev cX2_addMany : ByteArray := prog_1_method_3_code
def yX2_addMany : MethodName := ⟨RX2, "addMany", "(III)I"⟩
abbrev cX2_scatter : ByteArray := prog_1_method_4_code
def yX2_scatter : MethodName := ⟨RX2, "scatter", "(IIII)I"⟩
abbrev cX2_insert : ByteArray := prog_1_method_5_code
def yX2_insert : MethodName := ⟨RX2, "insert", "(III)I"⟩
abbrev cX2_set : ByteArray := prog_1_method_6_code
def yX2_set : MethodName := ⟨RX2, "set", "(III)I"⟩
abbrev cX2_remove : ByteArray := prog_1_method_7_code
def yX2_remove : MethodName := ⟨RX2, "remove", "(II)I"⟩
abbrev cX2_cut : ByteArray := prog_1_method_8_code
def yX2_cut : MethodName := ⟨RX2, "cut", "(III)I"⟩
abbrev cX2_size : ByteArray := prog_1_method_9_code
def yX2_size : MethodName := ⟨RX2, "size", "(I)I"⟩
abbrev cX2_at : ByteArray := prog_1_method_10_code
def yX2_at : MethodName := ⟨RX2, "at", "(II)I"⟩
abbrev cX2_digest : ByteArray := prog_1_method_11_code
def yX2_digest : MethodName := ⟨RX2, "digest", "(I)I"⟩
abbrev cX2_setRank : ByteArray := prog_1_method_12_code
def yX2_setRank : MethodName := ⟨RX2, "setRank", "(II)I"⟩
abbrev cX2_say : ByteArray := prog_1_method_13_code
def yX2_say : MethodName := ⟨RX2, "say", "(II)I"⟩
abbrev cX2_quote : ByteArray := prog_1_method_14_code
def yX2_quote : MethodName := ⟨RX2, "quote", "(IIII)I"⟩
abbrev cX2_hush : ByteArray := prog_1_method_15_code
def yX2_hush : MethodName := ⟨RX2, "hush", "(I)I"⟩
abbrev cX2_wordOf : ByteArray := prog_1_method_16_code
def yX2_wordOf : MethodName := ⟨RX2, "wordOf", "(II)I"⟩
abbrev cX2_find : ByteArray := prog_1_method_17_code
def yX2_find : MethodName := ⟨RX2, "find", "(I)I"⟩
abbrev cX2_findLast : ByteArray := prog_1_method_18_code
def yX2_findLast : MethodName := ⟨RX2, "findLast", "(I)I"⟩
abbrev cX2_findIn : ByteArray := prog_1_method_19_code
def yX2_findIn : MethodName := ⟨RX2, "findIn", "(III)I"⟩
abbrev cX2_count : ByteArray := prog_1_method_20_code
def yX2_count : MethodName := ⟨RX2, "count", "(IZ)I"⟩
abbrev cX2_replace : ByteArray := prog_1_method_21_code
def yX2_replace : MethodName := ⟨RX2, "replace", "(I)I"⟩
abbrev cX2_draftReplaced : ByteArray := prog_1_method_22_code
def yX2_draftReplaced : MethodName := ⟨RX2, "draftReplaced", "(LWordConcordance$Row;)V"⟩
abbrev cX2_replaceWord : ByteArray := prog_1_method_23_code
def yX2_replaceWord : MethodName := ⟨RX2, "replaceWord", "(III)Z"⟩
abbrev cX2_frequency : ByteArray := prog_1_method_24_code
def yX2_frequency : MethodName := ⟨RX2, "frequency", "(II)I"⟩
abbrev cX2_different : ByteArray := prog_1_method_25_code
def yX2_different : MethodName := ⟨RX2, "different", "(I)I"⟩
abbrev cX2_most : ByteArray := prog_1_method_26_code
def yX2_most : MethodName := ⟨RX2, "most", "(I)I"⟩
abbrev cX2_isApart : ByteArray := prog_1_method_27_code
def yX2_isApart : MethodName := ⟨RX2, "isApart", "(II)Z"⟩
abbrev cX2_alone : ByteArray := prog_1_method_28_code
def yX2_alone : MethodName := ⟨RX2, "alone", "(II)I"⟩
abbrev cX2_greatest : ByteArray := prog_1_method_29_code
def yX2_greatest : MethodName := ⟨RX2, "greatest", "(II)I"⟩
abbrev cX2_least : ByteArray := prog_1_method_30_code
def yX2_least : MethodName := ⟨RX2, "least", "(II)I"⟩
abbrev cX2_sort : ByteArray := prog_1_method_31_code
def yX2_sort : MethodName := ⟨RX2, "sort", "(IIZ)I"⟩
abbrev cX2_isSorted : ByteArray := prog_1_method_32_code
def yX2_isSorted : MethodName := ⟨RX2, "isSorted", "(II)Z"⟩
abbrev cX2_search : ByteArray := prog_1_method_33_code
def yX2_search : MethodName := ⟨RX2, "search", "(III)I"⟩
abbrev cX2_keyOf : ByteArray := prog_1_method_34_code
def yX2_keyOf : MethodName := ⟨RX2, "keyOf", "(II)I"⟩
abbrev cX2_isInOrder : ByteArray := prog_1_method_35_code
def yX2_isInOrder : MethodName := ⟨RX2, "isInOrder", "(LWordConcordance$Row;I)Z"⟩
abbrev cX2_putInOrder : ByteArray := prog_1_method_36_code
def yX2_putInOrder : MethodName := ⟨RX2, "putInOrder", "(LWordConcordance$Row;IZ)V"⟩
abbrev cX2_mustPass : ByteArray := prog_1_method_37_code
def yX2_mustPass : MethodName := ⟨RX2, "mustPass", "(IIIZ)Z"⟩
abbrev cX2_turn : ByteArray := prog_1_method_38_code
def yX2_turn : MethodName := ⟨RX2, "turn", "(III)I"⟩
abbrev cX2_move : ByteArray := prog_1_method_39_code
def yX2_move : MethodName := ⟨RX2, "move", "(IIII)I"⟩
abbrev cX2_moveRound : ByteArray := prog_1_method_40_code
def yX2_moveRound : MethodName := ⟨RX2, "moveRound", "(LWordConcordance$Row;III)I"⟩
abbrev cX2_swap : ByteArray := prog_1_method_41_code
def yX2_swap : MethodName := ⟨RX2, "swap", "(III)I"⟩
abbrev cX2_fill : ByteArray := prog_1_method_42_code
def yX2_fill : MethodName := ⟨RX2, "fill", "(IIII)I"⟩
abbrev cX2_copy : ByteArray := prog_1_method_43_code
def yX2_copy : MethodName := ⟨RX2, "copy", "(II)I"⟩
abbrev cX2_stands : ByteArray := prog_1_method_44_code
def yX2_stands : MethodName := ⟨RX2, "stands", "(II)I"⟩
abbrev cX2_near : ByteArray := prog_1_method_45_code
def yX2_near : MethodName := ⟨RX2, "near", "(III)I"⟩
abbrev cX2_common : ByteArray := prog_1_method_46_code
def yX2_common : MethodName := ⟨RX2, "common", "(III)I"⟩
abbrev cX2_clearRuns : ByteArray := prog_1_method_47_code
def yX2_clearRuns : MethodName := ⟨RX2, "clearRuns", "()V"⟩
abbrev cX2_longestRunFrom : ByteArray := prog_1_method_48_code
def yX2_longestRunFrom : MethodName := ⟨RX2, "longestRunFrom", "(LWordConcordance$Row;ILWordConcordance$Row;)I"⟩
abbrev cX2_refuses : ByteArray := prog_1_method_49_code
def yX2_refuses : MethodName := ⟨RX2, "refuses", "(I)Z"⟩
abbrev cX2_isRefused : ByteArray := prog_1_method_50_code
def yX2_isRefused : MethodName := ⟨RX2, "isRefused", "(I)Z"⟩
abbrev cX2_attempt : ByteArray := prog_1_method_51_code
def yX2_attempt : MethodName := ⟨RX2, "attempt", "(I)V"⟩
abbrev cX2_errors : ByteArray := prog_1_method_52_code
def yX2_errors : MethodName := ⟨RX2, "errors", "(I)I"⟩
abbrev cX2_turnsBack : ByteArray := prog_1_method_53_code
def yX2_turnsBack : MethodName := ⟨RX2, "turnsBack", "(LWordConcordance$Row;)Z"⟩
abbrev cX2_movesBack : ByteArray := prog_1_method_54_code
def yX2_movesBack : MethodName := ⟨RX2, "movesBack", "(LWordConcordance$Row;)Z"⟩
abbrev cX2_sortsItsWords : ByteArray := prog_1_method_55_code
def yX2_sortsItsWords : MethodName := ⟨RX2, "sortsItsWords", "(LWordConcordance$Row;)Z"⟩
abbrev cX2_findsWhatItCounts : ByteArray := prog_1_method_56_code
def yX2_findsWhatItCounts : MethodName := ⟨RX2, "findsWhatItCounts", "(LWordConcordance$Row;)Z"⟩
abbrev cX2_findsInMirror : ByteArray := prog_1_method_57_code
def yX2_findsInMirror : MethodName := ⟨RX2, "findsInMirror", "(LWordConcordance$Row;)Z"⟩
abbrev cX2_meanWord : ByteArray := prog_1_method_58_code
def yX2_meanWord : MethodName := ⟨RX2, "meanWord", "(I)D"⟩
abbrev cX2_share : ByteArray := prog_1_method_59_code
def yX2_share : MethodName := ⟨RX2, "share", "(II)F"⟩
abbrev cX2_textAt : ByteArray := prog_1_method_60_code
def yX2_textAt : MethodName := ⟨RX2, "textAt", "(I)LWordConcordance$Row;"⟩
abbrev cX2_phraseAt : ByteArray := prog_1_method_61_code
def yX2_phraseAt : MethodName := ⟨RX2, "phraseAt", "(I)LWordConcordance$Row;"⟩
abbrev cX2_requireWord : ByteArray := prog_1_method_62_code
def yX2_requireWord : MethodName := ⟨RX2, "requireWord", "(I)V"⟩
abbrev cX2_requirePlace : ByteArray := prog_1_method_63_code
def yX2_requirePlace : MethodName := ⟨RX2, "requirePlace", "(LWordConcordance$Row;I)V"⟩
abbrev cX2_requirePart : ByteArray := prog_1_method_64_code
def yX2_requirePart : MethodName := ⟨RX2, "requirePart", "(LWordConcordance$Row;II)V"⟩
abbrev cX2_requireWithin : ByteArray := prog_1_method_65_code
def yX2_requireWithin : MethodName := ⟨RX2, "requireWithin", "(III)V"⟩
abbrev cX2_requireNotNegative : ByteArray := prog_1_method_66_code
def yX2_requireNotNegative : MethodName := ⟨RX2, "requireNotNegative", "(I)V"⟩
abbrev cX2_requireOrder : ByteArray := prog_1_method_67_code
def yX2_requireOrder : MethodName := ⟨RX2, "requireOrder", "(I)V"⟩
abbrev cX2_requireRoom : ByteArray := prog_1_method_68_code
def yX2_requireRoom : MethodName := ⟨RX2, "requireRoom", "(LWordConcordance$Row;I)V"⟩
abbrev cX2_requireNotEmpty : ByteArray := prog_1_method_69_code
def yX2_requireNotEmpty : MethodName := ⟨RX2, "requireNotEmpty", "(LWordConcordance$Row;)V"⟩
def RX3 : String := "WordConcordanceModel$Row"
def TX3 : u_T := fun k => match k with
  | 0 => ("WordConcordanceModel$Row", "words", "[I", true)
  | _ => ("WordConcordanceModel$Row", "many", "I", false)
def tyX3 : Nat → FieldType := fun k => match k with
  | 0 => .array .int
  | _ => .int
abbrev wsX30 : List Cond := u_ws RX3 TX3 2
theorem nmX3 : ∀ a, a < 2 → ∀ b, b < 2 → a ≠ b → (TX3 a).2.1 ≠ (TX3 b).2.1 := by decide +kernel
theorem tyX3_ok : ∀ k, k < 2 → parseFieldDescriptor (TX3 k).2.2.1 = some (tyX3 k) := by decide +kernel
abbrev cX3_init : ByteArray := prog_6_method_1_code
def yX3_init : MethodName := ⟨RX3, "<init>", "()V"⟩
abbrev cX3_at : ByteArray := prog_6_method_2_code
def yX3_at : MethodName := ⟨RX3, "at", "(I)I"⟩
abbrev cX3_add : ByteArray := prog_6_method_3_code
def yX3_add : MethodName := ⟨RX3, "add", "(I)V"⟩
abbrev cX3_insert : ByteArray := prog_6_method_4_code
def yX3_insert : MethodName := ⟨RX3, "insert", "(II)V"⟩
abbrev cX3_remove : ByteArray := prog_6_method_5_code
def yX3_remove : MethodName := ⟨RX3, "remove", "(I)I"⟩
abbrev cX3_alike : ByteArray := prog_6_method_6_code
def yX3_alike : MethodName := ⟨RX3, "alike", "(ILWordConcordanceModel$Row;I)I"⟩
abbrev cX3_has : ByteArray := prog_6_method_7_code
def yX3_has : MethodName := ⟨RX3, "has", "(LWordConcordanceModel$Row;I)Z"⟩
abbrev cX3_find : ByteArray := prog_6_method_8_code
def yX3_find : MethodName := ⟨RX3, "find", "(LWordConcordanceModel$Row;I)I"⟩
abbrev cX3_often : ByteArray := prog_6_method_9_code
def yX3_often : MethodName := ⟨RX3, "often", "(I)I"⟩
abbrev cX3_count : ByteArray := prog_6_method_10_code
def yX3_count : MethodName := ⟨RX3, "count", "(LWordConcordanceModel$Row;Z)I"⟩
abbrev cX3_swap : ByteArray := prog_6_method_11_code
def yX3_swap : MethodName := ⟨RX3, "swap", "(II)V"⟩
abbrev cX3_takes : ByteArray := prog_6_method_12_code
def yX3_takes : MethodName := ⟨RX3, "takes", "(LWordConcordanceModel$Row;)V"⟩
abbrev cX3_others : ByteArray := prog_6_method_13_code
def yX3_others : MethodName := ⟨RX3, "others", "(LWordConcordanceModel$Row;)I"⟩
def RX4 : String := "WordConcordanceModel"
def TX4 : u_T := fun k => match k with
  | 0 => ("WordConcordanceModel", "thrown", "I", false)
  | 1 => ("WordConcordanceModel", "texts", "[LWordConcordanceModel$Row;", true)
  | 2 => ("WordConcordanceModel", "phrases", "[LWordConcordanceModel$Row;", true)
  | 3 => ("WordConcordanceModel", "spare", "LWordConcordanceModel$Row;", true)
  | _ => ("WordConcordanceModel", "ranks", "[I", true)
def tyX4 : Nat → FieldType := fun k => match k with
  | 0 => .int
  | 1 => .array (.object "WordConcordanceModel$Row")
  | 2 => .array (.object "WordConcordanceModel$Row")
  | 3 => .object "WordConcordanceModel$Row"
  | _ => .array .int
abbrev wsX40 : List Cond := u_ws RX4 TX4 5
theorem nmX4 : ∀ a, a < 5 → ∀ b, b < 5 → a ≠ b → (TX4 a).2.1 ≠ (TX4 b).2.1 := by decide +kernel
theorem tyX4_ok : ∀ k, k < 5 → parseFieldDescriptor (TX4 k).2.2.1 = some (tyX4 k) := by decide +kernel
abbrev cX4_thrown : ByteArray := prog_5_method_1_code
def yX4_thrown : MethodName := ⟨RX4, "thrown", "()I"⟩
abbrev cX4_in : ByteArray := prog_5_method_2_code
def yX4_in : MethodName := ⟨RX4, "in", "(JJJ)Z"⟩
abbrev cX4_passes : ByteArray := prog_5_method_3_code
def yX4_passes : MethodName := ⟨RX4, "passes", "(ZZZ)Z"⟩
abbrev cX4_isText : ByteArray := prog_5_method_4_code
def yX4_isText : MethodName := ⟨RX4, "isText", "(I)Z"⟩
abbrev cX4_isWord : ByteArray := prog_5_method_5_code
def yX4_isWord : MethodName := ⟨RX4, "isWord", "(I)Z"⟩
abbrev cX4_isPhrase : ByteArray := prog_5_method_6_code
def yX4_isPhrase : MethodName := ⟨RX4, "isPhrase", "(I)Z"⟩
abbrev cX4_isOrder : ByteArray := prog_5_method_7_code
def yX4_isOrder : MethodName := ⟨RX4, "isOrder", "(I)Z"⟩
abbrev cX4_init : ByteArray := prog_5_method_8_code
def yX4_init : MethodName := ⟨RX4, "<init>", "()V"⟩
abbrev cX4_isPlace : ByteArray := prog_5_method_9_code
def yX4_isPlace : MethodName := ⟨RX4, "isPlace", "(II)Z"⟩
abbrev cX4_isPart : ByteArray := prog_5_method_10_code
def yX4_isPart : MethodName := ⟨RX4, "isPart", "(III)Z"⟩
abbrev cX4_hasRoom : ByteArray := prog_5_method_11_code
def yX4_hasRoom : MethodName := ⟨RX4, "hasRoom", "(IJ)Z"⟩
abbrev cX4_add : ByteArray := prog_5_method_12_code
def yX4_add : MethodName := ⟨RX4, "add", "(II)I"⟩
abbrev cX4_addMany : ByteArray := prog_5_method_13_code
def yX4_addMany : MethodName := ⟨RX4, "addMany", "(III)I"⟩
abbrev cX4_scatter : ByteArray := prog_5_method_14_code
def yX4_scatter : MethodName := ⟨RX4, "scatter", "(IIII)I"⟩
abbrev cX4_insert : ByteArray := prog_5_method_15_code
def yX4_insert : MethodName := ⟨RX4, "insert", "(III)I"⟩
abbrev cX4_set : ByteArray := prog_5_method_16_code
def yX4_set : MethodName := ⟨RX4, "set", "(III)I"⟩
abbrev cX4_remove : ByteArray := prog_5_method_17_code
def yX4_remove : MethodName := ⟨RX4, "remove", "(II)I"⟩
abbrev cX4_cut : ByteArray := prog_5_method_18_code
def yX4_cut : MethodName := ⟨RX4, "cut", "(III)I"⟩
abbrev cX4_size : ByteArray := prog_5_method_19_code
def yX4_size : MethodName := ⟨RX4, "size", "(I)I"⟩
abbrev cX4_at : ByteArray := prog_5_method_20_code
def yX4_at : MethodName := ⟨RX4, "at", "(II)I"⟩
abbrev cX4_digest : ByteArray := prog_5_method_21_code
def yX4_digest : MethodName := ⟨RX4, "digest", "(I)I"⟩
abbrev cX4_setRank : ByteArray := prog_5_method_22_code
def yX4_setRank : MethodName := ⟨RX4, "setRank", "(II)I"⟩
abbrev cX4_say : ByteArray := prog_5_method_23_code
def yX4_say : MethodName := ⟨RX4, "say", "(II)I"⟩
abbrev cX4_quote : ByteArray := prog_5_method_24_code
def yX4_quote : MethodName := ⟨RX4, "quote", "(IIII)I"⟩
abbrev cX4_hush : ByteArray := prog_5_method_25_code
def yX4_hush : MethodName := ⟨RX4, "hush", "(I)I"⟩
abbrev cX4_wordOf : ByteArray := prog_5_method_26_code
def yX4_wordOf : MethodName := ⟨RX4, "wordOf", "(II)I"⟩
abbrev cX4_find : ByteArray := prog_5_method_27_code
def yX4_find : MethodName := ⟨RX4, "find", "(I)I"⟩
abbrev cX4_findLast : ByteArray := prog_5_method_28_code
def yX4_findLast : MethodName := ⟨RX4, "findLast", "(I)I"⟩
abbrev cX4_findIn : ByteArray := prog_5_method_29_code
def yX4_findIn : MethodName := ⟨RX4, "findIn", "(III)I"⟩
abbrev cX4_count : ByteArray := prog_5_method_30_code
def yX4_count : MethodName := ⟨RX4, "count", "(IZ)I"⟩
abbrev cX4_replace : ByteArray := prog_5_method_31_code
def yX4_replace : MethodName := ⟨RX4, "replace", "(I)I"⟩
abbrev cX4_replaceWord : ByteArray := prog_5_method_32_code
def yX4_replaceWord : MethodName := ⟨RX4, "replaceWord", "(III)Z"⟩
abbrev cX4_frequency : ByteArray := prog_5_method_33_code
def yX4_frequency : MethodName := ⟨RX4, "frequency", "(II)I"⟩
abbrev cX4_different : ByteArray := prog_5_method_34_code
def yX4_different : MethodName := ⟨RX4, "different", "(I)I"⟩
abbrev cX4_most : ByteArray := prog_5_method_35_code
def yX4_most : MethodName := ⟨RX4, "most", "(I)I"⟩
abbrev cX4_isApart : ByteArray := prog_5_method_36_code
def yX4_isApart : MethodName := ⟨RX4, "isApart", "(II)Z"⟩
abbrev cX4_alone : ByteArray := prog_5_method_37_code
def yX4_alone : MethodName := ⟨RX4, "alone", "(II)I"⟩
abbrev cX4_valueOf : ByteArray := prog_5_method_38_code
def yX4_valueOf : MethodName := ⟨RX4, "valueOf", "(II)I"⟩
abbrev cX4_outermost : ByteArray := prog_5_method_39_code
def yX4_outermost : MethodName := ⟨RX4, "outermost", "(IIZ)I"⟩
abbrev cX4_greatest : ByteArray := prog_5_method_40_code
def yX4_greatest : MethodName := ⟨RX4, "greatest", "(II)I"⟩
abbrev cX4_least : ByteArray := prog_5_method_41_code
def yX4_least : MethodName := ⟨RX4, "least", "(II)I"⟩
abbrev cX4_sort : ByteArray := prog_5_method_42_code
def yX4_sort : MethodName := ⟨RX4, "sort", "(IIZ)I"⟩
abbrev cX4_areInOrder : ByteArray := prog_5_method_43_code
def yX4_areInOrder : MethodName := ⟨RX4, "areInOrder", "(LWordConcordanceModel$Row;I)Z"⟩
abbrev cX4_isSorted : ByteArray := prog_5_method_44_code
def yX4_isSorted : MethodName := ⟨RX4, "isSorted", "(II)Z"⟩
abbrev cX4_search : ByteArray := prog_5_method_45_code
def yX4_search : MethodName := ⟨RX4, "search", "(III)I"⟩
abbrev cX4_turn : ByteArray := prog_5_method_46_code
def yX4_turn : MethodName := ⟨RX4, "turn", "(III)I"⟩
abbrev cX4_move : ByteArray := prog_5_method_47_code
def yX4_move : MethodName := ⟨RX4, "move", "(IIII)I"⟩
abbrev cX4_swap : ByteArray := prog_5_method_48_code
def yX4_swap : MethodName := ⟨RX4, "swap", "(III)I"⟩
abbrev cX4_fill : ByteArray := prog_5_method_49_code
def yX4_fill : MethodName := ⟨RX4, "fill", "(IIII)I"⟩
abbrev cX4_copy : ByteArray := prog_5_method_50_code
def yX4_copy : MethodName := ⟨RX4, "copy", "(II)I"⟩
abbrev cX4_stands : ByteArray := prog_5_method_51_code
def yX4_stands : MethodName := ⟨RX4, "stands", "(II)I"⟩
abbrev cX4_near : ByteArray := prog_5_method_52_code
def yX4_near : MethodName := ⟨RX4, "near", "(III)I"⟩
abbrev cX4_common : ByteArray := prog_5_method_53_code
def yX4_common : MethodName := ⟨RX4, "common", "(III)I"⟩
abbrev cX4_refuses : ByteArray := prog_5_method_54_code
def yX4_refuses : MethodName := ⟨RX4, "refuses", "(I)Z"⟩
abbrev cX4_turned : ByteArray := prog_5_method_55_code
def yX4_turned : MethodName := ⟨RX4, "turned", "(LWordConcordanceModel$Row;)LWordConcordanceModel$Row;"⟩
abbrev cX4_errors : ByteArray := prog_5_method_56_code
def yX4_errors : MethodName := ⟨RX4, "errors", "(I)I"⟩
abbrev cX4_meanWord : ByteArray := prog_5_method_57_code
def yX4_meanWord : MethodName := ⟨RX4, "meanWord", "(I)D"⟩
abbrev cX4_share : ByteArray := prog_5_method_58_code
def yX4_share : MethodName := ⟨RX4, "share", "(II)F"⟩
def RJx145de : String := "java/io/Serializable"
def TJx145de : u_T := fun k => match k with
  | _ => ("", "", "", false)
def tyJx145de : Nat → FieldType := fun k => match k with
  | _ => .int
abbrev wsJx145de0 : List Cond := u_ws RJx145de TJx145de 0
theorem nmJx145de : ∀ a, a < 0 → ∀ b, b < 0 → a ≠ b → (TJx145de a).2.1 ≠ (TJx145de b).2.1 := by decide +kernel
theorem tyJx145de_ok : ∀ k, k < 0 → parseFieldDescriptor (TJx145de k).2.2.1 = some (tyJx145de k) := by decide +kernel
def RJ9 : String := "java/lang/Math"
def TJ9 : u_T := fun k => match k with
  | _ => ("", "", "", false)
def tyJ9 : Nat → FieldType := fun k => match k with
  | _ => .int
abbrev wsJ90 : List Cond := u_ws RJ9 TJ9 0
theorem nmJ9 : ∀ a, a < 0 → ∀ b, b < 0 → a ≠ b → (TJ9 a).2.1 ≠ (TJ9 b).2.1 := by decide +kernel
theorem tyJ9_ok : ∀ k, k < 0 → parseFieldDescriptor (TJ9 k).2.2.1 = some (tyJ9 k) := by decide +kernel
abbrev cJ9_floorMod_7cf53 : ByteArray := prog_12_method_50_code
def yJ9_floorMod_7cf53 : MethodName := ⟨RJ9, "floorMod", "(II)I"⟩
abbrev cJ9_abs_0f7a4 : ByteArray := prog_12_method_59_code
def yJ9_abs_0f7a4 : MethodName := ⟨RJ9, "abs", "(I)I"⟩
abbrev cJ9_max_7cf53 : ByteArray := prog_12_method_65_code
def yJ9_max_7cf53 : MethodName := ⟨RJ9, "max", "(II)I"⟩
abbrev cJ9_min_7cf53 : ByteArray := prog_12_method_69_code
def yJ9_min_7cf53 : MethodName := ⟨RJ9, "min", "(II)I"⟩
def RJ0 : String := "java/lang/String"
def TJ0 : u_T := fun k => match k with
  | _ => ("", "", "", false)
def tyJ0 : Nat → FieldType := fun k => match k with
  | _ => .int
abbrev wsJ00 : List Cond := u_ws RJ0 TJ0 0
theorem nmJ0 : ∀ a, a < 0 → ∀ b, b < 0 → a ≠ b → (TJ0 a).2.1 ≠ (TJ0 b).2.1 := by decide +kernel
theorem tyJ0_ok : ∀ k, k < 0 → parseFieldDescriptor (TJ0 k).2.2.1 = some (tyJ0 k) := by decide +kernel
def RL : String := "WordConcordanceLaw"
abbrev cL_add : ByteArray := method_3_code
def yL_add : MethodName := ⟨RL, "add", "(LWordConcordance;II[J)I"⟩
abbrev cL_addMany : ByteArray := method_4_code
def yL_addMany : MethodName := ⟨RL, "addMany", "(LWordConcordance;III[J)I"⟩
abbrev cL_scatter : ByteArray := method_5_code
def yL_scatter : MethodName := ⟨RL, "scatter", "(LWordConcordance;IIII[J)I"⟩
abbrev cL_insert : ByteArray := method_6_code
def yL_insert : MethodName := ⟨RL, "insert", "(LWordConcordance;III[J)I"⟩
abbrev cL_set : ByteArray := method_7_code
def yL_set : MethodName := ⟨RL, "set", "(LWordConcordance;III[J)I"⟩
abbrev cL_remove : ByteArray := method_8_code
def yL_remove : MethodName := ⟨RL, "remove", "(LWordConcordance;II[J)I"⟩
abbrev cL_cut : ByteArray := method_9_code
def yL_cut : MethodName := ⟨RL, "cut", "(LWordConcordance;III[J)I"⟩
abbrev cL_size : ByteArray := method_10_code
def yL_size : MethodName := ⟨RL, "size", "(LWordConcordance;I[J)I"⟩
abbrev cL_at : ByteArray := method_11_code
def yL_at : MethodName := ⟨RL, "at", "(LWordConcordance;II[J)I"⟩
abbrev cL_digest : ByteArray := method_12_code
def yL_digest : MethodName := ⟨RL, "digest", "(LWordConcordance;I[J)I"⟩
abbrev cL_setRank : ByteArray := method_13_code
def yL_setRank : MethodName := ⟨RL, "setRank", "(LWordConcordance;II[J)I"⟩
abbrev cL_say : ByteArray := method_14_code
def yL_say : MethodName := ⟨RL, "say", "(LWordConcordance;II[J)I"⟩
abbrev cL_quote : ByteArray := method_15_code
def yL_quote : MethodName := ⟨RL, "quote", "(LWordConcordance;IIII[J)I"⟩
abbrev cL_hush : ByteArray := method_16_code
def yL_hush : MethodName := ⟨RL, "hush", "(LWordConcordance;I[J)I"⟩
abbrev cL_wordOf : ByteArray := method_17_code
def yL_wordOf : MethodName := ⟨RL, "wordOf", "(LWordConcordance;II[J)I"⟩
abbrev cL_find : ByteArray := method_18_code
def yL_find : MethodName := ⟨RL, "find", "(LWordConcordance;I[J)I"⟩
abbrev cL_findLast : ByteArray := method_19_code
def yL_findLast : MethodName := ⟨RL, "findLast", "(LWordConcordance;I[J)I"⟩
abbrev cL_findIn : ByteArray := method_20_code
def yL_findIn : MethodName := ⟨RL, "findIn", "(LWordConcordance;III[J)I"⟩
abbrev cL_count : ByteArray := method_21_code
def yL_count : MethodName := ⟨RL, "count", "(LWordConcordance;IZ[J)I"⟩
abbrev cL_replace : ByteArray := method_22_code
def yL_replace : MethodName := ⟨RL, "replace", "(LWordConcordance;I[J)I"⟩
abbrev cL_replaceWord : ByteArray := method_23_code
def yL_replaceWord : MethodName := ⟨RL, "replaceWord", "(LWordConcordance;III[J)I"⟩
abbrev cL_frequency : ByteArray := method_24_code
def yL_frequency : MethodName := ⟨RL, "frequency", "(LWordConcordance;II[J)I"⟩
abbrev cL_different : ByteArray := method_25_code
def yL_different : MethodName := ⟨RL, "different", "(LWordConcordance;I[J)I"⟩
abbrev cL_most : ByteArray := method_26_code
def yL_most : MethodName := ⟨RL, "most", "(LWordConcordance;I[J)I"⟩
abbrev cL_isApart : ByteArray := method_27_code
def yL_isApart : MethodName := ⟨RL, "isApart", "(LWordConcordance;II[J)I"⟩
abbrev cL_alone : ByteArray := method_28_code
def yL_alone : MethodName := ⟨RL, "alone", "(LWordConcordance;II[J)I"⟩
abbrev cL_greatest : ByteArray := method_29_code
def yL_greatest : MethodName := ⟨RL, "greatest", "(LWordConcordance;II[J)I"⟩
abbrev cL_least : ByteArray := method_30_code
def yL_least : MethodName := ⟨RL, "least", "(LWordConcordance;II[J)I"⟩
abbrev cL_sort : ByteArray := method_31_code
def yL_sort : MethodName := ⟨RL, "sort", "(LWordConcordance;IIZ[J)I"⟩
abbrev cL_isSorted : ByteArray := method_32_code
def yL_isSorted : MethodName := ⟨RL, "isSorted", "(LWordConcordance;II[J)I"⟩
abbrev cL_search : ByteArray := method_33_code
def yL_search : MethodName := ⟨RL, "search", "(LWordConcordance;III[J)I"⟩
abbrev cL_turn : ByteArray := method_34_code
def yL_turn : MethodName := ⟨RL, "turn", "(LWordConcordance;III[J)I"⟩
abbrev cL_move : ByteArray := method_35_code
def yL_move : MethodName := ⟨RL, "move", "(LWordConcordance;IIII[J)I"⟩
abbrev cL_swap : ByteArray := method_36_code
def yL_swap : MethodName := ⟨RL, "swap", "(LWordConcordance;III[J)I"⟩
abbrev cL_fill : ByteArray := method_37_code
def yL_fill : MethodName := ⟨RL, "fill", "(LWordConcordance;IIII[J)I"⟩
abbrev cL_copy : ByteArray := method_38_code
def yL_copy : MethodName := ⟨RL, "copy", "(LWordConcordance;II[J)I"⟩
abbrev cL_stands : ByteArray := method_39_code
def yL_stands : MethodName := ⟨RL, "stands", "(LWordConcordance;II[J)I"⟩
abbrev cL_near : ByteArray := method_40_code
def yL_near : MethodName := ⟨RL, "near", "(LWordConcordance;III[J)I"⟩
abbrev cL_common : ByteArray := method_41_code
def yL_common : MethodName := ⟨RL, "common", "(LWordConcordance;III[J)I"⟩
abbrev cL_refuses : ByteArray := method_42_code
def yL_refuses : MethodName := ⟨RL, "refuses", "(LWordConcordance;I[J)I"⟩
abbrev cL_errors : ByteArray := method_43_code
def yL_errors : MethodName := ⟨RL, "errors", "(LWordConcordance;I[J)I"⟩
abbrev cL_meanWord : ByteArray := method_44_code
def yL_meanWord : MethodName := ⟨RL, "meanWord", "(LWordConcordance;I[D)I"⟩
abbrev cL_share : ByteArray := method_45_code
def yL_share : MethodName := ⟨RL, "share", "(LWordConcordance;II[D)I"⟩
abbrev cL_law : ByteArray := code
def yL_law : MethodName := ⟨RL, "law", "([I)Z"⟩
abbrev vwCl : List vw_C := [(RX0, TX0, 2), (RX1, TX1, 2), (RX2, TX2, 7), (RX3, TX3, 2), (RX4, TX4, 5)]
end
section
/-! the words of the tables that hold at every state, in one list: a contract asks for its own code and for all of them -/
def zW : List Cond := lw_tbl.filter goodWord
theorem zq {w : Cond} (i : Nat) (h : tables_1[i]? = some w) (g : goodWord w = true) : w ∈ zW := List.mem_filter.mpr ⟨List.mem_append_right _ (List.mem_of_getElem? h), g⟩
theorem zqp {w : Cond} (i : Nat) (h : (k2_sels lw_privs)[i]? = some w) (g : goodWord w = true) : w ∈ zW := List.mem_filter.mpr ⟨List.mem_append_left _ (List.mem_of_getElem? h), g⟩
theorem zql (ws : List Cond) (is : List Nat) (hs : ws = is.filterMap (fun i => lw_tbl[i]?)) (h : ws.all goodWord = true) : ∀ w ∈ ws, w ∈ zW := by
  intro w hw
  have h1 := List.all_eq_true.mp h w hw
  rw [hs] at hw
  obtain ⟨i, -, hi⟩ := List.mem_filterMap.mp hw
  exact List.mem_filter.mpr ⟨List.mem_of_getElem? hi, h1⟩
def zEI : String := "java/lang/IndexOutOfBoundsException"
def zES : String := "java/lang/IllegalStateException"
def zEA : String := "java/lang/IllegalArgumentException"
def zEN : String := "java/util/NoSuchElementException"
def zEU : String := "java/lang/UnsupportedOperationException"
def zBad (E : String) : List Cond := [Cond.castable E E, .declares (Bundle.initS "java/lang/RuntimeException"), .declares (Bundle.initS "java/lang/Exception"), .declares (Bundle.initS Bundle.tN)]
def zNames : List String := ["java/lang/RuntimeException", "java/lang/Exception"]
theorem q0 : Cond.initialized RL ∈ zW := zq 0 (by decide +kernel) (by decide +kernel)
theorem q1 : Cond.initialized RX2 ∈ zW := zq 1 (by decide +kernel) (by decide +kernel)
theorem q2 : Cond.initialized RX1 ∈ zW := zq 2 (by decide +kernel) (by decide +kernel)
theorem q3 : Cond.initialized RX4 ∈ zW := zq 3 (by decide +kernel) (by decide +kernel)
theorem q4 : Cond.initialized RX3 ∈ zW := zq 4 (by decide +kernel) (by decide +kernel)
theorem q5 : Cond.initialized "java/lang/Throwable" ∈ zW := zq 5 (by decide +kernel) (by decide +kernel)
theorem q6 : Cond.initialized "java/lang/Exception" ∈ zW := zq 6 (by decide +kernel) (by decide +kernel)
theorem q7 : Cond.initialized "java/lang/RuntimeException" ∈ zW := zq 7 (by decide +kernel) (by decide +kernel)
theorem q8 : Cond.initialized "java/lang/IndexOutOfBoundsException" ∈ zW := zq 8 (by decide +kernel) (by decide +kernel)
theorem q9 : Cond.initialized "java/lang/IllegalStateException" ∈ zW := zq 9 (by decide +kernel) (by decide +kernel)
theorem q10 : Cond.initialized "java/lang/IllegalArgumentException" ∈ zW := zq 10 (by decide +kernel) (by decide +kernel)
theorem q11 : Cond.initialized RJ9 ∈ zW := zq 11 (by decide +kernel) (by decide +kernel)
theorem q12 : Cond.initialized "java/util/NoSuchElementException" ∈ zW := zq 12 (by decide +kernel) (by decide +kernel)
theorem q13 : Cond.initialized RX0 ∈ zW := zq 13 (by decide +kernel) (by decide +kernel)
theorem q14 : Cond.initialized "java/lang/UnsupportedOperationException" ∈ zW := zq 14 (by decide +kernel) (by decide +kernel)
theorem q15 : Cond.classLink RL 8 "WordConcordance" ∈ zW := zq 15 (by decide +kernel) (by decide +kernel)
theorem q16 : Cond.instantiable RX2 7 ∈ zW := zq 16 (by decide +kernel) (by decide +kernel)
theorem q17 : Cond.methodLink RL 157 yX2_init ∈ zW := zq 17 (by decide +kernel) (by decide +kernel)
theorem q18 : Cond.instanceMethod yX2_init ∈ zW := zq 18 (by decide +kernel) (by decide +kernel)
theorem q19 : Cond.code yX2_init cX2_init 2 none ∈ zW := zq 19 (by decide +kernel) (by decide +kernel)
theorem q20 : Cond.methodLink RX2 1 ⟨"java/lang/Object", "<init>", "()V"⟩ ∈ zW := zq 20 (by decide +kernel) (by decide +kernel)
theorem q21 : Cond.instanceMethod ⟨"java/lang/Object", "<init>", "()V"⟩ ∈ zW := zq 21 (by decide +kernel) (by decide +kernel)
theorem q22 : Cond.code ⟨"java/lang/Object", "<init>", "()V"⟩ object_method_1_code 1 none ∈ zW := zq 22 (by decide +kernel) (by decide +kernel)
theorem q23 : Cond.classLink RX2 9 "WordConcordance$Row" ∈ zW := zq 23 (by decide +kernel) (by decide +kernel)
theorem q25 : Cond.instantiable RX1 2 ∈ zW := zq 25 (by decide +kernel) (by decide +kernel)
theorem q26 : Cond.methodLink RX2 22 yX1_init ∈ zW := zq 26 (by decide +kernel) (by decide +kernel)
theorem q27 : Cond.instanceMethod yX1_init ∈ zW := zq 27 (by decide +kernel) (by decide +kernel)
theorem q28 : Cond.code yX1_init cX1_init 2 none ∈ zW := zq 28 (by decide +kernel) (by decide +kernel)
theorem q29 : Cond.methodLink RX1 3 ⟨"java/lang/Object", "<init>", "()V"⟩ ∈ zW := zq 29 (by decide +kernel) (by decide +kernel)
theorem q30 : Cond.fieldLink RX1 9 "WordConcordance$Row" "words" "[I" ∈ zW := zq 30 (by decide +kernel) (by decide +kernel)
theorem q32 : Cond.fieldLink RX1 15 "WordConcordance$Row" "length" "I" ∈ zW := zq 32 (by decide +kernel) (by decide +kernel)
theorem q39 : Cond.arrayClass FieldType.int ∈ zW := zq 39 (by decide +kernel) (by decide +kernel)
theorem q40 : Cond.fieldLink RX2 11 "WordConcordance" "texts" "[LWordConcordance$Row;" ∈ zW := zq 40 (by decide +kernel) (by decide +kernel)
theorem q41 : Cond.fieldLink RX2 15 "WordConcordance" "phrases" "[LWordConcordance$Row;" ∈ zW := zq 41 (by decide +kernel) (by decide +kernel)
theorem q42 : Cond.fieldLink RX2 18 "WordConcordance" "ranks" "[I" ∈ zW := zq 42 (by decide +kernel) (by decide +kernel)
theorem q43 : Cond.fieldLink RX2 25 "WordConcordance" "draft" "LWordConcordance$Row;" ∈ zW := zq 43 (by decide +kernel) (by decide +kernel)
theorem q44 : Cond.fieldLink RX2 29 "WordConcordance" "trial" "LWordConcordance$Row;" ∈ zW := zq 44 (by decide +kernel) (by decide +kernel)
theorem q45 : Cond.fieldLink RX2 32 "WordConcordance" "trialPhrase" "LWordConcordance$Row;" ∈ zW := zq 45 (by decide +kernel) (by decide +kernel)
theorem q46 : Cond.fieldLink RX2 35 "WordConcordance" "runs" "[I" ∈ zW := zq 46 (by decide +kernel) (by decide +kernel)
theorem q62 : Cond.methodLink RL 161 yL_add ∈ zW := zq 62 (by decide +kernel) (by decide +kernel)
theorem q63 : Cond.static yL_add ∈ zW := zq 63 (by decide +kernel) (by decide +kernel)
theorem q64 : Cond.codeWith yL_add cL_add 5 (some FieldType.int) [(0, 10, 13, 13), (0, 10, 17, 15)] ∈ zW := zq 64 (by decide +kernel) (by decide +kernel)
theorem q65 : Cond.classLink RL 13 "java/lang/IndexOutOfBoundsException" ∈ zW := zq 65 (by decide +kernel) (by decide +kernel)
theorem q66 : Cond.classLink RL 15 "java/lang/IllegalStateException" ∈ zW := zq 66 (by decide +kernel) (by decide +kernel)
theorem q67 : Cond.methodLink RL 7 yX2_add ∈ zW := zq 67 (by decide +kernel) (by decide +kernel)
theorem q68 : Cond.instanceMethod yX2_add ∈ zW := zq 68 (by decide +kernel) (by decide +kernel)
theorem q69 : Cond.selects "WordConcordance" yX2_add yX2_add ∈ zW := zq 69 (by decide +kernel) (by decide +kernel)
theorem q70 : Cond.code yX2_add cX2_add 4 (some FieldType.int) ∈ zW := zq 70 (by decide +kernel) (by decide +kernel)
theorem q71 : Cond.methodLink RX2 38 yX2_textAt ∈ zW := zq 71 (by decide +kernel) (by decide +kernel)
theorem q73 : Cond.instanceMethod yX2_textAt ∈ zW := zq 73 (by decide +kernel) (by decide +kernel)
theorem q74 : Cond.code yX2_textAt cX2_textAt 2 (some (FieldType.object "WordConcordance$Row")) ∈ zW := zq 74 (by decide +kernel) (by decide +kernel)
theorem q75 : Cond.classLink RX2 212 "java/lang/IndexOutOfBoundsException" ∈ zW := zq 75 (by decide +kernel) (by decide +kernel)
theorem q76 : Cond.instantiable "java/lang/IndexOutOfBoundsException" 6 ∈ zW := zq 76 (by decide +kernel) (by decide +kernel)
theorem q84 : Cond.selects "java/lang/IndexOutOfBoundsException" ⟨"java/lang/Throwable", "fillInStackTrace", "(I)Ljava/lang/Throwable;"⟩ ⟨"java/lang/Throwable", "fillInStackTrace", "(I)Ljava/lang/Throwable;"⟩ ∈ zW := zq 84 (by decide +kernel) (by decide +kernel)
theorem q85 : Cond.selects "java/lang/IndexOutOfBoundsException" ⟨"java/lang/Throwable", "fillInStackTrace", "()Ljava/lang/Throwable;"⟩ ⟨"java/lang/Throwable", "fillInStackTrace", "()Ljava/lang/Throwable;"⟩ ∈ zW := zq 85 (by decide +kernel) (by decide +kernel)
theorem q96 : Cond.fieldLink "java/lang/Throwable" 198 "java/lang/Throwable" "backtrace" "Ljava/lang/Object;" ∈ zW := zq 96 (by decide +kernel) (by decide +kernel)
theorem q98 : Cond.instanceMethod ⟨"java/lang/Throwable", "<init>", "()V"⟩ ∈ zW := zq 98 (by decide +kernel) (by decide +kernel)
theorem q99 : Cond.code ⟨"java/lang/Throwable", "<init>", "()V"⟩ prog_15_method_1_code 1 none ∈ zW := zq 99 (by decide +kernel) (by decide +kernel)
theorem q100 : Cond.methodLink "java/lang/Throwable" 1 ⟨"java/lang/Object", "<init>", "()V"⟩ ∈ zW := zq 100 (by decide +kernel) (by decide +kernel)
theorem q101 : Cond.fieldLink "java/lang/Throwable" 13 "java/lang/Throwable" "UNASSIGNED_STACK" "[Ljava/lang/StackTraceElement;" ∈ zW := zq 101 (by decide +kernel) (by decide +kernel)
theorem q103 : Cond.fieldLink "java/lang/Throwable" 20 "java/lang/Throwable" "SUPPRESSED_SENTINEL" "Ljava/util/List;" ∈ zW := zq 103 (by decide +kernel) (by decide +kernel)
theorem q105 : Cond.methodLink "java/lang/Throwable" 27 ⟨"java/lang/Throwable", "fillInStackTrace", "()Ljava/lang/Throwable;"⟩ ∈ zW := zq 105 (by decide +kernel) (by decide +kernel)
theorem q106 : Cond.instanceMethod ⟨"java/lang/Throwable", "fillInStackTrace", "()Ljava/lang/Throwable;"⟩ ∈ zW := zq 106 (by decide +kernel) (by decide +kernel)
theorem q108 : Cond.selects "java/lang/IllegalArgumentException" ⟨"java/lang/Throwable", "fillInStackTrace", "()Ljava/lang/Throwable;"⟩ ⟨"java/lang/Throwable", "fillInStackTrace", "()Ljava/lang/Throwable;"⟩ ∈ zW := zq 108 (by decide +kernel) (by decide +kernel)
theorem q109 : Cond.selects "java/lang/IllegalStateException" ⟨"java/lang/Throwable", "fillInStackTrace", "()Ljava/lang/Throwable;"⟩ ⟨"java/lang/Throwable", "fillInStackTrace", "()Ljava/lang/Throwable;"⟩ ∈ zW := zq 109 (by decide +kernel) (by decide +kernel)
theorem q110 : Cond.selects "java/lang/UnsupportedOperationException" ⟨"java/lang/Throwable", "fillInStackTrace", "()Ljava/lang/Throwable;"⟩ ⟨"java/lang/Throwable", "fillInStackTrace", "()Ljava/lang/Throwable;"⟩ ∈ zW := zq 110 (by decide +kernel) (by decide +kernel)
theorem q111 : Cond.selects "java/util/NoSuchElementException" ⟨"java/lang/Throwable", "fillInStackTrace", "()Ljava/lang/Throwable;"⟩ ⟨"java/lang/Throwable", "fillInStackTrace", "()Ljava/lang/Throwable;"⟩ ∈ zW := zq 111 (by decide +kernel) (by decide +kernel)
theorem q113 : Cond.methodLink "java/lang/Throwable" 202 ⟨"java/lang/Throwable", "fillInStackTrace", "(I)Ljava/lang/Throwable;"⟩ ∈ zW := zq 113 (by decide +kernel) (by decide +kernel)
theorem q115 : Cond.instanceMethod ⟨"java/lang/Throwable", "fillInStackTrace", "(I)Ljava/lang/Throwable;"⟩ ∈ zW := zq 115 (by decide +kernel) (by decide +kernel)
theorem q116 : Cond.instantiable "java/lang/Throwable" 6 ∈ zW := zq 116 (by decide +kernel) (by decide +kernel)
theorem q119 : Cond.methodLink RX2 250 ⟨"java/lang/IndexOutOfBoundsException", "<init>", "(Ljava/lang/String;)V"⟩ ∈ zW := zq 119 (by decide +kernel) (by decide +kernel)
theorem q120 : Cond.instanceMethod ⟨"java/lang/IndexOutOfBoundsException", "<init>", "(Ljava/lang/String;)V"⟩ ∈ zW := zq 120 (by decide +kernel) (by decide +kernel)
theorem q121 : Cond.code ⟨"java/lang/IndexOutOfBoundsException", "<init>", "(Ljava/lang/String;)V"⟩ prog_11_method_2_code 2 none ∈ zW := zq 121 (by decide +kernel) (by decide +kernel)
theorem q122 : Cond.methodLink "java/lang/IndexOutOfBoundsException" 7 ⟨"java/lang/RuntimeException", "<init>", "(Ljava/lang/String;)V"⟩ ∈ zW := zq 122 (by decide +kernel) (by decide +kernel)
theorem q123 : Cond.instanceMethod ⟨"java/lang/RuntimeException", "<init>", "(Ljava/lang/String;)V"⟩ ∈ zW := zq 123 (by decide +kernel) (by decide +kernel)
theorem q124 : Cond.code ⟨"java/lang/RuntimeException", "<init>", "(Ljava/lang/String;)V"⟩ prog_13_method_2_code 2 none ∈ zW := zq 124 (by decide +kernel) (by decide +kernel)
theorem q125 : Cond.methodLink "java/lang/RuntimeException" 7 ⟨"java/lang/Exception", "<init>", "(Ljava/lang/String;)V"⟩ ∈ zW := zq 125 (by decide +kernel) (by decide +kernel)
theorem q126 : Cond.instanceMethod ⟨"java/lang/Exception", "<init>", "(Ljava/lang/String;)V"⟩ ∈ zW := zq 126 (by decide +kernel) (by decide +kernel)
theorem q127 : Cond.code ⟨"java/lang/Exception", "<init>", "(Ljava/lang/String;)V"⟩ prog_8_method_2_code 2 none ∈ zW := zq 127 (by decide +kernel) (by decide +kernel)
theorem q128 : Cond.methodLink "java/lang/Exception" 7 ⟨"java/lang/Throwable", "<init>", "(Ljava/lang/String;)V"⟩ ∈ zW := zq 128 (by decide +kernel) (by decide +kernel)
theorem q129 : Cond.instanceMethod ⟨"java/lang/Throwable", "<init>", "(Ljava/lang/String;)V"⟩ ∈ zW := zq 129 (by decide +kernel) (by decide +kernel)
theorem q130 : Cond.code ⟨"java/lang/Throwable", "<init>", "(Ljava/lang/String;)V"⟩ prog_15_method_2_code 2 none ∈ zW := zq 130 (by decide +kernel) (by decide +kernel)
theorem q132 : Cond.fieldLink "java/lang/Throwable" 31 "java/lang/Throwable" "detailMessage" "Ljava/lang/String;" ∈ zW := zq 132 (by decide +kernel) (by decide +kernel)
theorem q133 : Cond.fieldLink "java/lang/Throwable" 7 "java/lang/Throwable" "cause" "Ljava/lang/Throwable;" ∈ zW := zq 133 (by decide +kernel) (by decide +kernel)
theorem q134 : Cond.fieldLink "java/lang/Throwable" 17 "java/lang/Throwable" "stackTrace" "[Ljava/lang/StackTraceElement;" ∈ zW := zq 134 (by decide +kernel) (by decide +kernel)
theorem q135 : Cond.fieldLink "java/lang/Throwable" 24 "java/lang/Throwable" "suppressedExceptions" "Ljava/util/List;" ∈ zW := zq 135 (by decide +kernel) (by decide +kernel)
theorem q144 : Cond.arrayClass FieldType.byte ∈ zW := zq 144 (by decide +kernel) (by decide +kernel)
theorem q145 : Cond.methodLink RX2 42 yX2_requireWord ∈ zW := zq 145 (by decide +kernel) (by decide +kernel)
theorem q146 : Cond.static yX2_requireWord ∈ zW := zq 146 (by decide +kernel) (by decide +kernel)
theorem q147 : Cond.code yX2_requireWord cX2_requireWord 1 none ∈ zW := zq 147 (by decide +kernel) (by decide +kernel)
theorem q149 : Cond.methodLink RX2 46 yX2_requireRoom ∈ zW := zq 149 (by decide +kernel) (by decide +kernel)
theorem q150 : Cond.static yX2_requireRoom ∈ zW := zq 150 (by decide +kernel) (by decide +kernel)
theorem q151 : Cond.code yX2_requireRoom cX2_requireRoom 2 none ∈ zW := zq 151 (by decide +kernel) (by decide +kernel)
theorem q152 : Cond.classLink RX2 92 "java/lang/IllegalStateException" ∈ zW := zq 152 (by decide +kernel) (by decide +kernel)
theorem q153 : Cond.instantiable "java/lang/IllegalStateException" 6 ∈ zW := zq 153 (by decide +kernel) (by decide +kernel)
theorem q155 : Cond.selects "java/lang/IllegalStateException" ⟨"java/lang/Throwable", "fillInStackTrace", "(I)Ljava/lang/Throwable;"⟩ ⟨"java/lang/Throwable", "fillInStackTrace", "(I)Ljava/lang/Throwable;"⟩ ∈ zW := zq 155 (by decide +kernel) (by decide +kernel)
theorem q162 : Cond.methodLink RX2 96 ⟨"java/lang/IllegalStateException", "<init>", "(Ljava/lang/String;)V"⟩ ∈ zW := zq 162 (by decide +kernel) (by decide +kernel)
theorem q163 : Cond.instanceMethod ⟨"java/lang/IllegalStateException", "<init>", "(Ljava/lang/String;)V"⟩ ∈ zW := zq 163 (by decide +kernel) (by decide +kernel)
theorem q164 : Cond.code ⟨"java/lang/IllegalStateException", "<init>", "(Ljava/lang/String;)V"⟩ prog_10_method_2_code 2 none ∈ zW := zq 164 (by decide +kernel) (by decide +kernel)
theorem q165 : Cond.methodLink "java/lang/IllegalStateException" 7 ⟨"java/lang/RuntimeException", "<init>", "(Ljava/lang/String;)V"⟩ ∈ zW := zq 165 (by decide +kernel) (by decide +kernel)
theorem q168 : Cond.methodLink RX2 50 yX1_append ∈ zW := zq 168 (by decide +kernel) (by decide +kernel)
theorem q169 : Cond.instanceMethod yX1_append ∈ zW := zq 169 (by decide +kernel) (by decide +kernel)
theorem q170 : Cond.selects "WordConcordance$Row" yX1_append yX1_append ∈ zW := zq 170 (by decide +kernel) (by decide +kernel)
theorem q171 : Cond.code yX1_append cX1_append 2 none ∈ zW := zq 171 (by decide +kernel) (by decide +kernel)
theorem q172 : Cond.methodLink RL 171 yL_addMany ∈ zW := zq 172 (by decide +kernel) (by decide +kernel)
theorem q173 : Cond.static yL_addMany ∈ zW := zq 173 (by decide +kernel) (by decide +kernel)
theorem q174 : Cond.codeWith yL_addMany cL_addMany 6 (some FieldType.int) [(0, 12, 15, 13), (0, 12, 19, 21), (0, 12, 23, 15)] ∈ zW := zq 174 (by decide +kernel) (by decide +kernel)
theorem q175 : Cond.classLink RL 21 "java/lang/IllegalArgumentException" ∈ zW := zq 175 (by decide +kernel) (by decide +kernel)
theorem q176 : Cond.methodLink RL 17 yX2_addMany ∈ zW := zq 176 (by decide +kernel) (by decide +kernel)
theorem q177 : Cond.instanceMethod yX2_addMany ∈ zW := zq 177 (by decide +kernel) (by decide +kernel)
theorem q178 : Cond.selects "WordConcordance" yX2_addMany yX2_addMany ∈ zW := zq 178 (by decide +kernel) (by decide +kernel)
theorem q179 : Cond.code yX2_addMany cX2_addMany 6 (some FieldType.int) ∈ zW := zq 179 (by decide +kernel) (by decide +kernel)
theorem q180 : Cond.methodLink RX2 57 yX2_requireNotNegative ∈ zW := zq 180 (by decide +kernel) (by decide +kernel)
theorem q181 : Cond.static yX2_requireNotNegative ∈ zW := zq 181 (by decide +kernel) (by decide +kernel)
theorem q182 : Cond.code yX2_requireNotNegative cX2_requireNotNegative 1 none ∈ zW := zq 182 (by decide +kernel) (by decide +kernel)
theorem q183 : Cond.classLink RX2 214 "java/lang/IllegalArgumentException" ∈ zW := zq 183 (by decide +kernel) (by decide +kernel)
theorem q184 : Cond.instantiable "java/lang/IllegalArgumentException" 6 ∈ zW := zq 184 (by decide +kernel) (by decide +kernel)
theorem q186 : Cond.selects "java/lang/IllegalArgumentException" ⟨"java/lang/Throwable", "fillInStackTrace", "(I)Ljava/lang/Throwable;"⟩ ⟨"java/lang/Throwable", "fillInStackTrace", "(I)Ljava/lang/Throwable;"⟩ ∈ zW := zq 186 (by decide +kernel) (by decide +kernel)
theorem q193 : Cond.methodLink RX2 261 ⟨"java/lang/IllegalArgumentException", "<init>", "(Ljava/lang/String;)V"⟩ ∈ zW := zq 193 (by decide +kernel) (by decide +kernel)
theorem q194 : Cond.instanceMethod ⟨"java/lang/IllegalArgumentException", "<init>", "(Ljava/lang/String;)V"⟩ ∈ zW := zq 194 (by decide +kernel) (by decide +kernel)
theorem q195 : Cond.code ⟨"java/lang/IllegalArgumentException", "<init>", "(Ljava/lang/String;)V"⟩ prog_9_method_2_code 2 none ∈ zW := zq 195 (by decide +kernel) (by decide +kernel)
theorem q196 : Cond.methodLink "java/lang/IllegalArgumentException" 7 ⟨"java/lang/RuntimeException", "<init>", "(Ljava/lang/String;)V"⟩ ∈ zW := zq 196 (by decide +kernel) (by decide +kernel)
theorem q199 : Cond.methodLink RL 175 yL_scatter ∈ zW := zq 199 (by decide +kernel) (by decide +kernel)
theorem q200 : Cond.static yL_scatter ∈ zW := zq 200 (by decide +kernel) (by decide +kernel)
theorem q201 : Cond.codeWith yL_scatter cL_scatter 7 (some FieldType.int) [(0, 14, 17, 13), (0, 14, 21, 21), (0, 14, 25, 15)] ∈ zW := zq 201 (by decide +kernel) (by decide +kernel)
theorem q202 : Cond.methodLink RL 23 yX2_scatter ∈ zW := zq 202 (by decide +kernel) (by decide +kernel)
theorem q203 : Cond.instanceMethod yX2_scatter ∈ zW := zq 203 (by decide +kernel) (by decide +kernel)
theorem q204 : Cond.selects "WordConcordance" yX2_scatter yX2_scatter ∈ zW := zq 204 (by decide +kernel) (by decide +kernel)
theorem q205 : Cond.code yX2_scatter cX2_scatter 9 (some FieldType.int) ∈ zW := zq 205 (by decide +kernel) (by decide +kernel)
theorem q206 : Cond.methodLink RX2 60 yX2_requireWithin ∈ zW := zq 206 (by decide +kernel) (by decide +kernel)
theorem q207 : Cond.static yX2_requireWithin ∈ zW := zq 207 (by decide +kernel) (by decide +kernel)
theorem q208 : Cond.code yX2_requireWithin cX2_requireWithin 3 none ∈ zW := zq 208 (by decide +kernel) (by decide +kernel)
theorem q210 : Cond.constantLong RX2 64 (1103515245 : Int64) ∈ zW := zq 210 (by decide +kernel) (by decide +kernel)
theorem q211 : Cond.constantLong RX2 66 (12345 : Int64) ∈ zW := zq 211 (by decide +kernel) (by decide +kernel)
theorem q212 : Cond.constantLong RX2 68 (2147483647 : Int64) ∈ zW := zq 212 (by decide +kernel) (by decide +kernel)
theorem q213 : Cond.constantLong RX2 70 (65536 : Int64) ∈ zW := zq 213 (by decide +kernel) (by decide +kernel)
theorem q214 : Cond.methodLink RL 179 yL_insert ∈ zW := zq 214 (by decide +kernel) (by decide +kernel)
theorem q215 : Cond.static yL_insert ∈ zW := zq 215 (by decide +kernel) (by decide +kernel)
theorem q216 : Cond.codeWith yL_insert cL_insert 6 (some FieldType.int) [(0, 12, 15, 13), (0, 12, 19, 15)] ∈ zW := zq 216 (by decide +kernel) (by decide +kernel)
theorem q217 : Cond.methodLink RL 27 yX2_insert ∈ zW := zq 217 (by decide +kernel) (by decide +kernel)
theorem q218 : Cond.instanceMethod yX2_insert ∈ zW := zq 218 (by decide +kernel) (by decide +kernel)
theorem q219 : Cond.selects "WordConcordance" yX2_insert yX2_insert ∈ zW := zq 219 (by decide +kernel) (by decide +kernel)
theorem q220 : Cond.code yX2_insert cX2_insert 5 (some FieldType.int) ∈ zW := zq 220 (by decide +kernel) (by decide +kernel)
theorem q221 : Cond.methodLink RX2 72 yX2_requirePart ∈ zW := zq 221 (by decide +kernel) (by decide +kernel)
theorem q222 : Cond.static yX2_requirePart ∈ zW := zq 222 (by decide +kernel) (by decide +kernel)
theorem q223 : Cond.code yX2_requirePart cX2_requirePart 3 none ∈ zW := zq 223 (by decide +kernel) (by decide +kernel)
theorem q225 : Cond.methodLink RX2 76 yX1_openUp ∈ zW := zq 225 (by decide +kernel) (by decide +kernel)
theorem q226 : Cond.instanceMethod yX1_openUp ∈ zW := zq 226 (by decide +kernel) (by decide +kernel)
theorem q227 : Cond.selects "WordConcordance$Row" yX1_openUp yX1_openUp ∈ zW := zq 227 (by decide +kernel) (by decide +kernel)
theorem q228 : Cond.code yX1_openUp cX1_openUp 4 none ∈ zW := zq 228 (by decide +kernel) (by decide +kernel)
theorem q229 : Cond.methodLink RL 182 yL_set ∈ zW := zq 229 (by decide +kernel) (by decide +kernel)
theorem q230 : Cond.static yL_set ∈ zW := zq 230 (by decide +kernel) (by decide +kernel)
theorem q231 : Cond.codeWith yL_set cL_set 6 (some FieldType.int) [(0, 12, 15, 13)] ∈ zW := zq 231 (by decide +kernel) (by decide +kernel)
theorem q232 : Cond.methodLink RL 30 yX2_set ∈ zW := zq 232 (by decide +kernel) (by decide +kernel)
theorem q233 : Cond.instanceMethod yX2_set ∈ zW := zq 233 (by decide +kernel) (by decide +kernel)
theorem q234 : Cond.selects "WordConcordance" yX2_set yX2_set ∈ zW := zq 234 (by decide +kernel) (by decide +kernel)
theorem q235 : Cond.code yX2_set cX2_set 6 (some FieldType.int) ∈ zW := zq 235 (by decide +kernel) (by decide +kernel)
theorem q236 : Cond.methodLink RX2 80 yX2_requirePlace ∈ zW := zq 236 (by decide +kernel) (by decide +kernel)
theorem q237 : Cond.static yX2_requirePlace ∈ zW := zq 237 (by decide +kernel) (by decide +kernel)
theorem q238 : Cond.code yX2_requirePlace cX2_requirePlace 2 none ∈ zW := zq 238 (by decide +kernel) (by decide +kernel)
theorem q240 : Cond.methodLink RL 185 yL_remove ∈ zW := zq 240 (by decide +kernel) (by decide +kernel)
theorem q241 : Cond.static yL_remove ∈ zW := zq 241 (by decide +kernel) (by decide +kernel)
theorem q242 : Cond.codeWith yL_remove cL_remove 5 (some FieldType.int) [(0, 10, 13, 13)] ∈ zW := zq 242 (by decide +kernel) (by decide +kernel)
theorem q243 : Cond.methodLink RL 33 yX2_remove ∈ zW := zq 243 (by decide +kernel) (by decide +kernel)
theorem q244 : Cond.instanceMethod yX2_remove ∈ zW := zq 244 (by decide +kernel) (by decide +kernel)
theorem q245 : Cond.selects "WordConcordance" yX2_remove yX2_remove ∈ zW := zq 245 (by decide +kernel) (by decide +kernel)
theorem q246 : Cond.code yX2_remove cX2_remove 5 (some FieldType.int) ∈ zW := zq 246 (by decide +kernel) (by decide +kernel)
theorem q247 : Cond.methodLink RX2 86 yX1_closeUp ∈ zW := zq 247 (by decide +kernel) (by decide +kernel)
theorem q248 : Cond.instanceMethod yX1_closeUp ∈ zW := zq 248 (by decide +kernel) (by decide +kernel)
theorem q249 : Cond.selects "WordConcordance$Row" yX1_closeUp yX1_closeUp ∈ zW := zq 249 (by decide +kernel) (by decide +kernel)
theorem q250 : Cond.code yX1_closeUp cX1_closeUp 5 none ∈ zW := zq 250 (by decide +kernel) (by decide +kernel)
theorem q251 : Cond.methodLink RL 188 yL_cut ∈ zW := zq 251 (by decide +kernel) (by decide +kernel)
theorem q252 : Cond.static yL_cut ∈ zW := zq 252 (by decide +kernel) (by decide +kernel)
theorem q253 : Cond.codeWith yL_cut cL_cut 6 (some FieldType.int) [(0, 12, 15, 13)] ∈ zW := zq 253 (by decide +kernel) (by decide +kernel)
theorem q254 : Cond.methodLink RL 36 yX2_cut ∈ zW := zq 254 (by decide +kernel) (by decide +kernel)
theorem q255 : Cond.instanceMethod yX2_cut ∈ zW := zq 255 (by decide +kernel) (by decide +kernel)
theorem q256 : Cond.selects "WordConcordance" yX2_cut yX2_cut ∈ zW := zq 256 (by decide +kernel) (by decide +kernel)
theorem q257 : Cond.code yX2_cut cX2_cut 5 (some FieldType.int) ∈ zW := zq 257 (by decide +kernel) (by decide +kernel)
theorem q258 : Cond.methodLink RL 191 yL_size ∈ zW := zq 258 (by decide +kernel) (by decide +kernel)
theorem q259 : Cond.static yL_size ∈ zW := zq 259 (by decide +kernel) (by decide +kernel)
theorem q260 : Cond.codeWith yL_size cL_size 4 (some FieldType.int) [(0, 9, 12, 13)] ∈ zW := zq 260 (by decide +kernel) (by decide +kernel)
theorem q261 : Cond.methodLink RL 39 yX2_size ∈ zW := zq 261 (by decide +kernel) (by decide +kernel)
theorem q262 : Cond.instanceMethod yX2_size ∈ zW := zq 262 (by decide +kernel) (by decide +kernel)
theorem q263 : Cond.selects "WordConcordance" yX2_size yX2_size ∈ zW := zq 263 (by decide +kernel) (by decide +kernel)
theorem q264 : Cond.code yX2_size cX2_size 2 (some FieldType.int) ∈ zW := zq 264 (by decide +kernel) (by decide +kernel)
theorem q265 : Cond.methodLink RL 195 yL_at ∈ zW := zq 265 (by decide +kernel) (by decide +kernel)
theorem q266 : Cond.static yL_at ∈ zW := zq 266 (by decide +kernel) (by decide +kernel)
theorem q267 : Cond.codeWith yL_at cL_at 5 (some FieldType.int) [(0, 10, 13, 13)] ∈ zW := zq 267 (by decide +kernel) (by decide +kernel)
theorem q268 : Cond.methodLink RL 43 yX2_at ∈ zW := zq 268 (by decide +kernel) (by decide +kernel)
theorem q269 : Cond.instanceMethod yX2_at ∈ zW := zq 269 (by decide +kernel) (by decide +kernel)
theorem q270 : Cond.selects "WordConcordance" yX2_at yX2_at ∈ zW := zq 270 (by decide +kernel) (by decide +kernel)
theorem q271 : Cond.code yX2_at cX2_at 4 (some FieldType.int) ∈ zW := zq 271 (by decide +kernel) (by decide +kernel)
theorem q272 : Cond.methodLink RL 198 yL_digest ∈ zW := zq 272 (by decide +kernel) (by decide +kernel)
theorem q273 : Cond.static yL_digest ∈ zW := zq 273 (by decide +kernel) (by decide +kernel)
theorem q274 : Cond.codeWith yL_digest cL_digest 4 (some FieldType.int) [(0, 9, 12, 13)] ∈ zW := zq 274 (by decide +kernel) (by decide +kernel)
theorem q275 : Cond.methodLink RL 46 yX2_digest ∈ zW := zq 275 (by decide +kernel) (by decide +kernel)
theorem q276 : Cond.instanceMethod yX2_digest ∈ zW := zq 276 (by decide +kernel) (by decide +kernel)
theorem q277 : Cond.selects "WordConcordance" yX2_digest yX2_digest ∈ zW := zq 277 (by decide +kernel) (by decide +kernel)
theorem q278 : Cond.code yX2_digest cX2_digest 5 (some FieldType.int) ∈ zW := zq 278 (by decide +kernel) (by decide +kernel)
theorem q279 : Cond.methodLink RL 201 yL_setRank ∈ zW := zq 279 (by decide +kernel) (by decide +kernel)
theorem q280 : Cond.static yL_setRank ∈ zW := zq 280 (by decide +kernel) (by decide +kernel)
theorem q281 : Cond.codeWith yL_setRank cL_setRank 5 (some FieldType.int) [(0, 10, 13, 13), (0, 10, 17, 21)] ∈ zW := zq 281 (by decide +kernel) (by decide +kernel)
theorem q282 : Cond.methodLink RL 49 yX2_setRank ∈ zW := zq 282 (by decide +kernel) (by decide +kernel)
theorem q283 : Cond.instanceMethod yX2_setRank ∈ zW := zq 283 (by decide +kernel) (by decide +kernel)
theorem q284 : Cond.selects "WordConcordance" yX2_setRank yX2_setRank ∈ zW := zq 284 (by decide +kernel) (by decide +kernel)
theorem q285 : Cond.code yX2_setRank cX2_setRank 4 (some FieldType.int) ∈ zW := zq 285 (by decide +kernel) (by decide +kernel)
theorem q286 : Cond.methodLink RL 204 yL_say ∈ zW := zq 286 (by decide +kernel) (by decide +kernel)
theorem q287 : Cond.static yL_say ∈ zW := zq 287 (by decide +kernel) (by decide +kernel)
theorem q288 : Cond.codeWith yL_say cL_say 5 (some FieldType.int) [(0, 10, 13, 13), (0, 10, 17, 15)] ∈ zW := zq 288 (by decide +kernel) (by decide +kernel)
theorem q289 : Cond.methodLink RL 52 yX2_say ∈ zW := zq 289 (by decide +kernel) (by decide +kernel)
theorem q290 : Cond.instanceMethod yX2_say ∈ zW := zq 290 (by decide +kernel) (by decide +kernel)
theorem q291 : Cond.selects "WordConcordance" yX2_say yX2_say ∈ zW := zq 291 (by decide +kernel) (by decide +kernel)
theorem q292 : Cond.code yX2_say cX2_say 4 (some FieldType.int) ∈ zW := zq 292 (by decide +kernel) (by decide +kernel)
theorem q293 : Cond.methodLink RX2 89 yX2_phraseAt ∈ zW := zq 293 (by decide +kernel) (by decide +kernel)
theorem q295 : Cond.instanceMethod yX2_phraseAt ∈ zW := zq 295 (by decide +kernel) (by decide +kernel)
theorem q296 : Cond.code yX2_phraseAt cX2_phraseAt 2 (some (FieldType.object "WordConcordance$Row")) ∈ zW := zq 296 (by decide +kernel) (by decide +kernel)
theorem q298 : Cond.methodLink RL 207 yL_quote ∈ zW := zq 298 (by decide +kernel) (by decide +kernel)
theorem q299 : Cond.static yL_quote ∈ zW := zq 299 (by decide +kernel) (by decide +kernel)
theorem q300 : Cond.codeWith yL_quote cL_quote 7 (some FieldType.int) [(0, 14, 17, 13), (0, 14, 21, 15)] ∈ zW := zq 300 (by decide +kernel) (by decide +kernel)
theorem q301 : Cond.methodLink RL 55 yX2_quote ∈ zW := zq 301 (by decide +kernel) (by decide +kernel)
theorem q302 : Cond.instanceMethod yX2_quote ∈ zW := zq 302 (by decide +kernel) (by decide +kernel)
theorem q303 : Cond.selects "WordConcordance" yX2_quote yX2_quote ∈ zW := zq 303 (by decide +kernel) (by decide +kernel)
theorem q304 : Cond.code yX2_quote cX2_quote 8 (some FieldType.int) ∈ zW := zq 304 (by decide +kernel) (by decide +kernel)
theorem q306 : Cond.methodLink RL 210 yL_hush ∈ zW := zq 306 (by decide +kernel) (by decide +kernel)
theorem q307 : Cond.static yL_hush ∈ zW := zq 307 (by decide +kernel) (by decide +kernel)
theorem q308 : Cond.codeWith yL_hush cL_hush 4 (some FieldType.int) [(0, 9, 12, 13)] ∈ zW := zq 308 (by decide +kernel) (by decide +kernel)
theorem q309 : Cond.methodLink RL 58 yX2_hush ∈ zW := zq 309 (by decide +kernel) (by decide +kernel)
theorem q310 : Cond.instanceMethod yX2_hush ∈ zW := zq 310 (by decide +kernel) (by decide +kernel)
theorem q311 : Cond.selects "WordConcordance" yX2_hush yX2_hush ∈ zW := zq 311 (by decide +kernel) (by decide +kernel)
theorem q312 : Cond.code yX2_hush cX2_hush 4 (some FieldType.int) ∈ zW := zq 312 (by decide +kernel) (by decide +kernel)
theorem q313 : Cond.methodLink RL 213 yL_wordOf ∈ zW := zq 313 (by decide +kernel) (by decide +kernel)
theorem q314 : Cond.static yL_wordOf ∈ zW := zq 314 (by decide +kernel) (by decide +kernel)
theorem q315 : Cond.codeWith yL_wordOf cL_wordOf 5 (some FieldType.int) [(0, 10, 13, 13)] ∈ zW := zq 315 (by decide +kernel) (by decide +kernel)
theorem q316 : Cond.methodLink RL 61 yX2_wordOf ∈ zW := zq 316 (by decide +kernel) (by decide +kernel)
theorem q317 : Cond.instanceMethod yX2_wordOf ∈ zW := zq 317 (by decide +kernel) (by decide +kernel)
theorem q318 : Cond.selects "WordConcordance" yX2_wordOf yX2_wordOf ∈ zW := zq 318 (by decide +kernel) (by decide +kernel)
theorem q319 : Cond.code yX2_wordOf cX2_wordOf 4 (some FieldType.int) ∈ zW := zq 319 (by decide +kernel) (by decide +kernel)
theorem q320 : Cond.methodLink RL 216 yL_find ∈ zW := zq 320 (by decide +kernel) (by decide +kernel)
theorem q321 : Cond.static yL_find ∈ zW := zq 321 (by decide +kernel) (by decide +kernel)
theorem q322 : Cond.codeWith yL_find cL_find 4 (some FieldType.int) [(0, 9, 12, 13)] ∈ zW := zq 322 (by decide +kernel) (by decide +kernel)
theorem q323 : Cond.methodLink RL 64 yX2_find ∈ zW := zq 323 (by decide +kernel) (by decide +kernel)
theorem q324 : Cond.instanceMethod yX2_find ∈ zW := zq 324 (by decide +kernel) (by decide +kernel)
theorem q325 : Cond.selects "WordConcordance" yX2_find yX2_find ∈ zW := zq 325 (by decide +kernel) (by decide +kernel)
theorem q326 : Cond.code yX2_find cX2_find 3 (some FieldType.int) ∈ zW := zq 326 (by decide +kernel) (by decide +kernel)
theorem q327 : Cond.methodLink RX2 99 yX1_firstPlaceOf ∈ zW := zq 327 (by decide +kernel) (by decide +kernel)
theorem q328 : Cond.instanceMethod yX1_firstPlaceOf ∈ zW := zq 328 (by decide +kernel) (by decide +kernel)
theorem q329 : Cond.selects "WordConcordance$Row" yX1_firstPlaceOf yX1_firstPlaceOf ∈ zW := zq 329 (by decide +kernel) (by decide +kernel)
theorem q330 : Cond.code yX1_firstPlaceOf cX1_firstPlaceOf 5 (some FieldType.int) ∈ zW := zq 330 (by decide +kernel) (by decide +kernel)
theorem q331 : Cond.methodLink RX1 35 yX1_holds ∈ zW := zq 331 (by decide +kernel) (by decide +kernel)
theorem q332 : Cond.instanceMethod yX1_holds ∈ zW := zq 332 (by decide +kernel) (by decide +kernel)
theorem q333 : Cond.selects "WordConcordance$Row" yX1_holds yX1_holds ∈ zW := zq 333 (by decide +kernel) (by decide +kernel)
theorem q334 : Cond.code yX1_holds cX1_holds 4 (some FieldType.boolean) ∈ zW := zq 334 (by decide +kernel) (by decide +kernel)
theorem q335 : Cond.methodLink RL 219 yL_findLast ∈ zW := zq 335 (by decide +kernel) (by decide +kernel)
theorem q336 : Cond.static yL_findLast ∈ zW := zq 336 (by decide +kernel) (by decide +kernel)
theorem q337 : Cond.codeWith yL_findLast cL_findLast 4 (some FieldType.int) [(0, 9, 12, 13)] ∈ zW := zq 337 (by decide +kernel) (by decide +kernel)
theorem q338 : Cond.methodLink RL 67 yX2_findLast ∈ zW := zq 338 (by decide +kernel) (by decide +kernel)
theorem q339 : Cond.instanceMethod yX2_findLast ∈ zW := zq 339 (by decide +kernel) (by decide +kernel)
theorem q340 : Cond.selects "WordConcordance" yX2_findLast yX2_findLast ∈ zW := zq 340 (by decide +kernel) (by decide +kernel)
theorem q341 : Cond.code yX2_findLast cX2_findLast 2 (some FieldType.int) ∈ zW := zq 341 (by decide +kernel) (by decide +kernel)
theorem q342 : Cond.methodLink RX2 103 yX1_lastPlaceOf ∈ zW := zq 342 (by decide +kernel) (by decide +kernel)
theorem q343 : Cond.instanceMethod yX1_lastPlaceOf ∈ zW := zq 343 (by decide +kernel) (by decide +kernel)
theorem q344 : Cond.selects "WordConcordance$Row" yX1_lastPlaceOf yX1_lastPlaceOf ∈ zW := zq 344 (by decide +kernel) (by decide +kernel)
theorem q345 : Cond.code yX1_lastPlaceOf cX1_lastPlaceOf 3 (some FieldType.int) ∈ zW := zq 345 (by decide +kernel) (by decide +kernel)
theorem q346 : Cond.methodLink RL 222 yL_findIn ∈ zW := zq 346 (by decide +kernel) (by decide +kernel)
theorem q347 : Cond.static yL_findIn ∈ zW := zq 347 (by decide +kernel) (by decide +kernel)
theorem q348 : Cond.codeWith yL_findIn cL_findIn 6 (some FieldType.int) [(0, 12, 15, 13)] ∈ zW := zq 348 (by decide +kernel) (by decide +kernel)
theorem q349 : Cond.methodLink RL 70 yX2_findIn ∈ zW := zq 349 (by decide +kernel) (by decide +kernel)
theorem q350 : Cond.instanceMethod yX2_findIn ∈ zW := zq 350 (by decide +kernel) (by decide +kernel)
theorem q351 : Cond.selects "WordConcordance" yX2_findIn yX2_findIn ∈ zW := zq 351 (by decide +kernel) (by decide +kernel)
theorem q352 : Cond.code yX2_findIn cX2_findIn 5 (some FieldType.int) ∈ zW := zq 352 (by decide +kernel) (by decide +kernel)
theorem q353 : Cond.methodLink RL 225 yL_count ∈ zW := zq 353 (by decide +kernel) (by decide +kernel)
theorem q354 : Cond.static yL_count ∈ zW := zq 354 (by decide +kernel) (by decide +kernel)
theorem q355 : Cond.codeWith yL_count cL_count 5 (some FieldType.int) [(0, 10, 13, 13)] ∈ zW := zq 355 (by decide +kernel) (by decide +kernel)
theorem q356 : Cond.methodLink RL 73 yX2_count ∈ zW := zq 356 (by decide +kernel) (by decide +kernel)
theorem q357 : Cond.instanceMethod yX2_count ∈ zW := zq 357 (by decide +kernel) (by decide +kernel)
theorem q358 : Cond.selects "WordConcordance" yX2_count yX2_count ∈ zW := zq 358 (by decide +kernel) (by decide +kernel)
theorem q359 : Cond.code yX2_count cX2_count 5 (some FieldType.int) ∈ zW := zq 359 (by decide +kernel) (by decide +kernel)
theorem q360 : Cond.methodLink RX2 107 yX1_timesApart ∈ zW := zq 360 (by decide +kernel) (by decide +kernel)
theorem q361 : Cond.instanceMethod yX1_timesApart ∈ zW := zq 361 (by decide +kernel) (by decide +kernel)
theorem q362 : Cond.selects "WordConcordance$Row" yX1_timesApart yX1_timesApart ∈ zW := zq 362 (by decide +kernel) (by decide +kernel)
theorem q363 : Cond.code yX1_timesApart cX1_timesApart 5 (some FieldType.int) ∈ zW := zq 363 (by decide +kernel) (by decide +kernel)
theorem q364 : Cond.methodLink RX2 110 yX1_timesAnywhere ∈ zW := zq 364 (by decide +kernel) (by decide +kernel)
theorem q365 : Cond.instanceMethod yX1_timesAnywhere ∈ zW := zq 365 (by decide +kernel) (by decide +kernel)
theorem q366 : Cond.selects "WordConcordance$Row" yX1_timesAnywhere yX1_timesAnywhere ∈ zW := zq 366 (by decide +kernel) (by decide +kernel)
theorem q367 : Cond.code yX1_timesAnywhere cX1_timesAnywhere 4 (some FieldType.int) ∈ zW := zq 367 (by decide +kernel) (by decide +kernel)
theorem q368 : Cond.methodLink RL 229 yL_replace ∈ zW := zq 368 (by decide +kernel) (by decide +kernel)
theorem q369 : Cond.static yL_replace ∈ zW := zq 369 (by decide +kernel) (by decide +kernel)
theorem q370 : Cond.codeWith yL_replace cL_replace 4 (some FieldType.int) [(0, 9, 12, 13), (0, 9, 15, 15)] ∈ zW := zq 370 (by decide +kernel) (by decide +kernel)
theorem q371 : Cond.methodLink RL 77 yX2_replace ∈ zW := zq 371 (by decide +kernel) (by decide +kernel)
theorem q372 : Cond.instanceMethod yX2_replace ∈ zW := zq 372 (by decide +kernel) (by decide +kernel)
theorem q373 : Cond.selects "WordConcordance" yX2_replace yX2_replace ∈ zW := zq 373 (by decide +kernel) (by decide +kernel)
theorem q374 : Cond.code yX2_replace cX2_replace 5 (some FieldType.int) ∈ zW := zq 374 (by decide +kernel) (by decide +kernel)
theorem q376 : Cond.methodLink RX2 115 yX2_draftReplaced ∈ zW := zq 376 (by decide +kernel) (by decide +kernel)
theorem q378 : Cond.instanceMethod yX2_draftReplaced ∈ zW := zq 378 (by decide +kernel) (by decide +kernel)
theorem q379 : Cond.code yX2_draftReplaced cX2_draftReplaced 6 none ∈ zW := zq 379 (by decide +kernel) (by decide +kernel)
theorem q380 : Cond.methodLink RX2 122 yX1_holds ∈ zW := zq 380 (by decide +kernel) (by decide +kernel)
theorem q381 : Cond.methodLink RX2 126 yX1_appendAll ∈ zW := zq 381 (by decide +kernel) (by decide +kernel)
theorem q382 : Cond.instanceMethod yX1_appendAll ∈ zW := zq 382 (by decide +kernel) (by decide +kernel)
theorem q383 : Cond.selects "WordConcordance$Row" yX1_appendAll yX1_appendAll ∈ zW := zq 383 (by decide +kernel) (by decide +kernel)
theorem q384 : Cond.code yX1_appendAll cX1_appendAll 3 none ∈ zW := zq 384 (by decide +kernel) (by decide +kernel)
theorem q385 : Cond.methodLink RX1 19 yX1_append ∈ zW := zq 385 (by decide +kernel) (by decide +kernel)
theorem q386 : Cond.methodLink RX2 119 yX1_become ∈ zW := zq 386 (by decide +kernel) (by decide +kernel)
theorem q387 : Cond.instanceMethod yX1_become ∈ zW := zq 387 (by decide +kernel) (by decide +kernel)
theorem q388 : Cond.selects "WordConcordance$Row" yX1_become yX1_become ∈ zW := zq 388 (by decide +kernel) (by decide +kernel)
theorem q389 : Cond.code yX1_become cX1_become 2 none ∈ zW := zq 389 (by decide +kernel) (by decide +kernel)
theorem q390 : Cond.methodLink RX1 23 yX1_appendAll ∈ zW := zq 390 (by decide +kernel) (by decide +kernel)
theorem q391 : Cond.methodLink RL 232 yL_replaceWord ∈ zW := zq 391 (by decide +kernel) (by decide +kernel)
theorem q392 : Cond.static yL_replaceWord ∈ zW := zq 392 (by decide +kernel) (by decide +kernel)
theorem q393 : Cond.codeWith yL_replaceWord cL_replaceWord 6 (some FieldType.int) [(0, 19, 22, 13)] ∈ zW := zq 393 (by decide +kernel) (by decide +kernel)
theorem q394 : Cond.methodLink RL 80 yX2_replaceWord ∈ zW := zq 394 (by decide +kernel) (by decide +kernel)
theorem q395 : Cond.instanceMethod yX2_replaceWord ∈ zW := zq 395 (by decide +kernel) (by decide +kernel)
theorem q396 : Cond.selects "WordConcordance" yX2_replaceWord yX2_replaceWord ∈ zW := zq 396 (by decide +kernel) (by decide +kernel)
theorem q397 : Cond.code yX2_replaceWord cX2_replaceWord 7 (some FieldType.boolean) ∈ zW := zq 397 (by decide +kernel) (by decide +kernel)
theorem q398 : Cond.methodLink RL 235 yL_frequency ∈ zW := zq 398 (by decide +kernel) (by decide +kernel)
theorem q399 : Cond.static yL_frequency ∈ zW := zq 399 (by decide +kernel) (by decide +kernel)
theorem q400 : Cond.codeWith yL_frequency cL_frequency 5 (some FieldType.int) [(0, 10, 13, 13)] ∈ zW := zq 400 (by decide +kernel) (by decide +kernel)
theorem q401 : Cond.methodLink RL 84 yX2_frequency ∈ zW := zq 401 (by decide +kernel) (by decide +kernel)
theorem q402 : Cond.instanceMethod yX2_frequency ∈ zW := zq 402 (by decide +kernel) (by decide +kernel)
theorem q403 : Cond.selects "WordConcordance" yX2_frequency yX2_frequency ∈ zW := zq 403 (by decide +kernel) (by decide +kernel)
theorem q404 : Cond.code yX2_frequency cX2_frequency 4 (some FieldType.int) ∈ zW := zq 404 (by decide +kernel) (by decide +kernel)
theorem q405 : Cond.methodLink RX2 129 yX1_timesOf ∈ zW := zq 405 (by decide +kernel) (by decide +kernel)
theorem q406 : Cond.instanceMethod yX1_timesOf ∈ zW := zq 406 (by decide +kernel) (by decide +kernel)
theorem q407 : Cond.selects "WordConcordance$Row" yX1_timesOf yX1_timesOf ∈ zW := zq 407 (by decide +kernel) (by decide +kernel)
theorem q408 : Cond.code yX1_timesOf cX1_timesOf 4 (some FieldType.int) ∈ zW := zq 408 (by decide +kernel) (by decide +kernel)
theorem q409 : Cond.methodLink RL 238 yL_different ∈ zW := zq 409 (by decide +kernel) (by decide +kernel)
theorem q410 : Cond.static yL_different ∈ zW := zq 410 (by decide +kernel) (by decide +kernel)
theorem q411 : Cond.codeWith yL_different cL_different 4 (some FieldType.int) [(0, 9, 12, 13)] ∈ zW := zq 411 (by decide +kernel) (by decide +kernel)
theorem q412 : Cond.methodLink RL 87 yX2_different ∈ zW := zq 412 (by decide +kernel) (by decide +kernel)
theorem q413 : Cond.instanceMethod yX2_different ∈ zW := zq 413 (by decide +kernel) (by decide +kernel)
theorem q414 : Cond.selects "WordConcordance" yX2_different yX2_different ∈ zW := zq 414 (by decide +kernel) (by decide +kernel)
theorem q415 : Cond.code yX2_different cX2_different 5 (some FieldType.int) ∈ zW := zq 415 (by decide +kernel) (by decide +kernel)
theorem q416 : Cond.methodLink RX2 133 yX1_isFirstOfItsWord ∈ zW := zq 416 (by decide +kernel) (by decide +kernel)
theorem q417 : Cond.instanceMethod yX1_isFirstOfItsWord ∈ zW := zq 417 (by decide +kernel) (by decide +kernel)
theorem q418 : Cond.selects "WordConcordance$Row" yX1_isFirstOfItsWord yX1_isFirstOfItsWord ∈ zW := zq 418 (by decide +kernel) (by decide +kernel)
theorem q419 : Cond.code yX1_isFirstOfItsWord cX1_isFirstOfItsWord 3 (some FieldType.boolean) ∈ zW := zq 419 (by decide +kernel) (by decide +kernel)
theorem q420 : Cond.methodLink RL 241 yL_most ∈ zW := zq 420 (by decide +kernel) (by decide +kernel)
theorem q421 : Cond.static yL_most ∈ zW := zq 421 (by decide +kernel) (by decide +kernel)
theorem q422 : Cond.codeWith yL_most cL_most 4 (some FieldType.int) [(0, 9, 12, 13), (0, 9, 15, 93)] ∈ zW := zq 422 (by decide +kernel) (by decide +kernel)
theorem q423 : Cond.classLink RL 93 "java/util/NoSuchElementException" ∈ zW := zq 423 (by decide +kernel) (by decide +kernel)
theorem q424 : Cond.methodLink RL 90 yX2_most ∈ zW := zq 424 (by decide +kernel) (by decide +kernel)
theorem q425 : Cond.instanceMethod yX2_most ∈ zW := zq 425 (by decide +kernel) (by decide +kernel)
theorem q426 : Cond.selects "WordConcordance" yX2_most yX2_most ∈ zW := zq 426 (by decide +kernel) (by decide +kernel)
theorem q427 : Cond.code yX2_most cX2_most 8 (some FieldType.int) ∈ zW := zq 427 (by decide +kernel) (by decide +kernel)
theorem q428 : Cond.methodLink RX2 137 yX2_requireNotEmpty ∈ zW := zq 428 (by decide +kernel) (by decide +kernel)
theorem q429 : Cond.static yX2_requireNotEmpty ∈ zW := zq 429 (by decide +kernel) (by decide +kernel)
theorem q430 : Cond.code yX2_requireNotEmpty cX2_requireNotEmpty 1 none ∈ zW := zq 430 (by decide +kernel) (by decide +kernel)
theorem q431 : Cond.classLink RX2 189 "java/util/NoSuchElementException" ∈ zW := zq 431 (by decide +kernel) (by decide +kernel)
theorem q432 : Cond.instantiable "java/util/NoSuchElementException" 6 ∈ zW := zq 432 (by decide +kernel) (by decide +kernel)
theorem q434 : Cond.selects "java/util/NoSuchElementException" ⟨"java/lang/Throwable", "fillInStackTrace", "(I)Ljava/lang/Throwable;"⟩ ⟨"java/lang/Throwable", "fillInStackTrace", "(I)Ljava/lang/Throwable;"⟩ ∈ zW := zq 434 (by decide +kernel) (by decide +kernel)
theorem q441 : Cond.methodLink RX2 193 ⟨"java/util/NoSuchElementException", "<init>", "(Ljava/lang/String;)V"⟩ ∈ zW := zq 441 (by decide +kernel) (by decide +kernel)
theorem q442 : Cond.instanceMethod ⟨"java/util/NoSuchElementException", "<init>", "(Ljava/lang/String;)V"⟩ ∈ zW := zq 442 (by decide +kernel) (by decide +kernel)
theorem q443 : Cond.code ⟨"java/util/NoSuchElementException", "<init>", "(Ljava/lang/String;)V"⟩ prog_17_method_4_code 2 none ∈ zW := zq 443 (by decide +kernel) (by decide +kernel)
theorem q444 : Cond.methodLink "java/util/NoSuchElementException" 13 ⟨"java/lang/RuntimeException", "<init>", "(Ljava/lang/String;)V"⟩ ∈ zW := zq 444 (by decide +kernel) (by decide +kernel)
theorem q447 : Cond.methodLink RL 244 yL_isApart ∈ zW := zq 447 (by decide +kernel) (by decide +kernel)
theorem q448 : Cond.static yL_isApart ∈ zW := zq 448 (by decide +kernel) (by decide +kernel)
theorem q449 : Cond.codeWith yL_isApart cL_isApart 5 (some FieldType.int) [(0, 17, 20, 13)] ∈ zW := zq 449 (by decide +kernel) (by decide +kernel)
theorem q450 : Cond.methodLink RL 95 yX2_isApart ∈ zW := zq 450 (by decide +kernel) (by decide +kernel)
theorem q451 : Cond.instanceMethod yX2_isApart ∈ zW := zq 451 (by decide +kernel) (by decide +kernel)
theorem q452 : Cond.selects "WordConcordance" yX2_isApart yX2_isApart ∈ zW := zq 452 (by decide +kernel) (by decide +kernel)
theorem q453 : Cond.code yX2_isApart cX2_isApart 6 (some FieldType.boolean) ∈ zW := zq 453 (by decide +kernel) (by decide +kernel)
theorem q454 : Cond.methodLink RX2 140 yX1_hasWord ∈ zW := zq 454 (by decide +kernel) (by decide +kernel)
theorem q455 : Cond.instanceMethod yX1_hasWord ∈ zW := zq 455 (by decide +kernel) (by decide +kernel)
theorem q456 : Cond.selects "WordConcordance$Row" yX1_hasWord yX1_hasWord ∈ zW := zq 456 (by decide +kernel) (by decide +kernel)
theorem q457 : Cond.code yX1_hasWord cX1_hasWord 2 (some FieldType.boolean) ∈ zW := zq 457 (by decide +kernel) (by decide +kernel)
theorem q458 : Cond.methodLink RX1 31 yX1_timesOf ∈ zW := zq 458 (by decide +kernel) (by decide +kernel)
theorem q459 : Cond.methodLink RL 247 yL_alone ∈ zW := zq 459 (by decide +kernel) (by decide +kernel)
theorem q460 : Cond.static yL_alone ∈ zW := zq 460 (by decide +kernel) (by decide +kernel)
theorem q461 : Cond.codeWith yL_alone cL_alone 5 (some FieldType.int) [(0, 10, 13, 13)] ∈ zW := zq 461 (by decide +kernel) (by decide +kernel)
theorem q462 : Cond.methodLink RL 99 yX2_alone ∈ zW := zq 462 (by decide +kernel) (by decide +kernel)
theorem q463 : Cond.instanceMethod yX2_alone ∈ zW := zq 463 (by decide +kernel) (by decide +kernel)
theorem q464 : Cond.selects "WordConcordance" yX2_alone yX2_alone ∈ zW := zq 464 (by decide +kernel) (by decide +kernel)
theorem q465 : Cond.code yX2_alone cX2_alone 7 (some FieldType.int) ∈ zW := zq 465 (by decide +kernel) (by decide +kernel)
theorem q466 : Cond.methodLink RL 250 yL_greatest ∈ zW := zq 466 (by decide +kernel) (by decide +kernel)
theorem q467 : Cond.static yL_greatest ∈ zW := zq 467 (by decide +kernel) (by decide +kernel)
theorem q468 : Cond.codeWith yL_greatest cL_greatest 5 (some FieldType.int) [(0, 10, 13, 13), (0, 10, 17, 21), (0, 10, 21, 93)] ∈ zW := zq 468 (by decide +kernel) (by decide +kernel)
theorem q469 : Cond.methodLink RL 102 yX2_greatest ∈ zW := zq 469 (by decide +kernel) (by decide +kernel)
theorem q470 : Cond.instanceMethod yX2_greatest ∈ zW := zq 470 (by decide +kernel) (by decide +kernel)
theorem q471 : Cond.selects "WordConcordance" yX2_greatest yX2_greatest ∈ zW := zq 471 (by decide +kernel) (by decide +kernel)
theorem q472 : Cond.code yX2_greatest cX2_greatest 6 (some FieldType.int) ∈ zW := zq 472 (by decide +kernel) (by decide +kernel)
theorem q473 : Cond.methodLink RX2 143 yX2_requireOrder ∈ zW := zq 473 (by decide +kernel) (by decide +kernel)
theorem q474 : Cond.static yX2_requireOrder ∈ zW := zq 474 (by decide +kernel) (by decide +kernel)
theorem q475 : Cond.code yX2_requireOrder cX2_requireOrder 1 none ∈ zW := zq 475 (by decide +kernel) (by decide +kernel)
theorem q477 : Cond.methodLink RX2 146 yX2_keyOf ∈ zW := zq 477 (by decide +kernel) (by decide +kernel)
theorem q479 : Cond.instanceMethod yX2_keyOf ∈ zW := zq 479 (by decide +kernel) (by decide +kernel)
theorem q480 : Cond.code yX2_keyOf cX2_keyOf 3 (some FieldType.int) ∈ zW := zq 480 (by decide +kernel) (by decide +kernel)
theorem q481 : Cond.methodLink RX2 150 yJ9_max_7cf53 ∈ zW := zq 481 (by decide +kernel) (by decide +kernel)
theorem q482 : Cond.static yJ9_max_7cf53 ∈ zW := zq 482 (by decide +kernel) (by decide +kernel)
theorem q483 : Cond.code yJ9_max_7cf53 cJ9_max_7cf53 2 (some FieldType.int) ∈ zW := zq 483 (by decide +kernel) (by decide +kernel)
theorem q484 : Cond.methodLink RL 253 yL_least ∈ zW := zq 484 (by decide +kernel) (by decide +kernel)
theorem q485 : Cond.static yL_least ∈ zW := zq 485 (by decide +kernel) (by decide +kernel)
theorem q486 : Cond.codeWith yL_least cL_least 5 (some FieldType.int) [(0, 10, 13, 13), (0, 10, 17, 21), (0, 10, 21, 93)] ∈ zW := zq 486 (by decide +kernel) (by decide +kernel)
theorem q487 : Cond.methodLink RL 105 yX2_least ∈ zW := zq 487 (by decide +kernel) (by decide +kernel)
theorem q488 : Cond.instanceMethod yX2_least ∈ zW := zq 488 (by decide +kernel) (by decide +kernel)
theorem q489 : Cond.selects "WordConcordance" yX2_least yX2_least ∈ zW := zq 489 (by decide +kernel) (by decide +kernel)
theorem q490 : Cond.code yX2_least cX2_least 6 (some FieldType.int) ∈ zW := zq 490 (by decide +kernel) (by decide +kernel)
theorem q491 : Cond.methodLink RX2 155 yJ9_min_7cf53 ∈ zW := zq 491 (by decide +kernel) (by decide +kernel)
theorem q492 : Cond.static yJ9_min_7cf53 ∈ zW := zq 492 (by decide +kernel) (by decide +kernel)
theorem q493 : Cond.code yJ9_min_7cf53 cJ9_min_7cf53 2 (some FieldType.int) ∈ zW := zq 493 (by decide +kernel) (by decide +kernel)
theorem q494 : Cond.methodLink RL 256 yL_sort ∈ zW := zq 494 (by decide +kernel) (by decide +kernel)
theorem q495 : Cond.static yL_sort ∈ zW := zq 495 (by decide +kernel) (by decide +kernel)
theorem q496 : Cond.codeWith yL_sort cL_sort 6 (some FieldType.int) [(0, 12, 15, 13), (0, 12, 19, 21)] ∈ zW := zq 496 (by decide +kernel) (by decide +kernel)
theorem q497 : Cond.methodLink RL 108 yX2_sort ∈ zW := zq 497 (by decide +kernel) (by decide +kernel)
theorem q498 : Cond.instanceMethod yX2_sort ∈ zW := zq 498 (by decide +kernel) (by decide +kernel)
theorem q499 : Cond.selects "WordConcordance" yX2_sort yX2_sort ∈ zW := zq 499 (by decide +kernel) (by decide +kernel)
theorem q500 : Cond.code yX2_sort cX2_sort 5 (some FieldType.int) ∈ zW := zq 500 (by decide +kernel) (by decide +kernel)
theorem q501 : Cond.methodLink RX2 158 yX2_putInOrder ∈ zW := zq 501 (by decide +kernel) (by decide +kernel)
theorem q503 : Cond.instanceMethod yX2_putInOrder ∈ zW := zq 503 (by decide +kernel) (by decide +kernel)
theorem q504 : Cond.code yX2_putInOrder cX2_putInOrder 7 none ∈ zW := zq 504 (by decide +kernel) (by decide +kernel)
theorem q505 : Cond.methodLink RX2 170 yX2_mustPass ∈ zW := zq 505 (by decide +kernel) (by decide +kernel)
theorem q507 : Cond.instanceMethod yX2_mustPass ∈ zW := zq 507 (by decide +kernel) (by decide +kernel)
theorem q508 : Cond.code yX2_mustPass cX2_mustPass 7 (some FieldType.boolean) ∈ zW := zq 508 (by decide +kernel) (by decide +kernel)
theorem q509 : Cond.methodLink RX2 162 yX1_differencesFrom ∈ zW := zq 509 (by decide +kernel) (by decide +kernel)
theorem q510 : Cond.instanceMethod yX1_differencesFrom ∈ zW := zq 510 (by decide +kernel) (by decide +kernel)
theorem q511 : Cond.selects "WordConcordance$Row" yX1_differencesFrom yX1_differencesFrom ∈ zW := zq 511 (by decide +kernel) (by decide +kernel)
theorem q512 : Cond.code yX1_differencesFrom cX1_differencesFrom 4 (some FieldType.int) ∈ zW := zq 512 (by decide +kernel) (by decide +kernel)
theorem q513 : Cond.methodLink RL 260 yL_isSorted ∈ zW := zq 513 (by decide +kernel) (by decide +kernel)
theorem q514 : Cond.static yL_isSorted ∈ zW := zq 514 (by decide +kernel) (by decide +kernel)
theorem q515 : Cond.codeWith yL_isSorted cL_isSorted 5 (some FieldType.int) [(0, 17, 20, 13), (0, 17, 24, 21)] ∈ zW := zq 515 (by decide +kernel) (by decide +kernel)
theorem q516 : Cond.methodLink RL 112 yX2_isSorted ∈ zW := zq 516 (by decide +kernel) (by decide +kernel)
theorem q517 : Cond.instanceMethod yX2_isSorted ∈ zW := zq 517 (by decide +kernel) (by decide +kernel)
theorem q518 : Cond.selects "WordConcordance" yX2_isSorted yX2_isSorted ∈ zW := zq 518 (by decide +kernel) (by decide +kernel)
theorem q519 : Cond.code yX2_isSorted cX2_isSorted 4 (some FieldType.boolean) ∈ zW := zq 519 (by decide +kernel) (by decide +kernel)
theorem q520 : Cond.methodLink RX2 165 yX2_isInOrder ∈ zW := zq 520 (by decide +kernel) (by decide +kernel)
theorem q522 : Cond.instanceMethod yX2_isInOrder ∈ zW := zq 522 (by decide +kernel) (by decide +kernel)
theorem q523 : Cond.code yX2_isInOrder cX2_isInOrder 4 (some FieldType.boolean) ∈ zW := zq 523 (by decide +kernel) (by decide +kernel)
theorem q524 : Cond.methodLink RL 263 yL_search ∈ zW := zq 524 (by decide +kernel) (by decide +kernel)
theorem q525 : Cond.static yL_search ∈ zW := zq 525 (by decide +kernel) (by decide +kernel)
theorem q526 : Cond.codeWith yL_search cL_search 6 (some FieldType.int) [(0, 12, 15, 13), (0, 12, 19, 21), (0, 12, 23, 15)] ∈ zW := zq 526 (by decide +kernel) (by decide +kernel)
theorem q527 : Cond.methodLink RL 115 yX2_search ∈ zW := zq 527 (by decide +kernel) (by decide +kernel)
theorem q528 : Cond.instanceMethod yX2_search ∈ zW := zq 528 (by decide +kernel) (by decide +kernel)
theorem q529 : Cond.selects "WordConcordance" yX2_search yX2_search ∈ zW := zq 529 (by decide +kernel) (by decide +kernel)
theorem q530 : Cond.code yX2_search cX2_search 8 (some FieldType.int) ∈ zW := zq 530 (by decide +kernel) (by decide +kernel)
theorem q532 : Cond.methodLink RL 266 yL_turn ∈ zW := zq 532 (by decide +kernel) (by decide +kernel)
theorem q533 : Cond.static yL_turn ∈ zW := zq 533 (by decide +kernel) (by decide +kernel)
theorem q534 : Cond.codeWith yL_turn cL_turn 6 (some FieldType.int) [(0, 12, 15, 13)] ∈ zW := zq 534 (by decide +kernel) (by decide +kernel)
theorem q535 : Cond.methodLink RL 118 yX2_turn ∈ zW := zq 535 (by decide +kernel) (by decide +kernel)
theorem q536 : Cond.instanceMethod yX2_turn ∈ zW := zq 536 (by decide +kernel) (by decide +kernel)
theorem q537 : Cond.selects "WordConcordance" yX2_turn yX2_turn ∈ zW := zq 537 (by decide +kernel) (by decide +kernel)
theorem q538 : Cond.code yX2_turn cX2_turn 5 (some FieldType.int) ∈ zW := zq 538 (by decide +kernel) (by decide +kernel)
theorem q539 : Cond.methodLink RX2 174 yX1_turnRound ∈ zW := zq 539 (by decide +kernel) (by decide +kernel)
theorem q540 : Cond.instanceMethod yX1_turnRound ∈ zW := zq 540 (by decide +kernel) (by decide +kernel)
theorem q541 : Cond.selects "WordConcordance$Row" yX1_turnRound yX1_turnRound ∈ zW := zq 541 (by decide +kernel) (by decide +kernel)
theorem q542 : Cond.code yX1_turnRound cX1_turnRound 5 none ∈ zW := zq 542 (by decide +kernel) (by decide +kernel)
theorem q543 : Cond.methodLink RX1 27 yX1_exchange ∈ zW := zq 543 (by decide +kernel) (by decide +kernel)
theorem q544 : Cond.instanceMethod yX1_exchange ∈ zW := zq 544 (by decide +kernel) (by decide +kernel)
theorem q545 : Cond.selects "WordConcordance$Row" yX1_exchange yX1_exchange ∈ zW := zq 545 (by decide +kernel) (by decide +kernel)
theorem q546 : Cond.code yX1_exchange cX1_exchange 4 none ∈ zW := zq 546 (by decide +kernel) (by decide +kernel)
theorem q547 : Cond.methodLink RL 269 yL_move ∈ zW := zq 547 (by decide +kernel) (by decide +kernel)
theorem q548 : Cond.static yL_move ∈ zW := zq 548 (by decide +kernel) (by decide +kernel)
theorem q549 : Cond.codeWith yL_move cL_move 7 (some FieldType.int) [(0, 14, 17, 13)] ∈ zW := zq 549 (by decide +kernel) (by decide +kernel)
theorem q550 : Cond.methodLink RL 121 yX2_move ∈ zW := zq 550 (by decide +kernel) (by decide +kernel)
theorem q551 : Cond.instanceMethod yX2_move ∈ zW := zq 551 (by decide +kernel) (by decide +kernel)
theorem q552 : Cond.selects "WordConcordance" yX2_move yX2_move ∈ zW := zq 552 (by decide +kernel) (by decide +kernel)
theorem q553 : Cond.code yX2_move cX2_move 6 (some FieldType.int) ∈ zW := zq 553 (by decide +kernel) (by decide +kernel)
theorem q554 : Cond.methodLink RX2 177 yX2_moveRound ∈ zW := zq 554 (by decide +kernel) (by decide +kernel)
theorem q556 : Cond.instanceMethod yX2_moveRound ∈ zW := zq 556 (by decide +kernel) (by decide +kernel)
theorem q557 : Cond.code yX2_moveRound cX2_moveRound 8 (some FieldType.int) ∈ zW := zq 557 (by decide +kernel) (by decide +kernel)
theorem q558 : Cond.methodLink RX2 181 yJ9_floorMod_7cf53 ∈ zW := zq 558 (by decide +kernel) (by decide +kernel)
theorem q559 : Cond.static yJ9_floorMod_7cf53 ∈ zW := zq 559 (by decide +kernel) (by decide +kernel)
theorem q560 : Cond.code yJ9_floorMod_7cf53 cJ9_floorMod_7cf53 3 (some FieldType.int) ∈ zW := zq 560 (by decide +kernel) (by decide +kernel)
theorem q561 : Cond.methodLink RL 272 yL_swap ∈ zW := zq 561 (by decide +kernel) (by decide +kernel)
theorem q562 : Cond.static yL_swap ∈ zW := zq 562 (by decide +kernel) (by decide +kernel)
theorem q563 : Cond.codeWith yL_swap cL_swap 6 (some FieldType.int) [(0, 12, 15, 13)] ∈ zW := zq 563 (by decide +kernel) (by decide +kernel)
theorem q564 : Cond.methodLink RL 124 yX2_swap ∈ zW := zq 564 (by decide +kernel) (by decide +kernel)
theorem q565 : Cond.instanceMethod yX2_swap ∈ zW := zq 565 (by decide +kernel) (by decide +kernel)
theorem q566 : Cond.selects "WordConcordance" yX2_swap yX2_swap ∈ zW := zq 566 (by decide +kernel) (by decide +kernel)
theorem q567 : Cond.code yX2_swap cX2_swap 5 (some FieldType.int) ∈ zW := zq 567 (by decide +kernel) (by decide +kernel)
theorem q568 : Cond.methodLink RX2 184 yX1_exchange ∈ zW := zq 568 (by decide +kernel) (by decide +kernel)
theorem q569 : Cond.methodLink RL 275 yL_fill ∈ zW := zq 569 (by decide +kernel) (by decide +kernel)
theorem q570 : Cond.static yL_fill ∈ zW := zq 570 (by decide +kernel) (by decide +kernel)
theorem q571 : Cond.codeWith yL_fill cL_fill 7 (some FieldType.int) [(0, 14, 17, 13)] ∈ zW := zq 571 (by decide +kernel) (by decide +kernel)
theorem q572 : Cond.methodLink RL 127 yX2_fill ∈ zW := zq 572 (by decide +kernel) (by decide +kernel)
theorem q573 : Cond.instanceMethod yX2_fill ∈ zW := zq 573 (by decide +kernel) (by decide +kernel)
theorem q574 : Cond.selects "WordConcordance" yX2_fill yX2_fill ∈ zW := zq 574 (by decide +kernel) (by decide +kernel)
theorem q575 : Cond.code yX2_fill cX2_fill 8 (some FieldType.int) ∈ zW := zq 575 (by decide +kernel) (by decide +kernel)
theorem q576 : Cond.methodLink RL 278 yL_copy ∈ zW := zq 576 (by decide +kernel) (by decide +kernel)
theorem q577 : Cond.static yL_copy ∈ zW := zq 577 (by decide +kernel) (by decide +kernel)
theorem q578 : Cond.codeWith yL_copy cL_copy 5 (some FieldType.int) [(0, 10, 13, 13), (0, 10, 17, 15)] ∈ zW := zq 578 (by decide +kernel) (by decide +kernel)
theorem q579 : Cond.methodLink RL 130 yX2_copy ∈ zW := zq 579 (by decide +kernel) (by decide +kernel)
theorem q580 : Cond.instanceMethod yX2_copy ∈ zW := zq 580 (by decide +kernel) (by decide +kernel)
theorem q581 : Cond.selects "WordConcordance" yX2_copy yX2_copy ∈ zW := zq 581 (by decide +kernel) (by decide +kernel)
theorem q582 : Cond.code yX2_copy cX2_copy 6 (some FieldType.int) ∈ zW := zq 582 (by decide +kernel) (by decide +kernel)
theorem q584 : Cond.methodLink RL 281 yL_stands ∈ zW := zq 584 (by decide +kernel) (by decide +kernel)
theorem q585 : Cond.static yL_stands ∈ zW := zq 585 (by decide +kernel) (by decide +kernel)
theorem q586 : Cond.codeWith yL_stands cL_stands 5 (some FieldType.int) [(0, 10, 13, 13), (0, 10, 17, 93)] ∈ zW := zq 586 (by decide +kernel) (by decide +kernel)
theorem q587 : Cond.methodLink RL 133 yX2_stands ∈ zW := zq 587 (by decide +kernel) (by decide +kernel)
theorem q588 : Cond.instanceMethod yX2_stands ∈ zW := zq 588 (by decide +kernel) (by decide +kernel)
theorem q589 : Cond.selects "WordConcordance" yX2_stands yX2_stands ∈ zW := zq 589 (by decide +kernel) (by decide +kernel)
theorem q590 : Cond.code yX2_stands cX2_stands 7 (some FieldType.int) ∈ zW := zq 590 (by decide +kernel) (by decide +kernel)
theorem q592 : Cond.methodLink RL 284 yL_near ∈ zW := zq 592 (by decide +kernel) (by decide +kernel)
theorem q593 : Cond.static yL_near ∈ zW := zq 593 (by decide +kernel) (by decide +kernel)
theorem q594 : Cond.codeWith yL_near cL_near 6 (some FieldType.int) [(0, 12, 15, 13)] ∈ zW := zq 594 (by decide +kernel) (by decide +kernel)
theorem q595 : Cond.methodLink RL 136 yX2_near ∈ zW := zq 595 (by decide +kernel) (by decide +kernel)
theorem q596 : Cond.instanceMethod yX2_near ∈ zW := zq 596 (by decide +kernel) (by decide +kernel)
theorem q597 : Cond.selects "WordConcordance" yX2_near yX2_near ∈ zW := zq 597 (by decide +kernel) (by decide +kernel)
theorem q598 : Cond.code yX2_near cX2_near 7 (some FieldType.int) ∈ zW := zq 598 (by decide +kernel) (by decide +kernel)
theorem q599 : Cond.methodLink RX2 194 yJ9_abs_0f7a4 ∈ zW := zq 599 (by decide +kernel) (by decide +kernel)
theorem q600 : Cond.static yJ9_abs_0f7a4 ∈ zW := zq 600 (by decide +kernel) (by decide +kernel)
theorem q601 : Cond.code yJ9_abs_0f7a4 cJ9_abs_0f7a4 1 (some FieldType.int) ∈ zW := zq 601 (by decide +kernel) (by decide +kernel)
theorem q602 : Cond.methodLink RL 287 yL_common ∈ zW := zq 602 (by decide +kernel) (by decide +kernel)
theorem q603 : Cond.static yL_common ∈ zW := zq 603 (by decide +kernel) (by decide +kernel)
theorem q604 : Cond.codeWith yL_common cL_common 6 (some FieldType.int) [(0, 12, 15, 13), (0, 12, 19, 21)] ∈ zW := zq 604 (by decide +kernel) (by decide +kernel)
theorem q605 : Cond.methodLink RL 139 yX2_common ∈ zW := zq 605 (by decide +kernel) (by decide +kernel)
theorem q606 : Cond.instanceMethod yX2_common ∈ zW := zq 606 (by decide +kernel) (by decide +kernel)
theorem q607 : Cond.selects "WordConcordance" yX2_common yX2_common ∈ zW := zq 607 (by decide +kernel) (by decide +kernel)
theorem q608 : Cond.code yX2_common cX2_common 11 (some FieldType.int) ∈ zW := zq 608 (by decide +kernel) (by decide +kernel)
theorem q609 : Cond.methodLink RX2 197 yX2_clearRuns ∈ zW := zq 609 (by decide +kernel) (by decide +kernel)
theorem q611 : Cond.instanceMethod yX2_clearRuns ∈ zW := zq 611 (by decide +kernel) (by decide +kernel)
theorem q612 : Cond.code yX2_clearRuns cX2_clearRuns 2 none ∈ zW := zq 612 (by decide +kernel) (by decide +kernel)
theorem q613 : Cond.methodLink RX2 200 yX2_longestRunFrom ∈ zW := zq 613 (by decide +kernel) (by decide +kernel)
theorem q615 : Cond.instanceMethod yX2_longestRunFrom ∈ zW := zq 615 (by decide +kernel) (by decide +kernel)
theorem q616 : Cond.code yX2_longestRunFrom cX2_longestRunFrom 7 (some FieldType.int) ∈ zW := zq 616 (by decide +kernel) (by decide +kernel)
theorem q617 : Cond.methodLink RL 290 yL_refuses ∈ zW := zq 617 (by decide +kernel) (by decide +kernel)
theorem q618 : Cond.static yL_refuses ∈ zW := zq 618 (by decide +kernel) (by decide +kernel)
theorem q619 : Cond.codeWith yL_refuses cL_refuses 4 (some FieldType.int) [(0, 16, 19, 21)] ∈ zW := zq 619 (by decide +kernel) (by decide +kernel)
theorem q620 : Cond.methodLink RL 142 yX2_refuses ∈ zW := zq 620 (by decide +kernel) (by decide +kernel)
theorem q621 : Cond.instanceMethod yX2_refuses ∈ zW := zq 621 (by decide +kernel) (by decide +kernel)
theorem q622 : Cond.selects "WordConcordance" yX2_refuses yX2_refuses ∈ zW := zq 622 (by decide +kernel) (by decide +kernel)
theorem q623 : Cond.code yX2_refuses cX2_refuses 2 (some FieldType.boolean) ∈ zW := zq 623 (by decide +kernel) (by decide +kernel)
theorem q624 : Cond.methodLink RX2 204 yX2_isRefused ∈ zW := zq 624 (by decide +kernel) (by decide +kernel)
theorem q625 : Cond.static yX2_isRefused ∈ zW := zq 625 (by decide +kernel) (by decide +kernel)
theorem q626 : Cond.codeWith yX2_isRefused cX2_isRefused 2 (some FieldType.boolean) [(0, 4, 7, 210), (0, 4, 28, 212), (0, 4, 40, 214)] ∈ zW := zq 626 (by decide +kernel) (by decide +kernel)
theorem q627 : Cond.classLink RX2 210 "java/lang/UnsupportedOperationException" ∈ zW := zq 627 (by decide +kernel) (by decide +kernel)
theorem q628 : Cond.methodLink RX2 207 yX2_attempt ∈ zW := zq 628 (by decide +kernel) (by decide +kernel)
theorem q629 : Cond.static yX2_attempt ∈ zW := zq 629 (by decide +kernel) (by decide +kernel)
theorem q630 : Cond.code yX2_attempt cX2_attempt 3 none ∈ zW := zq 630 (by decide +kernel) (by decide +kernel)
theorem q631 : Cond.methodLink RX2 216 yX0_of ∈ zW := zq 631 (by decide +kernel) (by decide +kernel)
theorem q632 : Cond.static yX0_of ∈ zW := zq 632 (by decide +kernel) (by decide +kernel)
theorem q633 : Cond.code yX0_of cX0_of 2 (some (FieldType.object "WordConcordance$Copies")) ∈ zW := zq 633 (by decide +kernel) (by decide +kernel)
theorem q634 : Cond.classLink RX0 16 "java/lang/IllegalArgumentException" ∈ zW := zq 634 (by decide +kernel) (by decide +kernel)
theorem q636 : Cond.methodLink RX0 20 ⟨"java/lang/IllegalArgumentException", "<init>", "(Ljava/lang/String;)V"⟩ ∈ zW := zq 636 (by decide +kernel) (by decide +kernel)
theorem q637 : Cond.classLink RX0 8 "WordConcordance$Copies" ∈ zW := zq 637 (by decide +kernel) (by decide +kernel)
theorem q638 : Cond.instantiable RX0 2 ∈ zW := zq 638 (by decide +kernel) (by decide +kernel)
theorem q639 : Cond.methodLink RX0 23 yX0_init ∈ zW := zq 639 (by decide +kernel) (by decide +kernel)
theorem q640 : Cond.instanceMethod yX0_init ∈ zW := zq 640 (by decide +kernel) (by decide +kernel)
theorem q641 : Cond.code yX0_init cX0_init 3 none ∈ zW := zq 641 (by decide +kernel) (by decide +kernel)
theorem q642 : Cond.methodLink RX0 1 ⟨"java/lang/Object", "<init>", "()V"⟩ ∈ zW := zq 642 (by decide +kernel) (by decide +kernel)
theorem q643 : Cond.fieldLink RX0 7 "WordConcordance$Copies" "word" "I" ∈ zW := zq 643 (by decide +kernel) (by decide +kernel)
theorem q644 : Cond.fieldLink RX0 13 "WordConcordance$Copies" "many" "I" ∈ zW := zq 644 (by decide +kernel) (by decide +kernel)
theorem q650 : Cond.methodLink RX2 222 yX0_putAt ∈ zW := zq 650 (by decide +kernel) (by decide +kernel)
theorem q651 : Cond.instanceMethod yX0_putAt ∈ zW := zq 651 (by decide +kernel) (by decide +kernel)
theorem q652 : Cond.selects "WordConcordance$Copies" yX0_putAt yX0_putAt ∈ zW := zq 652 (by decide +kernel) (by decide +kernel)
theorem q653 : Cond.code yX0_putAt cX0_putAt 3 none ∈ zW := zq 653 (by decide +kernel) (by decide +kernel)
theorem q654 : Cond.classLink RX0 31 "java/lang/UnsupportedOperationException" ∈ zW := zq 654 (by decide +kernel) (by decide +kernel)
theorem q655 : Cond.instantiable "java/lang/UnsupportedOperationException" 6 ∈ zW := zq 655 (by decide +kernel) (by decide +kernel)
theorem q657 : Cond.selects "java/lang/UnsupportedOperationException" ⟨"java/lang/Throwable", "fillInStackTrace", "(I)Ljava/lang/Throwable;"⟩ ⟨"java/lang/Throwable", "fillInStackTrace", "(I)Ljava/lang/Throwable;"⟩ ∈ zW := zq 657 (by decide +kernel) (by decide +kernel)
theorem q664 : Cond.methodLink RX0 35 ⟨"java/lang/UnsupportedOperationException", "<init>", "(Ljava/lang/String;)V"⟩ ∈ zW := zq 664 (by decide +kernel) (by decide +kernel)
theorem q665 : Cond.instanceMethod ⟨"java/lang/UnsupportedOperationException", "<init>", "(Ljava/lang/String;)V"⟩ ∈ zW := zq 665 (by decide +kernel) (by decide +kernel)
theorem q666 : Cond.code ⟨"java/lang/UnsupportedOperationException", "<init>", "(Ljava/lang/String;)V"⟩ prog_16_method_2_code 2 none ∈ zW := zq 666 (by decide +kernel) (by decide +kernel)
theorem q667 : Cond.methodLink "java/lang/UnsupportedOperationException" 7 ⟨"java/lang/RuntimeException", "<init>", "(Ljava/lang/String;)V"⟩ ∈ zW := zq 667 (by decide +kernel) (by decide +kernel)
theorem q670 : Cond.methodLink RX2 225 yX0_append ∈ zW := zq 670 (by decide +kernel) (by decide +kernel)
theorem q671 : Cond.instanceMethod yX0_append ∈ zW := zq 671 (by decide +kernel) (by decide +kernel)
theorem q672 : Cond.selects "WordConcordance$Copies" yX0_append yX0_append ∈ zW := zq 672 (by decide +kernel) (by decide +kernel)
theorem q673 : Cond.code yX0_append cX0_append 2 none ∈ zW := zq 673 (by decide +kernel) (by decide +kernel)
theorem q674 : Cond.methodLink RX2 226 yX0_takeOut ∈ zW := zq 674 (by decide +kernel) (by decide +kernel)
theorem q675 : Cond.instanceMethod yX0_takeOut ∈ zW := zq 675 (by decide +kernel) (by decide +kernel)
theorem q676 : Cond.selects "WordConcordance$Copies" yX0_takeOut yX0_takeOut ∈ zW := zq 676 (by decide +kernel) (by decide +kernel)
theorem q677 : Cond.code yX0_takeOut cX0_takeOut 2 none ∈ zW := zq 677 (by decide +kernel) (by decide +kernel)
theorem q678 : Cond.methodLink RX2 229 yX0_wordAt ∈ zW := zq 678 (by decide +kernel) (by decide +kernel)
theorem q679 : Cond.instanceMethod yX0_wordAt ∈ zW := zq 679 (by decide +kernel) (by decide +kernel)
theorem q680 : Cond.selects "WordConcordance$Copies" yX0_wordAt yX0_wordAt ∈ zW := zq 680 (by decide +kernel) (by decide +kernel)
theorem q681 : Cond.code yX0_wordAt cX0_wordAt 2 (some FieldType.int) ∈ zW := zq 681 (by decide +kernel) (by decide +kernel)
theorem q682 : Cond.classLink RX0 26 "java/lang/IndexOutOfBoundsException" ∈ zW := zq 682 (by decide +kernel) (by decide +kernel)
theorem q684 : Cond.methodLink RX0 30 ⟨"java/lang/IndexOutOfBoundsException", "<init>", "(Ljava/lang/String;)V"⟩ ∈ zW := zq 684 (by decide +kernel) (by decide +kernel)
theorem q685 : Cond.methodLink RL 293 yL_errors ∈ zW := zq 685 (by decide +kernel) (by decide +kernel)
theorem q686 : Cond.static yL_errors ∈ zW := zq 686 (by decide +kernel) (by decide +kernel)
theorem q687 : Cond.codeWith yL_errors cL_errors 4 (some FieldType.int) [(0, 9, 12, 13)] ∈ zW := zq 687 (by decide +kernel) (by decide +kernel)
theorem q688 : Cond.methodLink RL 146 yX2_errors ∈ zW := zq 688 (by decide +kernel) (by decide +kernel)
theorem q689 : Cond.instanceMethod yX2_errors ∈ zW := zq 689 (by decide +kernel) (by decide +kernel)
theorem q690 : Cond.selects "WordConcordance" yX2_errors yX2_errors ∈ zW := zq 690 (by decide +kernel) (by decide +kernel)
theorem q691 : Cond.code yX2_errors cX2_errors 4 (some FieldType.int) ∈ zW := zq 691 (by decide +kernel) (by decide +kernel)
theorem q692 : Cond.methodLink RX2 232 yX2_turnsBack ∈ zW := zq 692 (by decide +kernel) (by decide +kernel)
theorem q694 : Cond.instanceMethod yX2_turnsBack ∈ zW := zq 694 (by decide +kernel) (by decide +kernel)
theorem q695 : Cond.code yX2_turnsBack cX2_turnsBack 2 (some FieldType.boolean) ∈ zW := zq 695 (by decide +kernel) (by decide +kernel)
theorem q696 : Cond.methodLink RX2 236 yX2_movesBack ∈ zW := zq 696 (by decide +kernel) (by decide +kernel)
theorem q698 : Cond.instanceMethod yX2_movesBack ∈ zW := zq 698 (by decide +kernel) (by decide +kernel)
theorem q699 : Cond.code yX2_movesBack cX2_movesBack 2 (some FieldType.boolean) ∈ zW := zq 699 (by decide +kernel) (by decide +kernel)
theorem q700 : Cond.methodLink RX2 239 yX2_sortsItsWords ∈ zW := zq 700 (by decide +kernel) (by decide +kernel)
theorem q702 : Cond.instanceMethod yX2_sortsItsWords ∈ zW := zq 702 (by decide +kernel) (by decide +kernel)
theorem q703 : Cond.code yX2_sortsItsWords cX2_sortsItsWords 3 (some FieldType.boolean) ∈ zW := zq 703 (by decide +kernel) (by decide +kernel)
theorem q704 : Cond.methodLink RX2 242 yX2_findsWhatItCounts ∈ zW := zq 704 (by decide +kernel) (by decide +kernel)
theorem q706 : Cond.instanceMethod yX2_findsWhatItCounts ∈ zW := zq 706 (by decide +kernel) (by decide +kernel)
theorem q707 : Cond.code yX2_findsWhatItCounts cX2_findsWhatItCounts 6 (some FieldType.boolean) ∈ zW := zq 707 (by decide +kernel) (by decide +kernel)
theorem q708 : Cond.methodLink RX2 245 yX2_findsInMirror ∈ zW := zq 708 (by decide +kernel) (by decide +kernel)
theorem q710 : Cond.instanceMethod yX2_findsInMirror ∈ zW := zq 710 (by decide +kernel) (by decide +kernel)
theorem q711 : Cond.code yX2_findsInMirror cX2_findsInMirror 5 (some FieldType.boolean) ∈ zW := zq 711 (by decide +kernel) (by decide +kernel)
theorem q712 : Cond.methodLink RL 296 yL_meanWord ∈ zW := zq 712 (by decide +kernel) (by decide +kernel)
theorem q713 : Cond.static yL_meanWord ∈ zW := zq 713 (by decide +kernel) (by decide +kernel)
theorem q714 : Cond.codeWith yL_meanWord cL_meanWord 4 (some FieldType.int) [(0, 8, 11, 13)] ∈ zW := zq 714 (by decide +kernel) (by decide +kernel)
theorem q715 : Cond.methodLink RL 149 yX2_meanWord ∈ zW := zq 715 (by decide +kernel) (by decide +kernel)
theorem q716 : Cond.instanceMethod yX2_meanWord ∈ zW := zq 716 (by decide +kernel) (by decide +kernel)
theorem q717 : Cond.selects "WordConcordance" yX2_meanWord yX2_meanWord ∈ zW := zq 717 (by decide +kernel) (by decide +kernel)
theorem q718 : Cond.code yX2_meanWord cX2_meanWord 5 (some FieldType.double) ∈ zW := zq 718 (by decide +kernel) (by decide +kernel)
theorem q719 : Cond.methodLink RL 300 yL_share ∈ zW := zq 719 (by decide +kernel) (by decide +kernel)
theorem q720 : Cond.static yL_share ∈ zW := zq 720 (by decide +kernel) (by decide +kernel)
theorem q721 : Cond.codeWith yL_share cL_share 5 (some FieldType.int) [(0, 10, 13, 13)] ∈ zW := zq 721 (by decide +kernel) (by decide +kernel)
theorem q722 : Cond.methodLink RL 153 yX2_share ∈ zW := zq 722 (by decide +kernel) (by decide +kernel)
theorem q723 : Cond.instanceMethod yX2_share ∈ zW := zq 723 (by decide +kernel) (by decide +kernel)
theorem q724 : Cond.selects "WordConcordance" yX2_share yX2_share ∈ zW := zq 724 (by decide +kernel) (by decide +kernel)
theorem q725 : Cond.code yX2_share cX2_share 4 (some FieldType.float) ∈ zW := zq 725 (by decide +kernel) (by decide +kernel)
theorem q726 : Cond.methodLink RL 167 yX4_thrown ∈ zW := zq 726 (by decide +kernel) (by decide +kernel)
theorem q727 : Cond.instanceMethod yX4_thrown ∈ zW := zq 727 (by decide +kernel) (by decide +kernel)
theorem q728 : Cond.selects "WordConcordanceModel" yX4_thrown yX4_thrown ∈ zW := zq 728 (by decide +kernel) (by decide +kernel)
theorem q729 : Cond.code yX4_thrown cX4_thrown 1 (some FieldType.int) ∈ zW := zq 729 (by decide +kernel) (by decide +kernel)
theorem q730 : Cond.classLink RL 158 "WordConcordanceModel" ∈ zW := zq 730 (by decide +kernel) (by decide +kernel)
theorem q731 : Cond.instantiable RX4 5 ∈ zW := zq 731 (by decide +kernel) (by decide +kernel)
theorem q732 : Cond.methodLink RL 160 yX4_init ∈ zW := zq 732 (by decide +kernel) (by decide +kernel)
theorem q733 : Cond.instanceMethod yX4_init ∈ zW := zq 733 (by decide +kernel) (by decide +kernel)
theorem q734 : Cond.code yX4_init cX4_init 1 none ∈ zW := zq 734 (by decide +kernel) (by decide +kernel)
theorem q735 : Cond.methodLink RX4 15 ⟨"java/lang/Object", "<init>", "()V"⟩ ∈ zW := zq 735 (by decide +kernel) (by decide +kernel)
theorem q736 : Cond.classLink RX4 21 "WordConcordanceModel$Row" ∈ zW := zq 736 (by decide +kernel) (by decide +kernel)
theorem q738 : Cond.instantiable RX3 2 ∈ zW := zq 738 (by decide +kernel) (by decide +kernel)
theorem q740 : Cond.instanceMethod yX3_init ∈ zW := zq 740 (by decide +kernel) (by decide +kernel)
theorem q741 : Cond.code yX3_init cX3_init 1 none ∈ zW := zq 741 (by decide +kernel) (by decide +kernel)
theorem q742 : Cond.methodLink RX3 3 ⟨"java/lang/Object", "<init>", "()V"⟩ ∈ zW := zq 742 (by decide +kernel) (by decide +kernel)
theorem q743 : Cond.fieldLink RX3 9 "WordConcordanceModel$Row" "words" "[I" ∈ zW := zq 743 (by decide +kernel) (by decide +kernel)
theorem q745 : Cond.fieldLink RX3 15 "WordConcordanceModel$Row" "many" "I" ∈ zW := zq 745 (by decide +kernel) (by decide +kernel)
theorem q752 : Cond.fieldLink RX4 1 "WordConcordanceModel" "thrown" "I" ∈ zW := zq 752 (by decide +kernel) (by decide +kernel)
theorem q753 : Cond.fieldLink RX4 24 "WordConcordanceModel" "texts" "[LWordConcordanceModel$Row;" ∈ zW := zq 753 (by decide +kernel) (by decide +kernel)
theorem q754 : Cond.fieldLink RX4 28 "WordConcordanceModel" "phrases" "[LWordConcordanceModel$Row;" ∈ zW := zq 754 (by decide +kernel) (by decide +kernel)
theorem q755 : Cond.fieldLink RX4 31 "WordConcordanceModel" "spare" "LWordConcordanceModel$Row;" ∈ zW := zq 755 (by decide +kernel) (by decide +kernel)
theorem q756 : Cond.fieldLink RX4 35 "WordConcordanceModel" "ranks" "[I" ∈ zW := zq 756 (by decide +kernel) (by decide +kernel)
theorem q768 : Cond.methodLink RL 166 yX4_add ∈ zW := zq 768 (by decide +kernel) (by decide +kernel)
theorem q769 : Cond.instanceMethod yX4_add ∈ zW := zq 769 (by decide +kernel) (by decide +kernel)
theorem q770 : Cond.selects "WordConcordanceModel" yX4_add yX4_add ∈ zW := zq 770 (by decide +kernel) (by decide +kernel)
theorem q771 : Cond.code yX4_add cX4_add 3 (some FieldType.int) ∈ zW := zq 771 (by decide +kernel) (by decide +kernel)
theorem q772 : Cond.methodLink RX4 39 yX4_isText ∈ zW := zq 772 (by decide +kernel) (by decide +kernel)
theorem q773 : Cond.static yX4_isText ∈ zW := zq 773 (by decide +kernel) (by decide +kernel)
theorem q774 : Cond.code yX4_isText cX4_isText 1 (some FieldType.boolean) ∈ zW := zq 774 (by decide +kernel) (by decide +kernel)
theorem q775 : Cond.constantLong RX4 7 (3 : Int64) ∈ zW := zq 775 (by decide +kernel) (by decide +kernel)
theorem q776 : Cond.methodLink RX4 9 yX4_in ∈ zW := zq 776 (by decide +kernel) (by decide +kernel)
theorem q777 : Cond.static yX4_in ∈ zW := zq 777 (by decide +kernel) (by decide +kernel)
theorem q778 : Cond.code yX4_in cX4_in 6 (some FieldType.boolean) ∈ zW := zq 778 (by decide +kernel) (by decide +kernel)
theorem q779 : Cond.methodLink RX4 48 yX4_isWord ∈ zW := zq 779 (by decide +kernel) (by decide +kernel)
theorem q780 : Cond.static yX4_isWord ∈ zW := zq 780 (by decide +kernel) (by decide +kernel)
theorem q781 : Cond.code yX4_isWord cX4_isWord 1 (some FieldType.boolean) ∈ zW := zq 781 (by decide +kernel) (by decide +kernel)
theorem q782 : Cond.constantLong RX4 13 (99 : Int64) ∈ zW := zq 782 (by decide +kernel) (by decide +kernel)
theorem q783 : Cond.methodLink RX4 51 yX4_hasRoom ∈ zW := zq 783 (by decide +kernel) (by decide +kernel)
theorem q785 : Cond.instanceMethod yX4_hasRoom ∈ zW := zq 785 (by decide +kernel) (by decide +kernel)
theorem q786 : Cond.code yX4_hasRoom cX4_hasRoom 4 (some FieldType.boolean) ∈ zW := zq 786 (by decide +kernel) (by decide +kernel)
theorem q787 : Cond.constantLong RX4 46 (60 : Int64) ∈ zW := zq 787 (by decide +kernel) (by decide +kernel)
theorem q788 : Cond.methodLink RX4 55 yX4_passes ∈ zW := zq 788 (by decide +kernel) (by decide +kernel)
theorem q790 : Cond.instanceMethod yX4_passes ∈ zW := zq 790 (by decide +kernel) (by decide +kernel)
theorem q791 : Cond.code yX4_passes cX4_passes 4 (some FieldType.boolean) ∈ zW := zq 791 (by decide +kernel) (by decide +kernel)
theorem q792 : Cond.methodLink RX4 59 yX3_add ∈ zW := zq 792 (by decide +kernel) (by decide +kernel)
theorem q793 : Cond.instanceMethod yX3_add ∈ zW := zq 793 (by decide +kernel) (by decide +kernel)
theorem q794 : Cond.selects "WordConcordanceModel$Row" yX3_add yX3_add ∈ zW := zq 794 (by decide +kernel) (by decide +kernel)
theorem q795 : Cond.code yX3_add cX3_add 2 none ∈ zW := zq 795 (by decide +kernel) (by decide +kernel)
theorem q796 : Cond.methodLink RL 174 yX4_addMany ∈ zW := zq 796 (by decide +kernel) (by decide +kernel)
theorem q797 : Cond.instanceMethod yX4_addMany ∈ zW := zq 797 (by decide +kernel) (by decide +kernel)
theorem q798 : Cond.selects "WordConcordanceModel" yX4_addMany yX4_addMany ∈ zW := zq 798 (by decide +kernel) (by decide +kernel)
theorem q799 : Cond.code yX4_addMany cX4_addMany 5 (some FieldType.int) ∈ zW := zq 799 (by decide +kernel) (by decide +kernel)
theorem q800 : Cond.methodLink RL 178 yX4_scatter ∈ zW := zq 800 (by decide +kernel) (by decide +kernel)
theorem q801 : Cond.instanceMethod yX4_scatter ∈ zW := zq 801 (by decide +kernel) (by decide +kernel)
theorem q802 : Cond.selects "WordConcordanceModel" yX4_scatter yX4_scatter ∈ zW := zq 802 (by decide +kernel) (by decide +kernel)
theorem q803 : Cond.code yX4_scatter cX4_scatter 8 (some FieldType.int) ∈ zW := zq 803 (by decide +kernel) (by decide +kernel)
theorem q804 : Cond.constantLong RX4 63 (100 : Int64) ∈ zW := zq 804 (by decide +kernel) (by decide +kernel)
theorem q805 : Cond.constantLong RX4 65 (1103515245 : Int64) ∈ zW := zq 805 (by decide +kernel) (by decide +kernel)
theorem q806 : Cond.constantLong RX4 67 (12345 : Int64) ∈ zW := zq 806 (by decide +kernel) (by decide +kernel)
theorem q807 : Cond.constantLong RX4 69 (2147483648 : Int64) ∈ zW := zq 807 (by decide +kernel) (by decide +kernel)
theorem q808 : Cond.constantLong RX4 71 (65536 : Int64) ∈ zW := zq 808 (by decide +kernel) (by decide +kernel)
theorem q809 : Cond.methodLink RL 181 yX4_insert ∈ zW := zq 809 (by decide +kernel) (by decide +kernel)
theorem q810 : Cond.instanceMethod yX4_insert ∈ zW := zq 810 (by decide +kernel) (by decide +kernel)
theorem q811 : Cond.selects "WordConcordanceModel" yX4_insert yX4_insert ∈ zW := zq 811 (by decide +kernel) (by decide +kernel)
theorem q812 : Cond.code yX4_insert cX4_insert 4 (some FieldType.int) ∈ zW := zq 812 (by decide +kernel) (by decide +kernel)
theorem q813 : Cond.methodLink RX4 73 yX4_isPart ∈ zW := zq 813 (by decide +kernel) (by decide +kernel)
theorem q815 : Cond.instanceMethod yX4_isPart ∈ zW := zq 815 (by decide +kernel) (by decide +kernel)
theorem q816 : Cond.code yX4_isPart cX4_isPart 4 (some FieldType.boolean) ∈ zW := zq 816 (by decide +kernel) (by decide +kernel)
theorem q817 : Cond.methodLink RX4 77 yX3_insert ∈ zW := zq 817 (by decide +kernel) (by decide +kernel)
theorem q818 : Cond.instanceMethod yX3_insert ∈ zW := zq 818 (by decide +kernel) (by decide +kernel)
theorem q819 : Cond.selects "WordConcordanceModel$Row" yX3_insert yX3_insert ∈ zW := zq 819 (by decide +kernel) (by decide +kernel)
theorem q820 : Cond.code yX3_insert cX3_insert 4 none ∈ zW := zq 820 (by decide +kernel) (by decide +kernel)
theorem q821 : Cond.methodLink RL 184 yX4_set ∈ zW := zq 821 (by decide +kernel) (by decide +kernel)
theorem q822 : Cond.instanceMethod yX4_set ∈ zW := zq 822 (by decide +kernel) (by decide +kernel)
theorem q823 : Cond.selects "WordConcordanceModel" yX4_set yX4_set ∈ zW := zq 823 (by decide +kernel) (by decide +kernel)
theorem q824 : Cond.code yX4_set cX4_set 5 (some FieldType.int) ∈ zW := zq 824 (by decide +kernel) (by decide +kernel)
theorem q825 : Cond.methodLink RX4 81 yX4_isPlace ∈ zW := zq 825 (by decide +kernel) (by decide +kernel)
theorem q827 : Cond.instanceMethod yX4_isPlace ∈ zW := zq 827 (by decide +kernel) (by decide +kernel)
theorem q828 : Cond.code yX4_isPlace cX4_isPlace 3 (some FieldType.boolean) ∈ zW := zq 828 (by decide +kernel) (by decide +kernel)
theorem q829 : Cond.methodLink RX4 85 yX3_at ∈ zW := zq 829 (by decide +kernel) (by decide +kernel)
theorem q830 : Cond.instanceMethod yX3_at ∈ zW := zq 830 (by decide +kernel) (by decide +kernel)
theorem q831 : Cond.selects "WordConcordanceModel$Row" yX3_at yX3_at ∈ zW := zq 831 (by decide +kernel) (by decide +kernel)
theorem q832 : Cond.code yX3_at cX3_at 2 (some FieldType.int) ∈ zW := zq 832 (by decide +kernel) (by decide +kernel)
theorem q833 : Cond.methodLink RL 187 yX4_remove ∈ zW := zq 833 (by decide +kernel) (by decide +kernel)
theorem q834 : Cond.instanceMethod yX4_remove ∈ zW := zq 834 (by decide +kernel) (by decide +kernel)
theorem q835 : Cond.selects "WordConcordanceModel" yX4_remove yX4_remove ∈ zW := zq 835 (by decide +kernel) (by decide +kernel)
theorem q836 : Cond.code yX4_remove cX4_remove 3 (some FieldType.int) ∈ zW := zq 836 (by decide +kernel) (by decide +kernel)
theorem q837 : Cond.methodLink RX4 92 yX3_remove ∈ zW := zq 837 (by decide +kernel) (by decide +kernel)
theorem q838 : Cond.instanceMethod yX3_remove ∈ zW := zq 838 (by decide +kernel) (by decide +kernel)
theorem q839 : Cond.selects "WordConcordanceModel$Row" yX3_remove yX3_remove ∈ zW := zq 839 (by decide +kernel) (by decide +kernel)
theorem q840 : Cond.code yX3_remove cX3_remove 4 (some FieldType.int) ∈ zW := zq 840 (by decide +kernel) (by decide +kernel)
theorem q841 : Cond.methodLink RL 190 yX4_cut ∈ zW := zq 841 (by decide +kernel) (by decide +kernel)
theorem q842 : Cond.instanceMethod yX4_cut ∈ zW := zq 842 (by decide +kernel) (by decide +kernel)
theorem q843 : Cond.selects "WordConcordanceModel" yX4_cut yX4_cut ∈ zW := zq 843 (by decide +kernel) (by decide +kernel)
theorem q844 : Cond.code yX4_cut cX4_cut 6 (some FieldType.int) ∈ zW := zq 844 (by decide +kernel) (by decide +kernel)
theorem q845 : Cond.methodLink RL 194 yX4_size ∈ zW := zq 845 (by decide +kernel) (by decide +kernel)
theorem q846 : Cond.instanceMethod yX4_size ∈ zW := zq 846 (by decide +kernel) (by decide +kernel)
theorem q847 : Cond.selects "WordConcordanceModel" yX4_size yX4_size ∈ zW := zq 847 (by decide +kernel) (by decide +kernel)
theorem q848 : Cond.code yX4_size cX4_size 2 (some FieldType.int) ∈ zW := zq 848 (by decide +kernel) (by decide +kernel)
theorem q849 : Cond.methodLink RL 197 yX4_at ∈ zW := zq 849 (by decide +kernel) (by decide +kernel)
theorem q850 : Cond.instanceMethod yX4_at ∈ zW := zq 850 (by decide +kernel) (by decide +kernel)
theorem q851 : Cond.selects "WordConcordanceModel" yX4_at yX4_at ∈ zW := zq 851 (by decide +kernel) (by decide +kernel)
theorem q852 : Cond.code yX4_at cX4_at 3 (some FieldType.int) ∈ zW := zq 852 (by decide +kernel) (by decide +kernel)
theorem q853 : Cond.methodLink RL 200 yX4_digest ∈ zW := zq 853 (by decide +kernel) (by decide +kernel)
theorem q854 : Cond.instanceMethod yX4_digest ∈ zW := zq 854 (by decide +kernel) (by decide +kernel)
theorem q855 : Cond.selects "WordConcordanceModel" yX4_digest yX4_digest ∈ zW := zq 855 (by decide +kernel) (by decide +kernel)
theorem q856 : Cond.code yX4_digest cX4_digest 4 (some FieldType.int) ∈ zW := zq 856 (by decide +kernel) (by decide +kernel)
theorem q857 : Cond.methodLink RL 203 yX4_setRank ∈ zW := zq 857 (by decide +kernel) (by decide +kernel)
theorem q858 : Cond.instanceMethod yX4_setRank ∈ zW := zq 858 (by decide +kernel) (by decide +kernel)
theorem q859 : Cond.selects "WordConcordanceModel" yX4_setRank yX4_setRank ∈ zW := zq 859 (by decide +kernel) (by decide +kernel)
theorem q860 : Cond.code yX4_setRank cX4_setRank 4 (some FieldType.int) ∈ zW := zq 860 (by decide +kernel) (by decide +kernel)
theorem q861 : Cond.constantLong RX4 95 (-9 : Int64) ∈ zW := zq 861 (by decide +kernel) (by decide +kernel)
theorem q862 : Cond.constantLong RX4 97 (9 : Int64) ∈ zW := zq 862 (by decide +kernel) (by decide +kernel)
theorem q863 : Cond.methodLink RL 206 yX4_say ∈ zW := zq 863 (by decide +kernel) (by decide +kernel)
theorem q864 : Cond.instanceMethod yX4_say ∈ zW := zq 864 (by decide +kernel) (by decide +kernel)
theorem q865 : Cond.selects "WordConcordanceModel" yX4_say yX4_say ∈ zW := zq 865 (by decide +kernel) (by decide +kernel)
theorem q866 : Cond.code yX4_say cX4_say 4 (some FieldType.int) ∈ zW := zq 866 (by decide +kernel) (by decide +kernel)
theorem q867 : Cond.methodLink RX4 99 yX4_isPhrase ∈ zW := zq 867 (by decide +kernel) (by decide +kernel)
theorem q868 : Cond.static yX4_isPhrase ∈ zW := zq 868 (by decide +kernel) (by decide +kernel)
theorem q869 : Cond.code yX4_isPhrase cX4_isPhrase 1 (some FieldType.boolean) ∈ zW := zq 869 (by decide +kernel) (by decide +kernel)
theorem q870 : Cond.methodLink RL 209 yX4_quote ∈ zW := zq 870 (by decide +kernel) (by decide +kernel)
theorem q871 : Cond.instanceMethod yX4_quote ∈ zW := zq 871 (by decide +kernel) (by decide +kernel)
theorem q872 : Cond.selects "WordConcordanceModel" yX4_quote yX4_quote ∈ zW := zq 872 (by decide +kernel) (by decide +kernel)
theorem q873 : Cond.code yX4_quote cX4_quote 6 (some FieldType.int) ∈ zW := zq 873 (by decide +kernel) (by decide +kernel)
theorem q874 : Cond.constantLong RX4 102 (12 : Int64) ∈ zW := zq 874 (by decide +kernel) (by decide +kernel)
theorem q875 : Cond.methodLink RL 212 yX4_hush ∈ zW := zq 875 (by decide +kernel) (by decide +kernel)
theorem q876 : Cond.instanceMethod yX4_hush ∈ zW := zq 876 (by decide +kernel) (by decide +kernel)
theorem q877 : Cond.selects "WordConcordanceModel" yX4_hush yX4_hush ∈ zW := zq 877 (by decide +kernel) (by decide +kernel)
theorem q878 : Cond.code yX4_hush cX4_hush 3 (some FieldType.int) ∈ zW := zq 878 (by decide +kernel) (by decide +kernel)
theorem q879 : Cond.methodLink RL 215 yX4_wordOf ∈ zW := zq 879 (by decide +kernel) (by decide +kernel)
theorem q880 : Cond.instanceMethod yX4_wordOf ∈ zW := zq 880 (by decide +kernel) (by decide +kernel)
theorem q881 : Cond.selects "WordConcordanceModel" yX4_wordOf yX4_wordOf ∈ zW := zq 881 (by decide +kernel) (by decide +kernel)
theorem q882 : Cond.code yX4_wordOf cX4_wordOf 4 (some FieldType.int) ∈ zW := zq 882 (by decide +kernel) (by decide +kernel)
theorem q883 : Cond.methodLink RL 218 yX4_find ∈ zW := zq 883 (by decide +kernel) (by decide +kernel)
theorem q884 : Cond.instanceMethod yX4_find ∈ zW := zq 884 (by decide +kernel) (by decide +kernel)
theorem q885 : Cond.selects "WordConcordanceModel" yX4_find yX4_find ∈ zW := zq 885 (by decide +kernel) (by decide +kernel)
theorem q886 : Cond.code yX4_find cX4_find 2 (some FieldType.int) ∈ zW := zq 886 (by decide +kernel) (by decide +kernel)
theorem q887 : Cond.methodLink RX4 104 yX3_find ∈ zW := zq 887 (by decide +kernel) (by decide +kernel)
theorem q888 : Cond.instanceMethod yX3_find ∈ zW := zq 888 (by decide +kernel) (by decide +kernel)
theorem q889 : Cond.selects "WordConcordanceModel$Row" yX3_find yX3_find ∈ zW := zq 889 (by decide +kernel) (by decide +kernel)
theorem q890 : Cond.code yX3_find cX3_find 4 (some FieldType.int) ∈ zW := zq 890 (by decide +kernel) (by decide +kernel)
theorem q891 : Cond.methodLink RX3 23 yX3_has ∈ zW := zq 891 (by decide +kernel) (by decide +kernel)
theorem q892 : Cond.instanceMethod yX3_has ∈ zW := zq 892 (by decide +kernel) (by decide +kernel)
theorem q893 : Cond.selects "WordConcordanceModel$Row" yX3_has yX3_has ∈ zW := zq 893 (by decide +kernel) (by decide +kernel)
theorem q894 : Cond.code yX3_has cX3_has 3 (some FieldType.boolean) ∈ zW := zq 894 (by decide +kernel) (by decide +kernel)
theorem q895 : Cond.methodLink RX3 19 yX3_alike ∈ zW := zq 895 (by decide +kernel) (by decide +kernel)
theorem q896 : Cond.instanceMethod yX3_alike ∈ zW := zq 896 (by decide +kernel) (by decide +kernel)
theorem q897 : Cond.selects "WordConcordanceModel$Row" yX3_alike yX3_alike ∈ zW := zq 897 (by decide +kernel) (by decide +kernel)
theorem q898 : Cond.code yX3_alike cX3_alike 5 (some FieldType.int) ∈ zW := zq 898 (by decide +kernel) (by decide +kernel)
theorem q899 : Cond.methodLink RL 221 yX4_findLast ∈ zW := zq 899 (by decide +kernel) (by decide +kernel)
theorem q900 : Cond.instanceMethod yX4_findLast ∈ zW := zq 900 (by decide +kernel) (by decide +kernel)
theorem q901 : Cond.selects "WordConcordanceModel" yX4_findLast yX4_findLast ∈ zW := zq 901 (by decide +kernel) (by decide +kernel)
theorem q902 : Cond.code yX4_findLast cX4_findLast 4 (some FieldType.int) ∈ zW := zq 902 (by decide +kernel) (by decide +kernel)
theorem q903 : Cond.methodLink RX4 108 yX3_has ∈ zW := zq 903 (by decide +kernel) (by decide +kernel)
theorem q904 : Cond.methodLink RL 224 yX4_findIn ∈ zW := zq 904 (by decide +kernel) (by decide +kernel)
theorem q905 : Cond.instanceMethod yX4_findIn ∈ zW := zq 905 (by decide +kernel) (by decide +kernel)
theorem q906 : Cond.selects "WordConcordanceModel" yX4_findIn yX4_findIn ∈ zW := zq 906 (by decide +kernel) (by decide +kernel)
theorem q907 : Cond.code yX4_findIn cX4_findIn 5 (some FieldType.int) ∈ zW := zq 907 (by decide +kernel) (by decide +kernel)
theorem q908 : Cond.methodLink RL 228 yX4_count ∈ zW := zq 908 (by decide +kernel) (by decide +kernel)
theorem q909 : Cond.instanceMethod yX4_count ∈ zW := zq 909 (by decide +kernel) (by decide +kernel)
theorem q910 : Cond.selects "WordConcordanceModel" yX4_count yX4_count ∈ zW := zq 910 (by decide +kernel) (by decide +kernel)
theorem q911 : Cond.code yX4_count cX4_count 3 (some FieldType.int) ∈ zW := zq 911 (by decide +kernel) (by decide +kernel)
theorem q912 : Cond.methodLink RX4 112 yX3_count ∈ zW := zq 912 (by decide +kernel) (by decide +kernel)
theorem q913 : Cond.instanceMethod yX3_count ∈ zW := zq 913 (by decide +kernel) (by decide +kernel)
theorem q914 : Cond.selects "WordConcordanceModel$Row" yX3_count yX3_count ∈ zW := zq 914 (by decide +kernel) (by decide +kernel)
theorem q915 : Cond.code yX3_count cX3_count 5 (some FieldType.int) ∈ zW := zq 915 (by decide +kernel) (by decide +kernel)
theorem q916 : Cond.methodLink RX3 27 yX3_find ∈ zW := zq 916 (by decide +kernel) (by decide +kernel)
theorem q917 : Cond.methodLink RX3 31 yJ9_max_7cf53 ∈ zW := zq 917 (by decide +kernel) (by decide +kernel)
theorem q918 : Cond.methodLink RL 231 yX4_replace ∈ zW := zq 918 (by decide +kernel) (by decide +kernel)
theorem q919 : Cond.instanceMethod yX4_replace ∈ zW := zq 919 (by decide +kernel) (by decide +kernel)
theorem q920 : Cond.selects "WordConcordanceModel" yX4_replace yX4_replace ∈ zW := zq 920 (by decide +kernel) (by decide +kernel)
theorem q921 : Cond.code yX4_replace cX4_replace 9 (some FieldType.int) ∈ zW := zq 921 (by decide +kernel) (by decide +kernel)
theorem q922 : Cond.methodLink RX4 116 yX3_takes ∈ zW := zq 922 (by decide +kernel) (by decide +kernel)
theorem q923 : Cond.instanceMethod yX3_takes ∈ zW := zq 923 (by decide +kernel) (by decide +kernel)
theorem q924 : Cond.selects "WordConcordanceModel$Row" yX3_takes yX3_takes ∈ zW := zq 924 (by decide +kernel) (by decide +kernel)
theorem q925 : Cond.code yX3_takes cX3_takes 3 none ∈ zW := zq 925 (by decide +kernel) (by decide +kernel)
theorem q926 : Cond.methodLink RX3 37 yX3_add ∈ zW := zq 926 (by decide +kernel) (by decide +kernel)
theorem q927 : Cond.methodLink RL 234 yX4_replaceWord ∈ zW := zq 927 (by decide +kernel) (by decide +kernel)
theorem q928 : Cond.instanceMethod yX4_replaceWord ∈ zW := zq 928 (by decide +kernel) (by decide +kernel)
theorem q929 : Cond.selects "WordConcordanceModel" yX4_replaceWord yX4_replaceWord ∈ zW := zq 929 (by decide +kernel) (by decide +kernel)
theorem q930 : Cond.code yX4_replaceWord cX4_replaceWord 6 (some FieldType.boolean) ∈ zW := zq 930 (by decide +kernel) (by decide +kernel)
theorem q931 : Cond.methodLink RX4 120 yX3_often ∈ zW := zq 931 (by decide +kernel) (by decide +kernel)
theorem q932 : Cond.instanceMethod yX3_often ∈ zW := zq 932 (by decide +kernel) (by decide +kernel)
theorem q933 : Cond.selects "WordConcordanceModel$Row" yX3_often yX3_often ∈ zW := zq 933 (by decide +kernel) (by decide +kernel)
theorem q934 : Cond.code yX3_often cX3_often 4 (some FieldType.int) ∈ zW := zq 934 (by decide +kernel) (by decide +kernel)
theorem q935 : Cond.methodLink RL 237 yX4_frequency ∈ zW := zq 935 (by decide +kernel) (by decide +kernel)
theorem q936 : Cond.instanceMethod yX4_frequency ∈ zW := zq 936 (by decide +kernel) (by decide +kernel)
theorem q937 : Cond.selects "WordConcordanceModel" yX4_frequency yX4_frequency ∈ zW := zq 937 (by decide +kernel) (by decide +kernel)
theorem q938 : Cond.code yX4_frequency cX4_frequency 3 (some FieldType.int) ∈ zW := zq 938 (by decide +kernel) (by decide +kernel)
theorem q939 : Cond.methodLink RL 240 yX4_different ∈ zW := zq 939 (by decide +kernel) (by decide +kernel)
theorem q940 : Cond.instanceMethod yX4_different ∈ zW := zq 940 (by decide +kernel) (by decide +kernel)
theorem q941 : Cond.selects "WordConcordanceModel" yX4_different yX4_different ∈ zW := zq 941 (by decide +kernel) (by decide +kernel)
theorem q942 : Cond.code yX4_different cX4_different 4 (some FieldType.int) ∈ zW := zq 942 (by decide +kernel) (by decide +kernel)
theorem q943 : Cond.methodLink RL 243 yX4_most ∈ zW := zq 943 (by decide +kernel) (by decide +kernel)
theorem q944 : Cond.instanceMethod yX4_most ∈ zW := zq 944 (by decide +kernel) (by decide +kernel)
theorem q945 : Cond.selects "WordConcordanceModel" yX4_most yX4_most ∈ zW := zq 945 (by decide +kernel) (by decide +kernel)
theorem q946 : Cond.code yX4_most cX4_most 4 (some FieldType.int) ∈ zW := zq 946 (by decide +kernel) (by decide +kernel)
theorem q947 : Cond.methodLink RL 246 yX4_isApart ∈ zW := zq 947 (by decide +kernel) (by decide +kernel)
theorem q948 : Cond.instanceMethod yX4_isApart ∈ zW := zq 948 (by decide +kernel) (by decide +kernel)
theorem q949 : Cond.selects "WordConcordanceModel" yX4_isApart yX4_isApart ∈ zW := zq 949 (by decide +kernel) (by decide +kernel)
theorem q950 : Cond.code yX4_isApart cX4_isApart 4 (some FieldType.boolean) ∈ zW := zq 950 (by decide +kernel) (by decide +kernel)
theorem q951 : Cond.methodLink RL 249 yX4_alone ∈ zW := zq 951 (by decide +kernel) (by decide +kernel)
theorem q952 : Cond.instanceMethod yX4_alone ∈ zW := zq 952 (by decide +kernel) (by decide +kernel)
theorem q953 : Cond.selects "WordConcordanceModel" yX4_alone yX4_alone ∈ zW := zq 953 (by decide +kernel) (by decide +kernel)
theorem q954 : Cond.code yX4_alone cX4_alone 5 (some FieldType.int) ∈ zW := zq 954 (by decide +kernel) (by decide +kernel)
theorem q955 : Cond.methodLink RL 252 yX4_greatest ∈ zW := zq 955 (by decide +kernel) (by decide +kernel)
theorem q956 : Cond.instanceMethod yX4_greatest ∈ zW := zq 956 (by decide +kernel) (by decide +kernel)
theorem q957 : Cond.selects "WordConcordanceModel" yX4_greatest yX4_greatest ∈ zW := zq 957 (by decide +kernel) (by decide +kernel)
theorem q958 : Cond.code yX4_greatest cX4_greatest 3 (some FieldType.int) ∈ zW := zq 958 (by decide +kernel) (by decide +kernel)
theorem q959 : Cond.methodLink RX4 135 yX4_isOrder ∈ zW := zq 959 (by decide +kernel) (by decide +kernel)
theorem q960 : Cond.static yX4_isOrder ∈ zW := zq 960 (by decide +kernel) (by decide +kernel)
theorem q961 : Cond.code yX4_isOrder cX4_isOrder 1 (some FieldType.boolean) ∈ zW := zq 961 (by decide +kernel) (by decide +kernel)
theorem q962 : Cond.methodLink RX4 138 yX4_outermost ∈ zW := zq 962 (by decide +kernel) (by decide +kernel)
theorem q964 : Cond.instanceMethod yX4_outermost ∈ zW := zq 964 (by decide +kernel) (by decide +kernel)
theorem q965 : Cond.code yX4_outermost cX4_outermost 7 (some FieldType.int) ∈ zW := zq 965 (by decide +kernel) (by decide +kernel)
theorem q966 : Cond.methodLink RX4 123 yX4_valueOf ∈ zW := zq 966 (by decide +kernel) (by decide +kernel)
theorem q968 : Cond.instanceMethod yX4_valueOf ∈ zW := zq 968 (by decide +kernel) (by decide +kernel)
theorem q969 : Cond.code yX4_valueOf cX4_valueOf 3 (some FieldType.int) ∈ zW := zq 969 (by decide +kernel) (by decide +kernel)
theorem q970 : Cond.methodLink RX4 127 yJ9_max_7cf53 ∈ zW := zq 970 (by decide +kernel) (by decide +kernel)
theorem q971 : Cond.methodLink RX4 132 yJ9_min_7cf53 ∈ zW := zq 971 (by decide +kernel) (by decide +kernel)
theorem q972 : Cond.methodLink RL 255 yX4_least ∈ zW := zq 972 (by decide +kernel) (by decide +kernel)
theorem q973 : Cond.instanceMethod yX4_least ∈ zW := zq 973 (by decide +kernel) (by decide +kernel)
theorem q974 : Cond.selects "WordConcordanceModel" yX4_least yX4_least ∈ zW := zq 974 (by decide +kernel) (by decide +kernel)
theorem q975 : Cond.code yX4_least cX4_least 3 (some FieldType.int) ∈ zW := zq 975 (by decide +kernel) (by decide +kernel)
theorem q976 : Cond.methodLink RL 259 yX4_sort ∈ zW := zq 976 (by decide +kernel) (by decide +kernel)
theorem q977 : Cond.instanceMethod yX4_sort ∈ zW := zq 977 (by decide +kernel) (by decide +kernel)
theorem q978 : Cond.selects "WordConcordanceModel" yX4_sort yX4_sort ∈ zW := zq 978 (by decide +kernel) (by decide +kernel)
theorem q979 : Cond.code yX4_sort cX4_sort 7 (some FieldType.int) ∈ zW := zq 979 (by decide +kernel) (by decide +kernel)
theorem q980 : Cond.methodLink RX4 142 yX3_swap ∈ zW := zq 980 (by decide +kernel) (by decide +kernel)
theorem q981 : Cond.instanceMethod yX3_swap ∈ zW := zq 981 (by decide +kernel) (by decide +kernel)
theorem q982 : Cond.selects "WordConcordanceModel$Row" yX3_swap yX3_swap ∈ zW := zq 982 (by decide +kernel) (by decide +kernel)
theorem q983 : Cond.code yX3_swap cX3_swap 4 none ∈ zW := zq 983 (by decide +kernel) (by decide +kernel)
theorem q984 : Cond.methodLink RX4 145 yX3_others ∈ zW := zq 984 (by decide +kernel) (by decide +kernel)
theorem q985 : Cond.instanceMethod yX3_others ∈ zW := zq 985 (by decide +kernel) (by decide +kernel)
theorem q986 : Cond.selects "WordConcordanceModel$Row" yX3_others yX3_others ∈ zW := zq 986 (by decide +kernel) (by decide +kernel)
theorem q987 : Cond.code yX3_others cX3_others 4 (some FieldType.int) ∈ zW := zq 987 (by decide +kernel) (by decide +kernel)
theorem q988 : Cond.methodLink RL 262 yX4_isSorted ∈ zW := zq 988 (by decide +kernel) (by decide +kernel)
theorem q989 : Cond.instanceMethod yX4_isSorted ∈ zW := zq 989 (by decide +kernel) (by decide +kernel)
theorem q990 : Cond.selects "WordConcordanceModel" yX4_isSorted yX4_isSorted ∈ zW := zq 990 (by decide +kernel) (by decide +kernel)
theorem q991 : Cond.code yX4_isSorted cX4_isSorted 3 (some FieldType.boolean) ∈ zW := zq 991 (by decide +kernel) (by decide +kernel)
theorem q992 : Cond.methodLink RX4 149 yX4_areInOrder ∈ zW := zq 992 (by decide +kernel) (by decide +kernel)
theorem q994 : Cond.instanceMethod yX4_areInOrder ∈ zW := zq 994 (by decide +kernel) (by decide +kernel)
theorem q995 : Cond.code yX4_areInOrder cX4_areInOrder 4 (some FieldType.boolean) ∈ zW := zq 995 (by decide +kernel) (by decide +kernel)
theorem q996 : Cond.methodLink RL 265 yX4_search ∈ zW := zq 996 (by decide +kernel) (by decide +kernel)
theorem q997 : Cond.instanceMethod yX4_search ∈ zW := zq 997 (by decide +kernel) (by decide +kernel)
theorem q998 : Cond.selects "WordConcordanceModel" yX4_search yX4_search ∈ zW := zq 998 (by decide +kernel) (by decide +kernel)
theorem q999 : Cond.code yX4_search cX4_search 8 (some FieldType.int) ∈ zW := zq 999 (by decide +kernel) (by decide +kernel)
theorem q1000 : Cond.methodLink RL 268 yX4_turn ∈ zW := zq 1000 (by decide +kernel) (by decide +kernel)
theorem q1001 : Cond.instanceMethod yX4_turn ∈ zW := zq 1001 (by decide +kernel) (by decide +kernel)
theorem q1002 : Cond.selects "WordConcordanceModel" yX4_turn yX4_turn ∈ zW := zq 1002 (by decide +kernel) (by decide +kernel)
theorem q1003 : Cond.code yX4_turn cX4_turn 5 (some FieldType.int) ∈ zW := zq 1003 (by decide +kernel) (by decide +kernel)
theorem q1004 : Cond.methodLink RL 271 yX4_move ∈ zW := zq 1004 (by decide +kernel) (by decide +kernel)
theorem q1005 : Cond.instanceMethod yX4_move ∈ zW := zq 1005 (by decide +kernel) (by decide +kernel)
theorem q1006 : Cond.selects "WordConcordanceModel" yX4_move yX4_move ∈ zW := zq 1006 (by decide +kernel) (by decide +kernel)
theorem q1007 : Cond.code yX4_move cX4_move 8 (some FieldType.int) ∈ zW := zq 1007 (by decide +kernel) (by decide +kernel)
theorem q1008 : Cond.methodLink RL 274 yX4_swap ∈ zW := zq 1008 (by decide +kernel) (by decide +kernel)
theorem q1009 : Cond.instanceMethod yX4_swap ∈ zW := zq 1009 (by decide +kernel) (by decide +kernel)
theorem q1010 : Cond.selects "WordConcordanceModel" yX4_swap yX4_swap ∈ zW := zq 1010 (by decide +kernel) (by decide +kernel)
theorem q1011 : Cond.code yX4_swap cX4_swap 4 (some FieldType.int) ∈ zW := zq 1011 (by decide +kernel) (by decide +kernel)
theorem q1012 : Cond.methodLink RL 277 yX4_fill ∈ zW := zq 1012 (by decide +kernel) (by decide +kernel)
theorem q1013 : Cond.instanceMethod yX4_fill ∈ zW := zq 1013 (by decide +kernel) (by decide +kernel)
theorem q1014 : Cond.selects "WordConcordanceModel" yX4_fill yX4_fill ∈ zW := zq 1014 (by decide +kernel) (by decide +kernel)
theorem q1015 : Cond.code yX4_fill cX4_fill 7 (some FieldType.int) ∈ zW := zq 1015 (by decide +kernel) (by decide +kernel)
theorem q1016 : Cond.methodLink RL 280 yX4_copy ∈ zW := zq 1016 (by decide +kernel) (by decide +kernel)
theorem q1017 : Cond.instanceMethod yX4_copy ∈ zW := zq 1017 (by decide +kernel) (by decide +kernel)
theorem q1018 : Cond.selects "WordConcordanceModel" yX4_copy yX4_copy ∈ zW := zq 1018 (by decide +kernel) (by decide +kernel)
theorem q1019 : Cond.code yX4_copy cX4_copy 5 (some FieldType.int) ∈ zW := zq 1019 (by decide +kernel) (by decide +kernel)
theorem q1020 : Cond.methodLink RL 283 yX4_stands ∈ zW := zq 1020 (by decide +kernel) (by decide +kernel)
theorem q1021 : Cond.instanceMethod yX4_stands ∈ zW := zq 1021 (by decide +kernel) (by decide +kernel)
theorem q1022 : Cond.selects "WordConcordanceModel" yX4_stands yX4_stands ∈ zW := zq 1022 (by decide +kernel) (by decide +kernel)
theorem q1023 : Cond.code yX4_stands cX4_stands 7 (some FieldType.int) ∈ zW := zq 1023 (by decide +kernel) (by decide +kernel)
theorem q1024 : Cond.methodLink RL 286 yX4_near ∈ zW := zq 1024 (by decide +kernel) (by decide +kernel)
theorem q1025 : Cond.instanceMethod yX4_near ∈ zW := zq 1025 (by decide +kernel) (by decide +kernel)
theorem q1026 : Cond.selects "WordConcordanceModel" yX4_near yX4_near ∈ zW := zq 1026 (by decide +kernel) (by decide +kernel)
theorem q1027 : Cond.code yX4_near cX4_near 7 (some FieldType.int) ∈ zW := zq 1027 (by decide +kernel) (by decide +kernel)
theorem q1028 : Cond.methodLink RX4 152 yJ9_abs_0f7a4 ∈ zW := zq 1028 (by decide +kernel) (by decide +kernel)
theorem q1029 : Cond.methodLink RL 289 yX4_common ∈ zW := zq 1029 (by decide +kernel) (by decide +kernel)
theorem q1030 : Cond.instanceMethod yX4_common ∈ zW := zq 1030 (by decide +kernel) (by decide +kernel)
theorem q1031 : Cond.selects "WordConcordanceModel" yX4_common yX4_common ∈ zW := zq 1031 (by decide +kernel) (by decide +kernel)
theorem q1032 : Cond.code yX4_common cX4_common 8 (some FieldType.int) ∈ zW := zq 1032 (by decide +kernel) (by decide +kernel)
theorem q1033 : Cond.constantLong RX4 155 (2 : Int64) ∈ zW := zq 1033 (by decide +kernel) (by decide +kernel)
theorem q1034 : Cond.methodLink RX4 157 yX3_alike ∈ zW := zq 1034 (by decide +kernel) (by decide +kernel)
theorem q1035 : Cond.methodLink RL 292 yX4_refuses ∈ zW := zq 1035 (by decide +kernel) (by decide +kernel)
theorem q1036 : Cond.instanceMethod yX4_refuses ∈ zW := zq 1036 (by decide +kernel) (by decide +kernel)
theorem q1037 : Cond.selects "WordConcordanceModel" yX4_refuses yX4_refuses ∈ zW := zq 1037 (by decide +kernel) (by decide +kernel)
theorem q1038 : Cond.code yX4_refuses cX4_refuses 2 (some FieldType.boolean) ∈ zW := zq 1038 (by decide +kernel) (by decide +kernel)
theorem q1039 : Cond.constantLong RX4 161 (4 : Int64) ∈ zW := zq 1039 (by decide +kernel) (by decide +kernel)
theorem q1040 : Cond.methodLink RL 295 yX4_errors ∈ zW := zq 1040 (by decide +kernel) (by decide +kernel)
theorem q1041 : Cond.instanceMethod yX4_errors ∈ zW := zq 1041 (by decide +kernel) (by decide +kernel)
theorem q1042 : Cond.selects "WordConcordanceModel" yX4_errors yX4_errors ∈ zW := zq 1042 (by decide +kernel) (by decide +kernel)
theorem q1043 : Cond.code yX4_errors cX4_errors 10 (some FieldType.int) ∈ zW := zq 1043 (by decide +kernel) (by decide +kernel)
theorem q1044 : Cond.methodLink RX4 163 yX4_turned ∈ zW := zq 1044 (by decide +kernel) (by decide +kernel)
theorem q1045 : Cond.static yX4_turned ∈ zW := zq 1045 (by decide +kernel) (by decide +kernel)
theorem q1046 : Cond.code yX4_turned cX4_turned 3 (some (FieldType.object "WordConcordanceModel$Row")) ∈ zW := zq 1046 (by decide +kernel) (by decide +kernel)
theorem q1047 : Cond.methodLink RL 299 yX4_meanWord ∈ zW := zq 1047 (by decide +kernel) (by decide +kernel)
theorem q1048 : Cond.instanceMethod yX4_meanWord ∈ zW := zq 1048 (by decide +kernel) (by decide +kernel)
theorem q1049 : Cond.selects "WordConcordanceModel" yX4_meanWord yX4_meanWord ∈ zW := zq 1049 (by decide +kernel) (by decide +kernel)
theorem q1050 : Cond.code yX4_meanWord cX4_meanWord 4 (some FieldType.double) ∈ zW := zq 1050 (by decide +kernel) (by decide +kernel)
theorem q1051 : Cond.methodLink RL 303 yX4_share ∈ zW := zq 1051 (by decide +kernel) (by decide +kernel)
theorem q1052 : Cond.instanceMethod yX4_share ∈ zW := zq 1052 (by decide +kernel) (by decide +kernel)
theorem q1053 : Cond.selects "WordConcordanceModel" yX4_share yX4_share ∈ zW := zq 1053 (by decide +kernel) (by decide +kernel)
theorem q1054 : Cond.code yX4_share cX4_share 4 (some FieldType.float) ∈ zW := zq 1054 (by decide +kernel) (by decide +kernel)
theorem q1055 : Cond.arrayClass FieldType.long ∈ zW := zq 1055 (by decide +kernel) (by decide +kernel)
theorem q1056 : Cond.arrayClass FieldType.double ∈ zW := zq 1056 (by decide +kernel) (by decide +kernel)
theorem qp0 : Cond.selects RX2 yX2_textAt yX2_textAt ∈ zW := zqp 0 (by decide +kernel) (by decide +kernel)
theorem qp2 : Cond.selects RX2 yX2_phraseAt yX2_phraseAt ∈ zW := zqp 2 (by decide +kernel) (by decide +kernel)
theorem qp3 : Cond.selects RX2 yX2_draftReplaced yX2_draftReplaced ∈ zW := zqp 3 (by decide +kernel) (by decide +kernel)
theorem qp4 : Cond.selects RX2 yX2_keyOf yX2_keyOf ∈ zW := zqp 4 (by decide +kernel) (by decide +kernel)
theorem qp5 : Cond.selects RX2 yX2_putInOrder yX2_putInOrder ∈ zW := zqp 5 (by decide +kernel) (by decide +kernel)
theorem qp6 : Cond.selects RX2 yX2_mustPass yX2_mustPass ∈ zW := zqp 6 (by decide +kernel) (by decide +kernel)
theorem qp7 : Cond.selects RX2 yX2_isInOrder yX2_isInOrder ∈ zW := zqp 7 (by decide +kernel) (by decide +kernel)
theorem qp8 : Cond.selects RX2 yX2_moveRound yX2_moveRound ∈ zW := zqp 8 (by decide +kernel) (by decide +kernel)
theorem qp9 : Cond.selects RX2 yX2_clearRuns yX2_clearRuns ∈ zW := zqp 9 (by decide +kernel) (by decide +kernel)
theorem qp10 : Cond.selects RX2 yX2_longestRunFrom yX2_longestRunFrom ∈ zW := zqp 10 (by decide +kernel) (by decide +kernel)
theorem qp11 : Cond.selects RX2 yX2_turnsBack yX2_turnsBack ∈ zW := zqp 11 (by decide +kernel) (by decide +kernel)
theorem qp12 : Cond.selects RX2 yX2_movesBack yX2_movesBack ∈ zW := zqp 12 (by decide +kernel) (by decide +kernel)
theorem qp13 : Cond.selects RX2 yX2_sortsItsWords yX2_sortsItsWords ∈ zW := zqp 13 (by decide +kernel) (by decide +kernel)
theorem qp14 : Cond.selects RX2 yX2_findsWhatItCounts yX2_findsWhatItCounts ∈ zW := zqp 14 (by decide +kernel) (by decide +kernel)
theorem qp15 : Cond.selects RX2 yX2_findsInMirror yX2_findsInMirror ∈ zW := zqp 15 (by decide +kernel) (by decide +kernel)
theorem qp16 : Cond.selects RX4 yX4_hasRoom yX4_hasRoom ∈ zW := zqp 16 (by decide +kernel) (by decide +kernel)
theorem qp17 : Cond.selects RX4 yX4_passes yX4_passes ∈ zW := zqp 17 (by decide +kernel) (by decide +kernel)
theorem qp18 : Cond.selects RX4 yX4_isPart yX4_isPart ∈ zW := zqp 18 (by decide +kernel) (by decide +kernel)
theorem qp19 : Cond.selects RX4 yX4_isPlace yX4_isPlace ∈ zW := zqp 19 (by decide +kernel) (by decide +kernel)
theorem qp20 : Cond.selects RX4 yX4_outermost yX4_outermost ∈ zW := zqp 20 (by decide +kernel) (by decide +kernel)
theorem qp21 : Cond.selects RX4 yX4_valueOf yX4_valueOf ∈ zW := zqp 21 (by decide +kernel) (by decide +kernel)
theorem qp22 : Cond.selects RX4 yX4_areInOrder yX4_areInOrder ∈ zW := zqp 22 (by decide +kernel) (by decide +kernel)
theorem zlX0 : ∀ w ∈ u_ws RX0 TX0 2, w ∈ zW := zql _ [668, 670] (by decide +kernel) (by decide +kernel)
theorem zlX1 : ∀ w ∈ u_ws RX1 TX1 2, w ∈ zW := zql _ [57, 59] (by decide +kernel) (by decide +kernel)
theorem zlX2 : ∀ w ∈ u_ws RX2 TX2 7, w ∈ zW := zql _ [70, 72, 74, 76, 78, 80, 82] (by decide +kernel) (by decide +kernel)
theorem zlX3 : ∀ w ∈ u_ws RX3 TX3 2, w ∈ zW := zql _ [770, 772] (by decide +kernel) (by decide +kernel)
theorem zlX4 : ∀ w ∈ u_ws RX4 TX4 5, w ∈ zW := zql _ [780, 782, 784, 786, 788] (by decide +kernel) (by decide +kernel)
end
section
set_option maxRecDepth 20000 in
theorem zaX2_250 : ∀ w ∈ (vx_atS RX2 250 zEI zNames).filter goodWord, w ∈ zW := zql _ [28, 120, 129, 135, 138, 140, 121, 122, 44, 45, 123, 128, 136, 156, 110, 157, 112, 158, 114, 124, 126, 116, 152, 153, 155, 116, 143, 144, 145, 146, 146, 147, 148, 149, 149, 150, 151, 152, 142, 99, 107, 108, 109, 111, 113, 115, 119, 118, 117] (by decide +kernel) (by decide +kernel)
set_option maxRecDepth 20000 in
theorem zbX2_250 : ∀ w ∈ (vx_atS RX2 250 zEI zNames).filter (fun w => !goodWord w), w ∈ zBad zEI := by decide +kernel
set_option maxRecDepth 20000 in
theorem zaX2_96 : ∀ w ∈ (vx_atS RX2 96 zES zNames).filter goodWord, w ∈ zW := zql _ [28, 120, 129, 135, 138, 140, 121, 122, 44, 45, 123, 128, 136, 156, 110, 157, 112, 158, 114, 124, 126, 116, 152, 153, 155, 116, 186, 187, 188, 146, 146, 147, 148, 149, 149, 150, 151, 152, 185, 176, 178, 132, 179, 180, 181, 182, 119, 118, 183] (by decide +kernel) (by decide +kernel)
set_option maxRecDepth 20000 in
theorem zbX2_96 : ∀ w ∈ (vx_atS RX2 96 zES zNames).filter (fun w => !goodWord w), w ∈ zBad zES := by decide +kernel
set_option maxRecDepth 20000 in
theorem zaX2_261 : ∀ w ∈ (vx_atS RX2 261 zEA zNames).filter goodWord, w ∈ zW := zql _ [28, 120, 129, 135, 138, 140, 121, 122, 44, 45, 123, 128, 136, 156, 110, 157, 112, 158, 114, 124, 126, 116, 152, 153, 155, 116, 217, 218, 219, 146, 146, 147, 148, 149, 149, 150, 151, 152, 216, 207, 209, 131, 210, 211, 212, 213, 119, 118, 214] (by decide +kernel) (by decide +kernel)
set_option maxRecDepth 20000 in
theorem zbX2_261 : ∀ w ∈ (vx_atS RX2 261 zEA zNames).filter (fun w => !goodWord w), w ∈ zBad zEA := by decide +kernel
set_option maxRecDepth 20000 in
theorem zaX0_20 : ∀ w ∈ (vx_atS RX0 20 zEA zNames).filter goodWord, w ∈ zW := zql _ [28, 120, 129, 135, 138, 140, 121, 122, 44, 45, 123, 128, 136, 156, 110, 157, 112, 158, 114, 124, 126, 116, 152, 153, 155, 116, 217, 218, 219, 146, 146, 147, 148, 149, 149, 150, 151, 152, 659, 207, 209, 131, 210, 211, 212, 213, 119, 118, 214] (by decide +kernel) (by decide +kernel)
set_option maxRecDepth 20000 in
theorem zbX0_20 : ∀ w ∈ (vx_atS RX0 20 zEA zNames).filter (fun w => !goodWord w), w ∈ zBad zEA := by decide +kernel
set_option maxRecDepth 20000 in
theorem zaX0_35 : ∀ w ∈ (vx_atS RX0 35 zEU zNames).filter goodWord, w ∈ zW := zql _ [28, 120, 129, 135, 138, 140, 121, 122, 44, 45, 123, 128, 136, 156, 110, 157, 112, 158, 114, 124, 126, 116, 152, 153, 155, 116, 688, 689, 690, 146, 146, 147, 148, 149, 149, 150, 151, 152, 687, 678, 680, 133, 681, 682, 683, 684, 119, 118, 685] (by decide +kernel) (by decide +kernel)
set_option maxRecDepth 20000 in
theorem zbX0_35 : ∀ w ∈ (vx_atS RX0 35 zEU zNames).filter (fun w => !goodWord w), w ∈ zBad zEU := by decide +kernel
set_option maxRecDepth 20000 in
theorem zaX0_30 : ∀ w ∈ (vx_atS RX0 30 zEI zNames).filter goodWord, w ∈ zW := zql _ [28, 120, 129, 135, 138, 140, 121, 122, 44, 45, 123, 128, 136, 156, 110, 157, 112, 158, 114, 124, 126, 116, 152, 153, 155, 116, 143, 144, 145, 146, 146, 147, 148, 149, 149, 150, 151, 152, 707, 99, 107, 108, 109, 111, 113, 115, 119, 118, 117] (by decide +kernel) (by decide +kernel)
set_option maxRecDepth 20000 in
theorem zbX0_30 : ∀ w ∈ (vx_atS RX0 30 zEI zNames).filter (fun w => !goodWord w), w ∈ zBad zEI := by decide +kernel
end
section
theorem dX0_init_0 : decode cX0_init 0 = .ok (.aload_n 0, 1) := by decide +kernel
theorem dX0_init_1 : decode cX0_init 1 = .ok (.invokespecial 1, 3) := by decide +kernel
theorem dX0_init_4 : decode cX0_init 4 = .ok (.aload_n 0, 1) := by decide +kernel
theorem dX0_init_5 : decode cX0_init 5 = .ok (.iload_n 1, 1) := by decide +kernel
theorem dX0_init_6 : decode cX0_init 6 = .ok (.putfield 7, 3) := by decide +kernel
theorem dX0_init_9 : decode cX0_init 9 = .ok (.aload_n 0, 1) := by decide +kernel
theorem dX0_init_10 : decode cX0_init 10 = .ok (.iload_n 2, 1) := by decide +kernel
theorem dX0_init_11 : decode cX0_init 11 = .ok (.putfield 13, 3) := by decide +kernel
theorem dX0_init_14 : decode cX0_init 14 = .ok (.return_, 1) := by decide +kernel
theorem dX0_of_0 : decode cX0_of 0 = .ok (.iload_n 1, 1) := by decide +kernel
theorem dX0_of_1 : decode cX0_of 1 = .ok (.ifCond .ge 13, 3) := by decide +kernel
theorem dX0_of_4 : decode cX0_of 4 = .ok (.new 16, 3) := by decide +kernel
theorem dX0_of_7 : decode cX0_of 7 = .ok (.dup, 1) := by decide +kernel
theorem dX0_of_8 : decode cX0_of 8 = .ok (.ldc 18, 2) := by decide +kernel
theorem dX0_of_10 : decode cX0_of 10 = .ok (.invokespecial 20, 3) := by decide +kernel
theorem dX0_of_13 : decode cX0_of 13 = .ok (.athrow, 1) := by decide +kernel
theorem dX0_of_14 : decode cX0_of 14 = .ok (.new 8, 3) := by decide +kernel
theorem dX0_of_17 : decode cX0_of 17 = .ok (.dup, 1) := by decide +kernel
theorem dX0_of_18 : decode cX0_of 18 = .ok (.iload_n 0, 1) := by decide +kernel
theorem dX0_of_19 : decode cX0_of 19 = .ok (.iload_n 1, 1) := by decide +kernel
theorem dX0_of_20 : decode cX0_of 20 = .ok (.invokespecial 23, 3) := by decide +kernel
theorem dX0_of_23 : decode cX0_of 23 = .ok (.areturn, 1) := by decide +kernel
theorem dX0_wordAt_0 : decode cX0_wordAt 0 = .ok (.iload_n 1, 1) := by decide +kernel
theorem dX0_wordAt_1 : decode cX0_wordAt 1 = .ok (.ifCond .lt 11, 3) := by decide +kernel
theorem dX0_wordAt_4 : decode cX0_wordAt 4 = .ok (.iload_n 1, 1) := by decide +kernel
theorem dX0_wordAt_5 : decode cX0_wordAt 5 = .ok (.aload_n 0, 1) := by decide +kernel
theorem dX0_wordAt_6 : decode cX0_wordAt 6 = .ok (.getfield 13, 3) := by decide +kernel
theorem dX0_wordAt_9 : decode cX0_wordAt 9 = .ok (.if_icmp .lt 13, 3) := by decide +kernel
theorem dX0_wordAt_12 : decode cX0_wordAt 12 = .ok (.new 26, 3) := by decide +kernel
theorem dX0_wordAt_15 : decode cX0_wordAt 15 = .ok (.dup, 1) := by decide +kernel
theorem dX0_wordAt_16 : decode cX0_wordAt 16 = .ok (.ldc 28, 2) := by decide +kernel
theorem dX0_wordAt_18 : decode cX0_wordAt 18 = .ok (.invokespecial 30, 3) := by decide +kernel
theorem dX0_wordAt_21 : decode cX0_wordAt 21 = .ok (.athrow, 1) := by decide +kernel
theorem dX0_wordAt_22 : decode cX0_wordAt 22 = .ok (.aload_n 0, 1) := by decide +kernel
theorem dX0_wordAt_23 : decode cX0_wordAt 23 = .ok (.getfield 7, 3) := by decide +kernel
theorem dX0_wordAt_26 : decode cX0_wordAt 26 = .ok (.ireturn, 1) := by decide +kernel
theorem dX0_putAt_0 : decode cX0_putAt 0 = .ok (.new 31, 3) := by decide +kernel
theorem dX0_putAt_3 : decode cX0_putAt 3 = .ok (.dup, 1) := by decide +kernel
theorem dX0_putAt_4 : decode cX0_putAt 4 = .ok (.ldc 33, 2) := by decide +kernel
theorem dX0_putAt_6 : decode cX0_putAt 6 = .ok (.invokespecial 35, 3) := by decide +kernel
theorem dX0_putAt_9 : decode cX0_putAt 9 = .ok (.athrow, 1) := by decide +kernel
theorem dX0_append_0 : decode cX0_append 0 = .ok (.new 31, 3) := by decide +kernel
theorem dX0_append_3 : decode cX0_append 3 = .ok (.dup, 1) := by decide +kernel
theorem dX0_append_4 : decode cX0_append 4 = .ok (.ldc 33, 2) := by decide +kernel
theorem dX0_append_6 : decode cX0_append 6 = .ok (.invokespecial 35, 3) := by decide +kernel
theorem dX0_append_9 : decode cX0_append 9 = .ok (.athrow, 1) := by decide +kernel
theorem dX0_takeOut_0 : decode cX0_takeOut 0 = .ok (.new 31, 3) := by decide +kernel
theorem dX0_takeOut_3 : decode cX0_takeOut 3 = .ok (.dup, 1) := by decide +kernel
theorem dX0_takeOut_4 : decode cX0_takeOut 4 = .ok (.ldc 33, 2) := by decide +kernel
theorem dX0_takeOut_6 : decode cX0_takeOut 6 = .ok (.invokespecial 35, 3) := by decide +kernel
theorem dX0_takeOut_9 : decode cX0_takeOut 9 = .ok (.athrow, 1) := by decide +kernel
theorem dX1_init_0 : decode cX1_init 0 = .ok (.aload_n 0, 1) := by decide +kernel
theorem dX1_init_1 : decode cX1_init 1 = .ok (.invokespecial 3, 3) := by decide +kernel
theorem dX1_init_4 : decode cX1_init 4 = .ok (.aload_n 0, 1) := by decide +kernel
theorem dX1_init_5 : decode cX1_init 5 = .ok (.aload_n 1, 1) := by decide +kernel
theorem dX1_init_6 : decode cX1_init 6 = .ok (.putfield 9, 3) := by decide +kernel
theorem dX1_init_9 : decode cX1_init 9 = .ok (.return_, 1) := by decide +kernel
theorem dX1_append_0 : decode cX1_append 0 = .ok (.aload_n 0, 1) := by decide +kernel
theorem dX1_append_1 : decode cX1_append 1 = .ok (.getfield 9, 3) := by decide +kernel
theorem dX1_append_4 : decode cX1_append 4 = .ok (.aload_n 0, 1) := by decide +kernel
theorem dX1_append_5 : decode cX1_append 5 = .ok (.getfield 15, 3) := by decide +kernel
theorem dX1_append_8 : decode cX1_append 8 = .ok (.iload_n 1, 1) := by decide +kernel
theorem dX1_append_9 : decode cX1_append 9 = .ok (.iastore, 1) := by decide +kernel
theorem dX1_append_10 : decode cX1_append 10 = .ok (.aload_n 0, 1) := by decide +kernel
theorem dX1_append_11 : decode cX1_append 11 = .ok (.dup, 1) := by decide +kernel
theorem dX1_append_12 : decode cX1_append 12 = .ok (.getfield 15, 3) := by decide +kernel
theorem dX1_append_15 : decode cX1_append 15 = .ok (.iconst 1, 1) := by decide +kernel
theorem dX1_append_16 : decode cX1_append 16 = .ok (.iadd, 1) := by decide +kernel
theorem dX1_append_17 : decode cX1_append 17 = .ok (.putfield 15, 3) := by decide +kernel
theorem dX1_append_20 : decode cX1_append 20 = .ok (.return_, 1) := by decide +kernel
theorem dX1_appendAll_0 : decode cX1_appendAll 0 = .ok (.iconst 0, 1) := by decide +kernel
theorem dX1_appendAll_1 : decode cX1_appendAll 1 = .ok (.istore_n 2, 1) := by decide +kernel
theorem dX1_appendAll_2 : decode cX1_appendAll 2 = .ok (.iload_n 2, 1) := by decide +kernel
theorem dX1_appendAll_3 : decode cX1_appendAll 3 = .ok (.aload_n 1, 1) := by decide +kernel
theorem dX1_appendAll_4 : decode cX1_appendAll 4 = .ok (.getfield 15, 3) := by decide +kernel
theorem dX1_appendAll_7 : decode cX1_appendAll 7 = .ok (.if_icmp .ge 19, 3) := by decide +kernel
theorem dX1_appendAll_10 : decode cX1_appendAll 10 = .ok (.aload_n 0, 1) := by decide +kernel
theorem dX1_appendAll_11 : decode cX1_appendAll 11 = .ok (.aload_n 1, 1) := by decide +kernel
theorem dX1_appendAll_12 : decode cX1_appendAll 12 = .ok (.getfield 9, 3) := by decide +kernel
theorem dX1_appendAll_15 : decode cX1_appendAll 15 = .ok (.iload_n 2, 1) := by decide +kernel
theorem dX1_appendAll_16 : decode cX1_appendAll 16 = .ok (.iaload, 1) := by decide +kernel
theorem dX1_appendAll_17 : decode cX1_appendAll 17 = .ok (.invokevirtual 19, 3) := by decide +kernel
theorem dX1_appendAll_20 : decode cX1_appendAll 20 = .ok (.iinc 2 1, 3) := by decide +kernel
theorem dX1_appendAll_23 : decode cX1_appendAll 23 = .ok (.goto (-21), 3) := by decide +kernel
theorem dX1_appendAll_26 : decode cX1_appendAll 26 = .ok (.return_, 1) := by decide +kernel
theorem dX1_become_0 : decode cX1_become 0 = .ok (.aload_n 0, 1) := by decide +kernel
theorem dX1_become_1 : decode cX1_become 1 = .ok (.iconst 0, 1) := by decide +kernel
theorem dX1_become_2 : decode cX1_become 2 = .ok (.putfield 15, 3) := by decide +kernel
theorem dX1_become_5 : decode cX1_become 5 = .ok (.aload_n 0, 1) := by decide +kernel
theorem dX1_become_6 : decode cX1_become 6 = .ok (.aload_n 1, 1) := by decide +kernel
theorem dX1_become_7 : decode cX1_become 7 = .ok (.invokevirtual 23, 3) := by decide +kernel
theorem dX1_become_10 : decode cX1_become 10 = .ok (.return_, 1) := by decide +kernel
theorem dX1_openUp_0 : decode cX1_openUp 0 = .ok (.aload_n 0, 1) := by decide +kernel
theorem dX1_openUp_1 : decode cX1_openUp 1 = .ok (.getfield 15, 3) := by decide +kernel
theorem dX1_openUp_4 : decode cX1_openUp 4 = .ok (.istore_n 3, 1) := by decide +kernel
theorem dX1_openUp_5 : decode cX1_openUp 5 = .ok (.iload_n 3, 1) := by decide +kernel
theorem dX1_openUp_6 : decode cX1_openUp 6 = .ok (.iload_n 1, 1) := by decide +kernel
theorem dX1_openUp_7 : decode cX1_openUp 7 = .ok (.if_icmp .le 23, 3) := by decide +kernel
theorem dX1_openUp_10 : decode cX1_openUp 10 = .ok (.aload_n 0, 1) := by decide +kernel
theorem dX1_openUp_11 : decode cX1_openUp 11 = .ok (.getfield 9, 3) := by decide +kernel
theorem dX1_openUp_14 : decode cX1_openUp 14 = .ok (.iload_n 3, 1) := by decide +kernel
theorem dX1_openUp_15 : decode cX1_openUp 15 = .ok (.aload_n 0, 1) := by decide +kernel
theorem dX1_openUp_16 : decode cX1_openUp 16 = .ok (.getfield 9, 3) := by decide +kernel
theorem dX1_openUp_19 : decode cX1_openUp 19 = .ok (.iload_n 3, 1) := by decide +kernel
theorem dX1_openUp_20 : decode cX1_openUp 20 = .ok (.iconst 1, 1) := by decide +kernel
theorem dX1_openUp_21 : decode cX1_openUp 21 = .ok (.isub, 1) := by decide +kernel
theorem dX1_openUp_22 : decode cX1_openUp 22 = .ok (.iaload, 1) := by decide +kernel
theorem dX1_openUp_23 : decode cX1_openUp 23 = .ok (.iastore, 1) := by decide +kernel
theorem dX1_openUp_24 : decode cX1_openUp 24 = .ok (.iinc 3 (-1), 3) := by decide +kernel
theorem dX1_openUp_27 : decode cX1_openUp 27 = .ok (.goto (-22), 3) := by decide +kernel
theorem dX1_openUp_30 : decode cX1_openUp 30 = .ok (.aload_n 0, 1) := by decide +kernel
theorem dX1_openUp_31 : decode cX1_openUp 31 = .ok (.getfield 9, 3) := by decide +kernel
theorem dX1_openUp_34 : decode cX1_openUp 34 = .ok (.iload_n 1, 1) := by decide +kernel
theorem dX1_openUp_35 : decode cX1_openUp 35 = .ok (.iload_n 2, 1) := by decide +kernel
theorem dX1_openUp_36 : decode cX1_openUp 36 = .ok (.iastore, 1) := by decide +kernel
theorem dX1_openUp_37 : decode cX1_openUp 37 = .ok (.aload_n 0, 1) := by decide +kernel
theorem dX1_openUp_38 : decode cX1_openUp 38 = .ok (.dup, 1) := by decide +kernel
theorem dX1_openUp_39 : decode cX1_openUp 39 = .ok (.getfield 15, 3) := by decide +kernel
theorem dX1_openUp_42 : decode cX1_openUp 42 = .ok (.iconst 1, 1) := by decide +kernel
theorem dX1_openUp_43 : decode cX1_openUp 43 = .ok (.iadd, 1) := by decide +kernel
theorem dX1_openUp_44 : decode cX1_openUp 44 = .ok (.putfield 15, 3) := by decide +kernel
theorem dX1_openUp_47 : decode cX1_openUp 47 = .ok (.return_, 1) := by decide +kernel
theorem dX1_closeUp_0 : decode cX1_closeUp 0 = .ok (.iload_n 2, 1) := by decide +kernel
theorem dX1_closeUp_1 : decode cX1_closeUp 1 = .ok (.iload_n 1, 1) := by decide +kernel
theorem dX1_closeUp_2 : decode cX1_closeUp 2 = .ok (.isub, 1) := by decide +kernel
theorem dX1_closeUp_3 : decode cX1_closeUp 3 = .ok (.istore_n 3, 1) := by decide +kernel
theorem dX1_closeUp_4 : decode cX1_closeUp 4 = .ok (.iload_n 2, 1) := by decide +kernel
theorem dX1_closeUp_5 : decode cX1_closeUp 5 = .ok (.istore 4, 2) := by decide +kernel
theorem dX1_closeUp_7 : decode cX1_closeUp 7 = .ok (.iload 4, 2) := by decide +kernel
theorem dX1_closeUp_9 : decode cX1_closeUp 9 = .ok (.aload_n 0, 1) := by decide +kernel
theorem dX1_closeUp_10 : decode cX1_closeUp 10 = .ok (.getfield 15, 3) := by decide +kernel
theorem dX1_closeUp_13 : decode cX1_closeUp 13 = .ok (.if_icmp .ge 25, 3) := by decide +kernel
theorem dX1_closeUp_16 : decode cX1_closeUp 16 = .ok (.aload_n 0, 1) := by decide +kernel
theorem dX1_closeUp_17 : decode cX1_closeUp 17 = .ok (.getfield 9, 3) := by decide +kernel
theorem dX1_closeUp_20 : decode cX1_closeUp 20 = .ok (.iload 4, 2) := by decide +kernel
theorem dX1_closeUp_22 : decode cX1_closeUp 22 = .ok (.iload_n 3, 1) := by decide +kernel
theorem dX1_closeUp_23 : decode cX1_closeUp 23 = .ok (.isub, 1) := by decide +kernel
theorem dX1_closeUp_24 : decode cX1_closeUp 24 = .ok (.aload_n 0, 1) := by decide +kernel
theorem dX1_closeUp_25 : decode cX1_closeUp 25 = .ok (.getfield 9, 3) := by decide +kernel
theorem dX1_closeUp_28 : decode cX1_closeUp 28 = .ok (.iload 4, 2) := by decide +kernel
theorem dX1_closeUp_30 : decode cX1_closeUp 30 = .ok (.iaload, 1) := by decide +kernel
theorem dX1_closeUp_31 : decode cX1_closeUp 31 = .ok (.iastore, 1) := by decide +kernel
theorem dX1_closeUp_32 : decode cX1_closeUp 32 = .ok (.iinc 4 1, 3) := by decide +kernel
theorem dX1_closeUp_35 : decode cX1_closeUp 35 = .ok (.goto (-28), 3) := by decide +kernel
theorem dX1_closeUp_38 : decode cX1_closeUp 38 = .ok (.aload_n 0, 1) := by decide +kernel
theorem dX1_closeUp_39 : decode cX1_closeUp 39 = .ok (.dup, 1) := by decide +kernel
theorem dX1_closeUp_40 : decode cX1_closeUp 40 = .ok (.getfield 15, 3) := by decide +kernel
theorem dX1_closeUp_43 : decode cX1_closeUp 43 = .ok (.iload_n 3, 1) := by decide +kernel
theorem dX1_closeUp_44 : decode cX1_closeUp 44 = .ok (.isub, 1) := by decide +kernel
theorem dX1_closeUp_45 : decode cX1_closeUp 45 = .ok (.putfield 15, 3) := by decide +kernel
theorem dX1_closeUp_48 : decode cX1_closeUp 48 = .ok (.return_, 1) := by decide +kernel
theorem dX1_exchange_0 : decode cX1_exchange 0 = .ok (.aload_n 0, 1) := by decide +kernel
theorem dX1_exchange_1 : decode cX1_exchange 1 = .ok (.getfield 9, 3) := by decide +kernel
theorem dX1_exchange_4 : decode cX1_exchange 4 = .ok (.iload_n 1, 1) := by decide +kernel
theorem dX1_exchange_5 : decode cX1_exchange 5 = .ok (.iaload, 1) := by decide +kernel
theorem dX1_exchange_6 : decode cX1_exchange 6 = .ok (.istore_n 3, 1) := by decide +kernel
theorem dX1_exchange_7 : decode cX1_exchange 7 = .ok (.aload_n 0, 1) := by decide +kernel
theorem dX1_exchange_8 : decode cX1_exchange 8 = .ok (.getfield 9, 3) := by decide +kernel
theorem dX1_exchange_11 : decode cX1_exchange 11 = .ok (.iload_n 1, 1) := by decide +kernel
theorem dX1_exchange_12 : decode cX1_exchange 12 = .ok (.aload_n 0, 1) := by decide +kernel
theorem dX1_exchange_13 : decode cX1_exchange 13 = .ok (.getfield 9, 3) := by decide +kernel
theorem dX1_exchange_16 : decode cX1_exchange 16 = .ok (.iload_n 2, 1) := by decide +kernel
theorem dX1_exchange_17 : decode cX1_exchange 17 = .ok (.iaload, 1) := by decide +kernel
theorem dX1_exchange_18 : decode cX1_exchange 18 = .ok (.iastore, 1) := by decide +kernel
theorem dX1_exchange_19 : decode cX1_exchange 19 = .ok (.aload_n 0, 1) := by decide +kernel
theorem dX1_exchange_20 : decode cX1_exchange 20 = .ok (.getfield 9, 3) := by decide +kernel
theorem dX1_exchange_23 : decode cX1_exchange 23 = .ok (.iload_n 2, 1) := by decide +kernel
theorem dX1_exchange_24 : decode cX1_exchange 24 = .ok (.iload_n 3, 1) := by decide +kernel
theorem dX1_exchange_25 : decode cX1_exchange 25 = .ok (.iastore, 1) := by decide +kernel
theorem dX1_exchange_26 : decode cX1_exchange 26 = .ok (.return_, 1) := by decide +kernel
theorem dX1_turnRound_0 : decode cX1_turnRound 0 = .ok (.iload_n 2, 1) := by decide +kernel
theorem dX1_turnRound_1 : decode cX1_turnRound 1 = .ok (.iload_n 1, 1) := by decide +kernel
theorem dX1_turnRound_2 : decode cX1_turnRound 2 = .ok (.isub, 1) := by decide +kernel
theorem dX1_turnRound_3 : decode cX1_turnRound 3 = .ok (.iconst 2, 1) := by decide +kernel
theorem dX1_turnRound_4 : decode cX1_turnRound 4 = .ok (.idiv, 1) := by decide +kernel
theorem dX1_turnRound_5 : decode cX1_turnRound 5 = .ok (.istore_n 3, 1) := by decide +kernel
theorem dX1_turnRound_6 : decode cX1_turnRound 6 = .ok (.iconst 0, 1) := by decide +kernel
theorem dX1_turnRound_7 : decode cX1_turnRound 7 = .ok (.istore 4, 2) := by decide +kernel
theorem dX1_turnRound_9 : decode cX1_turnRound 9 = .ok (.iload 4, 2) := by decide +kernel
theorem dX1_turnRound_11 : decode cX1_turnRound 11 = .ok (.iload_n 3, 1) := by decide +kernel
theorem dX1_turnRound_12 : decode cX1_turnRound 12 = .ok (.if_icmp .ge 23, 3) := by decide +kernel
theorem dX1_turnRound_15 : decode cX1_turnRound 15 = .ok (.aload_n 0, 1) := by decide +kernel
theorem dX1_turnRound_16 : decode cX1_turnRound 16 = .ok (.iload_n 1, 1) := by decide +kernel
theorem dX1_turnRound_17 : decode cX1_turnRound 17 = .ok (.iload 4, 2) := by decide +kernel
theorem dX1_turnRound_19 : decode cX1_turnRound 19 = .ok (.iadd, 1) := by decide +kernel
theorem dX1_turnRound_20 : decode cX1_turnRound 20 = .ok (.iload_n 2, 1) := by decide +kernel
theorem dX1_turnRound_21 : decode cX1_turnRound 21 = .ok (.iconst 1, 1) := by decide +kernel
theorem dX1_turnRound_22 : decode cX1_turnRound 22 = .ok (.isub, 1) := by decide +kernel
theorem dX1_turnRound_23 : decode cX1_turnRound 23 = .ok (.iload 4, 2) := by decide +kernel
theorem dX1_turnRound_25 : decode cX1_turnRound 25 = .ok (.isub, 1) := by decide +kernel
theorem dX1_turnRound_26 : decode cX1_turnRound 26 = .ok (.invokevirtual 27, 3) := by decide +kernel
theorem dX1_turnRound_29 : decode cX1_turnRound 29 = .ok (.iinc 4 1, 3) := by decide +kernel
theorem dX1_turnRound_32 : decode cX1_turnRound 32 = .ok (.goto (-23), 3) := by decide +kernel
theorem dX1_turnRound_35 : decode cX1_turnRound 35 = .ok (.return_, 1) := by decide +kernel
theorem dX1_timesOf_0 : decode cX1_timesOf 0 = .ok (.iconst 0, 1) := by decide +kernel
theorem dX1_timesOf_1 : decode cX1_timesOf 1 = .ok (.istore_n 2, 1) := by decide +kernel
theorem dX1_timesOf_2 : decode cX1_timesOf 2 = .ok (.iconst 0, 1) := by decide +kernel
theorem dX1_timesOf_3 : decode cX1_timesOf 3 = .ok (.istore_n 3, 1) := by decide +kernel
theorem dX1_timesOf_4 : decode cX1_timesOf 4 = .ok (.iload_n 3, 1) := by decide +kernel
theorem dX1_timesOf_5 : decode cX1_timesOf 5 = .ok (.aload_n 0, 1) := by decide +kernel
theorem dX1_timesOf_6 : decode cX1_timesOf 6 = .ok (.getfield 15, 3) := by decide +kernel
theorem dX1_timesOf_9 : decode cX1_timesOf 9 = .ok (.if_icmp .ge 22, 3) := by decide +kernel
theorem dX1_timesOf_12 : decode cX1_timesOf 12 = .ok (.aload_n 0, 1) := by decide +kernel
theorem dX1_timesOf_13 : decode cX1_timesOf 13 = .ok (.getfield 9, 3) := by decide +kernel
theorem dX1_timesOf_16 : decode cX1_timesOf 16 = .ok (.iload_n 3, 1) := by decide +kernel
theorem dX1_timesOf_17 : decode cX1_timesOf 17 = .ok (.iaload, 1) := by decide +kernel
theorem dX1_timesOf_18 : decode cX1_timesOf 18 = .ok (.iload_n 1, 1) := by decide +kernel
theorem dX1_timesOf_19 : decode cX1_timesOf 19 = .ok (.if_icmp .ne 6, 3) := by decide +kernel
theorem dX1_timesOf_22 : decode cX1_timesOf 22 = .ok (.iinc 2 1, 3) := by decide +kernel
theorem dX1_timesOf_25 : decode cX1_timesOf 25 = .ok (.iinc 3 1, 3) := by decide +kernel
theorem dX1_timesOf_28 : decode cX1_timesOf 28 = .ok (.goto (-24), 3) := by decide +kernel
theorem dX1_timesOf_31 : decode cX1_timesOf 31 = .ok (.iload_n 2, 1) := by decide +kernel
theorem dX1_timesOf_32 : decode cX1_timesOf 32 = .ok (.ireturn, 1) := by decide +kernel
theorem dX1_hasWord_0 : decode cX1_hasWord 0 = .ok (.aload_n 0, 1) := by decide +kernel
theorem dX1_hasWord_1 : decode cX1_hasWord 1 = .ok (.iload_n 1, 1) := by decide +kernel
theorem dX1_hasWord_2 : decode cX1_hasWord 2 = .ok (.invokevirtual 31, 3) := by decide +kernel
theorem dX1_hasWord_5 : decode cX1_hasWord 5 = .ok (.ifCond .le 7, 3) := by decide +kernel
theorem dX1_hasWord_8 : decode cX1_hasWord 8 = .ok (.iconst 1, 1) := by decide +kernel
theorem dX1_hasWord_9 : decode cX1_hasWord 9 = .ok (.goto 4, 3) := by decide +kernel
theorem dX1_hasWord_12 : decode cX1_hasWord 12 = .ok (.iconst 0, 1) := by decide +kernel
theorem dX1_hasWord_13 : decode cX1_hasWord 13 = .ok (.ireturn, 1) := by decide +kernel
theorem dX1_isFirstOfItsWord_0 : decode cX1_isFirstOfItsWord 0 = .ok (.iconst 0, 1) := by decide +kernel
theorem dX1_isFirstOfItsWord_1 : decode cX1_isFirstOfItsWord 1 = .ok (.istore_n 2, 1) := by decide +kernel
theorem dX1_isFirstOfItsWord_2 : decode cX1_isFirstOfItsWord 2 = .ok (.iload_n 2, 1) := by decide +kernel
theorem dX1_isFirstOfItsWord_3 : decode cX1_isFirstOfItsWord 3 = .ok (.iload_n 1, 1) := by decide +kernel
theorem dX1_isFirstOfItsWord_4 : decode cX1_isFirstOfItsWord 4 = .ok (.if_icmp .ge 26, 3) := by decide +kernel
theorem dX1_isFirstOfItsWord_7 : decode cX1_isFirstOfItsWord 7 = .ok (.aload_n 0, 1) := by decide +kernel
theorem dX1_isFirstOfItsWord_8 : decode cX1_isFirstOfItsWord 8 = .ok (.getfield 9, 3) := by decide +kernel
theorem dX1_isFirstOfItsWord_11 : decode cX1_isFirstOfItsWord 11 = .ok (.iload_n 2, 1) := by decide +kernel
theorem dX1_isFirstOfItsWord_12 : decode cX1_isFirstOfItsWord 12 = .ok (.iaload, 1) := by decide +kernel
theorem dX1_isFirstOfItsWord_13 : decode cX1_isFirstOfItsWord 13 = .ok (.aload_n 0, 1) := by decide +kernel
theorem dX1_isFirstOfItsWord_14 : decode cX1_isFirstOfItsWord 14 = .ok (.getfield 9, 3) := by decide +kernel
theorem dX1_isFirstOfItsWord_17 : decode cX1_isFirstOfItsWord 17 = .ok (.iload_n 1, 1) := by decide +kernel
theorem dX1_isFirstOfItsWord_18 : decode cX1_isFirstOfItsWord 18 = .ok (.iaload, 1) := by decide +kernel
theorem dX1_isFirstOfItsWord_19 : decode cX1_isFirstOfItsWord 19 = .ok (.if_icmp .ne 5, 3) := by decide +kernel
theorem dX1_isFirstOfItsWord_22 : decode cX1_isFirstOfItsWord 22 = .ok (.iconst 0, 1) := by decide +kernel
theorem dX1_isFirstOfItsWord_23 : decode cX1_isFirstOfItsWord 23 = .ok (.ireturn, 1) := by decide +kernel
theorem dX1_isFirstOfItsWord_24 : decode cX1_isFirstOfItsWord 24 = .ok (.iinc 2 1, 3) := by decide +kernel
theorem dX1_isFirstOfItsWord_27 : decode cX1_isFirstOfItsWord 27 = .ok (.goto (-25), 3) := by decide +kernel
theorem dX1_isFirstOfItsWord_30 : decode cX1_isFirstOfItsWord 30 = .ok (.iconst 1, 1) := by decide +kernel
theorem dX1_isFirstOfItsWord_31 : decode cX1_isFirstOfItsWord 31 = .ok (.ireturn, 1) := by decide +kernel
theorem dX1_differencesFrom_0 : decode cX1_differencesFrom 0 = .ok (.iconst 0, 1) := by decide +kernel
theorem dX1_differencesFrom_1 : decode cX1_differencesFrom 1 = .ok (.istore_n 2, 1) := by decide +kernel
theorem dX1_differencesFrom_2 : decode cX1_differencesFrom 2 = .ok (.iconst 0, 1) := by decide +kernel
theorem dX1_differencesFrom_3 : decode cX1_differencesFrom 3 = .ok (.istore_n 3, 1) := by decide +kernel
theorem dX1_differencesFrom_4 : decode cX1_differencesFrom 4 = .ok (.iload_n 3, 1) := by decide +kernel
theorem dX1_differencesFrom_5 : decode cX1_differencesFrom 5 = .ok (.aload_n 0, 1) := by decide +kernel
theorem dX1_differencesFrom_6 : decode cX1_differencesFrom 6 = .ok (.getfield 15, 3) := by decide +kernel
theorem dX1_differencesFrom_9 : decode cX1_differencesFrom 9 = .ok (.if_icmp .ge 35, 3) := by decide +kernel
theorem dX1_differencesFrom_12 : decode cX1_differencesFrom 12 = .ok (.iload_n 3, 1) := by decide +kernel
theorem dX1_differencesFrom_13 : decode cX1_differencesFrom 13 = .ok (.aload_n 1, 1) := by decide +kernel
theorem dX1_differencesFrom_14 : decode cX1_differencesFrom 14 = .ok (.getfield 15, 3) := by decide +kernel
theorem dX1_differencesFrom_17 : decode cX1_differencesFrom 17 = .ok (.if_icmp .ge 27, 3) := by decide +kernel
theorem dX1_differencesFrom_20 : decode cX1_differencesFrom 20 = .ok (.aload_n 0, 1) := by decide +kernel
theorem dX1_differencesFrom_21 : decode cX1_differencesFrom 21 = .ok (.getfield 9, 3) := by decide +kernel
theorem dX1_differencesFrom_24 : decode cX1_differencesFrom 24 = .ok (.iload_n 3, 1) := by decide +kernel
theorem dX1_differencesFrom_25 : decode cX1_differencesFrom 25 = .ok (.iaload, 1) := by decide +kernel
theorem dX1_differencesFrom_26 : decode cX1_differencesFrom 26 = .ok (.aload_n 1, 1) := by decide +kernel
theorem dX1_differencesFrom_27 : decode cX1_differencesFrom 27 = .ok (.getfield 9, 3) := by decide +kernel
theorem dX1_differencesFrom_30 : decode cX1_differencesFrom 30 = .ok (.iload_n 3, 1) := by decide +kernel
theorem dX1_differencesFrom_31 : decode cX1_differencesFrom 31 = .ok (.iaload, 1) := by decide +kernel
theorem dX1_differencesFrom_32 : decode cX1_differencesFrom 32 = .ok (.if_icmp .eq 6, 3) := by decide +kernel
theorem dX1_differencesFrom_35 : decode cX1_differencesFrom 35 = .ok (.iinc 2 1, 3) := by decide +kernel
theorem dX1_differencesFrom_38 : decode cX1_differencesFrom 38 = .ok (.iinc 3 1, 3) := by decide +kernel
theorem dX1_differencesFrom_41 : decode cX1_differencesFrom 41 = .ok (.goto (-37), 3) := by decide +kernel
theorem dX1_differencesFrom_44 : decode cX1_differencesFrom 44 = .ok (.iload_n 2, 1) := by decide +kernel
theorem dX1_differencesFrom_45 : decode cX1_differencesFrom 45 = .ok (.ireturn, 1) := by decide +kernel
theorem dX1_holds_0 : decode cX1_holds 0 = .ok (.iload_n 2, 1) := by decide +kernel
theorem dX1_holds_1 : decode cX1_holds 1 = .ok (.aload_n 0, 1) := by decide +kernel
theorem dX1_holds_2 : decode cX1_holds 2 = .ok (.getfield 15, 3) := by decide +kernel
theorem dX1_holds_5 : decode cX1_holds 5 = .ok (.aload_n 1, 1) := by decide +kernel
theorem dX1_holds_6 : decode cX1_holds 6 = .ok (.getfield 15, 3) := by decide +kernel
theorem dX1_holds_9 : decode cX1_holds 9 = .ok (.isub, 1) := by decide +kernel
theorem dX1_holds_10 : decode cX1_holds 10 = .ok (.if_icmp .le 5, 3) := by decide +kernel
theorem dX1_holds_13 : decode cX1_holds 13 = .ok (.iconst 0, 1) := by decide +kernel
theorem dX1_holds_14 : decode cX1_holds 14 = .ok (.ireturn, 1) := by decide +kernel
theorem dX1_holds_15 : decode cX1_holds 15 = .ok (.iconst 0, 1) := by decide +kernel
theorem dX1_holds_16 : decode cX1_holds 16 = .ok (.istore_n 3, 1) := by decide +kernel
theorem dX1_holds_17 : decode cX1_holds 17 = .ok (.iload_n 3, 1) := by decide +kernel
theorem dX1_holds_18 : decode cX1_holds 18 = .ok (.aload_n 1, 1) := by decide +kernel
theorem dX1_holds_19 : decode cX1_holds 19 = .ok (.getfield 15, 3) := by decide +kernel
theorem dX1_holds_22 : decode cX1_holds 22 = .ok (.if_icmp .ge 28, 3) := by decide +kernel
theorem dX1_holds_25 : decode cX1_holds 25 = .ok (.aload_n 0, 1) := by decide +kernel
theorem dX1_holds_26 : decode cX1_holds 26 = .ok (.getfield 9, 3) := by decide +kernel
theorem dX1_holds_29 : decode cX1_holds 29 = .ok (.iload_n 2, 1) := by decide +kernel
theorem dX1_holds_30 : decode cX1_holds 30 = .ok (.iload_n 3, 1) := by decide +kernel
theorem dX1_holds_31 : decode cX1_holds 31 = .ok (.iadd, 1) := by decide +kernel
theorem dX1_holds_32 : decode cX1_holds 32 = .ok (.iaload, 1) := by decide +kernel
theorem dX1_holds_33 : decode cX1_holds 33 = .ok (.aload_n 1, 1) := by decide +kernel
theorem dX1_holds_34 : decode cX1_holds 34 = .ok (.getfield 9, 3) := by decide +kernel
theorem dX1_holds_37 : decode cX1_holds 37 = .ok (.iload_n 3, 1) := by decide +kernel
theorem dX1_holds_38 : decode cX1_holds 38 = .ok (.iaload, 1) := by decide +kernel
theorem dX1_holds_39 : decode cX1_holds 39 = .ok (.if_icmp .eq 5, 3) := by decide +kernel
theorem dX1_holds_42 : decode cX1_holds 42 = .ok (.iconst 0, 1) := by decide +kernel
theorem dX1_holds_43 : decode cX1_holds 43 = .ok (.ireturn, 1) := by decide +kernel
theorem dX1_holds_44 : decode cX1_holds 44 = .ok (.iinc 3 1, 3) := by decide +kernel
theorem dX1_holds_47 : decode cX1_holds 47 = .ok (.goto (-30), 3) := by decide +kernel
theorem dX1_holds_50 : decode cX1_holds 50 = .ok (.iconst 1, 1) := by decide +kernel
theorem dX1_holds_51 : decode cX1_holds 51 = .ok (.ireturn, 1) := by decide +kernel
theorem dX1_firstPlaceOf_0 : decode cX1_firstPlaceOf 0 = .ok (.iload_n 2, 1) := by decide +kernel
theorem dX1_firstPlaceOf_1 : decode cX1_firstPlaceOf 1 = .ok (.istore 4, 2) := by decide +kernel
theorem dX1_firstPlaceOf_3 : decode cX1_firstPlaceOf 3 = .ok (.iload 4, 2) := by decide +kernel
theorem dX1_firstPlaceOf_5 : decode cX1_firstPlaceOf 5 = .ok (.iload_n 3, 1) := by decide +kernel
theorem dX1_firstPlaceOf_6 : decode cX1_firstPlaceOf 6 = .ok (.aload_n 1, 1) := by decide +kernel
theorem dX1_firstPlaceOf_7 : decode cX1_firstPlaceOf 7 = .ok (.getfield 15, 3) := by decide +kernel
theorem dX1_firstPlaceOf_10 : decode cX1_firstPlaceOf 10 = .ok (.isub, 1) := by decide +kernel
theorem dX1_firstPlaceOf_11 : decode cX1_firstPlaceOf 11 = .ok (.if_icmp .gt 22, 3) := by decide +kernel
theorem dX1_firstPlaceOf_14 : decode cX1_firstPlaceOf 14 = .ok (.aload_n 0, 1) := by decide +kernel
theorem dX1_firstPlaceOf_15 : decode cX1_firstPlaceOf 15 = .ok (.aload_n 1, 1) := by decide +kernel
theorem dX1_firstPlaceOf_16 : decode cX1_firstPlaceOf 16 = .ok (.iload 4, 2) := by decide +kernel
theorem dX1_firstPlaceOf_18 : decode cX1_firstPlaceOf 18 = .ok (.invokevirtual 35, 3) := by decide +kernel
theorem dX1_firstPlaceOf_21 : decode cX1_firstPlaceOf 21 = .ok (.ifCond .eq 6, 3) := by decide +kernel
theorem dX1_firstPlaceOf_24 : decode cX1_firstPlaceOf 24 = .ok (.iload 4, 2) := by decide +kernel
theorem dX1_firstPlaceOf_26 : decode cX1_firstPlaceOf 26 = .ok (.ireturn, 1) := by decide +kernel
theorem dX1_firstPlaceOf_27 : decode cX1_firstPlaceOf 27 = .ok (.iinc 4 1, 3) := by decide +kernel
theorem dX1_firstPlaceOf_30 : decode cX1_firstPlaceOf 30 = .ok (.goto (-27), 3) := by decide +kernel
theorem dX1_firstPlaceOf_33 : decode cX1_firstPlaceOf 33 = .ok (.iconst (-1), 1) := by decide +kernel
theorem dX1_firstPlaceOf_34 : decode cX1_firstPlaceOf 34 = .ok (.ireturn, 1) := by decide +kernel
theorem dX1_lastPlaceOf_0 : decode cX1_lastPlaceOf 0 = .ok (.aload_n 0, 1) := by decide +kernel
theorem dX1_lastPlaceOf_1 : decode cX1_lastPlaceOf 1 = .ok (.getfield 15, 3) := by decide +kernel
theorem dX1_lastPlaceOf_4 : decode cX1_lastPlaceOf 4 = .ok (.aload_n 1, 1) := by decide +kernel
theorem dX1_lastPlaceOf_5 : decode cX1_lastPlaceOf 5 = .ok (.getfield 15, 3) := by decide +kernel
theorem dX1_lastPlaceOf_8 : decode cX1_lastPlaceOf 8 = .ok (.isub, 1) := by decide +kernel
theorem dX1_lastPlaceOf_9 : decode cX1_lastPlaceOf 9 = .ok (.istore_n 2, 1) := by decide +kernel
theorem dX1_lastPlaceOf_10 : decode cX1_lastPlaceOf 10 = .ok (.iload_n 2, 1) := by decide +kernel
theorem dX1_lastPlaceOf_11 : decode cX1_lastPlaceOf 11 = .ok (.ifCond .lt 20, 3) := by decide +kernel
theorem dX1_lastPlaceOf_14 : decode cX1_lastPlaceOf 14 = .ok (.aload_n 0, 1) := by decide +kernel
theorem dX1_lastPlaceOf_15 : decode cX1_lastPlaceOf 15 = .ok (.aload_n 1, 1) := by decide +kernel
theorem dX1_lastPlaceOf_16 : decode cX1_lastPlaceOf 16 = .ok (.iload_n 2, 1) := by decide +kernel
theorem dX1_lastPlaceOf_17 : decode cX1_lastPlaceOf 17 = .ok (.invokevirtual 35, 3) := by decide +kernel
theorem dX1_lastPlaceOf_20 : decode cX1_lastPlaceOf 20 = .ok (.ifCond .eq 5, 3) := by decide +kernel
theorem dX1_lastPlaceOf_23 : decode cX1_lastPlaceOf 23 = .ok (.iload_n 2, 1) := by decide +kernel
theorem dX1_lastPlaceOf_24 : decode cX1_lastPlaceOf 24 = .ok (.ireturn, 1) := by decide +kernel
theorem dX1_lastPlaceOf_25 : decode cX1_lastPlaceOf 25 = .ok (.iinc 2 (-1), 3) := by decide +kernel
theorem dX1_lastPlaceOf_28 : decode cX1_lastPlaceOf 28 = .ok (.goto (-18), 3) := by decide +kernel
theorem dX1_lastPlaceOf_31 : decode cX1_lastPlaceOf 31 = .ok (.iconst (-1), 1) := by decide +kernel
theorem dX1_lastPlaceOf_32 : decode cX1_lastPlaceOf 32 = .ok (.ireturn, 1) := by decide +kernel
theorem dX1_timesAnywhere_0 : decode cX1_timesAnywhere 0 = .ok (.iconst 0, 1) := by decide +kernel
theorem dX1_timesAnywhere_1 : decode cX1_timesAnywhere 1 = .ok (.istore_n 2, 1) := by decide +kernel
theorem dX1_timesAnywhere_2 : decode cX1_timesAnywhere 2 = .ok (.iconst 0, 1) := by decide +kernel
theorem dX1_timesAnywhere_3 : decode cX1_timesAnywhere 3 = .ok (.istore_n 3, 1) := by decide +kernel
theorem dX1_timesAnywhere_4 : decode cX1_timesAnywhere 4 = .ok (.iload_n 3, 1) := by decide +kernel
theorem dX1_timesAnywhere_5 : decode cX1_timesAnywhere 5 = .ok (.aload_n 0, 1) := by decide +kernel
theorem dX1_timesAnywhere_6 : decode cX1_timesAnywhere 6 = .ok (.getfield 15, 3) := by decide +kernel
theorem dX1_timesAnywhere_9 : decode cX1_timesAnywhere 9 = .ok (.aload_n 1, 1) := by decide +kernel
theorem dX1_timesAnywhere_10 : decode cX1_timesAnywhere 10 = .ok (.getfield 15, 3) := by decide +kernel
theorem dX1_timesAnywhere_13 : decode cX1_timesAnywhere 13 = .ok (.isub, 1) := by decide +kernel
theorem dX1_timesAnywhere_14 : decode cX1_timesAnywhere 14 = .ok (.if_icmp .gt 21, 3) := by decide +kernel
theorem dX1_timesAnywhere_17 : decode cX1_timesAnywhere 17 = .ok (.aload_n 0, 1) := by decide +kernel
theorem dX1_timesAnywhere_18 : decode cX1_timesAnywhere 18 = .ok (.aload_n 1, 1) := by decide +kernel
theorem dX1_timesAnywhere_19 : decode cX1_timesAnywhere 19 = .ok (.iload_n 3, 1) := by decide +kernel
theorem dX1_timesAnywhere_20 : decode cX1_timesAnywhere 20 = .ok (.invokevirtual 35, 3) := by decide +kernel
theorem dX1_timesAnywhere_23 : decode cX1_timesAnywhere 23 = .ok (.ifCond .eq 6, 3) := by decide +kernel
theorem dX1_timesAnywhere_26 : decode cX1_timesAnywhere 26 = .ok (.iinc 2 1, 3) := by decide +kernel
theorem dX1_timesAnywhere_29 : decode cX1_timesAnywhere 29 = .ok (.iinc 3 1, 3) := by decide +kernel
theorem dX1_timesAnywhere_32 : decode cX1_timesAnywhere 32 = .ok (.goto (-28), 3) := by decide +kernel
theorem dX1_timesAnywhere_35 : decode cX1_timesAnywhere 35 = .ok (.iload_n 2, 1) := by decide +kernel
theorem dX1_timesAnywhere_36 : decode cX1_timesAnywhere 36 = .ok (.ireturn, 1) := by decide +kernel
theorem dX1_timesApart_0 : decode cX1_timesApart 0 = .ok (.iconst 0, 1) := by decide +kernel
theorem dX1_timesApart_1 : decode cX1_timesApart 1 = .ok (.istore_n 2, 1) := by decide +kernel
theorem dX1_timesApart_2 : decode cX1_timesApart 2 = .ok (.iconst 0, 1) := by decide +kernel
theorem dX1_timesApart_3 : decode cX1_timesApart 3 = .ok (.istore_n 3, 1) := by decide +kernel
theorem dX1_timesApart_4 : decode cX1_timesApart 4 = .ok (.iconst 0, 1) := by decide +kernel
theorem dX1_timesApart_5 : decode cX1_timesApart 5 = .ok (.istore 4, 2) := by decide +kernel
theorem dX1_timesApart_7 : decode cX1_timesApart 7 = .ok (.iload 4, 2) := by decide +kernel
theorem dX1_timesApart_9 : decode cX1_timesApart 9 = .ok (.aload_n 0, 1) := by decide +kernel
theorem dX1_timesApart_10 : decode cX1_timesApart 10 = .ok (.getfield 15, 3) := by decide +kernel
theorem dX1_timesApart_13 : decode cX1_timesApart 13 = .ok (.aload_n 1, 1) := by decide +kernel
theorem dX1_timesApart_14 : decode cX1_timesApart 14 = .ok (.getfield 15, 3) := by decide +kernel
theorem dX1_timesApart_17 : decode cX1_timesApart 17 = .ok (.isub, 1) := by decide +kernel
theorem dX1_timesApart_18 : decode cX1_timesApart 18 = .ok (.if_icmp .gt 36, 3) := by decide +kernel
theorem dX1_timesApart_21 : decode cX1_timesApart 21 = .ok (.iload 4, 2) := by decide +kernel
theorem dX1_timesApart_23 : decode cX1_timesApart 23 = .ok (.iload_n 3, 1) := by decide +kernel
theorem dX1_timesApart_24 : decode cX1_timesApart 24 = .ok (.if_icmp .lt 24, 3) := by decide +kernel
theorem dX1_timesApart_27 : decode cX1_timesApart 27 = .ok (.aload_n 0, 1) := by decide +kernel
theorem dX1_timesApart_28 : decode cX1_timesApart 28 = .ok (.aload_n 1, 1) := by decide +kernel
theorem dX1_timesApart_29 : decode cX1_timesApart 29 = .ok (.iload 4, 2) := by decide +kernel
theorem dX1_timesApart_31 : decode cX1_timesApart 31 = .ok (.invokevirtual 35, 3) := by decide +kernel
theorem dX1_timesApart_34 : decode cX1_timesApart 34 = .ok (.ifCond .eq 14, 3) := by decide +kernel
theorem dX1_timesApart_37 : decode cX1_timesApart 37 = .ok (.iinc 2 1, 3) := by decide +kernel
theorem dX1_timesApart_40 : decode cX1_timesApart 40 = .ok (.iload 4, 2) := by decide +kernel
theorem dX1_timesApart_42 : decode cX1_timesApart 42 = .ok (.aload_n 1, 1) := by decide +kernel
theorem dX1_timesApart_43 : decode cX1_timesApart 43 = .ok (.getfield 15, 3) := by decide +kernel
theorem dX1_timesApart_46 : decode cX1_timesApart 46 = .ok (.iadd, 1) := by decide +kernel
theorem dX1_timesApart_47 : decode cX1_timesApart 47 = .ok (.istore_n 3, 1) := by decide +kernel
theorem dX1_timesApart_48 : decode cX1_timesApart 48 = .ok (.iinc 4 1, 3) := by decide +kernel
theorem dX1_timesApart_51 : decode cX1_timesApart 51 = .ok (.goto (-44), 3) := by decide +kernel
theorem dX1_timesApart_54 : decode cX1_timesApart 54 = .ok (.iload_n 2, 1) := by decide +kernel
theorem dX1_timesApart_55 : decode cX1_timesApart 55 = .ok (.ireturn, 1) := by decide +kernel
theorem dX2_init_0 : decode cX2_init 0 = .ok (.aload_n 0, 1) := by decide +kernel
theorem dX2_init_1 : decode cX2_init 1 = .ok (.invokespecial 1, 3) := by decide +kernel
theorem dX2_init_4 : decode cX2_init 4 = .ok (.aload_n 0, 1) := by decide +kernel
theorem dX2_init_5 : decode cX2_init 5 = .ok (.iconst 4, 1) := by decide +kernel
theorem dX2_init_6 : decode cX2_init 6 = .ok (.anewarray 9, 3) := by decide +kernel
theorem dX2_init_9 : decode cX2_init 9 = .ok (.putfield 11, 3) := by decide +kernel
theorem dX2_init_12 : decode cX2_init 12 = .ok (.aload_n 0, 1) := by decide +kernel
theorem dX2_init_13 : decode cX2_init 13 = .ok (.iconst 2, 1) := by decide +kernel
theorem dX2_init_14 : decode cX2_init 14 = .ok (.anewarray 9, 3) := by decide +kernel
theorem dX2_init_17 : decode cX2_init 17 = .ok (.putfield 15, 3) := by decide +kernel
theorem dX2_init_20 : decode cX2_init 20 = .ok (.aload_n 0, 1) := by decide +kernel
theorem dX2_init_21 : decode cX2_init 21 = .ok (.bipush 100, 2) := by decide +kernel
theorem dX2_init_23 : decode cX2_init 23 = .ok (.newarray .int, 2) := by decide +kernel
theorem dX2_init_25 : decode cX2_init 25 = .ok (.putfield 18, 3) := by decide +kernel
theorem dX2_init_28 : decode cX2_init 28 = .ok (.aload_n 0, 1) := by decide +kernel
theorem dX2_init_29 : decode cX2_init 29 = .ok (.new 9, 3) := by decide +kernel
theorem dX2_init_32 : decode cX2_init 32 = .ok (.dup, 1) := by decide +kernel
theorem dX2_init_33 : decode cX2_init 33 = .ok (.bipush 60, 2) := by decide +kernel
theorem dX2_init_35 : decode cX2_init 35 = .ok (.newarray .int, 2) := by decide +kernel
theorem dX2_init_37 : decode cX2_init 37 = .ok (.invokespecial 22, 3) := by decide +kernel
theorem dX2_init_40 : decode cX2_init 40 = .ok (.putfield 25, 3) := by decide +kernel
theorem dX2_init_43 : decode cX2_init 43 = .ok (.aload_n 0, 1) := by decide +kernel
theorem dX2_init_44 : decode cX2_init 44 = .ok (.new 9, 3) := by decide +kernel
theorem dX2_init_47 : decode cX2_init 47 = .ok (.dup, 1) := by decide +kernel
theorem dX2_init_48 : decode cX2_init 48 = .ok (.bipush 60, 2) := by decide +kernel
theorem dX2_init_50 : decode cX2_init 50 = .ok (.newarray .int, 2) := by decide +kernel
theorem dX2_init_52 : decode cX2_init 52 = .ok (.invokespecial 22, 3) := by decide +kernel
theorem dX2_init_55 : decode cX2_init 55 = .ok (.putfield 29, 3) := by decide +kernel
theorem dX2_init_58 : decode cX2_init 58 = .ok (.aload_n 0, 1) := by decide +kernel
theorem dX2_init_59 : decode cX2_init 59 = .ok (.new 9, 3) := by decide +kernel
theorem dX2_init_62 : decode cX2_init 62 = .ok (.dup, 1) := by decide +kernel
theorem dX2_init_63 : decode cX2_init 63 = .ok (.bipush 12, 2) := by decide +kernel
theorem dX2_init_65 : decode cX2_init 65 = .ok (.newarray .int, 2) := by decide +kernel
theorem dX2_init_67 : decode cX2_init 67 = .ok (.invokespecial 22, 3) := by decide +kernel
theorem dX2_init_70 : decode cX2_init 70 = .ok (.putfield 32, 3) := by decide +kernel
theorem dX2_init_73 : decode cX2_init 73 = .ok (.aload_n 0, 1) := by decide +kernel
theorem dX2_init_74 : decode cX2_init 74 = .ok (.bipush 61, 2) := by decide +kernel
theorem dX2_init_76 : decode cX2_init 76 = .ok (.newarray .int, 2) := by decide +kernel
theorem dX2_init_78 : decode cX2_init 78 = .ok (.putfield 35, 3) := by decide +kernel
theorem dX2_init_81 : decode cX2_init 81 = .ok (.iconst 0, 1) := by decide +kernel
theorem dX2_init_82 : decode cX2_init 82 = .ok (.istore_n 1, 1) := by decide +kernel
theorem dX2_init_83 : decode cX2_init 83 = .ok (.iload_n 1, 1) := by decide +kernel
theorem dX2_init_84 : decode cX2_init 84 = .ok (.iconst 4, 1) := by decide +kernel
theorem dX2_init_85 : decode cX2_init 85 = .ok (.if_icmp .ge 26, 3) := by decide +kernel
theorem dX2_init_88 : decode cX2_init 88 = .ok (.aload_n 0, 1) := by decide +kernel
theorem dX2_init_89 : decode cX2_init 89 = .ok (.getfield 11, 3) := by decide +kernel
theorem dX2_init_92 : decode cX2_init 92 = .ok (.iload_n 1, 1) := by decide +kernel
theorem dX2_init_93 : decode cX2_init 93 = .ok (.new 9, 3) := by decide +kernel
theorem dX2_init_96 : decode cX2_init 96 = .ok (.dup, 1) := by decide +kernel
theorem dX2_init_97 : decode cX2_init 97 = .ok (.bipush 60, 2) := by decide +kernel
theorem dX2_init_99 : decode cX2_init 99 = .ok (.newarray .int, 2) := by decide +kernel
theorem dX2_init_101 : decode cX2_init 101 = .ok (.invokespecial 22, 3) := by decide +kernel
theorem dX2_init_104 : decode cX2_init 104 = .ok (.aastore, 1) := by decide +kernel
theorem dX2_init_105 : decode cX2_init 105 = .ok (.iinc 1 1, 3) := by decide +kernel
theorem dX2_init_108 : decode cX2_init 108 = .ok (.goto (-25), 3) := by decide +kernel
theorem dX2_init_111 : decode cX2_init 111 = .ok (.iconst 0, 1) := by decide +kernel
theorem dX2_init_112 : decode cX2_init 112 = .ok (.istore_n 1, 1) := by decide +kernel
theorem dX2_init_113 : decode cX2_init 113 = .ok (.iload_n 1, 1) := by decide +kernel
theorem dX2_init_114 : decode cX2_init 114 = .ok (.iconst 2, 1) := by decide +kernel
theorem dX2_init_115 : decode cX2_init 115 = .ok (.if_icmp .ge 26, 3) := by decide +kernel
theorem dX2_init_118 : decode cX2_init 118 = .ok (.aload_n 0, 1) := by decide +kernel
theorem dX2_init_119 : decode cX2_init 119 = .ok (.getfield 15, 3) := by decide +kernel
theorem dX2_init_122 : decode cX2_init 122 = .ok (.iload_n 1, 1) := by decide +kernel
theorem dX2_init_123 : decode cX2_init 123 = .ok (.new 9, 3) := by decide +kernel
theorem dX2_init_126 : decode cX2_init 126 = .ok (.dup, 1) := by decide +kernel
theorem dX2_init_127 : decode cX2_init 127 = .ok (.bipush 12, 2) := by decide +kernel
theorem dX2_init_129 : decode cX2_init 129 = .ok (.newarray .int, 2) := by decide +kernel
theorem dX2_init_131 : decode cX2_init 131 = .ok (.invokespecial 22, 3) := by decide +kernel
theorem dX2_init_134 : decode cX2_init 134 = .ok (.aastore, 1) := by decide +kernel
theorem dX2_init_135 : decode cX2_init 135 = .ok (.iinc 1 1, 3) := by decide +kernel
theorem dX2_init_138 : decode cX2_init 138 = .ok (.goto (-25), 3) := by decide +kernel
theorem dX2_init_141 : decode cX2_init 141 = .ok (.return_, 1) := by decide +kernel
theorem dX2_add_0 : decode cX2_add 0 = .ok (.aload_n 0, 1) := by decide +kernel
theorem dX2_add_1 : decode cX2_add 1 = .ok (.iload_n 1, 1) := by decide +kernel
theorem dX2_add_2 : decode cX2_add 2 = .ok (.invokevirtual 38, 3) := by decide +kernel
theorem dX2_add_5 : decode cX2_add 5 = .ok (.astore_n 3, 1) := by decide +kernel
theorem dX2_add_6 : decode cX2_add 6 = .ok (.iload_n 2, 1) := by decide +kernel
theorem dX2_add_7 : decode cX2_add 7 = .ok (.invokestatic 42, 3) := by decide +kernel
theorem dX2_add_10 : decode cX2_add 10 = .ok (.aload_n 3, 1) := by decide +kernel
theorem dX2_add_11 : decode cX2_add 11 = .ok (.iconst 1, 1) := by decide +kernel
theorem dX2_add_12 : decode cX2_add 12 = .ok (.invokestatic 46, 3) := by decide +kernel
theorem dX2_add_15 : decode cX2_add 15 = .ok (.aload_n 3, 1) := by decide +kernel
theorem dX2_add_16 : decode cX2_add 16 = .ok (.iload_n 2, 1) := by decide +kernel
theorem dX2_add_17 : decode cX2_add 17 = .ok (.invokevirtual 50, 3) := by decide +kernel
theorem dX2_add_20 : decode cX2_add 20 = .ok (.aload_n 3, 1) := by decide +kernel
theorem dX2_add_21 : decode cX2_add 21 = .ok (.getfield 53, 3) := by decide +kernel
theorem dX2_add_24 : decode cX2_add 24 = .ok (.ireturn, 1) := by decide +kernel
theorem dX2_addMany_0 : decode cX2_addMany 0 = .ok (.aload_n 0, 1) := by decide +kernel
theorem dX2_addMany_1 : decode cX2_addMany 1 = .ok (.iload_n 1, 1) := by decide +kernel
theorem dX2_addMany_2 : decode cX2_addMany 2 = .ok (.invokevirtual 38, 3) := by decide +kernel
theorem dX2_addMany_5 : decode cX2_addMany 5 = .ok (.astore 4, 2) := by decide +kernel
theorem dX2_addMany_7 : decode cX2_addMany 7 = .ok (.iload_n 2, 1) := by decide +kernel
theorem dX2_addMany_8 : decode cX2_addMany 8 = .ok (.invokestatic 42, 3) := by decide +kernel
theorem dX2_addMany_11 : decode cX2_addMany 11 = .ok (.iload_n 3, 1) := by decide +kernel
theorem dX2_addMany_12 : decode cX2_addMany 12 = .ok (.invokestatic 57, 3) := by decide +kernel
theorem dX2_addMany_15 : decode cX2_addMany 15 = .ok (.aload 4, 2) := by decide +kernel
theorem dX2_addMany_17 : decode cX2_addMany 17 = .ok (.iload_n 3, 1) := by decide +kernel
theorem dX2_addMany_18 : decode cX2_addMany 18 = .ok (.invokestatic 46, 3) := by decide +kernel
theorem dX2_addMany_21 : decode cX2_addMany 21 = .ok (.iconst 0, 1) := by decide +kernel
theorem dX2_addMany_22 : decode cX2_addMany 22 = .ok (.istore 5, 2) := by decide +kernel
theorem dX2_addMany_24 : decode cX2_addMany 24 = .ok (.iload 5, 2) := by decide +kernel
theorem dX2_addMany_26 : decode cX2_addMany 26 = .ok (.iload_n 3, 1) := by decide +kernel
theorem dX2_addMany_27 : decode cX2_addMany 27 = .ok (.if_icmp .ge 15, 3) := by decide +kernel
theorem dX2_addMany_30 : decode cX2_addMany 30 = .ok (.aload 4, 2) := by decide +kernel
theorem dX2_addMany_32 : decode cX2_addMany 32 = .ok (.iload_n 2, 1) := by decide +kernel
theorem dX2_addMany_33 : decode cX2_addMany 33 = .ok (.invokevirtual 50, 3) := by decide +kernel
theorem dX2_addMany_36 : decode cX2_addMany 36 = .ok (.iinc 5 1, 3) := by decide +kernel
theorem dX2_addMany_39 : decode cX2_addMany 39 = .ok (.goto (-15), 3) := by decide +kernel
theorem dX2_addMany_42 : decode cX2_addMany 42 = .ok (.aload 4, 2) := by decide +kernel
theorem dX2_addMany_44 : decode cX2_addMany 44 = .ok (.getfield 53, 3) := by decide +kernel
theorem dX2_addMany_47 : decode cX2_addMany 47 = .ok (.ireturn, 1) := by decide +kernel
theorem dX2_scatter_0 : decode cX2_scatter 0 = .ok (.aload_n 0, 1) := by decide +kernel
theorem dX2_scatter_1 : decode cX2_scatter 1 = .ok (.iload_n 1, 1) := by decide +kernel
theorem dX2_scatter_2 : decode cX2_scatter 2 = .ok (.invokevirtual 38, 3) := by decide +kernel
theorem dX2_scatter_5 : decode cX2_scatter 5 = .ok (.astore 5, 2) := by decide +kernel
theorem dX2_scatter_7 : decode cX2_scatter 7 = .ok (.iload_n 2, 1) := by decide +kernel
theorem dX2_scatter_8 : decode cX2_scatter 8 = .ok (.iconst 0, 1) := by decide +kernel
theorem dX2_scatter_9 : decode cX2_scatter 9 = .ok (.bipush 60, 2) := by decide +kernel
theorem dX2_scatter_11 : decode cX2_scatter 11 = .ok (.invokestatic 60, 3) := by decide +kernel
theorem dX2_scatter_14 : decode cX2_scatter 14 = .ok (.iload_n 3, 1) := by decide +kernel
theorem dX2_scatter_15 : decode cX2_scatter 15 = .ok (.iconst 1, 1) := by decide +kernel
theorem dX2_scatter_16 : decode cX2_scatter 16 = .ok (.bipush 100, 2) := by decide +kernel
theorem dX2_scatter_18 : decode cX2_scatter 18 = .ok (.invokestatic 60, 3) := by decide +kernel
theorem dX2_scatter_21 : decode cX2_scatter 21 = .ok (.iload 4, 2) := by decide +kernel
theorem dX2_scatter_23 : decode cX2_scatter 23 = .ok (.invokestatic 57, 3) := by decide +kernel
theorem dX2_scatter_26 : decode cX2_scatter 26 = .ok (.aload 5, 2) := by decide +kernel
theorem dX2_scatter_28 : decode cX2_scatter 28 = .ok (.iload_n 2, 1) := by decide +kernel
theorem dX2_scatter_29 : decode cX2_scatter 29 = .ok (.invokestatic 46, 3) := by decide +kernel
theorem dX2_scatter_32 : decode cX2_scatter 32 = .ok (.iload 4, 2) := by decide +kernel
theorem dX2_scatter_34 : decode cX2_scatter 34 = .ok (.i2l, 1) := by decide +kernel
theorem dX2_scatter_35 : decode cX2_scatter 35 = .ok (.lstore 6, 2) := by decide +kernel
theorem dX2_scatter_37 : decode cX2_scatter 37 = .ok (.iconst 0, 1) := by decide +kernel
theorem dX2_scatter_38 : decode cX2_scatter 38 = .ok (.istore 8, 2) := by decide +kernel
theorem dX2_scatter_40 : decode cX2_scatter 40 = .ok (.iload 8, 2) := by decide +kernel
theorem dX2_scatter_42 : decode cX2_scatter 42 = .ok (.iload_n 2, 1) := by decide +kernel
theorem dX2_scatter_43 : decode cX2_scatter 43 = .ok (.if_icmp .ge 40, 3) := by decide +kernel
theorem dX2_scatter_46 : decode cX2_scatter 46 = .ok (.lload 6, 2) := by decide +kernel
theorem dX2_scatter_48 : decode cX2_scatter 48 = .ok (.ldc2_w 64, 3) := by decide +kernel
theorem dX2_scatter_51 : decode cX2_scatter 51 = .ok (.lmul, 1) := by decide +kernel
theorem dX2_scatter_52 : decode cX2_scatter 52 = .ok (.ldc2_w 66, 3) := by decide +kernel
theorem dX2_scatter_55 : decode cX2_scatter 55 = .ok (.ladd, 1) := by decide +kernel
theorem dX2_scatter_56 : decode cX2_scatter 56 = .ok (.ldc2_w 68, 3) := by decide +kernel
theorem dX2_scatter_59 : decode cX2_scatter 59 = .ok (.land, 1) := by decide +kernel
theorem dX2_scatter_60 : decode cX2_scatter 60 = .ok (.lstore 6, 2) := by decide +kernel
theorem dX2_scatter_62 : decode cX2_scatter 62 = .ok (.aload 5, 2) := by decide +kernel
theorem dX2_scatter_64 : decode cX2_scatter 64 = .ok (.lload 6, 2) := by decide +kernel
theorem dX2_scatter_66 : decode cX2_scatter 66 = .ok (.ldc2_w 70, 3) := by decide +kernel
theorem dX2_scatter_69 : decode cX2_scatter 69 = .ok (.ldiv, 1) := by decide +kernel
theorem dX2_scatter_70 : decode cX2_scatter 70 = .ok (.iload_n 3, 1) := by decide +kernel
theorem dX2_scatter_71 : decode cX2_scatter 71 = .ok (.i2l, 1) := by decide +kernel
theorem dX2_scatter_72 : decode cX2_scatter 72 = .ok (.lrem, 1) := by decide +kernel
theorem dX2_scatter_73 : decode cX2_scatter 73 = .ok (.l2i, 1) := by decide +kernel
theorem dX2_scatter_74 : decode cX2_scatter 74 = .ok (.invokevirtual 50, 3) := by decide +kernel
theorem dX2_scatter_77 : decode cX2_scatter 77 = .ok (.iinc 8 1, 3) := by decide +kernel
theorem dX2_scatter_80 : decode cX2_scatter 80 = .ok (.goto (-40), 3) := by decide +kernel
theorem dX2_scatter_83 : decode cX2_scatter 83 = .ok (.aload 5, 2) := by decide +kernel
theorem dX2_scatter_85 : decode cX2_scatter 85 = .ok (.getfield 53, 3) := by decide +kernel
theorem dX2_scatter_88 : decode cX2_scatter 88 = .ok (.ireturn, 1) := by decide +kernel
theorem dX2_insert_0 : decode cX2_insert 0 = .ok (.aload_n 0, 1) := by decide +kernel
theorem dX2_insert_1 : decode cX2_insert 1 = .ok (.iload_n 1, 1) := by decide +kernel
theorem dX2_insert_2 : decode cX2_insert 2 = .ok (.invokevirtual 38, 3) := by decide +kernel
theorem dX2_insert_5 : decode cX2_insert 5 = .ok (.astore 4, 2) := by decide +kernel
theorem dX2_insert_7 : decode cX2_insert 7 = .ok (.iload_n 3, 1) := by decide +kernel
theorem dX2_insert_8 : decode cX2_insert 8 = .ok (.invokestatic 42, 3) := by decide +kernel
theorem dX2_insert_11 : decode cX2_insert 11 = .ok (.aload 4, 2) := by decide +kernel
theorem dX2_insert_13 : decode cX2_insert 13 = .ok (.iload_n 2, 1) := by decide +kernel
theorem dX2_insert_14 : decode cX2_insert 14 = .ok (.aload 4, 2) := by decide +kernel
theorem dX2_insert_16 : decode cX2_insert 16 = .ok (.getfield 53, 3) := by decide +kernel
theorem dX2_insert_19 : decode cX2_insert 19 = .ok (.invokestatic 72, 3) := by decide +kernel
theorem dX2_insert_22 : decode cX2_insert 22 = .ok (.aload 4, 2) := by decide +kernel
theorem dX2_insert_24 : decode cX2_insert 24 = .ok (.iconst 1, 1) := by decide +kernel
theorem dX2_insert_25 : decode cX2_insert 25 = .ok (.invokestatic 46, 3) := by decide +kernel
theorem dX2_insert_28 : decode cX2_insert 28 = .ok (.aload 4, 2) := by decide +kernel
theorem dX2_insert_30 : decode cX2_insert 30 = .ok (.iload_n 2, 1) := by decide +kernel
theorem dX2_insert_31 : decode cX2_insert 31 = .ok (.iload_n 3, 1) := by decide +kernel
theorem dX2_insert_32 : decode cX2_insert 32 = .ok (.invokevirtual 76, 3) := by decide +kernel
theorem dX2_insert_35 : decode cX2_insert 35 = .ok (.aload 4, 2) := by decide +kernel
theorem dX2_insert_37 : decode cX2_insert 37 = .ok (.getfield 53, 3) := by decide +kernel
theorem dX2_insert_40 : decode cX2_insert 40 = .ok (.ireturn, 1) := by decide +kernel
theorem dX2_set_0 : decode cX2_set 0 = .ok (.aload_n 0, 1) := by decide +kernel
theorem dX2_set_1 : decode cX2_set 1 = .ok (.iload_n 1, 1) := by decide +kernel
theorem dX2_set_2 : decode cX2_set 2 = .ok (.invokevirtual 38, 3) := by decide +kernel
theorem dX2_set_5 : decode cX2_set 5 = .ok (.astore 4, 2) := by decide +kernel
theorem dX2_set_7 : decode cX2_set 7 = .ok (.aload 4, 2) := by decide +kernel
theorem dX2_set_9 : decode cX2_set 9 = .ok (.iload_n 2, 1) := by decide +kernel
theorem dX2_set_10 : decode cX2_set 10 = .ok (.invokestatic 80, 3) := by decide +kernel
theorem dX2_set_13 : decode cX2_set 13 = .ok (.iload_n 3, 1) := by decide +kernel
theorem dX2_set_14 : decode cX2_set 14 = .ok (.invokestatic 42, 3) := by decide +kernel
theorem dX2_set_17 : decode cX2_set 17 = .ok (.aload 4, 2) := by decide +kernel
theorem dX2_set_19 : decode cX2_set 19 = .ok (.getfield 83, 3) := by decide +kernel
theorem dX2_set_22 : decode cX2_set 22 = .ok (.iload_n 2, 1) := by decide +kernel
theorem dX2_set_23 : decode cX2_set 23 = .ok (.iaload, 1) := by decide +kernel
theorem dX2_set_24 : decode cX2_set 24 = .ok (.istore 5, 2) := by decide +kernel
theorem dX2_set_26 : decode cX2_set 26 = .ok (.aload 4, 2) := by decide +kernel
theorem dX2_set_28 : decode cX2_set 28 = .ok (.getfield 83, 3) := by decide +kernel
theorem dX2_set_31 : decode cX2_set 31 = .ok (.iload_n 2, 1) := by decide +kernel
theorem dX2_set_32 : decode cX2_set 32 = .ok (.iload_n 3, 1) := by decide +kernel
theorem dX2_set_33 : decode cX2_set 33 = .ok (.iastore, 1) := by decide +kernel
theorem dX2_set_34 : decode cX2_set 34 = .ok (.iload 5, 2) := by decide +kernel
theorem dX2_set_36 : decode cX2_set 36 = .ok (.ireturn, 1) := by decide +kernel
theorem dX2_remove_0 : decode cX2_remove 0 = .ok (.aload_n 0, 1) := by decide +kernel
theorem dX2_remove_1 : decode cX2_remove 1 = .ok (.iload_n 1, 1) := by decide +kernel
theorem dX2_remove_2 : decode cX2_remove 2 = .ok (.invokevirtual 38, 3) := by decide +kernel
theorem dX2_remove_5 : decode cX2_remove 5 = .ok (.astore_n 3, 1) := by decide +kernel
theorem dX2_remove_6 : decode cX2_remove 6 = .ok (.aload_n 3, 1) := by decide +kernel
theorem dX2_remove_7 : decode cX2_remove 7 = .ok (.iload_n 2, 1) := by decide +kernel
theorem dX2_remove_8 : decode cX2_remove 8 = .ok (.invokestatic 80, 3) := by decide +kernel
theorem dX2_remove_11 : decode cX2_remove 11 = .ok (.aload_n 3, 1) := by decide +kernel
theorem dX2_remove_12 : decode cX2_remove 12 = .ok (.getfield 83, 3) := by decide +kernel
theorem dX2_remove_15 : decode cX2_remove 15 = .ok (.iload_n 2, 1) := by decide +kernel
theorem dX2_remove_16 : decode cX2_remove 16 = .ok (.iaload, 1) := by decide +kernel
theorem dX2_remove_17 : decode cX2_remove 17 = .ok (.istore 4, 2) := by decide +kernel
theorem dX2_remove_19 : decode cX2_remove 19 = .ok (.aload_n 3, 1) := by decide +kernel
theorem dX2_remove_20 : decode cX2_remove 20 = .ok (.iload_n 2, 1) := by decide +kernel
theorem dX2_remove_21 : decode cX2_remove 21 = .ok (.iload_n 2, 1) := by decide +kernel
theorem dX2_remove_22 : decode cX2_remove 22 = .ok (.iconst 1, 1) := by decide +kernel
theorem dX2_remove_23 : decode cX2_remove 23 = .ok (.iadd, 1) := by decide +kernel
theorem dX2_remove_24 : decode cX2_remove 24 = .ok (.invokevirtual 86, 3) := by decide +kernel
theorem dX2_remove_27 : decode cX2_remove 27 = .ok (.iload 4, 2) := by decide +kernel
theorem dX2_remove_29 : decode cX2_remove 29 = .ok (.ireturn, 1) := by decide +kernel
theorem dX2_cut_0 : decode cX2_cut 0 = .ok (.aload_n 0, 1) := by decide +kernel
theorem dX2_cut_1 : decode cX2_cut 1 = .ok (.iload_n 1, 1) := by decide +kernel
theorem dX2_cut_2 : decode cX2_cut 2 = .ok (.invokevirtual 38, 3) := by decide +kernel
theorem dX2_cut_5 : decode cX2_cut 5 = .ok (.astore 4, 2) := by decide +kernel
theorem dX2_cut_7 : decode cX2_cut 7 = .ok (.aload 4, 2) := by decide +kernel
theorem dX2_cut_9 : decode cX2_cut 9 = .ok (.iload_n 2, 1) := by decide +kernel
theorem dX2_cut_10 : decode cX2_cut 10 = .ok (.iload_n 3, 1) := by decide +kernel
theorem dX2_cut_11 : decode cX2_cut 11 = .ok (.invokestatic 72, 3) := by decide +kernel
theorem dX2_cut_14 : decode cX2_cut 14 = .ok (.aload 4, 2) := by decide +kernel
theorem dX2_cut_16 : decode cX2_cut 16 = .ok (.iload_n 2, 1) := by decide +kernel
theorem dX2_cut_17 : decode cX2_cut 17 = .ok (.iload_n 3, 1) := by decide +kernel
theorem dX2_cut_18 : decode cX2_cut 18 = .ok (.invokevirtual 86, 3) := by decide +kernel
theorem dX2_cut_21 : decode cX2_cut 21 = .ok (.aload 4, 2) := by decide +kernel
theorem dX2_cut_23 : decode cX2_cut 23 = .ok (.getfield 53, 3) := by decide +kernel
theorem dX2_cut_26 : decode cX2_cut 26 = .ok (.ireturn, 1) := by decide +kernel
theorem dX2_size_0 : decode cX2_size 0 = .ok (.aload_n 0, 1) := by decide +kernel
theorem dX2_size_1 : decode cX2_size 1 = .ok (.iload_n 1, 1) := by decide +kernel
theorem dX2_size_2 : decode cX2_size 2 = .ok (.invokevirtual 38, 3) := by decide +kernel
theorem dX2_size_5 : decode cX2_size 5 = .ok (.getfield 53, 3) := by decide +kernel
theorem dX2_size_8 : decode cX2_size 8 = .ok (.ireturn, 1) := by decide +kernel
theorem dX2_at_0 : decode cX2_at 0 = .ok (.aload_n 0, 1) := by decide +kernel
theorem dX2_at_1 : decode cX2_at 1 = .ok (.iload_n 1, 1) := by decide +kernel
theorem dX2_at_2 : decode cX2_at 2 = .ok (.invokevirtual 38, 3) := by decide +kernel
theorem dX2_at_5 : decode cX2_at 5 = .ok (.astore_n 3, 1) := by decide +kernel
theorem dX2_at_6 : decode cX2_at 6 = .ok (.aload_n 3, 1) := by decide +kernel
theorem dX2_at_7 : decode cX2_at 7 = .ok (.iload_n 2, 1) := by decide +kernel
theorem dX2_at_8 : decode cX2_at 8 = .ok (.invokestatic 80, 3) := by decide +kernel
theorem dX2_at_11 : decode cX2_at 11 = .ok (.aload_n 3, 1) := by decide +kernel
theorem dX2_at_12 : decode cX2_at 12 = .ok (.getfield 83, 3) := by decide +kernel
theorem dX2_at_15 : decode cX2_at 15 = .ok (.iload_n 2, 1) := by decide +kernel
theorem dX2_at_16 : decode cX2_at 16 = .ok (.iaload, 1) := by decide +kernel
theorem dX2_at_17 : decode cX2_at 17 = .ok (.ireturn, 1) := by decide +kernel
theorem dX2_digest_0 : decode cX2_digest 0 = .ok (.aload_n 0, 1) := by decide +kernel
theorem dX2_digest_1 : decode cX2_digest 1 = .ok (.iload_n 1, 1) := by decide +kernel
theorem dX2_digest_2 : decode cX2_digest 2 = .ok (.invokevirtual 38, 3) := by decide +kernel
theorem dX2_digest_5 : decode cX2_digest 5 = .ok (.astore_n 2, 1) := by decide +kernel
theorem dX2_digest_6 : decode cX2_digest 6 = .ok (.bipush 7, 2) := by decide +kernel
theorem dX2_digest_8 : decode cX2_digest 8 = .ok (.istore_n 3, 1) := by decide +kernel
theorem dX2_digest_9 : decode cX2_digest 9 = .ok (.iconst 0, 1) := by decide +kernel
theorem dX2_digest_10 : decode cX2_digest 10 = .ok (.istore 4, 2) := by decide +kernel
theorem dX2_digest_12 : decode cX2_digest 12 = .ok (.iload 4, 2) := by decide +kernel
theorem dX2_digest_14 : decode cX2_digest 14 = .ok (.aload_n 2, 1) := by decide +kernel
theorem dX2_digest_15 : decode cX2_digest 15 = .ok (.getfield 53, 3) := by decide +kernel
theorem dX2_digest_18 : decode cX2_digest 18 = .ok (.if_icmp .ge 22, 3) := by decide +kernel
theorem dX2_digest_21 : decode cX2_digest 21 = .ok (.iload_n 3, 1) := by decide +kernel
theorem dX2_digest_22 : decode cX2_digest 22 = .ok (.bipush 31, 2) := by decide +kernel
theorem dX2_digest_24 : decode cX2_digest 24 = .ok (.imul, 1) := by decide +kernel
theorem dX2_digest_25 : decode cX2_digest 25 = .ok (.aload_n 2, 1) := by decide +kernel
theorem dX2_digest_26 : decode cX2_digest 26 = .ok (.getfield 83, 3) := by decide +kernel
theorem dX2_digest_29 : decode cX2_digest 29 = .ok (.iload 4, 2) := by decide +kernel
theorem dX2_digest_31 : decode cX2_digest 31 = .ok (.iaload, 1) := by decide +kernel
theorem dX2_digest_32 : decode cX2_digest 32 = .ok (.iadd, 1) := by decide +kernel
theorem dX2_digest_33 : decode cX2_digest 33 = .ok (.istore_n 3, 1) := by decide +kernel
theorem dX2_digest_34 : decode cX2_digest 34 = .ok (.iinc 4 1, 3) := by decide +kernel
theorem dX2_digest_37 : decode cX2_digest 37 = .ok (.goto (-25), 3) := by decide +kernel
theorem dX2_digest_40 : decode cX2_digest 40 = .ok (.iload_n 3, 1) := by decide +kernel
theorem dX2_digest_41 : decode cX2_digest 41 = .ok (.ireturn, 1) := by decide +kernel
theorem dX2_setRank_0 : decode cX2_setRank 0 = .ok (.iload_n 1, 1) := by decide +kernel
theorem dX2_setRank_1 : decode cX2_setRank 1 = .ok (.invokestatic 42, 3) := by decide +kernel
theorem dX2_setRank_4 : decode cX2_setRank 4 = .ok (.iload_n 2, 1) := by decide +kernel
theorem dX2_setRank_5 : decode cX2_setRank 5 = .ok (.bipush (-9), 2) := by decide +kernel
theorem dX2_setRank_7 : decode cX2_setRank 7 = .ok (.bipush 9, 2) := by decide +kernel
theorem dX2_setRank_9 : decode cX2_setRank 9 = .ok (.invokestatic 60, 3) := by decide +kernel
theorem dX2_setRank_12 : decode cX2_setRank 12 = .ok (.aload_n 0, 1) := by decide +kernel
theorem dX2_setRank_13 : decode cX2_setRank 13 = .ok (.getfield 18, 3) := by decide +kernel
theorem dX2_setRank_16 : decode cX2_setRank 16 = .ok (.iload_n 1, 1) := by decide +kernel
theorem dX2_setRank_17 : decode cX2_setRank 17 = .ok (.iaload, 1) := by decide +kernel
theorem dX2_setRank_18 : decode cX2_setRank 18 = .ok (.istore_n 3, 1) := by decide +kernel
theorem dX2_setRank_19 : decode cX2_setRank 19 = .ok (.aload_n 0, 1) := by decide +kernel
theorem dX2_setRank_20 : decode cX2_setRank 20 = .ok (.getfield 18, 3) := by decide +kernel
theorem dX2_setRank_23 : decode cX2_setRank 23 = .ok (.iload_n 1, 1) := by decide +kernel
theorem dX2_setRank_24 : decode cX2_setRank 24 = .ok (.iload_n 2, 1) := by decide +kernel
theorem dX2_setRank_25 : decode cX2_setRank 25 = .ok (.iastore, 1) := by decide +kernel
theorem dX2_setRank_26 : decode cX2_setRank 26 = .ok (.iload_n 3, 1) := by decide +kernel
theorem dX2_setRank_27 : decode cX2_setRank 27 = .ok (.ireturn, 1) := by decide +kernel
theorem dX2_say_0 : decode cX2_say 0 = .ok (.aload_n 0, 1) := by decide +kernel
theorem dX2_say_1 : decode cX2_say 1 = .ok (.iload_n 1, 1) := by decide +kernel
theorem dX2_say_2 : decode cX2_say 2 = .ok (.invokevirtual 89, 3) := by decide +kernel
theorem dX2_say_5 : decode cX2_say 5 = .ok (.astore_n 3, 1) := by decide +kernel
theorem dX2_say_6 : decode cX2_say 6 = .ok (.iload_n 2, 1) := by decide +kernel
theorem dX2_say_7 : decode cX2_say 7 = .ok (.invokestatic 42, 3) := by decide +kernel
theorem dX2_say_10 : decode cX2_say 10 = .ok (.aload_n 3, 1) := by decide +kernel
theorem dX2_say_11 : decode cX2_say 11 = .ok (.iconst 1, 1) := by decide +kernel
theorem dX2_say_12 : decode cX2_say 12 = .ok (.invokestatic 46, 3) := by decide +kernel
theorem dX2_say_15 : decode cX2_say 15 = .ok (.aload_n 3, 1) := by decide +kernel
theorem dX2_say_16 : decode cX2_say 16 = .ok (.iload_n 2, 1) := by decide +kernel
theorem dX2_say_17 : decode cX2_say 17 = .ok (.invokevirtual 50, 3) := by decide +kernel
theorem dX2_say_20 : decode cX2_say 20 = .ok (.aload_n 3, 1) := by decide +kernel
theorem dX2_say_21 : decode cX2_say 21 = .ok (.getfield 53, 3) := by decide +kernel
theorem dX2_say_24 : decode cX2_say 24 = .ok (.ireturn, 1) := by decide +kernel
theorem dX2_quote_0 : decode cX2_quote 0 = .ok (.aload_n 0, 1) := by decide +kernel
theorem dX2_quote_1 : decode cX2_quote 1 = .ok (.iload_n 1, 1) := by decide +kernel
theorem dX2_quote_2 : decode cX2_quote 2 = .ok (.invokevirtual 89, 3) := by decide +kernel
theorem dX2_quote_5 : decode cX2_quote 5 = .ok (.astore 5, 2) := by decide +kernel
theorem dX2_quote_7 : decode cX2_quote 7 = .ok (.aload_n 0, 1) := by decide +kernel
theorem dX2_quote_8 : decode cX2_quote 8 = .ok (.iload_n 2, 1) := by decide +kernel
theorem dX2_quote_9 : decode cX2_quote 9 = .ok (.invokevirtual 38, 3) := by decide +kernel
theorem dX2_quote_12 : decode cX2_quote 12 = .ok (.astore 6, 2) := by decide +kernel
theorem dX2_quote_14 : decode cX2_quote 14 = .ok (.aload 6, 2) := by decide +kernel
theorem dX2_quote_16 : decode cX2_quote 16 = .ok (.iload_n 3, 1) := by decide +kernel
theorem dX2_quote_17 : decode cX2_quote 17 = .ok (.iload 4, 2) := by decide +kernel
theorem dX2_quote_19 : decode cX2_quote 19 = .ok (.invokestatic 72, 3) := by decide +kernel
theorem dX2_quote_22 : decode cX2_quote 22 = .ok (.iload 4, 2) := by decide +kernel
theorem dX2_quote_24 : decode cX2_quote 24 = .ok (.iload_n 3, 1) := by decide +kernel
theorem dX2_quote_25 : decode cX2_quote 25 = .ok (.isub, 1) := by decide +kernel
theorem dX2_quote_26 : decode cX2_quote 26 = .ok (.bipush 12, 2) := by decide +kernel
theorem dX2_quote_28 : decode cX2_quote 28 = .ok (.if_icmp .le 13, 3) := by decide +kernel
theorem dX2_quote_31 : decode cX2_quote 31 = .ok (.new 92, 3) := by decide +kernel
theorem dX2_quote_34 : decode cX2_quote 34 = .ok (.dup, 1) := by decide +kernel
theorem dX2_quote_35 : decode cX2_quote 35 = .ok (.ldc 94, 2) := by decide +kernel
theorem dX2_quote_37 : decode cX2_quote 37 = .ok (.invokespecial 96, 3) := by decide +kernel
theorem dX2_quote_40 : decode cX2_quote 40 = .ok (.athrow, 1) := by decide +kernel
theorem dX2_quote_41 : decode cX2_quote 41 = .ok (.aload 5, 2) := by decide +kernel
theorem dX2_quote_43 : decode cX2_quote 43 = .ok (.iconst 0, 1) := by decide +kernel
theorem dX2_quote_44 : decode cX2_quote 44 = .ok (.putfield 53, 3) := by decide +kernel
theorem dX2_quote_47 : decode cX2_quote 47 = .ok (.iload_n 3, 1) := by decide +kernel
theorem dX2_quote_48 : decode cX2_quote 48 = .ok (.istore 7, 2) := by decide +kernel
theorem dX2_quote_50 : decode cX2_quote 50 = .ok (.iload 7, 2) := by decide +kernel
theorem dX2_quote_52 : decode cX2_quote 52 = .ok (.iload 4, 2) := by decide +kernel
theorem dX2_quote_54 : decode cX2_quote 54 = .ok (.if_icmp .ge 22, 3) := by decide +kernel
theorem dX2_quote_57 : decode cX2_quote 57 = .ok (.aload 5, 2) := by decide +kernel
theorem dX2_quote_59 : decode cX2_quote 59 = .ok (.aload 6, 2) := by decide +kernel
theorem dX2_quote_61 : decode cX2_quote 61 = .ok (.getfield 83, 3) := by decide +kernel
theorem dX2_quote_64 : decode cX2_quote 64 = .ok (.iload 7, 2) := by decide +kernel
theorem dX2_quote_66 : decode cX2_quote 66 = .ok (.iaload, 1) := by decide +kernel
theorem dX2_quote_67 : decode cX2_quote 67 = .ok (.invokevirtual 50, 3) := by decide +kernel
theorem dX2_quote_70 : decode cX2_quote 70 = .ok (.iinc 7 1, 3) := by decide +kernel
theorem dX2_quote_73 : decode cX2_quote 73 = .ok (.goto (-23), 3) := by decide +kernel
theorem dX2_quote_76 : decode cX2_quote 76 = .ok (.aload 5, 2) := by decide +kernel
theorem dX2_quote_78 : decode cX2_quote 78 = .ok (.getfield 53, 3) := by decide +kernel
theorem dX2_quote_81 : decode cX2_quote 81 = .ok (.ireturn, 1) := by decide +kernel
theorem dX2_hush_0 : decode cX2_hush 0 = .ok (.aload_n 0, 1) := by decide +kernel
theorem dX2_hush_1 : decode cX2_hush 1 = .ok (.iload_n 1, 1) := by decide +kernel
theorem dX2_hush_2 : decode cX2_hush 2 = .ok (.invokevirtual 89, 3) := by decide +kernel
theorem dX2_hush_5 : decode cX2_hush 5 = .ok (.astore_n 2, 1) := by decide +kernel
theorem dX2_hush_6 : decode cX2_hush 6 = .ok (.aload_n 2, 1) := by decide +kernel
theorem dX2_hush_7 : decode cX2_hush 7 = .ok (.getfield 53, 3) := by decide +kernel
theorem dX2_hush_10 : decode cX2_hush 10 = .ok (.istore_n 3, 1) := by decide +kernel
theorem dX2_hush_11 : decode cX2_hush 11 = .ok (.aload_n 2, 1) := by decide +kernel
theorem dX2_hush_12 : decode cX2_hush 12 = .ok (.iconst 0, 1) := by decide +kernel
theorem dX2_hush_13 : decode cX2_hush 13 = .ok (.putfield 53, 3) := by decide +kernel
theorem dX2_hush_16 : decode cX2_hush 16 = .ok (.iload_n 3, 1) := by decide +kernel
theorem dX2_hush_17 : decode cX2_hush 17 = .ok (.ireturn, 1) := by decide +kernel
theorem dX2_wordOf_0 : decode cX2_wordOf 0 = .ok (.aload_n 0, 1) := by decide +kernel
theorem dX2_wordOf_1 : decode cX2_wordOf 1 = .ok (.iload_n 1, 1) := by decide +kernel
theorem dX2_wordOf_2 : decode cX2_wordOf 2 = .ok (.invokevirtual 89, 3) := by decide +kernel
theorem dX2_wordOf_5 : decode cX2_wordOf 5 = .ok (.astore_n 3, 1) := by decide +kernel
theorem dX2_wordOf_6 : decode cX2_wordOf 6 = .ok (.aload_n 3, 1) := by decide +kernel
theorem dX2_wordOf_7 : decode cX2_wordOf 7 = .ok (.iload_n 2, 1) := by decide +kernel
theorem dX2_wordOf_8 : decode cX2_wordOf 8 = .ok (.invokestatic 80, 3) := by decide +kernel
theorem dX2_wordOf_11 : decode cX2_wordOf 11 = .ok (.aload_n 3, 1) := by decide +kernel
theorem dX2_wordOf_12 : decode cX2_wordOf 12 = .ok (.getfield 83, 3) := by decide +kernel
theorem dX2_wordOf_15 : decode cX2_wordOf 15 = .ok (.iload_n 2, 1) := by decide +kernel
theorem dX2_wordOf_16 : decode cX2_wordOf 16 = .ok (.iaload, 1) := by decide +kernel
theorem dX2_wordOf_17 : decode cX2_wordOf 17 = .ok (.ireturn, 1) := by decide +kernel
theorem dX2_find_0 : decode cX2_find 0 = .ok (.aload_n 0, 1) := by decide +kernel
theorem dX2_find_1 : decode cX2_find 1 = .ok (.iload_n 1, 1) := by decide +kernel
theorem dX2_find_2 : decode cX2_find 2 = .ok (.invokevirtual 38, 3) := by decide +kernel
theorem dX2_find_5 : decode cX2_find 5 = .ok (.astore_n 2, 1) := by decide +kernel
theorem dX2_find_6 : decode cX2_find 6 = .ok (.aload_n 2, 1) := by decide +kernel
theorem dX2_find_7 : decode cX2_find 7 = .ok (.aload_n 0, 1) := by decide +kernel
theorem dX2_find_8 : decode cX2_find 8 = .ok (.getfield 15, 3) := by decide +kernel
theorem dX2_find_11 : decode cX2_find 11 = .ok (.iconst 0, 1) := by decide +kernel
theorem dX2_find_12 : decode cX2_find 12 = .ok (.aaload, 1) := by decide +kernel
theorem dX2_find_13 : decode cX2_find 13 = .ok (.iconst 0, 1) := by decide +kernel
theorem dX2_find_14 : decode cX2_find 14 = .ok (.aload_n 2, 1) := by decide +kernel
theorem dX2_find_15 : decode cX2_find 15 = .ok (.getfield 53, 3) := by decide +kernel
theorem dX2_find_18 : decode cX2_find 18 = .ok (.invokevirtual 99, 3) := by decide +kernel
theorem dX2_find_21 : decode cX2_find 21 = .ok (.ireturn, 1) := by decide +kernel
theorem dX2_findLast_0 : decode cX2_findLast 0 = .ok (.aload_n 0, 1) := by decide +kernel
theorem dX2_findLast_1 : decode cX2_findLast 1 = .ok (.iload_n 1, 1) := by decide +kernel
theorem dX2_findLast_2 : decode cX2_findLast 2 = .ok (.invokevirtual 38, 3) := by decide +kernel
theorem dX2_findLast_5 : decode cX2_findLast 5 = .ok (.aload_n 0, 1) := by decide +kernel
theorem dX2_findLast_6 : decode cX2_findLast 6 = .ok (.getfield 15, 3) := by decide +kernel
theorem dX2_findLast_9 : decode cX2_findLast 9 = .ok (.iconst 0, 1) := by decide +kernel
theorem dX2_findLast_10 : decode cX2_findLast 10 = .ok (.aaload, 1) := by decide +kernel
theorem dX2_findLast_11 : decode cX2_findLast 11 = .ok (.invokevirtual 103, 3) := by decide +kernel
theorem dX2_findLast_14 : decode cX2_findLast 14 = .ok (.ireturn, 1) := by decide +kernel
theorem dX2_findIn_0 : decode cX2_findIn 0 = .ok (.aload_n 0, 1) := by decide +kernel
theorem dX2_findIn_1 : decode cX2_findIn 1 = .ok (.iload_n 1, 1) := by decide +kernel
theorem dX2_findIn_2 : decode cX2_findIn 2 = .ok (.invokevirtual 38, 3) := by decide +kernel
theorem dX2_findIn_5 : decode cX2_findIn 5 = .ok (.astore 4, 2) := by decide +kernel
theorem dX2_findIn_7 : decode cX2_findIn 7 = .ok (.aload 4, 2) := by decide +kernel
theorem dX2_findIn_9 : decode cX2_findIn 9 = .ok (.iload_n 2, 1) := by decide +kernel
theorem dX2_findIn_10 : decode cX2_findIn 10 = .ok (.iload_n 3, 1) := by decide +kernel
theorem dX2_findIn_11 : decode cX2_findIn 11 = .ok (.invokestatic 72, 3) := by decide +kernel
theorem dX2_findIn_14 : decode cX2_findIn 14 = .ok (.aload 4, 2) := by decide +kernel
theorem dX2_findIn_16 : decode cX2_findIn 16 = .ok (.aload_n 0, 1) := by decide +kernel
theorem dX2_findIn_17 : decode cX2_findIn 17 = .ok (.getfield 15, 3) := by decide +kernel
theorem dX2_findIn_20 : decode cX2_findIn 20 = .ok (.iconst 0, 1) := by decide +kernel
theorem dX2_findIn_21 : decode cX2_findIn 21 = .ok (.aaload, 1) := by decide +kernel
theorem dX2_findIn_22 : decode cX2_findIn 22 = .ok (.iload_n 2, 1) := by decide +kernel
theorem dX2_findIn_23 : decode cX2_findIn 23 = .ok (.iload_n 3, 1) := by decide +kernel
theorem dX2_findIn_24 : decode cX2_findIn 24 = .ok (.invokevirtual 99, 3) := by decide +kernel
theorem dX2_findIn_27 : decode cX2_findIn 27 = .ok (.ireturn, 1) := by decide +kernel
theorem dX2_count_0 : decode cX2_count 0 = .ok (.aload_n 0, 1) := by decide +kernel
theorem dX2_count_1 : decode cX2_count 1 = .ok (.iload_n 1, 1) := by decide +kernel
theorem dX2_count_2 : decode cX2_count 2 = .ok (.invokevirtual 38, 3) := by decide +kernel
theorem dX2_count_5 : decode cX2_count 5 = .ok (.astore_n 3, 1) := by decide +kernel
theorem dX2_count_6 : decode cX2_count 6 = .ok (.aload_n 0, 1) := by decide +kernel
theorem dX2_count_7 : decode cX2_count 7 = .ok (.getfield 15, 3) := by decide +kernel
theorem dX2_count_10 : decode cX2_count 10 = .ok (.iconst 0, 1) := by decide +kernel
theorem dX2_count_11 : decode cX2_count 11 = .ok (.aaload, 1) := by decide +kernel
theorem dX2_count_12 : decode cX2_count 12 = .ok (.astore 4, 2) := by decide +kernel
theorem dX2_count_14 : decode cX2_count 14 = .ok (.iload_n 2, 1) := by decide +kernel
theorem dX2_count_15 : decode cX2_count 15 = .ok (.ifCond .eq 12, 3) := by decide +kernel
theorem dX2_count_18 : decode cX2_count 18 = .ok (.aload_n 3, 1) := by decide +kernel
theorem dX2_count_19 : decode cX2_count 19 = .ok (.aload 4, 2) := by decide +kernel
theorem dX2_count_21 : decode cX2_count 21 = .ok (.invokevirtual 107, 3) := by decide +kernel
theorem dX2_count_24 : decode cX2_count 24 = .ok (.goto 9, 3) := by decide +kernel
theorem dX2_count_27 : decode cX2_count 27 = .ok (.aload_n 3, 1) := by decide +kernel
theorem dX2_count_28 : decode cX2_count 28 = .ok (.aload 4, 2) := by decide +kernel
theorem dX2_count_30 : decode cX2_count 30 = .ok (.invokevirtual 110, 3) := by decide +kernel
theorem dX2_count_33 : decode cX2_count 33 = .ok (.ireturn, 1) := by decide +kernel
theorem dX2_replace_0 : decode cX2_replace 0 = .ok (.aload_n 0, 1) := by decide +kernel
theorem dX2_replace_1 : decode cX2_replace 1 = .ok (.iload_n 1, 1) := by decide +kernel
theorem dX2_replace_2 : decode cX2_replace 2 = .ok (.invokevirtual 38, 3) := by decide +kernel
theorem dX2_replace_5 : decode cX2_replace 5 = .ok (.astore_n 2, 1) := by decide +kernel
theorem dX2_replace_6 : decode cX2_replace 6 = .ok (.aload_n 0, 1) := by decide +kernel
theorem dX2_replace_7 : decode cX2_replace 7 = .ok (.getfield 15, 3) := by decide +kernel
theorem dX2_replace_10 : decode cX2_replace 10 = .ok (.iconst 0, 1) := by decide +kernel
theorem dX2_replace_11 : decode cX2_replace 11 = .ok (.aaload, 1) := by decide +kernel
theorem dX2_replace_12 : decode cX2_replace 12 = .ok (.astore_n 3, 1) := by decide +kernel
theorem dX2_replace_13 : decode cX2_replace 13 = .ok (.aload_n 3, 1) := by decide +kernel
theorem dX2_replace_14 : decode cX2_replace 14 = .ok (.getfield 53, 3) := by decide +kernel
theorem dX2_replace_17 : decode cX2_replace 17 = .ok (.ifCond .ne 13, 3) := by decide +kernel
theorem dX2_replace_20 : decode cX2_replace 20 = .ok (.new 92, 3) := by decide +kernel
theorem dX2_replace_23 : decode cX2_replace 23 = .ok (.dup, 1) := by decide +kernel
theorem dX2_replace_24 : decode cX2_replace 24 = .ok (.ldc 113, 2) := by decide +kernel
theorem dX2_replace_26 : decode cX2_replace 26 = .ok (.invokespecial 96, 3) := by decide +kernel
theorem dX2_replace_29 : decode cX2_replace 29 = .ok (.athrow, 1) := by decide +kernel
theorem dX2_replace_30 : decode cX2_replace 30 = .ok (.aload_n 2, 1) := by decide +kernel
theorem dX2_replace_31 : decode cX2_replace 31 = .ok (.aload_n 3, 1) := by decide +kernel
theorem dX2_replace_32 : decode cX2_replace 32 = .ok (.invokevirtual 107, 3) := by decide +kernel
theorem dX2_replace_35 : decode cX2_replace 35 = .ok (.istore 4, 2) := by decide +kernel
theorem dX2_replace_37 : decode cX2_replace 37 = .ok (.aload_n 2, 1) := by decide +kernel
theorem dX2_replace_38 : decode cX2_replace 38 = .ok (.iload 4, 2) := by decide +kernel
theorem dX2_replace_40 : decode cX2_replace 40 = .ok (.aload_n 0, 1) := by decide +kernel
theorem dX2_replace_41 : decode cX2_replace 41 = .ok (.getfield 15, 3) := by decide +kernel
theorem dX2_replace_44 : decode cX2_replace 44 = .ok (.iconst 1, 1) := by decide +kernel
theorem dX2_replace_45 : decode cX2_replace 45 = .ok (.aaload, 1) := by decide +kernel
theorem dX2_replace_46 : decode cX2_replace 46 = .ok (.getfield 53, 3) := by decide +kernel
theorem dX2_replace_49 : decode cX2_replace 49 = .ok (.aload_n 3, 1) := by decide +kernel
theorem dX2_replace_50 : decode cX2_replace 50 = .ok (.getfield 53, 3) := by decide +kernel
theorem dX2_replace_53 : decode cX2_replace 53 = .ok (.isub, 1) := by decide +kernel
theorem dX2_replace_54 : decode cX2_replace 54 = .ok (.imul, 1) := by decide +kernel
theorem dX2_replace_55 : decode cX2_replace 55 = .ok (.invokestatic 46, 3) := by decide +kernel
theorem dX2_replace_58 : decode cX2_replace 58 = .ok (.aload_n 0, 1) := by decide +kernel
theorem dX2_replace_59 : decode cX2_replace 59 = .ok (.aload_n 2, 1) := by decide +kernel
theorem dX2_replace_60 : decode cX2_replace 60 = .ok (.invokevirtual 115, 3) := by decide +kernel
theorem dX2_replace_63 : decode cX2_replace 63 = .ok (.aload_n 2, 1) := by decide +kernel
theorem dX2_replace_64 : decode cX2_replace 64 = .ok (.aload_n 0, 1) := by decide +kernel
theorem dX2_replace_65 : decode cX2_replace 65 = .ok (.getfield 25, 3) := by decide +kernel
theorem dX2_replace_68 : decode cX2_replace 68 = .ok (.invokevirtual 119, 3) := by decide +kernel
theorem dX2_replace_71 : decode cX2_replace 71 = .ok (.iload 4, 2) := by decide +kernel
theorem dX2_replace_73 : decode cX2_replace 73 = .ok (.ireturn, 1) := by decide +kernel
theorem dX2_draftReplaced_0 : decode cX2_draftReplaced 0 = .ok (.aload_n 0, 1) := by decide +kernel
theorem dX2_draftReplaced_1 : decode cX2_draftReplaced 1 = .ok (.getfield 15, 3) := by decide +kernel
theorem dX2_draftReplaced_4 : decode cX2_draftReplaced 4 = .ok (.iconst 0, 1) := by decide +kernel
theorem dX2_draftReplaced_5 : decode cX2_draftReplaced 5 = .ok (.aaload, 1) := by decide +kernel
theorem dX2_draftReplaced_6 : decode cX2_draftReplaced 6 = .ok (.astore_n 2, 1) := by decide +kernel
theorem dX2_draftReplaced_7 : decode cX2_draftReplaced 7 = .ok (.aload_n 0, 1) := by decide +kernel
theorem dX2_draftReplaced_8 : decode cX2_draftReplaced 8 = .ok (.getfield 15, 3) := by decide +kernel
theorem dX2_draftReplaced_11 : decode cX2_draftReplaced 11 = .ok (.iconst 1, 1) := by decide +kernel
theorem dX2_draftReplaced_12 : decode cX2_draftReplaced 12 = .ok (.aaload, 1) := by decide +kernel
theorem dX2_draftReplaced_13 : decode cX2_draftReplaced 13 = .ok (.astore_n 3, 1) := by decide +kernel
theorem dX2_draftReplaced_14 : decode cX2_draftReplaced 14 = .ok (.iconst 0, 1) := by decide +kernel
theorem dX2_draftReplaced_15 : decode cX2_draftReplaced 15 = .ok (.istore 4, 2) := by decide +kernel
theorem dX2_draftReplaced_17 : decode cX2_draftReplaced 17 = .ok (.aload_n 0, 1) := by decide +kernel
theorem dX2_draftReplaced_18 : decode cX2_draftReplaced 18 = .ok (.getfield 25, 3) := by decide +kernel
theorem dX2_draftReplaced_21 : decode cX2_draftReplaced 21 = .ok (.iconst 0, 1) := by decide +kernel
theorem dX2_draftReplaced_22 : decode cX2_draftReplaced 22 = .ok (.putfield 53, 3) := by decide +kernel
theorem dX2_draftReplaced_25 : decode cX2_draftReplaced 25 = .ok (.iconst 0, 1) := by decide +kernel
theorem dX2_draftReplaced_26 : decode cX2_draftReplaced 26 = .ok (.istore 5, 2) := by decide +kernel
theorem dX2_draftReplaced_28 : decode cX2_draftReplaced 28 = .ok (.iload 5, 2) := by decide +kernel
theorem dX2_draftReplaced_30 : decode cX2_draftReplaced 30 = .ok (.aload_n 1, 1) := by decide +kernel
theorem dX2_draftReplaced_31 : decode cX2_draftReplaced 31 = .ok (.getfield 53, 3) := by decide +kernel
theorem dX2_draftReplaced_34 : decode cX2_draftReplaced 34 = .ok (.if_icmp .ge 63, 3) := by decide +kernel
theorem dX2_draftReplaced_37 : decode cX2_draftReplaced 37 = .ok (.iload 5, 2) := by decide +kernel
theorem dX2_draftReplaced_39 : decode cX2_draftReplaced 39 = .ok (.iload 4, 2) := by decide +kernel
theorem dX2_draftReplaced_41 : decode cX2_draftReplaced 41 = .ok (.if_icmp .ge 6, 3) := by decide +kernel
theorem dX2_draftReplaced_44 : decode cX2_draftReplaced 44 = .ok (.goto 47, 3) := by decide +kernel
theorem dX2_draftReplaced_47 : decode cX2_draftReplaced 47 = .ok (.aload_n 1, 1) := by decide +kernel
theorem dX2_draftReplaced_48 : decode cX2_draftReplaced 48 = .ok (.aload_n 2, 1) := by decide +kernel
theorem dX2_draftReplaced_49 : decode cX2_draftReplaced 49 = .ok (.iload 5, 2) := by decide +kernel
theorem dX2_draftReplaced_51 : decode cX2_draftReplaced 51 = .ok (.invokevirtual 122, 3) := by decide +kernel
theorem dX2_draftReplaced_54 : decode cX2_draftReplaced 54 = .ok (.ifCond .eq 23, 3) := by decide +kernel
theorem dX2_draftReplaced_57 : decode cX2_draftReplaced 57 = .ok (.aload_n 0, 1) := by decide +kernel
theorem dX2_draftReplaced_58 : decode cX2_draftReplaced 58 = .ok (.getfield 25, 3) := by decide +kernel
theorem dX2_draftReplaced_61 : decode cX2_draftReplaced 61 = .ok (.aload_n 3, 1) := by decide +kernel
theorem dX2_draftReplaced_62 : decode cX2_draftReplaced 62 = .ok (.invokevirtual 126, 3) := by decide +kernel
theorem dX2_draftReplaced_65 : decode cX2_draftReplaced 65 = .ok (.iload 5, 2) := by decide +kernel
theorem dX2_draftReplaced_67 : decode cX2_draftReplaced 67 = .ok (.aload_n 2, 1) := by decide +kernel
theorem dX2_draftReplaced_68 : decode cX2_draftReplaced 68 = .ok (.getfield 53, 3) := by decide +kernel
theorem dX2_draftReplaced_71 : decode cX2_draftReplaced 71 = .ok (.iadd, 1) := by decide +kernel
theorem dX2_draftReplaced_72 : decode cX2_draftReplaced 72 = .ok (.istore 4, 2) := by decide +kernel
theorem dX2_draftReplaced_74 : decode cX2_draftReplaced 74 = .ok (.goto 17, 3) := by decide +kernel
theorem dX2_draftReplaced_77 : decode cX2_draftReplaced 77 = .ok (.aload_n 0, 1) := by decide +kernel
theorem dX2_draftReplaced_78 : decode cX2_draftReplaced 78 = .ok (.getfield 25, 3) := by decide +kernel
theorem dX2_draftReplaced_81 : decode cX2_draftReplaced 81 = .ok (.aload_n 1, 1) := by decide +kernel
theorem dX2_draftReplaced_82 : decode cX2_draftReplaced 82 = .ok (.getfield 83, 3) := by decide +kernel
theorem dX2_draftReplaced_85 : decode cX2_draftReplaced 85 = .ok (.iload 5, 2) := by decide +kernel
theorem dX2_draftReplaced_87 : decode cX2_draftReplaced 87 = .ok (.iaload, 1) := by decide +kernel
theorem dX2_draftReplaced_88 : decode cX2_draftReplaced 88 = .ok (.invokevirtual 50, 3) := by decide +kernel
theorem dX2_draftReplaced_91 : decode cX2_draftReplaced 91 = .ok (.iinc 5 1, 3) := by decide +kernel
theorem dX2_draftReplaced_94 : decode cX2_draftReplaced 94 = .ok (.goto (-66), 3) := by decide +kernel
theorem dX2_draftReplaced_97 : decode cX2_draftReplaced 97 = .ok (.return_, 1) := by decide +kernel
theorem dX2_replaceWord_0 : decode cX2_replaceWord 0 = .ok (.aload_n 0, 1) := by decide +kernel
theorem dX2_replaceWord_1 : decode cX2_replaceWord 1 = .ok (.iload_n 1, 1) := by decide +kernel
theorem dX2_replaceWord_2 : decode cX2_replaceWord 2 = .ok (.invokevirtual 38, 3) := by decide +kernel
theorem dX2_replaceWord_5 : decode cX2_replaceWord 5 = .ok (.astore 4, 2) := by decide +kernel
theorem dX2_replaceWord_7 : decode cX2_replaceWord 7 = .ok (.iload_n 2, 1) := by decide +kernel
theorem dX2_replaceWord_8 : decode cX2_replaceWord 8 = .ok (.invokestatic 42, 3) := by decide +kernel
theorem dX2_replaceWord_11 : decode cX2_replaceWord 11 = .ok (.iload_n 3, 1) := by decide +kernel
theorem dX2_replaceWord_12 : decode cX2_replaceWord 12 = .ok (.invokestatic 42, 3) := by decide +kernel
theorem dX2_replaceWord_15 : decode cX2_replaceWord 15 = .ok (.iconst 0, 1) := by decide +kernel
theorem dX2_replaceWord_16 : decode cX2_replaceWord 16 = .ok (.istore 5, 2) := by decide +kernel
theorem dX2_replaceWord_18 : decode cX2_replaceWord 18 = .ok (.iconst 0, 1) := by decide +kernel
theorem dX2_replaceWord_19 : decode cX2_replaceWord 19 = .ok (.istore 6, 2) := by decide +kernel
theorem dX2_replaceWord_21 : decode cX2_replaceWord 21 = .ok (.iload 6, 2) := by decide +kernel
theorem dX2_replaceWord_23 : decode cX2_replaceWord 23 = .ok (.aload 4, 2) := by decide +kernel
theorem dX2_replaceWord_25 : decode cX2_replaceWord 25 = .ok (.getfield 53, 3) := by decide +kernel
theorem dX2_replaceWord_28 : decode cX2_replaceWord 28 = .ok (.if_icmp .ge 33, 3) := by decide +kernel
theorem dX2_replaceWord_31 : decode cX2_replaceWord 31 = .ok (.aload 4, 2) := by decide +kernel
theorem dX2_replaceWord_33 : decode cX2_replaceWord 33 = .ok (.getfield 83, 3) := by decide +kernel
theorem dX2_replaceWord_36 : decode cX2_replaceWord 36 = .ok (.iload 6, 2) := by decide +kernel
theorem dX2_replaceWord_38 : decode cX2_replaceWord 38 = .ok (.iaload, 1) := by decide +kernel
theorem dX2_replaceWord_39 : decode cX2_replaceWord 39 = .ok (.iload_n 2, 1) := by decide +kernel
theorem dX2_replaceWord_40 : decode cX2_replaceWord 40 = .ok (.if_icmp .ne 15, 3) := by decide +kernel
theorem dX2_replaceWord_43 : decode cX2_replaceWord 43 = .ok (.aload 4, 2) := by decide +kernel
theorem dX2_replaceWord_45 : decode cX2_replaceWord 45 = .ok (.getfield 83, 3) := by decide +kernel
theorem dX2_replaceWord_48 : decode cX2_replaceWord 48 = .ok (.iload 6, 2) := by decide +kernel
theorem dX2_replaceWord_50 : decode cX2_replaceWord 50 = .ok (.iload_n 3, 1) := by decide +kernel
theorem dX2_replaceWord_51 : decode cX2_replaceWord 51 = .ok (.iastore, 1) := by decide +kernel
theorem dX2_replaceWord_52 : decode cX2_replaceWord 52 = .ok (.iconst 1, 1) := by decide +kernel
theorem dX2_replaceWord_53 : decode cX2_replaceWord 53 = .ok (.istore 5, 2) := by decide +kernel
theorem dX2_replaceWord_55 : decode cX2_replaceWord 55 = .ok (.iinc 6 1, 3) := by decide +kernel
theorem dX2_replaceWord_58 : decode cX2_replaceWord 58 = .ok (.goto (-37), 3) := by decide +kernel
theorem dX2_replaceWord_61 : decode cX2_replaceWord 61 = .ok (.iload 5, 2) := by decide +kernel
theorem dX2_replaceWord_63 : decode cX2_replaceWord 63 = .ok (.ireturn, 1) := by decide +kernel
theorem dX2_frequency_0 : decode cX2_frequency 0 = .ok (.aload_n 0, 1) := by decide +kernel
theorem dX2_frequency_1 : decode cX2_frequency 1 = .ok (.iload_n 1, 1) := by decide +kernel
theorem dX2_frequency_2 : decode cX2_frequency 2 = .ok (.invokevirtual 38, 3) := by decide +kernel
theorem dX2_frequency_5 : decode cX2_frequency 5 = .ok (.astore_n 3, 1) := by decide +kernel
theorem dX2_frequency_6 : decode cX2_frequency 6 = .ok (.iload_n 2, 1) := by decide +kernel
theorem dX2_frequency_7 : decode cX2_frequency 7 = .ok (.invokestatic 42, 3) := by decide +kernel
theorem dX2_frequency_10 : decode cX2_frequency 10 = .ok (.aload_n 3, 1) := by decide +kernel
theorem dX2_frequency_11 : decode cX2_frequency 11 = .ok (.iload_n 2, 1) := by decide +kernel
theorem dX2_frequency_12 : decode cX2_frequency 12 = .ok (.invokevirtual 129, 3) := by decide +kernel
theorem dX2_frequency_15 : decode cX2_frequency 15 = .ok (.ireturn, 1) := by decide +kernel
theorem dX2_different_0 : decode cX2_different 0 = .ok (.aload_n 0, 1) := by decide +kernel
theorem dX2_different_1 : decode cX2_different 1 = .ok (.iload_n 1, 1) := by decide +kernel
theorem dX2_different_2 : decode cX2_different 2 = .ok (.invokevirtual 38, 3) := by decide +kernel
theorem dX2_different_5 : decode cX2_different 5 = .ok (.astore_n 2, 1) := by decide +kernel
theorem dX2_different_6 : decode cX2_different 6 = .ok (.iconst 0, 1) := by decide +kernel
theorem dX2_different_7 : decode cX2_different 7 = .ok (.istore_n 3, 1) := by decide +kernel
theorem dX2_different_8 : decode cX2_different 8 = .ok (.iconst 0, 1) := by decide +kernel
theorem dX2_different_9 : decode cX2_different 9 = .ok (.istore 4, 2) := by decide +kernel
theorem dX2_different_11 : decode cX2_different 11 = .ok (.iload 4, 2) := by decide +kernel
theorem dX2_different_13 : decode cX2_different 13 = .ok (.aload_n 2, 1) := by decide +kernel
theorem dX2_different_14 : decode cX2_different 14 = .ok (.getfield 53, 3) := by decide +kernel
theorem dX2_different_17 : decode cX2_different 17 = .ok (.if_icmp .ge 21, 3) := by decide +kernel
theorem dX2_different_20 : decode cX2_different 20 = .ok (.aload_n 2, 1) := by decide +kernel
theorem dX2_different_21 : decode cX2_different 21 = .ok (.iload 4, 2) := by decide +kernel
theorem dX2_different_23 : decode cX2_different 23 = .ok (.invokevirtual 133, 3) := by decide +kernel
theorem dX2_different_26 : decode cX2_different 26 = .ok (.ifCond .eq 6, 3) := by decide +kernel
theorem dX2_different_29 : decode cX2_different 29 = .ok (.iinc 3 1, 3) := by decide +kernel
theorem dX2_different_32 : decode cX2_different 32 = .ok (.iinc 4 1, 3) := by decide +kernel
theorem dX2_different_35 : decode cX2_different 35 = .ok (.goto (-24), 3) := by decide +kernel
theorem dX2_different_38 : decode cX2_different 38 = .ok (.iload_n 3, 1) := by decide +kernel
theorem dX2_different_39 : decode cX2_different 39 = .ok (.ireturn, 1) := by decide +kernel
theorem dX2_most_0 : decode cX2_most 0 = .ok (.aload_n 0, 1) := by decide +kernel
theorem dX2_most_1 : decode cX2_most 1 = .ok (.iload_n 1, 1) := by decide +kernel
theorem dX2_most_2 : decode cX2_most 2 = .ok (.invokevirtual 38, 3) := by decide +kernel
theorem dX2_most_5 : decode cX2_most 5 = .ok (.astore_n 2, 1) := by decide +kernel
theorem dX2_most_6 : decode cX2_most 6 = .ok (.aload_n 2, 1) := by decide +kernel
theorem dX2_most_7 : decode cX2_most 7 = .ok (.invokestatic 137, 3) := by decide +kernel
theorem dX2_most_10 : decode cX2_most 10 = .ok (.iconst (-1), 1) := by decide +kernel
theorem dX2_most_11 : decode cX2_most 11 = .ok (.istore_n 3, 1) := by decide +kernel
theorem dX2_most_12 : decode cX2_most 12 = .ok (.iconst 0, 1) := by decide +kernel
theorem dX2_most_13 : decode cX2_most 13 = .ok (.istore 4, 2) := by decide +kernel
theorem dX2_most_15 : decode cX2_most 15 = .ok (.iconst 0, 1) := by decide +kernel
theorem dX2_most_16 : decode cX2_most 16 = .ok (.istore 5, 2) := by decide +kernel
theorem dX2_most_18 : decode cX2_most 18 = .ok (.iload 5, 2) := by decide +kernel
theorem dX2_most_20 : decode cX2_most 20 = .ok (.aload_n 2, 1) := by decide +kernel
theorem dX2_most_21 : decode cX2_most 21 = .ok (.getfield 53, 3) := by decide +kernel
theorem dX2_most_24 : decode cX2_most 24 = .ok (.if_icmp .ge 53, 3) := by decide +kernel
theorem dX2_most_27 : decode cX2_most 27 = .ok (.aload_n 2, 1) := by decide +kernel
theorem dX2_most_28 : decode cX2_most 28 = .ok (.getfield 83, 3) := by decide +kernel
theorem dX2_most_31 : decode cX2_most 31 = .ok (.iload 5, 2) := by decide +kernel
theorem dX2_most_33 : decode cX2_most 33 = .ok (.iaload, 1) := by decide +kernel
theorem dX2_most_34 : decode cX2_most 34 = .ok (.istore 6, 2) := by decide +kernel
theorem dX2_most_36 : decode cX2_most 36 = .ok (.aload_n 2, 1) := by decide +kernel
theorem dX2_most_37 : decode cX2_most 37 = .ok (.iload 6, 2) := by decide +kernel
theorem dX2_most_39 : decode cX2_most 39 = .ok (.invokevirtual 129, 3) := by decide +kernel
theorem dX2_most_42 : decode cX2_most 42 = .ok (.istore 7, 2) := by decide +kernel
theorem dX2_most_44 : decode cX2_most 44 = .ok (.iload 7, 2) := by decide +kernel
theorem dX2_most_46 : decode cX2_most 46 = .ok (.iload 4, 2) := by decide +kernel
theorem dX2_most_48 : decode cX2_most 48 = .ok (.if_icmp .gt 16, 3) := by decide +kernel
theorem dX2_most_51 : decode cX2_most 51 = .ok (.iload 7, 2) := by decide +kernel
theorem dX2_most_53 : decode cX2_most 53 = .ok (.iload 4, 2) := by decide +kernel
theorem dX2_most_55 : decode cX2_most 55 = .ok (.if_icmp .ne 16, 3) := by decide +kernel
theorem dX2_most_58 : decode cX2_most 58 = .ok (.iload 6, 2) := by decide +kernel
theorem dX2_most_60 : decode cX2_most 60 = .ok (.iload_n 3, 1) := by decide +kernel
theorem dX2_most_61 : decode cX2_most 61 = .ok (.if_icmp .ge 10, 3) := by decide +kernel
theorem dX2_most_64 : decode cX2_most 64 = .ok (.iload 6, 2) := by decide +kernel
theorem dX2_most_66 : decode cX2_most 66 = .ok (.istore_n 3, 1) := by decide +kernel
theorem dX2_most_67 : decode cX2_most 67 = .ok (.iload 7, 2) := by decide +kernel
theorem dX2_most_69 : decode cX2_most 69 = .ok (.istore 4, 2) := by decide +kernel
theorem dX2_most_71 : decode cX2_most 71 = .ok (.iinc 5 1, 3) := by decide +kernel
theorem dX2_most_74 : decode cX2_most 74 = .ok (.goto (-56), 3) := by decide +kernel
theorem dX2_most_77 : decode cX2_most 77 = .ok (.iload_n 3, 1) := by decide +kernel
theorem dX2_most_78 : decode cX2_most 78 = .ok (.ireturn, 1) := by decide +kernel
theorem dX2_isApart_0 : decode cX2_isApart 0 = .ok (.aload_n 0, 1) := by decide +kernel
theorem dX2_isApart_1 : decode cX2_isApart 1 = .ok (.iload_n 1, 1) := by decide +kernel
theorem dX2_isApart_2 : decode cX2_isApart 2 = .ok (.invokevirtual 38, 3) := by decide +kernel
theorem dX2_isApart_5 : decode cX2_isApart 5 = .ok (.astore_n 3, 1) := by decide +kernel
theorem dX2_isApart_6 : decode cX2_isApart 6 = .ok (.aload_n 0, 1) := by decide +kernel
theorem dX2_isApart_7 : decode cX2_isApart 7 = .ok (.iload_n 2, 1) := by decide +kernel
theorem dX2_isApart_8 : decode cX2_isApart 8 = .ok (.invokevirtual 38, 3) := by decide +kernel
theorem dX2_isApart_11 : decode cX2_isApart 11 = .ok (.astore 4, 2) := by decide +kernel
theorem dX2_isApart_13 : decode cX2_isApart 13 = .ok (.iconst 0, 1) := by decide +kernel
theorem dX2_isApart_14 : decode cX2_isApart 14 = .ok (.istore 5, 2) := by decide +kernel
theorem dX2_isApart_16 : decode cX2_isApart 16 = .ok (.iload 5, 2) := by decide +kernel
theorem dX2_isApart_18 : decode cX2_isApart 18 = .ok (.aload_n 3, 1) := by decide +kernel
theorem dX2_isApart_19 : decode cX2_isApart 19 = .ok (.getfield 53, 3) := by decide +kernel
theorem dX2_isApart_22 : decode cX2_isApart 22 = .ok (.if_icmp .ge 26, 3) := by decide +kernel
theorem dX2_isApart_25 : decode cX2_isApart 25 = .ok (.aload 4, 2) := by decide +kernel
theorem dX2_isApart_27 : decode cX2_isApart 27 = .ok (.aload_n 3, 1) := by decide +kernel
theorem dX2_isApart_28 : decode cX2_isApart 28 = .ok (.getfield 83, 3) := by decide +kernel
theorem dX2_isApart_31 : decode cX2_isApart 31 = .ok (.iload 5, 2) := by decide +kernel
theorem dX2_isApart_33 : decode cX2_isApart 33 = .ok (.iaload, 1) := by decide +kernel
theorem dX2_isApart_34 : decode cX2_isApart 34 = .ok (.invokevirtual 140, 3) := by decide +kernel
theorem dX2_isApart_37 : decode cX2_isApart 37 = .ok (.ifCond .eq 5, 3) := by decide +kernel
theorem dX2_isApart_40 : decode cX2_isApart 40 = .ok (.iconst 0, 1) := by decide +kernel
theorem dX2_isApart_41 : decode cX2_isApart 41 = .ok (.ireturn, 1) := by decide +kernel
theorem dX2_isApart_42 : decode cX2_isApart 42 = .ok (.iinc 5 1, 3) := by decide +kernel
theorem dX2_isApart_45 : decode cX2_isApart 45 = .ok (.goto (-29), 3) := by decide +kernel
theorem dX2_isApart_48 : decode cX2_isApart 48 = .ok (.iconst 1, 1) := by decide +kernel
theorem dX2_isApart_49 : decode cX2_isApart 49 = .ok (.ireturn, 1) := by decide +kernel
theorem dX2_alone_0 : decode cX2_alone 0 = .ok (.aload_n 0, 1) := by decide +kernel
theorem dX2_alone_1 : decode cX2_alone 1 = .ok (.iload_n 1, 1) := by decide +kernel
theorem dX2_alone_2 : decode cX2_alone 2 = .ok (.invokevirtual 38, 3) := by decide +kernel
theorem dX2_alone_5 : decode cX2_alone 5 = .ok (.astore_n 3, 1) := by decide +kernel
theorem dX2_alone_6 : decode cX2_alone 6 = .ok (.aload_n 0, 1) := by decide +kernel
theorem dX2_alone_7 : decode cX2_alone 7 = .ok (.iload_n 2, 1) := by decide +kernel
theorem dX2_alone_8 : decode cX2_alone 8 = .ok (.invokevirtual 38, 3) := by decide +kernel
theorem dX2_alone_11 : decode cX2_alone 11 = .ok (.astore 4, 2) := by decide +kernel
theorem dX2_alone_13 : decode cX2_alone 13 = .ok (.iconst 0, 1) := by decide +kernel
theorem dX2_alone_14 : decode cX2_alone 14 = .ok (.istore 5, 2) := by decide +kernel
theorem dX2_alone_16 : decode cX2_alone 16 = .ok (.iconst 0, 1) := by decide +kernel
theorem dX2_alone_17 : decode cX2_alone 17 = .ok (.istore 6, 2) := by decide +kernel
theorem dX2_alone_19 : decode cX2_alone 19 = .ok (.iload 6, 2) := by decide +kernel
theorem dX2_alone_21 : decode cX2_alone 21 = .ok (.aload_n 3, 1) := by decide +kernel
theorem dX2_alone_22 : decode cX2_alone 22 = .ok (.getfield 53, 3) := by decide +kernel
theorem dX2_alone_25 : decode cX2_alone 25 = .ok (.if_icmp .ge 36, 3) := by decide +kernel
theorem dX2_alone_28 : decode cX2_alone 28 = .ok (.aload_n 3, 1) := by decide +kernel
theorem dX2_alone_29 : decode cX2_alone 29 = .ok (.iload 6, 2) := by decide +kernel
theorem dX2_alone_31 : decode cX2_alone 31 = .ok (.invokevirtual 133, 3) := by decide +kernel
theorem dX2_alone_34 : decode cX2_alone 34 = .ok (.ifCond .eq 21, 3) := by decide +kernel
theorem dX2_alone_37 : decode cX2_alone 37 = .ok (.aload 4, 2) := by decide +kernel
theorem dX2_alone_39 : decode cX2_alone 39 = .ok (.aload_n 3, 1) := by decide +kernel
theorem dX2_alone_40 : decode cX2_alone 40 = .ok (.getfield 83, 3) := by decide +kernel
theorem dX2_alone_43 : decode cX2_alone 43 = .ok (.iload 6, 2) := by decide +kernel
theorem dX2_alone_45 : decode cX2_alone 45 = .ok (.iaload, 1) := by decide +kernel
theorem dX2_alone_46 : decode cX2_alone 46 = .ok (.invokevirtual 140, 3) := by decide +kernel
theorem dX2_alone_49 : decode cX2_alone 49 = .ok (.ifCond .ne 6, 3) := by decide +kernel
theorem dX2_alone_52 : decode cX2_alone 52 = .ok (.iinc 5 1, 3) := by decide +kernel
theorem dX2_alone_55 : decode cX2_alone 55 = .ok (.iinc 6 1, 3) := by decide +kernel
theorem dX2_alone_58 : decode cX2_alone 58 = .ok (.goto (-39), 3) := by decide +kernel
theorem dX2_alone_61 : decode cX2_alone 61 = .ok (.iload 5, 2) := by decide +kernel
theorem dX2_alone_63 : decode cX2_alone 63 = .ok (.ireturn, 1) := by decide +kernel
theorem dX2_greatest_0 : decode cX2_greatest 0 = .ok (.aload_n 0, 1) := by decide +kernel
theorem dX2_greatest_1 : decode cX2_greatest 1 = .ok (.iload_n 1, 1) := by decide +kernel
theorem dX2_greatest_2 : decode cX2_greatest 2 = .ok (.invokevirtual 38, 3) := by decide +kernel
theorem dX2_greatest_5 : decode cX2_greatest 5 = .ok (.astore_n 3, 1) := by decide +kernel
theorem dX2_greatest_6 : decode cX2_greatest 6 = .ok (.iload_n 2, 1) := by decide +kernel
theorem dX2_greatest_7 : decode cX2_greatest 7 = .ok (.invokestatic 143, 3) := by decide +kernel
theorem dX2_greatest_10 : decode cX2_greatest 10 = .ok (.aload_n 3, 1) := by decide +kernel
theorem dX2_greatest_11 : decode cX2_greatest 11 = .ok (.invokestatic 137, 3) := by decide +kernel
theorem dX2_greatest_14 : decode cX2_greatest 14 = .ok (.aload_n 0, 1) := by decide +kernel
theorem dX2_greatest_15 : decode cX2_greatest 15 = .ok (.aload_n 3, 1) := by decide +kernel
theorem dX2_greatest_16 : decode cX2_greatest 16 = .ok (.getfield 83, 3) := by decide +kernel
theorem dX2_greatest_19 : decode cX2_greatest 19 = .ok (.iconst 0, 1) := by decide +kernel
theorem dX2_greatest_20 : decode cX2_greatest 20 = .ok (.iaload, 1) := by decide +kernel
theorem dX2_greatest_21 : decode cX2_greatest 21 = .ok (.iload_n 2, 1) := by decide +kernel
theorem dX2_greatest_22 : decode cX2_greatest 22 = .ok (.invokevirtual 146, 3) := by decide +kernel
theorem dX2_greatest_25 : decode cX2_greatest 25 = .ok (.istore 4, 2) := by decide +kernel
theorem dX2_greatest_27 : decode cX2_greatest 27 = .ok (.iconst 1, 1) := by decide +kernel
theorem dX2_greatest_28 : decode cX2_greatest 28 = .ok (.istore 5, 2) := by decide +kernel
theorem dX2_greatest_30 : decode cX2_greatest 30 = .ok (.iload 5, 2) := by decide +kernel
theorem dX2_greatest_32 : decode cX2_greatest 32 = .ok (.aload_n 3, 1) := by decide +kernel
theorem dX2_greatest_33 : decode cX2_greatest 33 = .ok (.getfield 53, 3) := by decide +kernel
theorem dX2_greatest_36 : decode cX2_greatest 36 = .ok (.if_icmp .ge 28, 3) := by decide +kernel
theorem dX2_greatest_39 : decode cX2_greatest 39 = .ok (.iload 4, 2) := by decide +kernel
theorem dX2_greatest_41 : decode cX2_greatest 41 = .ok (.aload_n 0, 1) := by decide +kernel
theorem dX2_greatest_42 : decode cX2_greatest 42 = .ok (.aload_n 3, 1) := by decide +kernel
theorem dX2_greatest_43 : decode cX2_greatest 43 = .ok (.getfield 83, 3) := by decide +kernel
theorem dX2_greatest_46 : decode cX2_greatest 46 = .ok (.iload 5, 2) := by decide +kernel
theorem dX2_greatest_48 : decode cX2_greatest 48 = .ok (.iaload, 1) := by decide +kernel
theorem dX2_greatest_49 : decode cX2_greatest 49 = .ok (.iload_n 2, 1) := by decide +kernel
theorem dX2_greatest_50 : decode cX2_greatest 50 = .ok (.invokevirtual 146, 3) := by decide +kernel
theorem dX2_greatest_53 : decode cX2_greatest 53 = .ok (.invokestatic 150, 3) := by decide +kernel
theorem dX2_greatest_56 : decode cX2_greatest 56 = .ok (.istore 4, 2) := by decide +kernel
theorem dX2_greatest_58 : decode cX2_greatest 58 = .ok (.iinc 5 1, 3) := by decide +kernel
theorem dX2_greatest_61 : decode cX2_greatest 61 = .ok (.goto (-31), 3) := by decide +kernel
theorem dX2_greatest_64 : decode cX2_greatest 64 = .ok (.iload 4, 2) := by decide +kernel
theorem dX2_greatest_66 : decode cX2_greatest 66 = .ok (.ireturn, 1) := by decide +kernel
theorem dX2_least_0 : decode cX2_least 0 = .ok (.aload_n 0, 1) := by decide +kernel
theorem dX2_least_1 : decode cX2_least 1 = .ok (.iload_n 1, 1) := by decide +kernel
theorem dX2_least_2 : decode cX2_least 2 = .ok (.invokevirtual 38, 3) := by decide +kernel
theorem dX2_least_5 : decode cX2_least 5 = .ok (.astore_n 3, 1) := by decide +kernel
theorem dX2_least_6 : decode cX2_least 6 = .ok (.iload_n 2, 1) := by decide +kernel
theorem dX2_least_7 : decode cX2_least 7 = .ok (.invokestatic 143, 3) := by decide +kernel
theorem dX2_least_10 : decode cX2_least 10 = .ok (.aload_n 3, 1) := by decide +kernel
theorem dX2_least_11 : decode cX2_least 11 = .ok (.invokestatic 137, 3) := by decide +kernel
theorem dX2_least_14 : decode cX2_least 14 = .ok (.aload_n 0, 1) := by decide +kernel
theorem dX2_least_15 : decode cX2_least 15 = .ok (.aload_n 3, 1) := by decide +kernel
theorem dX2_least_16 : decode cX2_least 16 = .ok (.getfield 83, 3) := by decide +kernel
theorem dX2_least_19 : decode cX2_least 19 = .ok (.iconst 0, 1) := by decide +kernel
theorem dX2_least_20 : decode cX2_least 20 = .ok (.iaload, 1) := by decide +kernel
theorem dX2_least_21 : decode cX2_least 21 = .ok (.iload_n 2, 1) := by decide +kernel
theorem dX2_least_22 : decode cX2_least 22 = .ok (.invokevirtual 146, 3) := by decide +kernel
theorem dX2_least_25 : decode cX2_least 25 = .ok (.istore 4, 2) := by decide +kernel
theorem dX2_least_27 : decode cX2_least 27 = .ok (.iconst 1, 1) := by decide +kernel
theorem dX2_least_28 : decode cX2_least 28 = .ok (.istore 5, 2) := by decide +kernel
theorem dX2_least_30 : decode cX2_least 30 = .ok (.iload 5, 2) := by decide +kernel
theorem dX2_least_32 : decode cX2_least 32 = .ok (.aload_n 3, 1) := by decide +kernel
theorem dX2_least_33 : decode cX2_least 33 = .ok (.getfield 53, 3) := by decide +kernel
theorem dX2_least_36 : decode cX2_least 36 = .ok (.if_icmp .ge 28, 3) := by decide +kernel
theorem dX2_least_39 : decode cX2_least 39 = .ok (.iload 4, 2) := by decide +kernel
theorem dX2_least_41 : decode cX2_least 41 = .ok (.aload_n 0, 1) := by decide +kernel
theorem dX2_least_42 : decode cX2_least 42 = .ok (.aload_n 3, 1) := by decide +kernel
theorem dX2_least_43 : decode cX2_least 43 = .ok (.getfield 83, 3) := by decide +kernel
theorem dX2_least_46 : decode cX2_least 46 = .ok (.iload 5, 2) := by decide +kernel
theorem dX2_least_48 : decode cX2_least 48 = .ok (.iaload, 1) := by decide +kernel
theorem dX2_least_49 : decode cX2_least 49 = .ok (.iload_n 2, 1) := by decide +kernel
theorem dX2_least_50 : decode cX2_least 50 = .ok (.invokevirtual 146, 3) := by decide +kernel
theorem dX2_least_53 : decode cX2_least 53 = .ok (.invokestatic 155, 3) := by decide +kernel
theorem dX2_least_56 : decode cX2_least 56 = .ok (.istore 4, 2) := by decide +kernel
theorem dX2_least_58 : decode cX2_least 58 = .ok (.iinc 5 1, 3) := by decide +kernel
theorem dX2_least_61 : decode cX2_least 61 = .ok (.goto (-31), 3) := by decide +kernel
theorem dX2_least_64 : decode cX2_least 64 = .ok (.iload 4, 2) := by decide +kernel
theorem dX2_least_66 : decode cX2_least 66 = .ok (.ireturn, 1) := by decide +kernel
theorem dX2_sort_0 : decode cX2_sort 0 = .ok (.aload_n 0, 1) := by decide +kernel
theorem dX2_sort_1 : decode cX2_sort 1 = .ok (.iload_n 1, 1) := by decide +kernel
theorem dX2_sort_2 : decode cX2_sort 2 = .ok (.invokevirtual 38, 3) := by decide +kernel
theorem dX2_sort_5 : decode cX2_sort 5 = .ok (.astore 4, 2) := by decide +kernel
theorem dX2_sort_7 : decode cX2_sort 7 = .ok (.iload_n 2, 1) := by decide +kernel
theorem dX2_sort_8 : decode cX2_sort 8 = .ok (.invokestatic 143, 3) := by decide +kernel
theorem dX2_sort_11 : decode cX2_sort 11 = .ok (.aload_n 0, 1) := by decide +kernel
theorem dX2_sort_12 : decode cX2_sort 12 = .ok (.getfield 25, 3) := by decide +kernel
theorem dX2_sort_15 : decode cX2_sort 15 = .ok (.aload 4, 2) := by decide +kernel
theorem dX2_sort_17 : decode cX2_sort 17 = .ok (.invokevirtual 119, 3) := by decide +kernel
theorem dX2_sort_20 : decode cX2_sort 20 = .ok (.aload_n 0, 1) := by decide +kernel
theorem dX2_sort_21 : decode cX2_sort 21 = .ok (.aload 4, 2) := by decide +kernel
theorem dX2_sort_23 : decode cX2_sort 23 = .ok (.iload_n 2, 1) := by decide +kernel
theorem dX2_sort_24 : decode cX2_sort 24 = .ok (.iload_n 3, 1) := by decide +kernel
theorem dX2_sort_25 : decode cX2_sort 25 = .ok (.invokevirtual 158, 3) := by decide +kernel
theorem dX2_sort_28 : decode cX2_sort 28 = .ok (.aload 4, 2) := by decide +kernel
theorem dX2_sort_30 : decode cX2_sort 30 = .ok (.aload_n 0, 1) := by decide +kernel
theorem dX2_sort_31 : decode cX2_sort 31 = .ok (.getfield 25, 3) := by decide +kernel
theorem dX2_sort_34 : decode cX2_sort 34 = .ok (.invokevirtual 162, 3) := by decide +kernel
theorem dX2_sort_37 : decode cX2_sort 37 = .ok (.ireturn, 1) := by decide +kernel
theorem dX2_isSorted_0 : decode cX2_isSorted 0 = .ok (.aload_n 0, 1) := by decide +kernel
theorem dX2_isSorted_1 : decode cX2_isSorted 1 = .ok (.iload_n 1, 1) := by decide +kernel
theorem dX2_isSorted_2 : decode cX2_isSorted 2 = .ok (.invokevirtual 38, 3) := by decide +kernel
theorem dX2_isSorted_5 : decode cX2_isSorted 5 = .ok (.astore_n 3, 1) := by decide +kernel
theorem dX2_isSorted_6 : decode cX2_isSorted 6 = .ok (.iload_n 2, 1) := by decide +kernel
theorem dX2_isSorted_7 : decode cX2_isSorted 7 = .ok (.invokestatic 143, 3) := by decide +kernel
theorem dX2_isSorted_10 : decode cX2_isSorted 10 = .ok (.aload_n 0, 1) := by decide +kernel
theorem dX2_isSorted_11 : decode cX2_isSorted 11 = .ok (.aload_n 3, 1) := by decide +kernel
theorem dX2_isSorted_12 : decode cX2_isSorted 12 = .ok (.iload_n 2, 1) := by decide +kernel
theorem dX2_isSorted_13 : decode cX2_isSorted 13 = .ok (.invokevirtual 165, 3) := by decide +kernel
theorem dX2_isSorted_16 : decode cX2_isSorted 16 = .ok (.ireturn, 1) := by decide +kernel
theorem dX2_search_0 : decode cX2_search 0 = .ok (.aload_n 0, 1) := by decide +kernel
theorem dX2_search_1 : decode cX2_search 1 = .ok (.iload_n 1, 1) := by decide +kernel
theorem dX2_search_2 : decode cX2_search 2 = .ok (.invokevirtual 38, 3) := by decide +kernel
theorem dX2_search_5 : decode cX2_search 5 = .ok (.astore 4, 2) := by decide +kernel
theorem dX2_search_7 : decode cX2_search 7 = .ok (.iload_n 3, 1) := by decide +kernel
theorem dX2_search_8 : decode cX2_search 8 = .ok (.invokestatic 42, 3) := by decide +kernel
theorem dX2_search_11 : decode cX2_search 11 = .ok (.iload_n 2, 1) := by decide +kernel
theorem dX2_search_12 : decode cX2_search 12 = .ok (.invokestatic 143, 3) := by decide +kernel
theorem dX2_search_15 : decode cX2_search 15 = .ok (.aload_n 0, 1) := by decide +kernel
theorem dX2_search_16 : decode cX2_search 16 = .ok (.aload 4, 2) := by decide +kernel
theorem dX2_search_18 : decode cX2_search 18 = .ok (.iload_n 2, 1) := by decide +kernel
theorem dX2_search_19 : decode cX2_search 19 = .ok (.invokevirtual 165, 3) := by decide +kernel
theorem dX2_search_22 : decode cX2_search 22 = .ok (.ifCond .ne 13, 3) := by decide +kernel
theorem dX2_search_25 : decode cX2_search 25 = .ok (.new 92, 3) := by decide +kernel
theorem dX2_search_28 : decode cX2_search 28 = .ok (.dup, 1) := by decide +kernel
theorem dX2_search_29 : decode cX2_search 29 = .ok (.ldc 168, 2) := by decide +kernel
theorem dX2_search_31 : decode cX2_search 31 = .ok (.invokespecial 96, 3) := by decide +kernel
theorem dX2_search_34 : decode cX2_search 34 = .ok (.athrow, 1) := by decide +kernel
theorem dX2_search_35 : decode cX2_search 35 = .ok (.aload_n 0, 1) := by decide +kernel
theorem dX2_search_36 : decode cX2_search 36 = .ok (.iload_n 3, 1) := by decide +kernel
theorem dX2_search_37 : decode cX2_search 37 = .ok (.iload_n 2, 1) := by decide +kernel
theorem dX2_search_38 : decode cX2_search 38 = .ok (.invokevirtual 146, 3) := by decide +kernel
theorem dX2_search_41 : decode cX2_search 41 = .ok (.istore 5, 2) := by decide +kernel
theorem dX2_search_43 : decode cX2_search 43 = .ok (.iconst 0, 1) := by decide +kernel
theorem dX2_search_44 : decode cX2_search 44 = .ok (.istore 6, 2) := by decide +kernel
theorem dX2_search_46 : decode cX2_search 46 = .ok (.iload 6, 2) := by decide +kernel
theorem dX2_search_48 : decode cX2_search 48 = .ok (.aload 4, 2) := by decide +kernel
theorem dX2_search_50 : decode cX2_search 50 = .ok (.getfield 53, 3) := by decide +kernel
theorem dX2_search_53 : decode cX2_search 53 = .ok (.if_icmp .ge 44, 3) := by decide +kernel
theorem dX2_search_56 : decode cX2_search 56 = .ok (.aload_n 0, 1) := by decide +kernel
theorem dX2_search_57 : decode cX2_search 57 = .ok (.aload 4, 2) := by decide +kernel
theorem dX2_search_59 : decode cX2_search 59 = .ok (.getfield 83, 3) := by decide +kernel
theorem dX2_search_62 : decode cX2_search 62 = .ok (.iload 6, 2) := by decide +kernel
theorem dX2_search_64 : decode cX2_search 64 = .ok (.iaload, 1) := by decide +kernel
theorem dX2_search_65 : decode cX2_search 65 = .ok (.iload_n 2, 1) := by decide +kernel
theorem dX2_search_66 : decode cX2_search 66 = .ok (.invokevirtual 146, 3) := by decide +kernel
theorem dX2_search_69 : decode cX2_search 69 = .ok (.istore 7, 2) := by decide +kernel
theorem dX2_search_71 : decode cX2_search 71 = .ok (.iload 7, 2) := by decide +kernel
theorem dX2_search_73 : decode cX2_search 73 = .ok (.iload 5, 2) := by decide +kernel
theorem dX2_search_75 : decode cX2_search 75 = .ok (.if_icmp .ne 6, 3) := by decide +kernel
theorem dX2_search_78 : decode cX2_search 78 = .ok (.bipush (-2), 2) := by decide +kernel
theorem dX2_search_80 : decode cX2_search 80 = .ok (.ireturn, 1) := by decide +kernel
theorem dX2_search_81 : decode cX2_search 81 = .ok (.iload 7, 2) := by decide +kernel
theorem dX2_search_83 : decode cX2_search 83 = .ok (.iload 5, 2) := by decide +kernel
theorem dX2_search_85 : decode cX2_search 85 = .ok (.if_icmp .le 6, 3) := by decide +kernel
theorem dX2_search_88 : decode cX2_search 88 = .ok (.iload 6, 2) := by decide +kernel
theorem dX2_search_90 : decode cX2_search 90 = .ok (.ireturn, 1) := by decide +kernel
theorem dX2_search_91 : decode cX2_search 91 = .ok (.iinc 6 1, 3) := by decide +kernel
theorem dX2_search_94 : decode cX2_search 94 = .ok (.goto (-48), 3) := by decide +kernel
theorem dX2_search_97 : decode cX2_search 97 = .ok (.aload 4, 2) := by decide +kernel
theorem dX2_search_99 : decode cX2_search 99 = .ok (.getfield 53, 3) := by decide +kernel
theorem dX2_search_102 : decode cX2_search 102 = .ok (.ireturn, 1) := by decide +kernel
theorem dX2_keyOf_0 : decode cX2_keyOf 0 = .ok (.iload_n 2, 1) := by decide +kernel
theorem dX2_keyOf_1 : decode cX2_keyOf 1 = .ok (.iconst 1, 1) := by decide +kernel
theorem dX2_keyOf_2 : decode cX2_keyOf 2 = .ok (.if_icmp .ne 12, 3) := by decide +kernel
theorem dX2_keyOf_5 : decode cX2_keyOf 5 = .ok (.aload_n 0, 1) := by decide +kernel
theorem dX2_keyOf_6 : decode cX2_keyOf 6 = .ok (.getfield 18, 3) := by decide +kernel
theorem dX2_keyOf_9 : decode cX2_keyOf 9 = .ok (.iload_n 1, 1) := by decide +kernel
theorem dX2_keyOf_10 : decode cX2_keyOf 10 = .ok (.iaload, 1) := by decide +kernel
theorem dX2_keyOf_11 : decode cX2_keyOf 11 = .ok (.goto 4, 3) := by decide +kernel
theorem dX2_keyOf_14 : decode cX2_keyOf 14 = .ok (.iload_n 1, 1) := by decide +kernel
theorem dX2_keyOf_15 : decode cX2_keyOf 15 = .ok (.ireturn, 1) := by decide +kernel
theorem dX2_isInOrder_0 : decode cX2_isInOrder 0 = .ok (.iconst 1, 1) := by decide +kernel
theorem dX2_isInOrder_1 : decode cX2_isInOrder 1 = .ok (.istore_n 3, 1) := by decide +kernel
theorem dX2_isInOrder_2 : decode cX2_isInOrder 2 = .ok (.iload_n 3, 1) := by decide +kernel
theorem dX2_isInOrder_3 : decode cX2_isInOrder 3 = .ok (.aload_n 1, 1) := by decide +kernel
theorem dX2_isInOrder_4 : decode cX2_isInOrder 4 = .ok (.getfield 53, 3) := by decide +kernel
theorem dX2_isInOrder_7 : decode cX2_isInOrder 7 = .ok (.if_icmp .ge 38, 3) := by decide +kernel
theorem dX2_isInOrder_10 : decode cX2_isInOrder 10 = .ok (.aload_n 0, 1) := by decide +kernel
theorem dX2_isInOrder_11 : decode cX2_isInOrder 11 = .ok (.aload_n 1, 1) := by decide +kernel
theorem dX2_isInOrder_12 : decode cX2_isInOrder 12 = .ok (.getfield 83, 3) := by decide +kernel
theorem dX2_isInOrder_15 : decode cX2_isInOrder 15 = .ok (.iload_n 3, 1) := by decide +kernel
theorem dX2_isInOrder_16 : decode cX2_isInOrder 16 = .ok (.iaload, 1) := by decide +kernel
theorem dX2_isInOrder_17 : decode cX2_isInOrder 17 = .ok (.iload_n 2, 1) := by decide +kernel
theorem dX2_isInOrder_18 : decode cX2_isInOrder 18 = .ok (.invokevirtual 146, 3) := by decide +kernel
theorem dX2_isInOrder_21 : decode cX2_isInOrder 21 = .ok (.aload_n 0, 1) := by decide +kernel
theorem dX2_isInOrder_22 : decode cX2_isInOrder 22 = .ok (.aload_n 1, 1) := by decide +kernel
theorem dX2_isInOrder_23 : decode cX2_isInOrder 23 = .ok (.getfield 83, 3) := by decide +kernel
theorem dX2_isInOrder_26 : decode cX2_isInOrder 26 = .ok (.iload_n 3, 1) := by decide +kernel
theorem dX2_isInOrder_27 : decode cX2_isInOrder 27 = .ok (.iconst 1, 1) := by decide +kernel
theorem dX2_isInOrder_28 : decode cX2_isInOrder 28 = .ok (.isub, 1) := by decide +kernel
theorem dX2_isInOrder_29 : decode cX2_isInOrder 29 = .ok (.iaload, 1) := by decide +kernel
theorem dX2_isInOrder_30 : decode cX2_isInOrder 30 = .ok (.iload_n 2, 1) := by decide +kernel
theorem dX2_isInOrder_31 : decode cX2_isInOrder 31 = .ok (.invokevirtual 146, 3) := by decide +kernel
theorem dX2_isInOrder_34 : decode cX2_isInOrder 34 = .ok (.if_icmp .ge 5, 3) := by decide +kernel
theorem dX2_isInOrder_37 : decode cX2_isInOrder 37 = .ok (.iconst 0, 1) := by decide +kernel
theorem dX2_isInOrder_38 : decode cX2_isInOrder 38 = .ok (.ireturn, 1) := by decide +kernel
theorem dX2_isInOrder_39 : decode cX2_isInOrder 39 = .ok (.iinc 3 1, 3) := by decide +kernel
theorem dX2_isInOrder_42 : decode cX2_isInOrder 42 = .ok (.goto (-40), 3) := by decide +kernel
theorem dX2_isInOrder_45 : decode cX2_isInOrder 45 = .ok (.iconst 1, 1) := by decide +kernel
theorem dX2_isInOrder_46 : decode cX2_isInOrder 46 = .ok (.ireturn, 1) := by decide +kernel
theorem dX2_putInOrder_0 : decode cX2_putInOrder 0 = .ok (.iconst 1, 1) := by decide +kernel
theorem dX2_putInOrder_1 : decode cX2_putInOrder 1 = .ok (.istore 4, 2) := by decide +kernel
theorem dX2_putInOrder_3 : decode cX2_putInOrder 3 = .ok (.iload 4, 2) := by decide +kernel
theorem dX2_putInOrder_5 : decode cX2_putInOrder 5 = .ok (.aload_n 1, 1) := by decide +kernel
theorem dX2_putInOrder_6 : decode cX2_putInOrder 6 = .ok (.getfield 53, 3) := by decide +kernel
theorem dX2_putInOrder_9 : decode cX2_putInOrder 9 = .ok (.if_icmp .ge 78, 3) := by decide +kernel
theorem dX2_putInOrder_12 : decode cX2_putInOrder 12 = .ok (.aload_n 1, 1) := by decide +kernel
theorem dX2_putInOrder_13 : decode cX2_putInOrder 13 = .ok (.getfield 83, 3) := by decide +kernel
theorem dX2_putInOrder_16 : decode cX2_putInOrder 16 = .ok (.iload 4, 2) := by decide +kernel
theorem dX2_putInOrder_18 : decode cX2_putInOrder 18 = .ok (.iaload, 1) := by decide +kernel
theorem dX2_putInOrder_19 : decode cX2_putInOrder 19 = .ok (.istore 5, 2) := by decide +kernel
theorem dX2_putInOrder_21 : decode cX2_putInOrder 21 = .ok (.iload 4, 2) := by decide +kernel
theorem dX2_putInOrder_23 : decode cX2_putInOrder 23 = .ok (.istore 6, 2) := by decide +kernel
theorem dX2_putInOrder_25 : decode cX2_putInOrder 25 = .ok (.iload 6, 2) := by decide +kernel
theorem dX2_putInOrder_27 : decode cX2_putInOrder 27 = .ok (.ifCond .le 45, 3) := by decide +kernel
theorem dX2_putInOrder_30 : decode cX2_putInOrder 30 = .ok (.aload_n 0, 1) := by decide +kernel
theorem dX2_putInOrder_31 : decode cX2_putInOrder 31 = .ok (.iload 5, 2) := by decide +kernel
theorem dX2_putInOrder_33 : decode cX2_putInOrder 33 = .ok (.aload_n 1, 1) := by decide +kernel
theorem dX2_putInOrder_34 : decode cX2_putInOrder 34 = .ok (.getfield 83, 3) := by decide +kernel
theorem dX2_putInOrder_37 : decode cX2_putInOrder 37 = .ok (.iload 6, 2) := by decide +kernel
theorem dX2_putInOrder_39 : decode cX2_putInOrder 39 = .ok (.iconst 1, 1) := by decide +kernel
theorem dX2_putInOrder_40 : decode cX2_putInOrder 40 = .ok (.isub, 1) := by decide +kernel
theorem dX2_putInOrder_41 : decode cX2_putInOrder 41 = .ok (.iaload, 1) := by decide +kernel
theorem dX2_putInOrder_42 : decode cX2_putInOrder 42 = .ok (.iload_n 2, 1) := by decide +kernel
theorem dX2_putInOrder_43 : decode cX2_putInOrder 43 = .ok (.iload_n 3, 1) := by decide +kernel
theorem dX2_putInOrder_44 : decode cX2_putInOrder 44 = .ok (.invokevirtual 170, 3) := by decide +kernel
theorem dX2_putInOrder_47 : decode cX2_putInOrder 47 = .ok (.ifCond .eq 25, 3) := by decide +kernel
theorem dX2_putInOrder_50 : decode cX2_putInOrder 50 = .ok (.aload_n 1, 1) := by decide +kernel
theorem dX2_putInOrder_51 : decode cX2_putInOrder 51 = .ok (.getfield 83, 3) := by decide +kernel
theorem dX2_putInOrder_54 : decode cX2_putInOrder 54 = .ok (.iload 6, 2) := by decide +kernel
theorem dX2_putInOrder_56 : decode cX2_putInOrder 56 = .ok (.aload_n 1, 1) := by decide +kernel
theorem dX2_putInOrder_57 : decode cX2_putInOrder 57 = .ok (.getfield 83, 3) := by decide +kernel
theorem dX2_putInOrder_60 : decode cX2_putInOrder 60 = .ok (.iload 6, 2) := by decide +kernel
theorem dX2_putInOrder_62 : decode cX2_putInOrder 62 = .ok (.iconst 1, 1) := by decide +kernel
theorem dX2_putInOrder_63 : decode cX2_putInOrder 63 = .ok (.isub, 1) := by decide +kernel
theorem dX2_putInOrder_64 : decode cX2_putInOrder 64 = .ok (.iaload, 1) := by decide +kernel
theorem dX2_putInOrder_65 : decode cX2_putInOrder 65 = .ok (.iastore, 1) := by decide +kernel
theorem dX2_putInOrder_66 : decode cX2_putInOrder 66 = .ok (.iinc 6 (-1), 3) := by decide +kernel
theorem dX2_putInOrder_69 : decode cX2_putInOrder 69 = .ok (.goto (-44), 3) := by decide +kernel
theorem dX2_putInOrder_72 : decode cX2_putInOrder 72 = .ok (.aload_n 1, 1) := by decide +kernel
theorem dX2_putInOrder_73 : decode cX2_putInOrder 73 = .ok (.getfield 83, 3) := by decide +kernel
theorem dX2_putInOrder_76 : decode cX2_putInOrder 76 = .ok (.iload 6, 2) := by decide +kernel
theorem dX2_putInOrder_78 : decode cX2_putInOrder 78 = .ok (.iload 5, 2) := by decide +kernel
theorem dX2_putInOrder_80 : decode cX2_putInOrder 80 = .ok (.iastore, 1) := by decide +kernel
theorem dX2_putInOrder_81 : decode cX2_putInOrder 81 = .ok (.iinc 4 1, 3) := by decide +kernel
theorem dX2_putInOrder_84 : decode cX2_putInOrder 84 = .ok (.goto (-81), 3) := by decide +kernel
theorem dX2_putInOrder_87 : decode cX2_putInOrder 87 = .ok (.return_, 1) := by decide +kernel
theorem dX2_mustPass_0 : decode cX2_mustPass 0 = .ok (.aload_n 0, 1) := by decide +kernel
theorem dX2_mustPass_1 : decode cX2_mustPass 1 = .ok (.iload_n 1, 1) := by decide +kernel
theorem dX2_mustPass_2 : decode cX2_mustPass 2 = .ok (.iload_n 3, 1) := by decide +kernel
theorem dX2_mustPass_3 : decode cX2_mustPass 3 = .ok (.invokevirtual 146, 3) := by decide +kernel
theorem dX2_mustPass_6 : decode cX2_mustPass 6 = .ok (.istore 5, 2) := by decide +kernel
theorem dX2_mustPass_8 : decode cX2_mustPass 8 = .ok (.aload_n 0, 1) := by decide +kernel
theorem dX2_mustPass_9 : decode cX2_mustPass 9 = .ok (.iload_n 2, 1) := by decide +kernel
theorem dX2_mustPass_10 : decode cX2_mustPass 10 = .ok (.iload_n 3, 1) := by decide +kernel
theorem dX2_mustPass_11 : decode cX2_mustPass 11 = .ok (.invokevirtual 146, 3) := by decide +kernel
theorem dX2_mustPass_14 : decode cX2_mustPass 14 = .ok (.istore 6, 2) := by decide +kernel
theorem dX2_mustPass_16 : decode cX2_mustPass 16 = .ok (.iload 4, 2) := by decide +kernel
theorem dX2_mustPass_18 : decode cX2_mustPass 18 = .ok (.ifCond .eq 18, 3) := by decide +kernel
theorem dX2_mustPass_21 : decode cX2_mustPass 21 = .ok (.iload 5, 2) := by decide +kernel
theorem dX2_mustPass_23 : decode cX2_mustPass 23 = .ok (.iload 6, 2) := by decide +kernel
theorem dX2_mustPass_25 : decode cX2_mustPass 25 = .ok (.if_icmp .le 7, 3) := by decide +kernel
theorem dX2_mustPass_28 : decode cX2_mustPass 28 = .ok (.iconst 1, 1) := by decide +kernel
theorem dX2_mustPass_29 : decode cX2_mustPass 29 = .ok (.goto 19, 3) := by decide +kernel
theorem dX2_mustPass_32 : decode cX2_mustPass 32 = .ok (.iconst 0, 1) := by decide +kernel
theorem dX2_mustPass_33 : decode cX2_mustPass 33 = .ok (.goto 15, 3) := by decide +kernel
theorem dX2_mustPass_36 : decode cX2_mustPass 36 = .ok (.iload 5, 2) := by decide +kernel
theorem dX2_mustPass_38 : decode cX2_mustPass 38 = .ok (.iload 6, 2) := by decide +kernel
theorem dX2_mustPass_40 : decode cX2_mustPass 40 = .ok (.if_icmp .ge 7, 3) := by decide +kernel
theorem dX2_mustPass_43 : decode cX2_mustPass 43 = .ok (.iconst 1, 1) := by decide +kernel
theorem dX2_mustPass_44 : decode cX2_mustPass 44 = .ok (.goto 4, 3) := by decide +kernel
theorem dX2_mustPass_47 : decode cX2_mustPass 47 = .ok (.iconst 0, 1) := by decide +kernel
theorem dX2_mustPass_48 : decode cX2_mustPass 48 = .ok (.ireturn, 1) := by decide +kernel
theorem dX2_turn_0 : decode cX2_turn 0 = .ok (.aload_n 0, 1) := by decide +kernel
theorem dX2_turn_1 : decode cX2_turn 1 = .ok (.iload_n 1, 1) := by decide +kernel
theorem dX2_turn_2 : decode cX2_turn 2 = .ok (.invokevirtual 38, 3) := by decide +kernel
theorem dX2_turn_5 : decode cX2_turn 5 = .ok (.astore 4, 2) := by decide +kernel
theorem dX2_turn_7 : decode cX2_turn 7 = .ok (.aload 4, 2) := by decide +kernel
theorem dX2_turn_9 : decode cX2_turn 9 = .ok (.iload_n 2, 1) := by decide +kernel
theorem dX2_turn_10 : decode cX2_turn 10 = .ok (.iload_n 3, 1) := by decide +kernel
theorem dX2_turn_11 : decode cX2_turn 11 = .ok (.invokestatic 72, 3) := by decide +kernel
theorem dX2_turn_14 : decode cX2_turn 14 = .ok (.aload 4, 2) := by decide +kernel
theorem dX2_turn_16 : decode cX2_turn 16 = .ok (.iload_n 2, 1) := by decide +kernel
theorem dX2_turn_17 : decode cX2_turn 17 = .ok (.iload_n 3, 1) := by decide +kernel
theorem dX2_turn_18 : decode cX2_turn 18 = .ok (.invokevirtual 174, 3) := by decide +kernel
theorem dX2_turn_21 : decode cX2_turn 21 = .ok (.iload_n 3, 1) := by decide +kernel
theorem dX2_turn_22 : decode cX2_turn 22 = .ok (.iload_n 2, 1) := by decide +kernel
theorem dX2_turn_23 : decode cX2_turn 23 = .ok (.isub, 1) := by decide +kernel
theorem dX2_turn_24 : decode cX2_turn 24 = .ok (.ireturn, 1) := by decide +kernel
theorem dX2_move_0 : decode cX2_move 0 = .ok (.aload_n 0, 1) := by decide +kernel
theorem dX2_move_1 : decode cX2_move 1 = .ok (.iload_n 1, 1) := by decide +kernel
theorem dX2_move_2 : decode cX2_move 2 = .ok (.invokevirtual 38, 3) := by decide +kernel
theorem dX2_move_5 : decode cX2_move 5 = .ok (.astore 5, 2) := by decide +kernel
theorem dX2_move_7 : decode cX2_move 7 = .ok (.aload 5, 2) := by decide +kernel
theorem dX2_move_9 : decode cX2_move 9 = .ok (.iload_n 2, 1) := by decide +kernel
theorem dX2_move_10 : decode cX2_move 10 = .ok (.iload_n 3, 1) := by decide +kernel
theorem dX2_move_11 : decode cX2_move 11 = .ok (.invokestatic 72, 3) := by decide +kernel
theorem dX2_move_14 : decode cX2_move 14 = .ok (.aload_n 0, 1) := by decide +kernel
theorem dX2_move_15 : decode cX2_move 15 = .ok (.aload 5, 2) := by decide +kernel
theorem dX2_move_17 : decode cX2_move 17 = .ok (.iload_n 2, 1) := by decide +kernel
theorem dX2_move_18 : decode cX2_move 18 = .ok (.iload_n 3, 1) := by decide +kernel
theorem dX2_move_19 : decode cX2_move 19 = .ok (.iload 4, 2) := by decide +kernel
theorem dX2_move_21 : decode cX2_move 21 = .ok (.invokevirtual 177, 3) := by decide +kernel
theorem dX2_move_24 : decode cX2_move 24 = .ok (.ireturn, 1) := by decide +kernel
theorem dX2_moveRound_0 : decode cX2_moveRound 0 = .ok (.iload_n 3, 1) := by decide +kernel
theorem dX2_moveRound_1 : decode cX2_moveRound 1 = .ok (.iload_n 2, 1) := by decide +kernel
theorem dX2_moveRound_2 : decode cX2_moveRound 2 = .ok (.isub, 1) := by decide +kernel
theorem dX2_moveRound_3 : decode cX2_moveRound 3 = .ok (.istore 5, 2) := by decide +kernel
theorem dX2_moveRound_5 : decode cX2_moveRound 5 = .ok (.iload 5, 2) := by decide +kernel
theorem dX2_moveRound_7 : decode cX2_moveRound 7 = .ok (.ifCond .gt 5, 3) := by decide +kernel
theorem dX2_moveRound_10 : decode cX2_moveRound 10 = .ok (.iconst 0, 1) := by decide +kernel
theorem dX2_moveRound_11 : decode cX2_moveRound 11 = .ok (.ireturn, 1) := by decide +kernel
theorem dX2_moveRound_12 : decode cX2_moveRound 12 = .ok (.iload 4, 2) := by decide +kernel
theorem dX2_moveRound_14 : decode cX2_moveRound 14 = .ok (.iload 5, 2) := by decide +kernel
theorem dX2_moveRound_16 : decode cX2_moveRound 16 = .ok (.invokestatic 181, 3) := by decide +kernel
theorem dX2_moveRound_19 : decode cX2_moveRound 19 = .ok (.istore 6, 2) := by decide +kernel
theorem dX2_moveRound_21 : decode cX2_moveRound 21 = .ok (.aload_n 0, 1) := by decide +kernel
theorem dX2_moveRound_22 : decode cX2_moveRound 22 = .ok (.getfield 25, 3) := by decide +kernel
theorem dX2_moveRound_25 : decode cX2_moveRound 25 = .ok (.aload_n 1, 1) := by decide +kernel
theorem dX2_moveRound_26 : decode cX2_moveRound 26 = .ok (.invokevirtual 119, 3) := by decide +kernel
theorem dX2_moveRound_29 : decode cX2_moveRound 29 = .ok (.iconst 0, 1) := by decide +kernel
theorem dX2_moveRound_30 : decode cX2_moveRound 30 = .ok (.istore 7, 2) := by decide +kernel
theorem dX2_moveRound_32 : decode cX2_moveRound 32 = .ok (.iload 7, 2) := by decide +kernel
theorem dX2_moveRound_34 : decode cX2_moveRound 34 = .ok (.iload 5, 2) := by decide +kernel
theorem dX2_moveRound_36 : decode cX2_moveRound 36 = .ok (.if_icmp .ge 36, 3) := by decide +kernel
theorem dX2_moveRound_39 : decode cX2_moveRound 39 = .ok (.aload_n 1, 1) := by decide +kernel
theorem dX2_moveRound_40 : decode cX2_moveRound 40 = .ok (.getfield 83, 3) := by decide +kernel
theorem dX2_moveRound_43 : decode cX2_moveRound 43 = .ok (.iload_n 2, 1) := by decide +kernel
theorem dX2_moveRound_44 : decode cX2_moveRound 44 = .ok (.iload 7, 2) := by decide +kernel
theorem dX2_moveRound_46 : decode cX2_moveRound 46 = .ok (.iload 6, 2) := by decide +kernel
theorem dX2_moveRound_48 : decode cX2_moveRound 48 = .ok (.iadd, 1) := by decide +kernel
theorem dX2_moveRound_49 : decode cX2_moveRound 49 = .ok (.iload 5, 2) := by decide +kernel
theorem dX2_moveRound_51 : decode cX2_moveRound 51 = .ok (.irem, 1) := by decide +kernel
theorem dX2_moveRound_52 : decode cX2_moveRound 52 = .ok (.iadd, 1) := by decide +kernel
theorem dX2_moveRound_53 : decode cX2_moveRound 53 = .ok (.aload_n 0, 1) := by decide +kernel
theorem dX2_moveRound_54 : decode cX2_moveRound 54 = .ok (.getfield 25, 3) := by decide +kernel
theorem dX2_moveRound_57 : decode cX2_moveRound 57 = .ok (.getfield 83, 3) := by decide +kernel
theorem dX2_moveRound_60 : decode cX2_moveRound 60 = .ok (.iload_n 2, 1) := by decide +kernel
theorem dX2_moveRound_61 : decode cX2_moveRound 61 = .ok (.iload 7, 2) := by decide +kernel
theorem dX2_moveRound_63 : decode cX2_moveRound 63 = .ok (.iadd, 1) := by decide +kernel
theorem dX2_moveRound_64 : decode cX2_moveRound 64 = .ok (.iaload, 1) := by decide +kernel
theorem dX2_moveRound_65 : decode cX2_moveRound 65 = .ok (.iastore, 1) := by decide +kernel
theorem dX2_moveRound_66 : decode cX2_moveRound 66 = .ok (.iinc 7 1, 3) := by decide +kernel
theorem dX2_moveRound_69 : decode cX2_moveRound 69 = .ok (.goto (-37), 3) := by decide +kernel
theorem dX2_moveRound_72 : decode cX2_moveRound 72 = .ok (.iload 6, 2) := by decide +kernel
theorem dX2_moveRound_74 : decode cX2_moveRound 74 = .ok (.ireturn, 1) := by decide +kernel
theorem dX2_swap_0 : decode cX2_swap 0 = .ok (.aload_n 0, 1) := by decide +kernel
theorem dX2_swap_1 : decode cX2_swap 1 = .ok (.iload_n 1, 1) := by decide +kernel
theorem dX2_swap_2 : decode cX2_swap 2 = .ok (.invokevirtual 38, 3) := by decide +kernel
theorem dX2_swap_5 : decode cX2_swap 5 = .ok (.astore 4, 2) := by decide +kernel
theorem dX2_swap_7 : decode cX2_swap 7 = .ok (.aload 4, 2) := by decide +kernel
theorem dX2_swap_9 : decode cX2_swap 9 = .ok (.iload_n 2, 1) := by decide +kernel
theorem dX2_swap_10 : decode cX2_swap 10 = .ok (.invokestatic 80, 3) := by decide +kernel
theorem dX2_swap_13 : decode cX2_swap 13 = .ok (.aload 4, 2) := by decide +kernel
theorem dX2_swap_15 : decode cX2_swap 15 = .ok (.iload_n 3, 1) := by decide +kernel
theorem dX2_swap_16 : decode cX2_swap 16 = .ok (.invokestatic 80, 3) := by decide +kernel
theorem dX2_swap_19 : decode cX2_swap 19 = .ok (.aload 4, 2) := by decide +kernel
theorem dX2_swap_21 : decode cX2_swap 21 = .ok (.iload_n 2, 1) := by decide +kernel
theorem dX2_swap_22 : decode cX2_swap 22 = .ok (.iload_n 3, 1) := by decide +kernel
theorem dX2_swap_23 : decode cX2_swap 23 = .ok (.invokevirtual 184, 3) := by decide +kernel
theorem dX2_swap_26 : decode cX2_swap 26 = .ok (.aload 4, 2) := by decide +kernel
theorem dX2_swap_28 : decode cX2_swap 28 = .ok (.getfield 83, 3) := by decide +kernel
theorem dX2_swap_31 : decode cX2_swap 31 = .ok (.iload_n 2, 1) := by decide +kernel
theorem dX2_swap_32 : decode cX2_swap 32 = .ok (.iaload, 1) := by decide +kernel
theorem dX2_swap_33 : decode cX2_swap 33 = .ok (.ireturn, 1) := by decide +kernel
theorem dX2_fill_0 : decode cX2_fill 0 = .ok (.aload_n 0, 1) := by decide +kernel
theorem dX2_fill_1 : decode cX2_fill 1 = .ok (.iload_n 1, 1) := by decide +kernel
theorem dX2_fill_2 : decode cX2_fill 2 = .ok (.invokevirtual 38, 3) := by decide +kernel
theorem dX2_fill_5 : decode cX2_fill 5 = .ok (.astore 5, 2) := by decide +kernel
theorem dX2_fill_7 : decode cX2_fill 7 = .ok (.aload 5, 2) := by decide +kernel
theorem dX2_fill_9 : decode cX2_fill 9 = .ok (.iload_n 2, 1) := by decide +kernel
theorem dX2_fill_10 : decode cX2_fill 10 = .ok (.iload_n 3, 1) := by decide +kernel
theorem dX2_fill_11 : decode cX2_fill 11 = .ok (.invokestatic 72, 3) := by decide +kernel
theorem dX2_fill_14 : decode cX2_fill 14 = .ok (.iload 4, 2) := by decide +kernel
theorem dX2_fill_16 : decode cX2_fill 16 = .ok (.invokestatic 42, 3) := by decide +kernel
theorem dX2_fill_19 : decode cX2_fill 19 = .ok (.iconst 0, 1) := by decide +kernel
theorem dX2_fill_20 : decode cX2_fill 20 = .ok (.istore 6, 2) := by decide +kernel
theorem dX2_fill_22 : decode cX2_fill 22 = .ok (.iload_n 2, 1) := by decide +kernel
theorem dX2_fill_23 : decode cX2_fill 23 = .ok (.istore 7, 2) := by decide +kernel
theorem dX2_fill_25 : decode cX2_fill 25 = .ok (.iload 7, 2) := by decide +kernel
theorem dX2_fill_27 : decode cX2_fill 27 = .ok (.iload_n 3, 1) := by decide +kernel
theorem dX2_fill_28 : decode cX2_fill 28 = .ok (.if_icmp .ge 35, 3) := by decide +kernel
theorem dX2_fill_31 : decode cX2_fill 31 = .ok (.aload 5, 2) := by decide +kernel
theorem dX2_fill_33 : decode cX2_fill 33 = .ok (.getfield 83, 3) := by decide +kernel
theorem dX2_fill_36 : decode cX2_fill 36 = .ok (.iload 7, 2) := by decide +kernel
theorem dX2_fill_38 : decode cX2_fill 38 = .ok (.iaload, 1) := by decide +kernel
theorem dX2_fill_39 : decode cX2_fill 39 = .ok (.iload 4, 2) := by decide +kernel
theorem dX2_fill_41 : decode cX2_fill 41 = .ok (.if_icmp .eq 16, 3) := by decide +kernel
theorem dX2_fill_44 : decode cX2_fill 44 = .ok (.aload 5, 2) := by decide +kernel
theorem dX2_fill_46 : decode cX2_fill 46 = .ok (.getfield 83, 3) := by decide +kernel
theorem dX2_fill_49 : decode cX2_fill 49 = .ok (.iload 7, 2) := by decide +kernel
theorem dX2_fill_51 : decode cX2_fill 51 = .ok (.iload 4, 2) := by decide +kernel
theorem dX2_fill_53 : decode cX2_fill 53 = .ok (.iastore, 1) := by decide +kernel
theorem dX2_fill_54 : decode cX2_fill 54 = .ok (.iinc 6 1, 3) := by decide +kernel
theorem dX2_fill_57 : decode cX2_fill 57 = .ok (.iinc 7 1, 3) := by decide +kernel
theorem dX2_fill_60 : decode cX2_fill 60 = .ok (.goto (-35), 3) := by decide +kernel
theorem dX2_fill_63 : decode cX2_fill 63 = .ok (.iload 6, 2) := by decide +kernel
theorem dX2_fill_65 : decode cX2_fill 65 = .ok (.ireturn, 1) := by decide +kernel
theorem dX2_copy_0 : decode cX2_copy 0 = .ok (.aload_n 0, 1) := by decide +kernel
theorem dX2_copy_1 : decode cX2_copy 1 = .ok (.iload_n 1, 1) := by decide +kernel
theorem dX2_copy_2 : decode cX2_copy 2 = .ok (.invokevirtual 38, 3) := by decide +kernel
theorem dX2_copy_5 : decode cX2_copy 5 = .ok (.astore_n 3, 1) := by decide +kernel
theorem dX2_copy_6 : decode cX2_copy 6 = .ok (.aload_n 0, 1) := by decide +kernel
theorem dX2_copy_7 : decode cX2_copy 7 = .ok (.iload_n 2, 1) := by decide +kernel
theorem dX2_copy_8 : decode cX2_copy 8 = .ok (.invokevirtual 38, 3) := by decide +kernel
theorem dX2_copy_11 : decode cX2_copy 11 = .ok (.astore 4, 2) := by decide +kernel
theorem dX2_copy_13 : decode cX2_copy 13 = .ok (.aload 4, 2) := by decide +kernel
theorem dX2_copy_15 : decode cX2_copy 15 = .ok (.getfield 53, 3) := by decide +kernel
theorem dX2_copy_18 : decode cX2_copy 18 = .ok (.aload_n 3, 1) := by decide +kernel
theorem dX2_copy_19 : decode cX2_copy 19 = .ok (.getfield 53, 3) := by decide +kernel
theorem dX2_copy_22 : decode cX2_copy 22 = .ok (.if_icmp .ge 13, 3) := by decide +kernel
theorem dX2_copy_25 : decode cX2_copy 25 = .ok (.new 92, 3) := by decide +kernel
theorem dX2_copy_28 : decode cX2_copy 28 = .ok (.dup, 1) := by decide +kernel
theorem dX2_copy_29 : decode cX2_copy 29 = .ok (.ldc 187, 2) := by decide +kernel
theorem dX2_copy_31 : decode cX2_copy 31 = .ok (.invokespecial 96, 3) := by decide +kernel
theorem dX2_copy_34 : decode cX2_copy 34 = .ok (.athrow, 1) := by decide +kernel
theorem dX2_copy_35 : decode cX2_copy 35 = .ok (.iconst 0, 1) := by decide +kernel
theorem dX2_copy_36 : decode cX2_copy 36 = .ok (.istore 5, 2) := by decide +kernel
theorem dX2_copy_38 : decode cX2_copy 38 = .ok (.iload 5, 2) := by decide +kernel
theorem dX2_copy_40 : decode cX2_copy 40 = .ok (.aload_n 3, 1) := by decide +kernel
theorem dX2_copy_41 : decode cX2_copy 41 = .ok (.getfield 53, 3) := by decide +kernel
theorem dX2_copy_44 : decode cX2_copy 44 = .ok (.if_icmp .ge 24, 3) := by decide +kernel
theorem dX2_copy_47 : decode cX2_copy 47 = .ok (.aload 4, 2) := by decide +kernel
theorem dX2_copy_49 : decode cX2_copy 49 = .ok (.getfield 83, 3) := by decide +kernel
theorem dX2_copy_52 : decode cX2_copy 52 = .ok (.iload 5, 2) := by decide +kernel
theorem dX2_copy_54 : decode cX2_copy 54 = .ok (.aload_n 3, 1) := by decide +kernel
theorem dX2_copy_55 : decode cX2_copy 55 = .ok (.getfield 83, 3) := by decide +kernel
theorem dX2_copy_58 : decode cX2_copy 58 = .ok (.iload 5, 2) := by decide +kernel
theorem dX2_copy_60 : decode cX2_copy 60 = .ok (.iaload, 1) := by decide +kernel
theorem dX2_copy_61 : decode cX2_copy 61 = .ok (.iastore, 1) := by decide +kernel
theorem dX2_copy_62 : decode cX2_copy 62 = .ok (.iinc 5 1, 3) := by decide +kernel
theorem dX2_copy_65 : decode cX2_copy 65 = .ok (.goto (-27), 3) := by decide +kernel
theorem dX2_copy_68 : decode cX2_copy 68 = .ok (.aload 4, 2) := by decide +kernel
theorem dX2_copy_70 : decode cX2_copy 70 = .ok (.getfield 53, 3) := by decide +kernel
theorem dX2_copy_73 : decode cX2_copy 73 = .ok (.ireturn, 1) := by decide +kernel
theorem dX2_stands_0 : decode cX2_stands 0 = .ok (.iload_n 1, 1) := by decide +kernel
theorem dX2_stands_1 : decode cX2_stands 1 = .ok (.invokestatic 42, 3) := by decide +kernel
theorem dX2_stands_4 : decode cX2_stands 4 = .ok (.iconst 0, 1) := by decide +kernel
theorem dX2_stands_5 : decode cX2_stands 5 = .ok (.istore_n 3, 1) := by decide +kernel
theorem dX2_stands_6 : decode cX2_stands 6 = .ok (.iconst 0, 1) := by decide +kernel
theorem dX2_stands_7 : decode cX2_stands 7 = .ok (.istore 4, 2) := by decide +kernel
theorem dX2_stands_9 : decode cX2_stands 9 = .ok (.iload 4, 2) := by decide +kernel
theorem dX2_stands_11 : decode cX2_stands 11 = .ok (.iconst 4, 1) := by decide +kernel
theorem dX2_stands_12 : decode cX2_stands 12 = .ok (.if_icmp .ge 66, 3) := by decide +kernel
theorem dX2_stands_15 : decode cX2_stands 15 = .ok (.aload_n 0, 1) := by decide +kernel
theorem dX2_stands_16 : decode cX2_stands 16 = .ok (.getfield 11, 3) := by decide +kernel
theorem dX2_stands_19 : decode cX2_stands 19 = .ok (.iload 4, 2) := by decide +kernel
theorem dX2_stands_21 : decode cX2_stands 21 = .ok (.aaload, 1) := by decide +kernel
theorem dX2_stands_22 : decode cX2_stands 22 = .ok (.astore 5, 2) := by decide +kernel
theorem dX2_stands_24 : decode cX2_stands 24 = .ok (.iconst 0, 1) := by decide +kernel
theorem dX2_stands_25 : decode cX2_stands 25 = .ok (.istore 6, 2) := by decide +kernel
theorem dX2_stands_27 : decode cX2_stands 27 = .ok (.iload 6, 2) := by decide +kernel
theorem dX2_stands_29 : decode cX2_stands 29 = .ok (.aload 5, 2) := by decide +kernel
theorem dX2_stands_31 : decode cX2_stands 31 = .ok (.getfield 53, 3) := by decide +kernel
theorem dX2_stands_34 : decode cX2_stands 34 = .ok (.if_icmp .ge 38, 3) := by decide +kernel
theorem dX2_stands_37 : decode cX2_stands 37 = .ok (.aload 5, 2) := by decide +kernel
theorem dX2_stands_39 : decode cX2_stands 39 = .ok (.getfield 83, 3) := by decide +kernel
theorem dX2_stands_42 : decode cX2_stands 42 = .ok (.iload 6, 2) := by decide +kernel
theorem dX2_stands_44 : decode cX2_stands 44 = .ok (.iaload, 1) := by decide +kernel
theorem dX2_stands_45 : decode cX2_stands 45 = .ok (.iload_n 1, 1) := by decide +kernel
theorem dX2_stands_46 : decode cX2_stands 46 = .ok (.if_icmp .ne 20, 3) := by decide +kernel
theorem dX2_stands_49 : decode cX2_stands 49 = .ok (.iload_n 3, 1) := by decide +kernel
theorem dX2_stands_50 : decode cX2_stands 50 = .ok (.iload_n 2, 1) := by decide +kernel
theorem dX2_stands_51 : decode cX2_stands 51 = .ok (.if_icmp .ne 12, 3) := by decide +kernel
theorem dX2_stands_54 : decode cX2_stands 54 = .ok (.iload 4, 2) := by decide +kernel
theorem dX2_stands_56 : decode cX2_stands 56 = .ok (.bipush 100, 2) := by decide +kernel
theorem dX2_stands_58 : decode cX2_stands 58 = .ok (.imul, 1) := by decide +kernel
theorem dX2_stands_59 : decode cX2_stands 59 = .ok (.iload 6, 2) := by decide +kernel
theorem dX2_stands_61 : decode cX2_stands 61 = .ok (.iadd, 1) := by decide +kernel
theorem dX2_stands_62 : decode cX2_stands 62 = .ok (.ireturn, 1) := by decide +kernel
theorem dX2_stands_63 : decode cX2_stands 63 = .ok (.iinc 3 1, 3) := by decide +kernel
theorem dX2_stands_66 : decode cX2_stands 66 = .ok (.iinc 6 1, 3) := by decide +kernel
theorem dX2_stands_69 : decode cX2_stands 69 = .ok (.goto (-42), 3) := by decide +kernel
theorem dX2_stands_72 : decode cX2_stands 72 = .ok (.iinc 4 1, 3) := by decide +kernel
theorem dX2_stands_75 : decode cX2_stands 75 = .ok (.goto (-66), 3) := by decide +kernel
theorem dX2_stands_78 : decode cX2_stands 78 = .ok (.new 189, 3) := by decide +kernel
theorem dX2_stands_81 : decode cX2_stands 81 = .ok (.dup, 1) := by decide +kernel
theorem dX2_stands_82 : decode cX2_stands 82 = .ok (.ldc 191, 2) := by decide +kernel
theorem dX2_stands_84 : decode cX2_stands 84 = .ok (.invokespecial 193, 3) := by decide +kernel
theorem dX2_stands_87 : decode cX2_stands 87 = .ok (.athrow, 1) := by decide +kernel
theorem dX2_near_0 : decode cX2_near 0 = .ok (.aload_n 0, 1) := by decide +kernel
theorem dX2_near_1 : decode cX2_near 1 = .ok (.iload_n 1, 1) := by decide +kernel
theorem dX2_near_2 : decode cX2_near 2 = .ok (.invokevirtual 38, 3) := by decide +kernel
theorem dX2_near_5 : decode cX2_near 5 = .ok (.astore 4, 2) := by decide +kernel
theorem dX2_near_7 : decode cX2_near 7 = .ok (.aload 4, 2) := by decide +kernel
theorem dX2_near_9 : decode cX2_near 9 = .ok (.iload_n 2, 1) := by decide +kernel
theorem dX2_near_10 : decode cX2_near 10 = .ok (.invokestatic 80, 3) := by decide +kernel
theorem dX2_near_13 : decode cX2_near 13 = .ok (.iload_n 3, 1) := by decide +kernel
theorem dX2_near_14 : decode cX2_near 14 = .ok (.invokestatic 42, 3) := by decide +kernel
theorem dX2_near_17 : decode cX2_near 17 = .ok (.iconst (-1), 1) := by decide +kernel
theorem dX2_near_18 : decode cX2_near 18 = .ok (.istore 5, 2) := by decide +kernel
theorem dX2_near_20 : decode cX2_near 20 = .ok (.iconst 0, 1) := by decide +kernel
theorem dX2_near_21 : decode cX2_near 21 = .ok (.istore 6, 2) := by decide +kernel
theorem dX2_near_23 : decode cX2_near 23 = .ok (.iload 6, 2) := by decide +kernel
theorem dX2_near_25 : decode cX2_near 25 = .ok (.aload 4, 2) := by decide +kernel
theorem dX2_near_27 : decode cX2_near 27 = .ok (.getfield 53, 3) := by decide +kernel
theorem dX2_near_30 : decode cX2_near 30 = .ok (.if_icmp .ge 48, 3) := by decide +kernel
theorem dX2_near_33 : decode cX2_near 33 = .ok (.aload 4, 2) := by decide +kernel
theorem dX2_near_35 : decode cX2_near 35 = .ok (.getfield 83, 3) := by decide +kernel
theorem dX2_near_38 : decode cX2_near 38 = .ok (.iload 6, 2) := by decide +kernel
theorem dX2_near_40 : decode cX2_near 40 = .ok (.iaload, 1) := by decide +kernel
theorem dX2_near_41 : decode cX2_near 41 = .ok (.iload_n 3, 1) := by decide +kernel
theorem dX2_near_42 : decode cX2_near 42 = .ok (.if_icmp .ne 30, 3) := by decide +kernel
theorem dX2_near_45 : decode cX2_near 45 = .ok (.iload 5, 2) := by decide +kernel
theorem dX2_near_47 : decode cX2_near 47 = .ok (.iconst (-1), 1) := by decide +kernel
theorem dX2_near_48 : decode cX2_near 48 = .ok (.if_icmp .eq 20, 3) := by decide +kernel
theorem dX2_near_51 : decode cX2_near 51 = .ok (.iload 6, 2) := by decide +kernel
theorem dX2_near_53 : decode cX2_near 53 = .ok (.iload_n 2, 1) := by decide +kernel
theorem dX2_near_54 : decode cX2_near 54 = .ok (.isub, 1) := by decide +kernel
theorem dX2_near_55 : decode cX2_near 55 = .ok (.invokestatic 194, 3) := by decide +kernel
theorem dX2_near_58 : decode cX2_near 58 = .ok (.iload 5, 2) := by decide +kernel
theorem dX2_near_60 : decode cX2_near 60 = .ok (.iload_n 2, 1) := by decide +kernel
theorem dX2_near_61 : decode cX2_near 61 = .ok (.isub, 1) := by decide +kernel
theorem dX2_near_62 : decode cX2_near 62 = .ok (.invokestatic 194, 3) := by decide +kernel
theorem dX2_near_65 : decode cX2_near 65 = .ok (.if_icmp .ge 7, 3) := by decide +kernel
theorem dX2_near_68 : decode cX2_near 68 = .ok (.iload 6, 2) := by decide +kernel
theorem dX2_near_70 : decode cX2_near 70 = .ok (.istore 5, 2) := by decide +kernel
theorem dX2_near_72 : decode cX2_near 72 = .ok (.iinc 6 1, 3) := by decide +kernel
theorem dX2_near_75 : decode cX2_near 75 = .ok (.goto (-52), 3) := by decide +kernel
theorem dX2_near_78 : decode cX2_near 78 = .ok (.iload 5, 2) := by decide +kernel
theorem dX2_near_80 : decode cX2_near 80 = .ok (.ireturn, 1) := by decide +kernel
theorem dX2_common_0 : decode cX2_common 0 = .ok (.aload_n 0, 1) := by decide +kernel
theorem dX2_common_1 : decode cX2_common 1 = .ok (.iload_n 1, 1) := by decide +kernel
theorem dX2_common_2 : decode cX2_common 2 = .ok (.invokevirtual 38, 3) := by decide +kernel
theorem dX2_common_5 : decode cX2_common 5 = .ok (.astore 4, 2) := by decide +kernel
theorem dX2_common_7 : decode cX2_common 7 = .ok (.aload_n 0, 1) := by decide +kernel
theorem dX2_common_8 : decode cX2_common 8 = .ok (.iload_n 2, 1) := by decide +kernel
theorem dX2_common_9 : decode cX2_common 9 = .ok (.invokevirtual 38, 3) := by decide +kernel
theorem dX2_common_12 : decode cX2_common 12 = .ok (.astore 5, 2) := by decide +kernel
theorem dX2_common_14 : decode cX2_common 14 = .ok (.iload_n 3, 1) := by decide +kernel
theorem dX2_common_15 : decode cX2_common 15 = .ok (.iconst 0, 1) := by decide +kernel
theorem dX2_common_16 : decode cX2_common 16 = .ok (.iconst 2, 1) := by decide +kernel
theorem dX2_common_17 : decode cX2_common 17 = .ok (.invokestatic 60, 3) := by decide +kernel
theorem dX2_common_20 : decode cX2_common 20 = .ok (.aload_n 0, 1) := by decide +kernel
theorem dX2_common_21 : decode cX2_common 21 = .ok (.invokevirtual 197, 3) := by decide +kernel
theorem dX2_common_24 : decode cX2_common 24 = .ok (.iconst 0, 1) := by decide +kernel
theorem dX2_common_25 : decode cX2_common 25 = .ok (.istore 6, 2) := by decide +kernel
theorem dX2_common_27 : decode cX2_common 27 = .ok (.iconst 0, 1) := by decide +kernel
theorem dX2_common_28 : decode cX2_common 28 = .ok (.istore 7, 2) := by decide +kernel
theorem dX2_common_30 : decode cX2_common 30 = .ok (.iconst 0, 1) := by decide +kernel
theorem dX2_common_31 : decode cX2_common 31 = .ok (.istore 8, 2) := by decide +kernel
theorem dX2_common_33 : decode cX2_common 33 = .ok (.aload 4, 2) := by decide +kernel
theorem dX2_common_35 : decode cX2_common 35 = .ok (.getfield 53, 3) := by decide +kernel
theorem dX2_common_38 : decode cX2_common 38 = .ok (.iconst 1, 1) := by decide +kernel
theorem dX2_common_39 : decode cX2_common 39 = .ok (.isub, 1) := by decide +kernel
theorem dX2_common_40 : decode cX2_common 40 = .ok (.istore 9, 2) := by decide +kernel
theorem dX2_common_42 : decode cX2_common 42 = .ok (.iload 9, 2) := by decide +kernel
theorem dX2_common_44 : decode cX2_common 44 = .ok (.ifCond .lt 56, 3) := by decide +kernel
theorem dX2_common_47 : decode cX2_common 47 = .ok (.aload_n 0, 1) := by decide +kernel
theorem dX2_common_48 : decode cX2_common 48 = .ok (.aload 4, 2) := by decide +kernel
theorem dX2_common_50 : decode cX2_common 50 = .ok (.iload 9, 2) := by decide +kernel
theorem dX2_common_52 : decode cX2_common 52 = .ok (.aload 5, 2) := by decide +kernel
theorem dX2_common_54 : decode cX2_common 54 = .ok (.invokevirtual 200, 3) := by decide +kernel
theorem dX2_common_57 : decode cX2_common 57 = .ok (.istore 10, 2) := by decide +kernel
theorem dX2_common_59 : decode cX2_common 59 = .ok (.iload 10, 2) := by decide +kernel
theorem dX2_common_61 : decode cX2_common 61 = .ok (.iconst (-1), 1) := by decide +kernel
theorem dX2_common_62 : decode cX2_common 62 = .ok (.if_icmp .eq 32, 3) := by decide +kernel
theorem dX2_common_65 : decode cX2_common 65 = .ok (.aload_n 0, 1) := by decide +kernel
theorem dX2_common_66 : decode cX2_common 66 = .ok (.getfield 35, 3) := by decide +kernel
theorem dX2_common_69 : decode cX2_common 69 = .ok (.iload 10, 2) := by decide +kernel
theorem dX2_common_71 : decode cX2_common 71 = .ok (.iaload, 1) := by decide +kernel
theorem dX2_common_72 : decode cX2_common 72 = .ok (.iload 6, 2) := by decide +kernel
theorem dX2_common_74 : decode cX2_common 74 = .ok (.if_icmp .lt 20, 3) := by decide +kernel
theorem dX2_common_77 : decode cX2_common 77 = .ok (.aload_n 0, 1) := by decide +kernel
theorem dX2_common_78 : decode cX2_common 78 = .ok (.getfield 35, 3) := by decide +kernel
theorem dX2_common_81 : decode cX2_common 81 = .ok (.iload 10, 2) := by decide +kernel
theorem dX2_common_83 : decode cX2_common 83 = .ok (.iaload, 1) := by decide +kernel
theorem dX2_common_84 : decode cX2_common 84 = .ok (.istore 6, 2) := by decide +kernel
theorem dX2_common_86 : decode cX2_common 86 = .ok (.iload 9, 2) := by decide +kernel
theorem dX2_common_88 : decode cX2_common 88 = .ok (.istore 7, 2) := by decide +kernel
theorem dX2_common_90 : decode cX2_common 90 = .ok (.iload 10, 2) := by decide +kernel
theorem dX2_common_92 : decode cX2_common 92 = .ok (.istore 8, 2) := by decide +kernel
theorem dX2_common_94 : decode cX2_common 94 = .ok (.iinc 9 (-1), 3) := by decide +kernel
theorem dX2_common_97 : decode cX2_common 97 = .ok (.goto (-55), 3) := by decide +kernel
theorem dX2_common_100 : decode cX2_common 100 = .ok (.iload_n 3, 1) := by decide +kernel
theorem dX2_common_101 : decode cX2_common 101 = .ok (.ifCond .ne 8, 3) := by decide +kernel
theorem dX2_common_104 : decode cX2_common 104 = .ok (.iload 6, 2) := by decide +kernel
theorem dX2_common_106 : decode cX2_common 106 = .ok (.goto 15, 3) := by decide +kernel
theorem dX2_common_109 : decode cX2_common 109 = .ok (.iload_n 3, 1) := by decide +kernel
theorem dX2_common_110 : decode cX2_common 110 = .ok (.iconst 1, 1) := by decide +kernel
theorem dX2_common_111 : decode cX2_common 111 = .ok (.if_icmp .ne 8, 3) := by decide +kernel
theorem dX2_common_114 : decode cX2_common 114 = .ok (.iload 7, 2) := by decide +kernel
theorem dX2_common_116 : decode cX2_common 116 = .ok (.goto 5, 3) := by decide +kernel
theorem dX2_common_119 : decode cX2_common 119 = .ok (.iload 8, 2) := by decide +kernel
theorem dX2_common_121 : decode cX2_common 121 = .ok (.ireturn, 1) := by decide +kernel
theorem dX2_clearRuns_0 : decode cX2_clearRuns 0 = .ok (.iconst 0, 1) := by decide +kernel
theorem dX2_clearRuns_1 : decode cX2_clearRuns 1 = .ok (.istore_n 1, 1) := by decide +kernel
theorem dX2_clearRuns_2 : decode cX2_clearRuns 2 = .ok (.iload_n 1, 1) := by decide +kernel
theorem dX2_clearRuns_3 : decode cX2_clearRuns 3 = .ok (.aload_n 0, 1) := by decide +kernel
theorem dX2_clearRuns_4 : decode cX2_clearRuns 4 = .ok (.getfield 35, 3) := by decide +kernel
theorem dX2_clearRuns_7 : decode cX2_clearRuns 7 = .ok (.arraylength, 1) := by decide +kernel
theorem dX2_clearRuns_8 : decode cX2_clearRuns 8 = .ok (.if_icmp .ge 16, 3) := by decide +kernel
theorem dX2_clearRuns_11 : decode cX2_clearRuns 11 = .ok (.aload_n 0, 1) := by decide +kernel
theorem dX2_clearRuns_12 : decode cX2_clearRuns 12 = .ok (.getfield 35, 3) := by decide +kernel
theorem dX2_clearRuns_15 : decode cX2_clearRuns 15 = .ok (.iload_n 1, 1) := by decide +kernel
theorem dX2_clearRuns_16 : decode cX2_clearRuns 16 = .ok (.iconst 0, 1) := by decide +kernel
theorem dX2_clearRuns_17 : decode cX2_clearRuns 17 = .ok (.iastore, 1) := by decide +kernel
theorem dX2_clearRuns_18 : decode cX2_clearRuns 18 = .ok (.iinc 1 1, 3) := by decide +kernel
theorem dX2_clearRuns_21 : decode cX2_clearRuns 21 = .ok (.goto (-19), 3) := by decide +kernel
theorem dX2_clearRuns_24 : decode cX2_clearRuns 24 = .ok (.return_, 1) := by decide +kernel
theorem dX2_longestRunFrom_0 : decode cX2_longestRunFrom 0 = .ok (.iconst (-1), 1) := by decide +kernel
theorem dX2_longestRunFrom_1 : decode cX2_longestRunFrom 1 = .ok (.istore 4, 2) := by decide +kernel
theorem dX2_longestRunFrom_3 : decode cX2_longestRunFrom 3 = .ok (.iconst 0, 1) := by decide +kernel
theorem dX2_longestRunFrom_4 : decode cX2_longestRunFrom 4 = .ok (.istore 5, 2) := by decide +kernel
theorem dX2_longestRunFrom_6 : decode cX2_longestRunFrom 6 = .ok (.iconst 0, 1) := by decide +kernel
theorem dX2_longestRunFrom_7 : decode cX2_longestRunFrom 7 = .ok (.istore 6, 2) := by decide +kernel
theorem dX2_longestRunFrom_9 : decode cX2_longestRunFrom 9 = .ok (.iload 6, 2) := by decide +kernel
theorem dX2_longestRunFrom_11 : decode cX2_longestRunFrom 11 = .ok (.aload_n 3, 1) := by decide +kernel
theorem dX2_longestRunFrom_12 : decode cX2_longestRunFrom 12 = .ok (.getfield 53, 3) := by decide +kernel
theorem dX2_longestRunFrom_15 : decode cX2_longestRunFrom 15 = .ok (.if_icmp .ge 72, 3) := by decide +kernel
theorem dX2_longestRunFrom_18 : decode cX2_longestRunFrom 18 = .ok (.aload_n 0, 1) := by decide +kernel
theorem dX2_longestRunFrom_19 : decode cX2_longestRunFrom 19 = .ok (.getfield 35, 3) := by decide +kernel
theorem dX2_longestRunFrom_22 : decode cX2_longestRunFrom 22 = .ok (.iload 6, 2) := by decide +kernel
theorem dX2_longestRunFrom_24 : decode cX2_longestRunFrom 24 = .ok (.aload_n 3, 1) := by decide +kernel
theorem dX2_longestRunFrom_25 : decode cX2_longestRunFrom 25 = .ok (.getfield 83, 3) := by decide +kernel
theorem dX2_longestRunFrom_28 : decode cX2_longestRunFrom 28 = .ok (.iload 6, 2) := by decide +kernel
theorem dX2_longestRunFrom_30 : decode cX2_longestRunFrom 30 = .ok (.iaload, 1) := by decide +kernel
theorem dX2_longestRunFrom_31 : decode cX2_longestRunFrom 31 = .ok (.aload_n 1, 1) := by decide +kernel
theorem dX2_longestRunFrom_32 : decode cX2_longestRunFrom 32 = .ok (.getfield 83, 3) := by decide +kernel
theorem dX2_longestRunFrom_35 : decode cX2_longestRunFrom 35 = .ok (.iload_n 2, 1) := by decide +kernel
theorem dX2_longestRunFrom_36 : decode cX2_longestRunFrom 36 = .ok (.iaload, 1) := by decide +kernel
theorem dX2_longestRunFrom_37 : decode cX2_longestRunFrom 37 = .ok (.if_icmp .ne 17, 3) := by decide +kernel
theorem dX2_longestRunFrom_40 : decode cX2_longestRunFrom 40 = .ok (.aload_n 0, 1) := by decide +kernel
theorem dX2_longestRunFrom_41 : decode cX2_longestRunFrom 41 = .ok (.getfield 35, 3) := by decide +kernel
theorem dX2_longestRunFrom_44 : decode cX2_longestRunFrom 44 = .ok (.iload 6, 2) := by decide +kernel
theorem dX2_longestRunFrom_46 : decode cX2_longestRunFrom 46 = .ok (.iconst 1, 1) := by decide +kernel
theorem dX2_longestRunFrom_47 : decode cX2_longestRunFrom 47 = .ok (.iadd, 1) := by decide +kernel
theorem dX2_longestRunFrom_48 : decode cX2_longestRunFrom 48 = .ok (.iaload, 1) := by decide +kernel
theorem dX2_longestRunFrom_49 : decode cX2_longestRunFrom 49 = .ok (.iconst 1, 1) := by decide +kernel
theorem dX2_longestRunFrom_50 : decode cX2_longestRunFrom 50 = .ok (.iadd, 1) := by decide +kernel
theorem dX2_longestRunFrom_51 : decode cX2_longestRunFrom 51 = .ok (.goto 4, 3) := by decide +kernel
theorem dX2_longestRunFrom_54 : decode cX2_longestRunFrom 54 = .ok (.iconst 0, 1) := by decide +kernel
theorem dX2_longestRunFrom_55 : decode cX2_longestRunFrom 55 = .ok (.iastore, 1) := by decide +kernel
theorem dX2_longestRunFrom_56 : decode cX2_longestRunFrom 56 = .ok (.aload_n 0, 1) := by decide +kernel
theorem dX2_longestRunFrom_57 : decode cX2_longestRunFrom 57 = .ok (.getfield 35, 3) := by decide +kernel
theorem dX2_longestRunFrom_60 : decode cX2_longestRunFrom 60 = .ok (.iload 6, 2) := by decide +kernel
theorem dX2_longestRunFrom_62 : decode cX2_longestRunFrom 62 = .ok (.iaload, 1) := by decide +kernel
theorem dX2_longestRunFrom_63 : decode cX2_longestRunFrom 63 = .ok (.iload 5, 2) := by decide +kernel
theorem dX2_longestRunFrom_65 : decode cX2_longestRunFrom 65 = .ok (.if_icmp .le 16, 3) := by decide +kernel
theorem dX2_longestRunFrom_68 : decode cX2_longestRunFrom 68 = .ok (.aload_n 0, 1) := by decide +kernel
theorem dX2_longestRunFrom_69 : decode cX2_longestRunFrom 69 = .ok (.getfield 35, 3) := by decide +kernel
theorem dX2_longestRunFrom_72 : decode cX2_longestRunFrom 72 = .ok (.iload 6, 2) := by decide +kernel
theorem dX2_longestRunFrom_74 : decode cX2_longestRunFrom 74 = .ok (.iaload, 1) := by decide +kernel
theorem dX2_longestRunFrom_75 : decode cX2_longestRunFrom 75 = .ok (.istore 5, 2) := by decide +kernel
theorem dX2_longestRunFrom_77 : decode cX2_longestRunFrom 77 = .ok (.iload 6, 2) := by decide +kernel
theorem dX2_longestRunFrom_79 : decode cX2_longestRunFrom 79 = .ok (.istore 4, 2) := by decide +kernel
theorem dX2_longestRunFrom_81 : decode cX2_longestRunFrom 81 = .ok (.iinc 6 1, 3) := by decide +kernel
theorem dX2_longestRunFrom_84 : decode cX2_longestRunFrom 84 = .ok (.goto (-75), 3) := by decide +kernel
theorem dX2_longestRunFrom_87 : decode cX2_longestRunFrom 87 = .ok (.iload 4, 2) := by decide +kernel
theorem dX2_longestRunFrom_89 : decode cX2_longestRunFrom 89 = .ok (.ireturn, 1) := by decide +kernel
theorem dX2_refuses_0 : decode cX2_refuses 0 = .ok (.iload_n 1, 1) := by decide +kernel
theorem dX2_refuses_1 : decode cX2_refuses 1 = .ok (.iconst 0, 1) := by decide +kernel
theorem dX2_refuses_2 : decode cX2_refuses 2 = .ok (.iconst 4, 1) := by decide +kernel
theorem dX2_refuses_3 : decode cX2_refuses 3 = .ok (.invokestatic 60, 3) := by decide +kernel
theorem dX2_refuses_6 : decode cX2_refuses 6 = .ok (.iload_n 1, 1) := by decide +kernel
theorem dX2_refuses_7 : decode cX2_refuses 7 = .ok (.invokestatic 204, 3) := by decide +kernel
theorem dX2_refuses_10 : decode cX2_refuses 10 = .ok (.ireturn, 1) := by decide +kernel
theorem dX2_isRefused_0 : decode cX2_isRefused 0 = .ok (.iload_n 0, 1) := by decide +kernel
theorem dX2_isRefused_1 : decode cX2_isRefused 1 = .ok (.invokestatic 207, 3) := by decide +kernel
theorem dX2_isRefused_4 : decode cX2_isRefused 4 = .ok (.goto 48, 3) := by decide +kernel
theorem dX2_isRefused_7 : decode cX2_isRefused 7 = .ok (.astore_n 1, 1) := by decide +kernel
theorem dX2_isRefused_8 : decode cX2_isRefused 8 = .ok (.iload_n 0, 1) := by decide +kernel
theorem dX2_isRefused_9 : decode cX2_isRefused 9 = .ok (.ifCond .eq 13, 3) := by decide +kernel
theorem dX2_isRefused_12 : decode cX2_isRefused 12 = .ok (.iload_n 0, 1) := by decide +kernel
theorem dX2_isRefused_13 : decode cX2_isRefused 13 = .ok (.iconst 1, 1) := by decide +kernel
theorem dX2_isRefused_14 : decode cX2_isRefused 14 = .ok (.if_icmp .eq 8, 3) := by decide +kernel
theorem dX2_isRefused_17 : decode cX2_isRefused 17 = .ok (.iload_n 0, 1) := by decide +kernel
theorem dX2_isRefused_18 : decode cX2_isRefused 18 = .ok (.iconst 2, 1) := by decide +kernel
theorem dX2_isRefused_19 : decode cX2_isRefused 19 = .ok (.if_icmp .ne 7, 3) := by decide +kernel
theorem dX2_isRefused_22 : decode cX2_isRefused 22 = .ok (.iconst 1, 1) := by decide +kernel
theorem dX2_isRefused_23 : decode cX2_isRefused 23 = .ok (.goto 4, 3) := by decide +kernel
theorem dX2_isRefused_26 : decode cX2_isRefused 26 = .ok (.iconst 0, 1) := by decide +kernel
theorem dX2_isRefused_27 : decode cX2_isRefused 27 = .ok (.ireturn, 1) := by decide +kernel
theorem dX2_isRefused_28 : decode cX2_isRefused 28 = .ok (.astore_n 1, 1) := by decide +kernel
theorem dX2_isRefused_29 : decode cX2_isRefused 29 = .ok (.iload_n 0, 1) := by decide +kernel
theorem dX2_isRefused_30 : decode cX2_isRefused 30 = .ok (.iconst 3, 1) := by decide +kernel
theorem dX2_isRefused_31 : decode cX2_isRefused 31 = .ok (.if_icmp .ne 7, 3) := by decide +kernel
theorem dX2_isRefused_34 : decode cX2_isRefused 34 = .ok (.iconst 1, 1) := by decide +kernel
theorem dX2_isRefused_35 : decode cX2_isRefused 35 = .ok (.goto 4, 3) := by decide +kernel
theorem dX2_isRefused_38 : decode cX2_isRefused 38 = .ok (.iconst 0, 1) := by decide +kernel
theorem dX2_isRefused_39 : decode cX2_isRefused 39 = .ok (.ireturn, 1) := by decide +kernel
theorem dX2_isRefused_40 : decode cX2_isRefused 40 = .ok (.astore_n 1, 1) := by decide +kernel
theorem dX2_isRefused_41 : decode cX2_isRefused 41 = .ok (.iload_n 0, 1) := by decide +kernel
theorem dX2_isRefused_42 : decode cX2_isRefused 42 = .ok (.iconst 4, 1) := by decide +kernel
theorem dX2_isRefused_43 : decode cX2_isRefused 43 = .ok (.if_icmp .ne 7, 3) := by decide +kernel
theorem dX2_isRefused_46 : decode cX2_isRefused 46 = .ok (.iconst 1, 1) := by decide +kernel
theorem dX2_isRefused_47 : decode cX2_isRefused 47 = .ok (.goto 4, 3) := by decide +kernel
theorem dX2_isRefused_50 : decode cX2_isRefused 50 = .ok (.iconst 0, 1) := by decide +kernel
theorem dX2_isRefused_51 : decode cX2_isRefused 51 = .ok (.ireturn, 1) := by decide +kernel
theorem dX2_isRefused_52 : decode cX2_isRefused 52 = .ok (.iconst 0, 1) := by decide +kernel
theorem dX2_isRefused_53 : decode cX2_isRefused 53 = .ok (.ireturn, 1) := by decide +kernel
theorem dX2_attempt_0 : decode cX2_attempt 0 = .ok (.iload_n 0, 1) := by decide +kernel
theorem dX2_attempt_1 : decode cX2_attempt 1 = .ok (.iconst 4, 1) := by decide +kernel
theorem dX2_attempt_2 : decode cX2_attempt 2 = .ok (.if_icmp .ne 7, 3) := by decide +kernel
theorem dX2_attempt_5 : decode cX2_attempt 5 = .ok (.iconst (-1), 1) := by decide +kernel
theorem dX2_attempt_6 : decode cX2_attempt 6 = .ok (.goto 4, 3) := by decide +kernel
theorem dX2_attempt_9 : decode cX2_attempt 9 = .ok (.iconst 1, 1) := by decide +kernel
theorem dX2_attempt_10 : decode cX2_attempt 10 = .ok (.istore_n 1, 1) := by decide +kernel
theorem dX2_attempt_11 : decode cX2_attempt 11 = .ok (.iconst 0, 1) := by decide +kernel
theorem dX2_attempt_12 : decode cX2_attempt 12 = .ok (.iload_n 1, 1) := by decide +kernel
theorem dX2_attempt_13 : decode cX2_attempt 13 = .ok (.invokestatic 216, 3) := by decide +kernel
theorem dX2_attempt_16 : decode cX2_attempt 16 = .ok (.astore_n 2, 1) := by decide +kernel
theorem dX2_attempt_17 : decode cX2_attempt 17 = .ok (.iload_n 0, 1) := by decide +kernel
theorem dX2_attempt_18 : decode cX2_attempt 18 = .ok (.ifCond .ne 12, 3) := by decide +kernel
theorem dX2_attempt_21 : decode cX2_attempt 21 = .ok (.aload_n 2, 1) := by decide +kernel
theorem dX2_attempt_22 : decode cX2_attempt 22 = .ok (.iconst 0, 1) := by decide +kernel
theorem dX2_attempt_23 : decode cX2_attempt 23 = .ok (.iconst 1, 1) := by decide +kernel
theorem dX2_attempt_24 : decode cX2_attempt 24 = .ok (.invokevirtual 222, 3) := by decide +kernel
theorem dX2_attempt_27 : decode cX2_attempt 27 = .ok (.goto 40, 3) := by decide +kernel
theorem dX2_attempt_30 : decode cX2_attempt 30 = .ok (.iload_n 0, 1) := by decide +kernel
theorem dX2_attempt_31 : decode cX2_attempt 31 = .ok (.iconst 1, 1) := by decide +kernel
theorem dX2_attempt_32 : decode cX2_attempt 32 = .ok (.if_icmp .ne 11, 3) := by decide +kernel
theorem dX2_attempt_35 : decode cX2_attempt 35 = .ok (.aload_n 2, 1) := by decide +kernel
theorem dX2_attempt_36 : decode cX2_attempt 36 = .ok (.iconst 1, 1) := by decide +kernel
theorem dX2_attempt_37 : decode cX2_attempt 37 = .ok (.invokevirtual 225, 3) := by decide +kernel
theorem dX2_attempt_40 : decode cX2_attempt 40 = .ok (.goto 27, 3) := by decide +kernel
theorem dX2_attempt_43 : decode cX2_attempt 43 = .ok (.iload_n 0, 1) := by decide +kernel
theorem dX2_attempt_44 : decode cX2_attempt 44 = .ok (.iconst 2, 1) := by decide +kernel
theorem dX2_attempt_45 : decode cX2_attempt 45 = .ok (.if_icmp .ne 11, 3) := by decide +kernel
theorem dX2_attempt_48 : decode cX2_attempt 48 = .ok (.aload_n 2, 1) := by decide +kernel
theorem dX2_attempt_49 : decode cX2_attempt 49 = .ok (.iconst 0, 1) := by decide +kernel
theorem dX2_attempt_50 : decode cX2_attempt 50 = .ok (.invokevirtual 226, 3) := by decide +kernel
theorem dX2_attempt_53 : decode cX2_attempt 53 = .ok (.goto 14, 3) := by decide +kernel
theorem dX2_attempt_56 : decode cX2_attempt 56 = .ok (.iload_n 0, 1) := by decide +kernel
theorem dX2_attempt_57 : decode cX2_attempt 57 = .ok (.iconst 3, 1) := by decide +kernel
theorem dX2_attempt_58 : decode cX2_attempt 58 = .ok (.if_icmp .ne 9, 3) := by decide +kernel
theorem dX2_attempt_61 : decode cX2_attempt 61 = .ok (.aload_n 2, 1) := by decide +kernel
theorem dX2_attempt_62 : decode cX2_attempt 62 = .ok (.iload_n 1, 1) := by decide +kernel
theorem dX2_attempt_63 : decode cX2_attempt 63 = .ok (.invokevirtual 229, 3) := by decide +kernel
theorem dX2_attempt_66 : decode cX2_attempt 66 = .ok (.pop, 1) := by decide +kernel
theorem dX2_attempt_67 : decode cX2_attempt 67 = .ok (.return_, 1) := by decide +kernel
theorem dX2_errors_0 : decode cX2_errors 0 = .ok (.aload_n 0, 1) := by decide +kernel
theorem dX2_errors_1 : decode cX2_errors 1 = .ok (.iload_n 1, 1) := by decide +kernel
theorem dX2_errors_2 : decode cX2_errors 2 = .ok (.invokevirtual 38, 3) := by decide +kernel
theorem dX2_errors_5 : decode cX2_errors 5 = .ok (.astore_n 2, 1) := by decide +kernel
theorem dX2_errors_6 : decode cX2_errors 6 = .ok (.iconst 0, 1) := by decide +kernel
theorem dX2_errors_7 : decode cX2_errors 7 = .ok (.istore_n 3, 1) := by decide +kernel
theorem dX2_errors_8 : decode cX2_errors 8 = .ok (.iload_n 3, 1) := by decide +kernel
theorem dX2_errors_9 : decode cX2_errors 9 = .ok (.aload_n 0, 1) := by decide +kernel
theorem dX2_errors_10 : decode cX2_errors 10 = .ok (.aload_n 2, 1) := by decide +kernel
theorem dX2_errors_11 : decode cX2_errors 11 = .ok (.invokevirtual 232, 3) := by decide +kernel
theorem dX2_errors_14 : decode cX2_errors 14 = .ok (.ifCond .eq 7, 3) := by decide +kernel
theorem dX2_errors_17 : decode cX2_errors 17 = .ok (.iconst 0, 1) := by decide +kernel
theorem dX2_errors_18 : decode cX2_errors 18 = .ok (.goto 4, 3) := by decide +kernel
theorem dX2_errors_21 : decode cX2_errors 21 = .ok (.iconst 1, 1) := by decide +kernel
theorem dX2_errors_22 : decode cX2_errors 22 = .ok (.iadd, 1) := by decide +kernel
theorem dX2_errors_23 : decode cX2_errors 23 = .ok (.istore_n 3, 1) := by decide +kernel
theorem dX2_errors_24 : decode cX2_errors 24 = .ok (.iload_n 3, 1) := by decide +kernel
theorem dX2_errors_25 : decode cX2_errors 25 = .ok (.aload_n 0, 1) := by decide +kernel
theorem dX2_errors_26 : decode cX2_errors 26 = .ok (.aload_n 2, 1) := by decide +kernel
theorem dX2_errors_27 : decode cX2_errors 27 = .ok (.invokevirtual 236, 3) := by decide +kernel
theorem dX2_errors_30 : decode cX2_errors 30 = .ok (.ifCond .eq 7, 3) := by decide +kernel
theorem dX2_errors_33 : decode cX2_errors 33 = .ok (.iconst 0, 1) := by decide +kernel
theorem dX2_errors_34 : decode cX2_errors 34 = .ok (.goto 4, 3) := by decide +kernel
theorem dX2_errors_37 : decode cX2_errors 37 = .ok (.iconst 1, 1) := by decide +kernel
theorem dX2_errors_38 : decode cX2_errors 38 = .ok (.iadd, 1) := by decide +kernel
theorem dX2_errors_39 : decode cX2_errors 39 = .ok (.istore_n 3, 1) := by decide +kernel
theorem dX2_errors_40 : decode cX2_errors 40 = .ok (.iload_n 3, 1) := by decide +kernel
theorem dX2_errors_41 : decode cX2_errors 41 = .ok (.aload_n 0, 1) := by decide +kernel
theorem dX2_errors_42 : decode cX2_errors 42 = .ok (.aload_n 2, 1) := by decide +kernel
theorem dX2_errors_43 : decode cX2_errors 43 = .ok (.invokevirtual 239, 3) := by decide +kernel
theorem dX2_errors_46 : decode cX2_errors 46 = .ok (.ifCond .eq 7, 3) := by decide +kernel
theorem dX2_errors_49 : decode cX2_errors 49 = .ok (.iconst 0, 1) := by decide +kernel
theorem dX2_errors_50 : decode cX2_errors 50 = .ok (.goto 4, 3) := by decide +kernel
theorem dX2_errors_53 : decode cX2_errors 53 = .ok (.iconst 1, 1) := by decide +kernel
theorem dX2_errors_54 : decode cX2_errors 54 = .ok (.iadd, 1) := by decide +kernel
theorem dX2_errors_55 : decode cX2_errors 55 = .ok (.istore_n 3, 1) := by decide +kernel
theorem dX2_errors_56 : decode cX2_errors 56 = .ok (.iload_n 3, 1) := by decide +kernel
theorem dX2_errors_57 : decode cX2_errors 57 = .ok (.aload_n 0, 1) := by decide +kernel
theorem dX2_errors_58 : decode cX2_errors 58 = .ok (.aload_n 2, 1) := by decide +kernel
theorem dX2_errors_59 : decode cX2_errors 59 = .ok (.invokevirtual 242, 3) := by decide +kernel
theorem dX2_errors_62 : decode cX2_errors 62 = .ok (.ifCond .eq 7, 3) := by decide +kernel
theorem dX2_errors_65 : decode cX2_errors 65 = .ok (.iconst 0, 1) := by decide +kernel
theorem dX2_errors_66 : decode cX2_errors 66 = .ok (.goto 4, 3) := by decide +kernel
theorem dX2_errors_69 : decode cX2_errors 69 = .ok (.iconst 1, 1) := by decide +kernel
theorem dX2_errors_70 : decode cX2_errors 70 = .ok (.iadd, 1) := by decide +kernel
theorem dX2_errors_71 : decode cX2_errors 71 = .ok (.istore_n 3, 1) := by decide +kernel
theorem dX2_errors_72 : decode cX2_errors 72 = .ok (.iload_n 3, 1) := by decide +kernel
theorem dX2_errors_73 : decode cX2_errors 73 = .ok (.aload_n 0, 1) := by decide +kernel
theorem dX2_errors_74 : decode cX2_errors 74 = .ok (.aload_n 2, 1) := by decide +kernel
theorem dX2_errors_75 : decode cX2_errors 75 = .ok (.invokevirtual 245, 3) := by decide +kernel
theorem dX2_errors_78 : decode cX2_errors 78 = .ok (.ifCond .eq 7, 3) := by decide +kernel
theorem dX2_errors_81 : decode cX2_errors 81 = .ok (.iconst 0, 1) := by decide +kernel
theorem dX2_errors_82 : decode cX2_errors 82 = .ok (.goto 4, 3) := by decide +kernel
theorem dX2_errors_85 : decode cX2_errors 85 = .ok (.iconst 1, 1) := by decide +kernel
theorem dX2_errors_86 : decode cX2_errors 86 = .ok (.iadd, 1) := by decide +kernel
theorem dX2_errors_87 : decode cX2_errors 87 = .ok (.istore_n 3, 1) := by decide +kernel
theorem dX2_errors_88 : decode cX2_errors 88 = .ok (.iload_n 3, 1) := by decide +kernel
theorem dX2_errors_89 : decode cX2_errors 89 = .ok (.ireturn, 1) := by decide +kernel
theorem dX2_turnsBack_0 : decode cX2_turnsBack 0 = .ok (.aload_n 0, 1) := by decide +kernel
theorem dX2_turnsBack_1 : decode cX2_turnsBack 1 = .ok (.getfield 29, 3) := by decide +kernel
theorem dX2_turnsBack_4 : decode cX2_turnsBack 4 = .ok (.aload_n 1, 1) := by decide +kernel
theorem dX2_turnsBack_5 : decode cX2_turnsBack 5 = .ok (.invokevirtual 119, 3) := by decide +kernel
theorem dX2_turnsBack_8 : decode cX2_turnsBack 8 = .ok (.aload_n 0, 1) := by decide +kernel
theorem dX2_turnsBack_9 : decode cX2_turnsBack 9 = .ok (.getfield 29, 3) := by decide +kernel
theorem dX2_turnsBack_12 : decode cX2_turnsBack 12 = .ok (.iconst 0, 1) := by decide +kernel
theorem dX2_turnsBack_13 : decode cX2_turnsBack 13 = .ok (.aload_n 0, 1) := by decide +kernel
theorem dX2_turnsBack_14 : decode cX2_turnsBack 14 = .ok (.getfield 29, 3) := by decide +kernel
theorem dX2_turnsBack_17 : decode cX2_turnsBack 17 = .ok (.getfield 53, 3) := by decide +kernel
theorem dX2_turnsBack_20 : decode cX2_turnsBack 20 = .ok (.invokevirtual 174, 3) := by decide +kernel
theorem dX2_turnsBack_23 : decode cX2_turnsBack 23 = .ok (.aload_n 0, 1) := by decide +kernel
theorem dX2_turnsBack_24 : decode cX2_turnsBack 24 = .ok (.getfield 29, 3) := by decide +kernel
theorem dX2_turnsBack_27 : decode cX2_turnsBack 27 = .ok (.iconst 0, 1) := by decide +kernel
theorem dX2_turnsBack_28 : decode cX2_turnsBack 28 = .ok (.aload_n 0, 1) := by decide +kernel
theorem dX2_turnsBack_29 : decode cX2_turnsBack 29 = .ok (.getfield 29, 3) := by decide +kernel
theorem dX2_turnsBack_32 : decode cX2_turnsBack 32 = .ok (.getfield 53, 3) := by decide +kernel
theorem dX2_turnsBack_35 : decode cX2_turnsBack 35 = .ok (.invokevirtual 174, 3) := by decide +kernel
theorem dX2_turnsBack_38 : decode cX2_turnsBack 38 = .ok (.aload_n 0, 1) := by decide +kernel
theorem dX2_turnsBack_39 : decode cX2_turnsBack 39 = .ok (.getfield 29, 3) := by decide +kernel
theorem dX2_turnsBack_42 : decode cX2_turnsBack 42 = .ok (.aload_n 1, 1) := by decide +kernel
theorem dX2_turnsBack_43 : decode cX2_turnsBack 43 = .ok (.invokevirtual 162, 3) := by decide +kernel
theorem dX2_turnsBack_46 : decode cX2_turnsBack 46 = .ok (.ifCond .ne 7, 3) := by decide +kernel
theorem dX2_turnsBack_49 : decode cX2_turnsBack 49 = .ok (.iconst 1, 1) := by decide +kernel
theorem dX2_turnsBack_50 : decode cX2_turnsBack 50 = .ok (.goto 4, 3) := by decide +kernel
theorem dX2_turnsBack_53 : decode cX2_turnsBack 53 = .ok (.iconst 0, 1) := by decide +kernel
theorem dX2_turnsBack_54 : decode cX2_turnsBack 54 = .ok (.ireturn, 1) := by decide +kernel
theorem dX2_movesBack_0 : decode cX2_movesBack 0 = .ok (.aload_n 0, 1) := by decide +kernel
theorem dX2_movesBack_1 : decode cX2_movesBack 1 = .ok (.getfield 29, 3) := by decide +kernel
theorem dX2_movesBack_4 : decode cX2_movesBack 4 = .ok (.aload_n 1, 1) := by decide +kernel
theorem dX2_movesBack_5 : decode cX2_movesBack 5 = .ok (.invokevirtual 119, 3) := by decide +kernel
theorem dX2_movesBack_8 : decode cX2_movesBack 8 = .ok (.aload_n 0, 1) := by decide +kernel
theorem dX2_movesBack_9 : decode cX2_movesBack 9 = .ok (.aload_n 0, 1) := by decide +kernel
theorem dX2_movesBack_10 : decode cX2_movesBack 10 = .ok (.getfield 29, 3) := by decide +kernel
theorem dX2_movesBack_13 : decode cX2_movesBack 13 = .ok (.iconst 0, 1) := by decide +kernel
theorem dX2_movesBack_14 : decode cX2_movesBack 14 = .ok (.aload_n 0, 1) := by decide +kernel
theorem dX2_movesBack_15 : decode cX2_movesBack 15 = .ok (.getfield 29, 3) := by decide +kernel
theorem dX2_movesBack_18 : decode cX2_movesBack 18 = .ok (.getfield 53, 3) := by decide +kernel
theorem dX2_movesBack_21 : decode cX2_movesBack 21 = .ok (.iconst 1, 1) := by decide +kernel
theorem dX2_movesBack_22 : decode cX2_movesBack 22 = .ok (.invokevirtual 177, 3) := by decide +kernel
theorem dX2_movesBack_25 : decode cX2_movesBack 25 = .ok (.pop, 1) := by decide +kernel
theorem dX2_movesBack_26 : decode cX2_movesBack 26 = .ok (.aload_n 0, 1) := by decide +kernel
theorem dX2_movesBack_27 : decode cX2_movesBack 27 = .ok (.aload_n 0, 1) := by decide +kernel
theorem dX2_movesBack_28 : decode cX2_movesBack 28 = .ok (.getfield 29, 3) := by decide +kernel
theorem dX2_movesBack_31 : decode cX2_movesBack 31 = .ok (.iconst 0, 1) := by decide +kernel
theorem dX2_movesBack_32 : decode cX2_movesBack 32 = .ok (.aload_n 0, 1) := by decide +kernel
theorem dX2_movesBack_33 : decode cX2_movesBack 33 = .ok (.getfield 29, 3) := by decide +kernel
theorem dX2_movesBack_36 : decode cX2_movesBack 36 = .ok (.getfield 53, 3) := by decide +kernel
theorem dX2_movesBack_39 : decode cX2_movesBack 39 = .ok (.iconst (-1), 1) := by decide +kernel
theorem dX2_movesBack_40 : decode cX2_movesBack 40 = .ok (.invokevirtual 177, 3) := by decide +kernel
theorem dX2_movesBack_43 : decode cX2_movesBack 43 = .ok (.pop, 1) := by decide +kernel
theorem dX2_movesBack_44 : decode cX2_movesBack 44 = .ok (.aload_n 0, 1) := by decide +kernel
theorem dX2_movesBack_45 : decode cX2_movesBack 45 = .ok (.getfield 29, 3) := by decide +kernel
theorem dX2_movesBack_48 : decode cX2_movesBack 48 = .ok (.aload_n 1, 1) := by decide +kernel
theorem dX2_movesBack_49 : decode cX2_movesBack 49 = .ok (.invokevirtual 162, 3) := by decide +kernel
theorem dX2_movesBack_52 : decode cX2_movesBack 52 = .ok (.ifCond .ne 7, 3) := by decide +kernel
theorem dX2_movesBack_55 : decode cX2_movesBack 55 = .ok (.iconst 1, 1) := by decide +kernel
theorem dX2_movesBack_56 : decode cX2_movesBack 56 = .ok (.goto 4, 3) := by decide +kernel
theorem dX2_movesBack_59 : decode cX2_movesBack 59 = .ok (.iconst 0, 1) := by decide +kernel
theorem dX2_movesBack_60 : decode cX2_movesBack 60 = .ok (.ireturn, 1) := by decide +kernel
theorem dX2_sortsItsWords_0 : decode cX2_sortsItsWords 0 = .ok (.aload_n 0, 1) := by decide +kernel
theorem dX2_sortsItsWords_1 : decode cX2_sortsItsWords 1 = .ok (.getfield 29, 3) := by decide +kernel
theorem dX2_sortsItsWords_4 : decode cX2_sortsItsWords 4 = .ok (.aload_n 1, 1) := by decide +kernel
theorem dX2_sortsItsWords_5 : decode cX2_sortsItsWords 5 = .ok (.invokevirtual 119, 3) := by decide +kernel
theorem dX2_sortsItsWords_8 : decode cX2_sortsItsWords 8 = .ok (.aload_n 0, 1) := by decide +kernel
theorem dX2_sortsItsWords_9 : decode cX2_sortsItsWords 9 = .ok (.aload_n 0, 1) := by decide +kernel
theorem dX2_sortsItsWords_10 : decode cX2_sortsItsWords 10 = .ok (.getfield 29, 3) := by decide +kernel
theorem dX2_sortsItsWords_13 : decode cX2_sortsItsWords 13 = .ok (.iconst 0, 1) := by decide +kernel
theorem dX2_sortsItsWords_14 : decode cX2_sortsItsWords 14 = .ok (.iconst 0, 1) := by decide +kernel
theorem dX2_sortsItsWords_15 : decode cX2_sortsItsWords 15 = .ok (.invokevirtual 158, 3) := by decide +kernel
theorem dX2_sortsItsWords_18 : decode cX2_sortsItsWords 18 = .ok (.iconst 0, 1) := by decide +kernel
theorem dX2_sortsItsWords_19 : decode cX2_sortsItsWords 19 = .ok (.istore_n 2, 1) := by decide +kernel
theorem dX2_sortsItsWords_20 : decode cX2_sortsItsWords 20 = .ok (.iload_n 2, 1) := by decide +kernel
theorem dX2_sortsItsWords_21 : decode cX2_sortsItsWords 21 = .ok (.aload_n 1, 1) := by decide +kernel
theorem dX2_sortsItsWords_22 : decode cX2_sortsItsWords 22 = .ok (.getfield 53, 3) := by decide +kernel
theorem dX2_sortsItsWords_25 : decode cX2_sortsItsWords 25 = .ok (.if_icmp .ge 37, 3) := by decide +kernel
theorem dX2_sortsItsWords_28 : decode cX2_sortsItsWords 28 = .ok (.aload_n 0, 1) := by decide +kernel
theorem dX2_sortsItsWords_29 : decode cX2_sortsItsWords 29 = .ok (.getfield 29, 3) := by decide +kernel
theorem dX2_sortsItsWords_32 : decode cX2_sortsItsWords 32 = .ok (.aload_n 1, 1) := by decide +kernel
theorem dX2_sortsItsWords_33 : decode cX2_sortsItsWords 33 = .ok (.getfield 83, 3) := by decide +kernel
theorem dX2_sortsItsWords_36 : decode cX2_sortsItsWords 36 = .ok (.iload_n 2, 1) := by decide +kernel
theorem dX2_sortsItsWords_37 : decode cX2_sortsItsWords 37 = .ok (.iaload, 1) := by decide +kernel
theorem dX2_sortsItsWords_38 : decode cX2_sortsItsWords 38 = .ok (.invokevirtual 129, 3) := by decide +kernel
theorem dX2_sortsItsWords_41 : decode cX2_sortsItsWords 41 = .ok (.aload_n 1, 1) := by decide +kernel
theorem dX2_sortsItsWords_42 : decode cX2_sortsItsWords 42 = .ok (.aload_n 1, 1) := by decide +kernel
theorem dX2_sortsItsWords_43 : decode cX2_sortsItsWords 43 = .ok (.getfield 83, 3) := by decide +kernel
theorem dX2_sortsItsWords_46 : decode cX2_sortsItsWords 46 = .ok (.iload_n 2, 1) := by decide +kernel
theorem dX2_sortsItsWords_47 : decode cX2_sortsItsWords 47 = .ok (.iaload, 1) := by decide +kernel
theorem dX2_sortsItsWords_48 : decode cX2_sortsItsWords 48 = .ok (.invokevirtual 129, 3) := by decide +kernel
theorem dX2_sortsItsWords_51 : decode cX2_sortsItsWords 51 = .ok (.if_icmp .eq 5, 3) := by decide +kernel
theorem dX2_sortsItsWords_54 : decode cX2_sortsItsWords 54 = .ok (.iconst 0, 1) := by decide +kernel
theorem dX2_sortsItsWords_55 : decode cX2_sortsItsWords 55 = .ok (.ireturn, 1) := by decide +kernel
theorem dX2_sortsItsWords_56 : decode cX2_sortsItsWords 56 = .ok (.iinc 2 1, 3) := by decide +kernel
theorem dX2_sortsItsWords_59 : decode cX2_sortsItsWords 59 = .ok (.goto (-39), 3) := by decide +kernel
theorem dX2_sortsItsWords_62 : decode cX2_sortsItsWords 62 = .ok (.aload_n 0, 1) := by decide +kernel
theorem dX2_sortsItsWords_63 : decode cX2_sortsItsWords 63 = .ok (.aload_n 0, 1) := by decide +kernel
theorem dX2_sortsItsWords_64 : decode cX2_sortsItsWords 64 = .ok (.getfield 29, 3) := by decide +kernel
theorem dX2_sortsItsWords_67 : decode cX2_sortsItsWords 67 = .ok (.iconst 0, 1) := by decide +kernel
theorem dX2_sortsItsWords_68 : decode cX2_sortsItsWords 68 = .ok (.invokevirtual 165, 3) := by decide +kernel
theorem dX2_sortsItsWords_71 : decode cX2_sortsItsWords 71 = .ok (.ireturn, 1) := by decide +kernel
theorem dX2_findsWhatItCounts_0 : decode cX2_findsWhatItCounts 0 = .ok (.aload_n 0, 1) := by decide +kernel
theorem dX2_findsWhatItCounts_1 : decode cX2_findsWhatItCounts 1 = .ok (.getfield 15, 3) := by decide +kernel
theorem dX2_findsWhatItCounts_4 : decode cX2_findsWhatItCounts 4 = .ok (.iconst 0, 1) := by decide +kernel
theorem dX2_findsWhatItCounts_5 : decode cX2_findsWhatItCounts 5 = .ok (.aaload, 1) := by decide +kernel
theorem dX2_findsWhatItCounts_6 : decode cX2_findsWhatItCounts 6 = .ok (.astore_n 2, 1) := by decide +kernel
theorem dX2_findsWhatItCounts_7 : decode cX2_findsWhatItCounts 7 = .ok (.aload_n 1, 1) := by decide +kernel
theorem dX2_findsWhatItCounts_8 : decode cX2_findsWhatItCounts 8 = .ok (.aload_n 2, 1) := by decide +kernel
theorem dX2_findsWhatItCounts_9 : decode cX2_findsWhatItCounts 9 = .ok (.iconst 0, 1) := by decide +kernel
theorem dX2_findsWhatItCounts_10 : decode cX2_findsWhatItCounts 10 = .ok (.aload_n 1, 1) := by decide +kernel
theorem dX2_findsWhatItCounts_11 : decode cX2_findsWhatItCounts 11 = .ok (.getfield 53, 3) := by decide +kernel
theorem dX2_findsWhatItCounts_14 : decode cX2_findsWhatItCounts 14 = .ok (.invokevirtual 99, 3) := by decide +kernel
theorem dX2_findsWhatItCounts_17 : decode cX2_findsWhatItCounts 17 = .ok (.iconst (-1), 1) := by decide +kernel
theorem dX2_findsWhatItCounts_18 : decode cX2_findsWhatItCounts 18 = .ok (.if_icmp .eq 7, 3) := by decide +kernel
theorem dX2_findsWhatItCounts_21 : decode cX2_findsWhatItCounts 21 = .ok (.iconst 1, 1) := by decide +kernel
theorem dX2_findsWhatItCounts_22 : decode cX2_findsWhatItCounts 22 = .ok (.goto 4, 3) := by decide +kernel
theorem dX2_findsWhatItCounts_25 : decode cX2_findsWhatItCounts 25 = .ok (.iconst 0, 1) := by decide +kernel
theorem dX2_findsWhatItCounts_26 : decode cX2_findsWhatItCounts 26 = .ok (.istore_n 3, 1) := by decide +kernel
theorem dX2_findsWhatItCounts_27 : decode cX2_findsWhatItCounts 27 = .ok (.aload_n 1, 1) := by decide +kernel
theorem dX2_findsWhatItCounts_28 : decode cX2_findsWhatItCounts 28 = .ok (.aload_n 2, 1) := by decide +kernel
theorem dX2_findsWhatItCounts_29 : decode cX2_findsWhatItCounts 29 = .ok (.invokevirtual 107, 3) := by decide +kernel
theorem dX2_findsWhatItCounts_32 : decode cX2_findsWhatItCounts 32 = .ok (.istore 4, 2) := by decide +kernel
theorem dX2_findsWhatItCounts_34 : decode cX2_findsWhatItCounts 34 = .ok (.aload_n 1, 1) := by decide +kernel
theorem dX2_findsWhatItCounts_35 : decode cX2_findsWhatItCounts 35 = .ok (.aload_n 2, 1) := by decide +kernel
theorem dX2_findsWhatItCounts_36 : decode cX2_findsWhatItCounts 36 = .ok (.invokevirtual 110, 3) := by decide +kernel
theorem dX2_findsWhatItCounts_39 : decode cX2_findsWhatItCounts 39 = .ok (.istore 5, 2) := by decide +kernel
theorem dX2_findsWhatItCounts_41 : decode cX2_findsWhatItCounts 41 = .ok (.iload 4, 2) := by decide +kernel
theorem dX2_findsWhatItCounts_43 : decode cX2_findsWhatItCounts 43 = .ok (.iload 5, 2) := by decide +kernel
theorem dX2_findsWhatItCounts_45 : decode cX2_findsWhatItCounts 45 = .ok (.if_icmp .gt 35, 3) := by decide +kernel
theorem dX2_findsWhatItCounts_48 : decode cX2_findsWhatItCounts 48 = .ok (.iload 4, 2) := by decide +kernel
theorem dX2_findsWhatItCounts_50 : decode cX2_findsWhatItCounts 50 = .ok (.ifCond .le 7, 3) := by decide +kernel
theorem dX2_findsWhatItCounts_53 : decode cX2_findsWhatItCounts 53 = .ok (.iconst 1, 1) := by decide +kernel
theorem dX2_findsWhatItCounts_54 : decode cX2_findsWhatItCounts 54 = .ok (.goto 4, 3) := by decide +kernel
theorem dX2_findsWhatItCounts_57 : decode cX2_findsWhatItCounts 57 = .ok (.iconst 0, 1) := by decide +kernel
theorem dX2_findsWhatItCounts_58 : decode cX2_findsWhatItCounts 58 = .ok (.iload_n 3, 1) := by decide +kernel
theorem dX2_findsWhatItCounts_59 : decode cX2_findsWhatItCounts 59 = .ok (.if_icmp .ne 21, 3) := by decide +kernel
theorem dX2_findsWhatItCounts_62 : decode cX2_findsWhatItCounts 62 = .ok (.iload 5, 2) := by decide +kernel
theorem dX2_findsWhatItCounts_64 : decode cX2_findsWhatItCounts 64 = .ok (.ifCond .le 7, 3) := by decide +kernel
theorem dX2_findsWhatItCounts_67 : decode cX2_findsWhatItCounts 67 = .ok (.iconst 1, 1) := by decide +kernel
theorem dX2_findsWhatItCounts_68 : decode cX2_findsWhatItCounts 68 = .ok (.goto 4, 3) := by decide +kernel
theorem dX2_findsWhatItCounts_71 : decode cX2_findsWhatItCounts 71 = .ok (.iconst 0, 1) := by decide +kernel
theorem dX2_findsWhatItCounts_72 : decode cX2_findsWhatItCounts 72 = .ok (.iload_n 3, 1) := by decide +kernel
theorem dX2_findsWhatItCounts_73 : decode cX2_findsWhatItCounts 73 = .ok (.if_icmp .ne 7, 3) := by decide +kernel
theorem dX2_findsWhatItCounts_76 : decode cX2_findsWhatItCounts 76 = .ok (.iconst 1, 1) := by decide +kernel
theorem dX2_findsWhatItCounts_77 : decode cX2_findsWhatItCounts 77 = .ok (.goto 4, 3) := by decide +kernel
theorem dX2_findsWhatItCounts_80 : decode cX2_findsWhatItCounts 80 = .ok (.iconst 0, 1) := by decide +kernel
theorem dX2_findsWhatItCounts_81 : decode cX2_findsWhatItCounts 81 = .ok (.ireturn, 1) := by decide +kernel
theorem dX2_findsInMirror_0 : decode cX2_findsInMirror 0 = .ok (.aload_n 0, 1) := by decide +kernel
theorem dX2_findsInMirror_1 : decode cX2_findsInMirror 1 = .ok (.getfield 15, 3) := by decide +kernel
theorem dX2_findsInMirror_4 : decode cX2_findsInMirror 4 = .ok (.iconst 0, 1) := by decide +kernel
theorem dX2_findsInMirror_5 : decode cX2_findsInMirror 5 = .ok (.aaload, 1) := by decide +kernel
theorem dX2_findsInMirror_6 : decode cX2_findsInMirror 6 = .ok (.astore_n 2, 1) := by decide +kernel
theorem dX2_findsInMirror_7 : decode cX2_findsInMirror 7 = .ok (.aload_n 0, 1) := by decide +kernel
theorem dX2_findsInMirror_8 : decode cX2_findsInMirror 8 = .ok (.getfield 29, 3) := by decide +kernel
theorem dX2_findsInMirror_11 : decode cX2_findsInMirror 11 = .ok (.aload_n 1, 1) := by decide +kernel
theorem dX2_findsInMirror_12 : decode cX2_findsInMirror 12 = .ok (.invokevirtual 119, 3) := by decide +kernel
theorem dX2_findsInMirror_15 : decode cX2_findsInMirror 15 = .ok (.aload_n 0, 1) := by decide +kernel
theorem dX2_findsInMirror_16 : decode cX2_findsInMirror 16 = .ok (.getfield 29, 3) := by decide +kernel
theorem dX2_findsInMirror_19 : decode cX2_findsInMirror 19 = .ok (.iconst 0, 1) := by decide +kernel
theorem dX2_findsInMirror_20 : decode cX2_findsInMirror 20 = .ok (.aload_n 0, 1) := by decide +kernel
theorem dX2_findsInMirror_21 : decode cX2_findsInMirror 21 = .ok (.getfield 29, 3) := by decide +kernel
theorem dX2_findsInMirror_24 : decode cX2_findsInMirror 24 = .ok (.getfield 53, 3) := by decide +kernel
theorem dX2_findsInMirror_27 : decode cX2_findsInMirror 27 = .ok (.invokevirtual 174, 3) := by decide +kernel
theorem dX2_findsInMirror_30 : decode cX2_findsInMirror 30 = .ok (.aload_n 0, 1) := by decide +kernel
theorem dX2_findsInMirror_31 : decode cX2_findsInMirror 31 = .ok (.getfield 32, 3) := by decide +kernel
theorem dX2_findsInMirror_34 : decode cX2_findsInMirror 34 = .ok (.aload_n 2, 1) := by decide +kernel
theorem dX2_findsInMirror_35 : decode cX2_findsInMirror 35 = .ok (.invokevirtual 119, 3) := by decide +kernel
theorem dX2_findsInMirror_38 : decode cX2_findsInMirror 38 = .ok (.aload_n 0, 1) := by decide +kernel
theorem dX2_findsInMirror_39 : decode cX2_findsInMirror 39 = .ok (.getfield 32, 3) := by decide +kernel
theorem dX2_findsInMirror_42 : decode cX2_findsInMirror 42 = .ok (.iconst 0, 1) := by decide +kernel
theorem dX2_findsInMirror_43 : decode cX2_findsInMirror 43 = .ok (.aload_n 0, 1) := by decide +kernel
theorem dX2_findsInMirror_44 : decode cX2_findsInMirror 44 = .ok (.getfield 32, 3) := by decide +kernel
theorem dX2_findsInMirror_47 : decode cX2_findsInMirror 47 = .ok (.getfield 53, 3) := by decide +kernel
theorem dX2_findsInMirror_50 : decode cX2_findsInMirror 50 = .ok (.invokevirtual 174, 3) := by decide +kernel
theorem dX2_findsInMirror_53 : decode cX2_findsInMirror 53 = .ok (.aload_n 0, 1) := by decide +kernel
theorem dX2_findsInMirror_54 : decode cX2_findsInMirror 54 = .ok (.getfield 29, 3) := by decide +kernel
theorem dX2_findsInMirror_57 : decode cX2_findsInMirror 57 = .ok (.aload_n 0, 1) := by decide +kernel
theorem dX2_findsInMirror_58 : decode cX2_findsInMirror 58 = .ok (.getfield 32, 3) := by decide +kernel
theorem dX2_findsInMirror_61 : decode cX2_findsInMirror 61 = .ok (.iconst 0, 1) := by decide +kernel
theorem dX2_findsInMirror_62 : decode cX2_findsInMirror 62 = .ok (.aload_n 0, 1) := by decide +kernel
theorem dX2_findsInMirror_63 : decode cX2_findsInMirror 63 = .ok (.getfield 29, 3) := by decide +kernel
theorem dX2_findsInMirror_66 : decode cX2_findsInMirror 66 = .ok (.getfield 53, 3) := by decide +kernel
theorem dX2_findsInMirror_69 : decode cX2_findsInMirror 69 = .ok (.invokevirtual 99, 3) := by decide +kernel
theorem dX2_findsInMirror_72 : decode cX2_findsInMirror 72 = .ok (.istore_n 3, 1) := by decide +kernel
theorem dX2_findsInMirror_73 : decode cX2_findsInMirror 73 = .ok (.aload_n 1, 1) := by decide +kernel
theorem dX2_findsInMirror_74 : decode cX2_findsInMirror 74 = .ok (.aload_n 2, 1) := by decide +kernel
theorem dX2_findsInMirror_75 : decode cX2_findsInMirror 75 = .ok (.invokevirtual 103, 3) := by decide +kernel
theorem dX2_findsInMirror_78 : decode cX2_findsInMirror 78 = .ok (.istore 4, 2) := by decide +kernel
theorem dX2_findsInMirror_80 : decode cX2_findsInMirror 80 = .ok (.iload_n 3, 1) := by decide +kernel
theorem dX2_findsInMirror_81 : decode cX2_findsInMirror 81 = .ok (.iconst (-1), 1) := by decide +kernel
theorem dX2_findsInMirror_82 : decode cX2_findsInMirror 82 = .ok (.if_icmp .ne 17, 3) := by decide +kernel
theorem dX2_findsInMirror_85 : decode cX2_findsInMirror 85 = .ok (.iload 4, 2) := by decide +kernel
theorem dX2_findsInMirror_87 : decode cX2_findsInMirror 87 = .ok (.iconst (-1), 1) := by decide +kernel
theorem dX2_findsInMirror_88 : decode cX2_findsInMirror 88 = .ok (.if_icmp .ne 7, 3) := by decide +kernel
theorem dX2_findsInMirror_91 : decode cX2_findsInMirror 91 = .ok (.iconst 1, 1) := by decide +kernel
theorem dX2_findsInMirror_92 : decode cX2_findsInMirror 92 = .ok (.goto 28, 3) := by decide +kernel
theorem dX2_findsInMirror_95 : decode cX2_findsInMirror 95 = .ok (.iconst 0, 1) := by decide +kernel
theorem dX2_findsInMirror_96 : decode cX2_findsInMirror 96 = .ok (.goto 24, 3) := by decide +kernel
theorem dX2_findsInMirror_99 : decode cX2_findsInMirror 99 = .ok (.iload 4, 2) := by decide +kernel
theorem dX2_findsInMirror_101 : decode cX2_findsInMirror 101 = .ok (.aload_n 1, 1) := by decide +kernel
theorem dX2_findsInMirror_102 : decode cX2_findsInMirror 102 = .ok (.getfield 53, 3) := by decide +kernel
theorem dX2_findsInMirror_105 : decode cX2_findsInMirror 105 = .ok (.aload_n 2, 1) := by decide +kernel
theorem dX2_findsInMirror_106 : decode cX2_findsInMirror 106 = .ok (.getfield 53, 3) := by decide +kernel
theorem dX2_findsInMirror_109 : decode cX2_findsInMirror 109 = .ok (.isub, 1) := by decide +kernel
theorem dX2_findsInMirror_110 : decode cX2_findsInMirror 110 = .ok (.iload_n 3, 1) := by decide +kernel
theorem dX2_findsInMirror_111 : decode cX2_findsInMirror 111 = .ok (.isub, 1) := by decide +kernel
theorem dX2_findsInMirror_112 : decode cX2_findsInMirror 112 = .ok (.if_icmp .ne 7, 3) := by decide +kernel
theorem dX2_findsInMirror_115 : decode cX2_findsInMirror 115 = .ok (.iconst 1, 1) := by decide +kernel
theorem dX2_findsInMirror_116 : decode cX2_findsInMirror 116 = .ok (.goto 4, 3) := by decide +kernel
theorem dX2_findsInMirror_119 : decode cX2_findsInMirror 119 = .ok (.iconst 0, 1) := by decide +kernel
theorem dX2_findsInMirror_120 : decode cX2_findsInMirror 120 = .ok (.ireturn, 1) := by decide +kernel
theorem dX2_meanWord_0 : decode cX2_meanWord 0 = .ok (.aload_n 0, 1) := by decide +kernel
theorem dX2_meanWord_1 : decode cX2_meanWord 1 = .ok (.iload_n 1, 1) := by decide +kernel
theorem dX2_meanWord_2 : decode cX2_meanWord 2 = .ok (.invokevirtual 38, 3) := by decide +kernel
theorem dX2_meanWord_5 : decode cX2_meanWord 5 = .ok (.astore_n 2, 1) := by decide +kernel
theorem dX2_meanWord_6 : decode cX2_meanWord 6 = .ok (.aload_n 2, 1) := by decide +kernel
theorem dX2_meanWord_7 : decode cX2_meanWord 7 = .ok (.getfield 53, 3) := by decide +kernel
theorem dX2_meanWord_10 : decode cX2_meanWord 10 = .ok (.ifCond .ne 5, 3) := by decide +kernel
theorem dX2_meanWord_13 : decode cX2_meanWord 13 = .ok (.dconst 0, 1) := by decide +kernel
theorem dX2_meanWord_14 : decode cX2_meanWord 14 = .ok (.dreturn, 1) := by decide +kernel
theorem dX2_meanWord_15 : decode cX2_meanWord 15 = .ok (.iconst 0, 1) := by decide +kernel
theorem dX2_meanWord_16 : decode cX2_meanWord 16 = .ok (.istore_n 3, 1) := by decide +kernel
theorem dX2_meanWord_17 : decode cX2_meanWord 17 = .ok (.iconst 0, 1) := by decide +kernel
theorem dX2_meanWord_18 : decode cX2_meanWord 18 = .ok (.istore 4, 2) := by decide +kernel
theorem dX2_meanWord_20 : decode cX2_meanWord 20 = .ok (.iload 4, 2) := by decide +kernel
theorem dX2_meanWord_22 : decode cX2_meanWord 22 = .ok (.aload_n 2, 1) := by decide +kernel
theorem dX2_meanWord_23 : decode cX2_meanWord 23 = .ok (.getfield 53, 3) := by decide +kernel
theorem dX2_meanWord_26 : decode cX2_meanWord 26 = .ok (.if_icmp .ge 19, 3) := by decide +kernel
theorem dX2_meanWord_29 : decode cX2_meanWord 29 = .ok (.iload_n 3, 1) := by decide +kernel
theorem dX2_meanWord_30 : decode cX2_meanWord 30 = .ok (.aload_n 2, 1) := by decide +kernel
theorem dX2_meanWord_31 : decode cX2_meanWord 31 = .ok (.getfield 83, 3) := by decide +kernel
theorem dX2_meanWord_34 : decode cX2_meanWord 34 = .ok (.iload 4, 2) := by decide +kernel
theorem dX2_meanWord_36 : decode cX2_meanWord 36 = .ok (.iaload, 1) := by decide +kernel
theorem dX2_meanWord_37 : decode cX2_meanWord 37 = .ok (.iadd, 1) := by decide +kernel
theorem dX2_meanWord_38 : decode cX2_meanWord 38 = .ok (.istore_n 3, 1) := by decide +kernel
theorem dX2_meanWord_39 : decode cX2_meanWord 39 = .ok (.iinc 4 1, 3) := by decide +kernel
theorem dX2_meanWord_42 : decode cX2_meanWord 42 = .ok (.goto (-22), 3) := by decide +kernel
theorem dX2_meanWord_45 : decode cX2_meanWord 45 = .ok (.iload_n 3, 1) := by decide +kernel
theorem dX2_meanWord_46 : decode cX2_meanWord 46 = .ok (.i2d, 1) := by decide +kernel
theorem dX2_meanWord_47 : decode cX2_meanWord 47 = .ok (.aload_n 2, 1) := by decide +kernel
theorem dX2_meanWord_48 : decode cX2_meanWord 48 = .ok (.getfield 53, 3) := by decide +kernel
theorem dX2_meanWord_51 : decode cX2_meanWord 51 = .ok (.i2d, 1) := by decide +kernel
theorem dX2_meanWord_52 : decode cX2_meanWord 52 = .ok (.ddiv, 1) := by decide +kernel
theorem dX2_meanWord_53 : decode cX2_meanWord 53 = .ok (.dreturn, 1) := by decide +kernel
theorem dX2_share_0 : decode cX2_share 0 = .ok (.aload_n 0, 1) := by decide +kernel
theorem dX2_share_1 : decode cX2_share 1 = .ok (.iload_n 1, 1) := by decide +kernel
theorem dX2_share_2 : decode cX2_share 2 = .ok (.invokevirtual 38, 3) := by decide +kernel
theorem dX2_share_5 : decode cX2_share 5 = .ok (.astore_n 3, 1) := by decide +kernel
theorem dX2_share_6 : decode cX2_share 6 = .ok (.iload_n 2, 1) := by decide +kernel
theorem dX2_share_7 : decode cX2_share 7 = .ok (.invokestatic 42, 3) := by decide +kernel
theorem dX2_share_10 : decode cX2_share 10 = .ok (.aload_n 3, 1) := by decide +kernel
theorem dX2_share_11 : decode cX2_share 11 = .ok (.getfield 53, 3) := by decide +kernel
theorem dX2_share_14 : decode cX2_share 14 = .ok (.ifCond .ne 5, 3) := by decide +kernel
theorem dX2_share_17 : decode cX2_share 17 = .ok (.fconst 0, 1) := by decide +kernel
theorem dX2_share_18 : decode cX2_share 18 = .ok (.freturn, 1) := by decide +kernel
theorem dX2_share_19 : decode cX2_share 19 = .ok (.aload_n 3, 1) := by decide +kernel
theorem dX2_share_20 : decode cX2_share 20 = .ok (.iload_n 2, 1) := by decide +kernel
theorem dX2_share_21 : decode cX2_share 21 = .ok (.invokevirtual 129, 3) := by decide +kernel
theorem dX2_share_24 : decode cX2_share 24 = .ok (.i2f, 1) := by decide +kernel
theorem dX2_share_25 : decode cX2_share 25 = .ok (.aload_n 3, 1) := by decide +kernel
theorem dX2_share_26 : decode cX2_share 26 = .ok (.getfield 53, 3) := by decide +kernel
theorem dX2_share_29 : decode cX2_share 29 = .ok (.i2f, 1) := by decide +kernel
theorem dX2_share_30 : decode cX2_share 30 = .ok (.fdiv, 1) := by decide +kernel
theorem dX2_share_31 : decode cX2_share 31 = .ok (.freturn, 1) := by decide +kernel
theorem dX2_textAt_0 : decode cX2_textAt 0 = .ok (.iload_n 1, 1) := by decide +kernel
theorem dX2_textAt_1 : decode cX2_textAt 1 = .ok (.ifCond .lt 8, 3) := by decide +kernel
theorem dX2_textAt_4 : decode cX2_textAt 4 = .ok (.iload_n 1, 1) := by decide +kernel
theorem dX2_textAt_5 : decode cX2_textAt 5 = .ok (.iconst 4, 1) := by decide +kernel
theorem dX2_textAt_6 : decode cX2_textAt 6 = .ok (.if_icmp .lt 13, 3) := by decide +kernel
theorem dX2_textAt_9 : decode cX2_textAt 9 = .ok (.new 212, 3) := by decide +kernel
theorem dX2_textAt_12 : decode cX2_textAt 12 = .ok (.dup, 1) := by decide +kernel
theorem dX2_textAt_13 : decode cX2_textAt 13 = .ok (.ldc 248, 2) := by decide +kernel
theorem dX2_textAt_15 : decode cX2_textAt 15 = .ok (.invokespecial 250, 3) := by decide +kernel
theorem dX2_textAt_18 : decode cX2_textAt 18 = .ok (.athrow, 1) := by decide +kernel
theorem dX2_textAt_19 : decode cX2_textAt 19 = .ok (.aload_n 0, 1) := by decide +kernel
theorem dX2_textAt_20 : decode cX2_textAt 20 = .ok (.getfield 11, 3) := by decide +kernel
theorem dX2_textAt_23 : decode cX2_textAt 23 = .ok (.iload_n 1, 1) := by decide +kernel
theorem dX2_textAt_24 : decode cX2_textAt 24 = .ok (.aaload, 1) := by decide +kernel
theorem dX2_textAt_25 : decode cX2_textAt 25 = .ok (.areturn, 1) := by decide +kernel
theorem dX2_phraseAt_0 : decode cX2_phraseAt 0 = .ok (.iload_n 1, 1) := by decide +kernel
theorem dX2_phraseAt_1 : decode cX2_phraseAt 1 = .ok (.ifCond .eq 18, 3) := by decide +kernel
theorem dX2_phraseAt_4 : decode cX2_phraseAt 4 = .ok (.iload_n 1, 1) := by decide +kernel
theorem dX2_phraseAt_5 : decode cX2_phraseAt 5 = .ok (.iconst 1, 1) := by decide +kernel
theorem dX2_phraseAt_6 : decode cX2_phraseAt 6 = .ok (.if_icmp .eq 13, 3) := by decide +kernel
theorem dX2_phraseAt_9 : decode cX2_phraseAt 9 = .ok (.new 212, 3) := by decide +kernel
theorem dX2_phraseAt_12 : decode cX2_phraseAt 12 = .ok (.dup, 1) := by decide +kernel
theorem dX2_phraseAt_13 : decode cX2_phraseAt 13 = .ok (.ldc 251, 2) := by decide +kernel
theorem dX2_phraseAt_15 : decode cX2_phraseAt 15 = .ok (.invokespecial 250, 3) := by decide +kernel
theorem dX2_phraseAt_18 : decode cX2_phraseAt 18 = .ok (.athrow, 1) := by decide +kernel
theorem dX2_phraseAt_19 : decode cX2_phraseAt 19 = .ok (.aload_n 0, 1) := by decide +kernel
theorem dX2_phraseAt_20 : decode cX2_phraseAt 20 = .ok (.getfield 15, 3) := by decide +kernel
theorem dX2_phraseAt_23 : decode cX2_phraseAt 23 = .ok (.iload_n 1, 1) := by decide +kernel
theorem dX2_phraseAt_24 : decode cX2_phraseAt 24 = .ok (.aaload, 1) := by decide +kernel
theorem dX2_phraseAt_25 : decode cX2_phraseAt 25 = .ok (.areturn, 1) := by decide +kernel
theorem dX2_requireWord_0 : decode cX2_requireWord 0 = .ok (.iload_n 0, 1) := by decide +kernel
theorem dX2_requireWord_1 : decode cX2_requireWord 1 = .ok (.ifCond .lt 9, 3) := by decide +kernel
theorem dX2_requireWord_4 : decode cX2_requireWord 4 = .ok (.iload_n 0, 1) := by decide +kernel
theorem dX2_requireWord_5 : decode cX2_requireWord 5 = .ok (.bipush 100, 2) := by decide +kernel
theorem dX2_requireWord_7 : decode cX2_requireWord 7 = .ok (.if_icmp .lt 13, 3) := by decide +kernel
theorem dX2_requireWord_10 : decode cX2_requireWord 10 = .ok (.new 212, 3) := by decide +kernel
theorem dX2_requireWord_13 : decode cX2_requireWord 13 = .ok (.dup, 1) := by decide +kernel
theorem dX2_requireWord_14 : decode cX2_requireWord 14 = .ok (.ldc 253, 2) := by decide +kernel
theorem dX2_requireWord_16 : decode cX2_requireWord 16 = .ok (.invokespecial 250, 3) := by decide +kernel
theorem dX2_requireWord_19 : decode cX2_requireWord 19 = .ok (.athrow, 1) := by decide +kernel
theorem dX2_requireWord_20 : decode cX2_requireWord 20 = .ok (.return_, 1) := by decide +kernel
theorem dX2_requirePlace_0 : decode cX2_requirePlace 0 = .ok (.iload_n 1, 1) := by decide +kernel
theorem dX2_requirePlace_1 : decode cX2_requirePlace 1 = .ok (.ifCond .lt 11, 3) := by decide +kernel
theorem dX2_requirePlace_4 : decode cX2_requirePlace 4 = .ok (.iload_n 1, 1) := by decide +kernel
theorem dX2_requirePlace_5 : decode cX2_requirePlace 5 = .ok (.aload_n 0, 1) := by decide +kernel
theorem dX2_requirePlace_6 : decode cX2_requirePlace 6 = .ok (.getfield 53, 3) := by decide +kernel
theorem dX2_requirePlace_9 : decode cX2_requirePlace 9 = .ok (.if_icmp .lt 13, 3) := by decide +kernel
theorem dX2_requirePlace_12 : decode cX2_requirePlace 12 = .ok (.new 212, 3) := by decide +kernel
theorem dX2_requirePlace_15 : decode cX2_requirePlace 15 = .ok (.dup, 1) := by decide +kernel
theorem dX2_requirePlace_16 : decode cX2_requirePlace 16 = .ok (.ldc 255, 2) := by decide +kernel
theorem dX2_requirePlace_18 : decode cX2_requirePlace 18 = .ok (.invokespecial 250, 3) := by decide +kernel
theorem dX2_requirePlace_21 : decode cX2_requirePlace 21 = .ok (.athrow, 1) := by decide +kernel
theorem dX2_requirePlace_22 : decode cX2_requirePlace 22 = .ok (.return_, 1) := by decide +kernel
theorem dX2_requirePart_0 : decode cX2_requirePart 0 = .ok (.iload_n 1, 1) := by decide +kernel
theorem dX2_requirePart_1 : decode cX2_requirePart 1 = .ok (.ifCond .lt 16, 3) := by decide +kernel
theorem dX2_requirePart_4 : decode cX2_requirePart 4 = .ok (.iload_n 2, 1) := by decide +kernel
theorem dX2_requirePart_5 : decode cX2_requirePart 5 = .ok (.iload_n 1, 1) := by decide +kernel
theorem dX2_requirePart_6 : decode cX2_requirePart 6 = .ok (.if_icmp .lt 11, 3) := by decide +kernel
theorem dX2_requirePart_9 : decode cX2_requirePart 9 = .ok (.iload_n 2, 1) := by decide +kernel
theorem dX2_requirePart_10 : decode cX2_requirePart 10 = .ok (.aload_n 0, 1) := by decide +kernel
theorem dX2_requirePart_11 : decode cX2_requirePart 11 = .ok (.getfield 53, 3) := by decide +kernel
theorem dX2_requirePart_14 : decode cX2_requirePart 14 = .ok (.if_icmp .le 14, 3) := by decide +kernel
theorem dX2_requirePart_17 : decode cX2_requirePart 17 = .ok (.new 212, 3) := by decide +kernel
theorem dX2_requirePart_20 : decode cX2_requirePart 20 = .ok (.dup, 1) := by decide +kernel
theorem dX2_requirePart_21 : decode cX2_requirePart 21 = .ok (.ldc_w 257, 3) := by decide +kernel
theorem dX2_requirePart_24 : decode cX2_requirePart 24 = .ok (.invokespecial 250, 3) := by decide +kernel
theorem dX2_requirePart_27 : decode cX2_requirePart 27 = .ok (.athrow, 1) := by decide +kernel
theorem dX2_requirePart_28 : decode cX2_requirePart 28 = .ok (.return_, 1) := by decide +kernel
theorem dX2_requireWithin_0 : decode cX2_requireWithin 0 = .ok (.iload_n 0, 1) := by decide +kernel
theorem dX2_requireWithin_1 : decode cX2_requireWithin 1 = .ok (.iload_n 1, 1) := by decide +kernel
theorem dX2_requireWithin_2 : decode cX2_requireWithin 2 = .ok (.if_icmp .lt 8, 3) := by decide +kernel
theorem dX2_requireWithin_5 : decode cX2_requireWithin 5 = .ok (.iload_n 0, 1) := by decide +kernel
theorem dX2_requireWithin_6 : decode cX2_requireWithin 6 = .ok (.iload_n 2, 1) := by decide +kernel
theorem dX2_requireWithin_7 : decode cX2_requireWithin 7 = .ok (.if_icmp .le 14, 3) := by decide +kernel
theorem dX2_requireWithin_10 : decode cX2_requireWithin 10 = .ok (.new 214, 3) := by decide +kernel
theorem dX2_requireWithin_13 : decode cX2_requireWithin 13 = .ok (.dup, 1) := by decide +kernel
theorem dX2_requireWithin_14 : decode cX2_requireWithin 14 = .ok (.ldc_w 259, 3) := by decide +kernel
theorem dX2_requireWithin_17 : decode cX2_requireWithin 17 = .ok (.invokespecial 261, 3) := by decide +kernel
theorem dX2_requireWithin_20 : decode cX2_requireWithin 20 = .ok (.athrow, 1) := by decide +kernel
theorem dX2_requireWithin_21 : decode cX2_requireWithin 21 = .ok (.return_, 1) := by decide +kernel
theorem dX2_requireNotNegative_0 : decode cX2_requireNotNegative 0 = .ok (.iload_n 0, 1) := by decide +kernel
theorem dX2_requireNotNegative_1 : decode cX2_requireNotNegative 1 = .ok (.ifCond .ge 14, 3) := by decide +kernel
theorem dX2_requireNotNegative_4 : decode cX2_requireNotNegative 4 = .ok (.new 214, 3) := by decide +kernel
theorem dX2_requireNotNegative_7 : decode cX2_requireNotNegative 7 = .ok (.dup, 1) := by decide +kernel
theorem dX2_requireNotNegative_8 : decode cX2_requireNotNegative 8 = .ok (.ldc_w 262, 3) := by decide +kernel
theorem dX2_requireNotNegative_11 : decode cX2_requireNotNegative 11 = .ok (.invokespecial 261, 3) := by decide +kernel
theorem dX2_requireNotNegative_14 : decode cX2_requireNotNegative 14 = .ok (.athrow, 1) := by decide +kernel
theorem dX2_requireNotNegative_15 : decode cX2_requireNotNegative 15 = .ok (.return_, 1) := by decide +kernel
theorem dX2_requireOrder_0 : decode cX2_requireOrder 0 = .ok (.iload_n 0, 1) := by decide +kernel
theorem dX2_requireOrder_1 : decode cX2_requireOrder 1 = .ok (.ifCond .eq 19, 3) := by decide +kernel
theorem dX2_requireOrder_4 : decode cX2_requireOrder 4 = .ok (.iload_n 0, 1) := by decide +kernel
theorem dX2_requireOrder_5 : decode cX2_requireOrder 5 = .ok (.iconst 1, 1) := by decide +kernel
theorem dX2_requireOrder_6 : decode cX2_requireOrder 6 = .ok (.if_icmp .eq 14, 3) := by decide +kernel
theorem dX2_requireOrder_9 : decode cX2_requireOrder 9 = .ok (.new 214, 3) := by decide +kernel
theorem dX2_requireOrder_12 : decode cX2_requireOrder 12 = .ok (.dup, 1) := by decide +kernel
theorem dX2_requireOrder_13 : decode cX2_requireOrder 13 = .ok (.ldc_w 264, 3) := by decide +kernel
theorem dX2_requireOrder_16 : decode cX2_requireOrder 16 = .ok (.invokespecial 261, 3) := by decide +kernel
theorem dX2_requireOrder_19 : decode cX2_requireOrder 19 = .ok (.athrow, 1) := by decide +kernel
theorem dX2_requireOrder_20 : decode cX2_requireOrder 20 = .ok (.return_, 1) := by decide +kernel
theorem dX2_requireRoom_0 : decode cX2_requireRoom 0 = .ok (.iload_n 1, 1) := by decide +kernel
theorem dX2_requireRoom_1 : decode cX2_requireRoom 1 = .ok (.aload_n 0, 1) := by decide +kernel
theorem dX2_requireRoom_2 : decode cX2_requireRoom 2 = .ok (.getfield 83, 3) := by decide +kernel
theorem dX2_requireRoom_5 : decode cX2_requireRoom 5 = .ok (.arraylength, 1) := by decide +kernel
theorem dX2_requireRoom_6 : decode cX2_requireRoom 6 = .ok (.aload_n 0, 1) := by decide +kernel
theorem dX2_requireRoom_7 : decode cX2_requireRoom 7 = .ok (.getfield 53, 3) := by decide +kernel
theorem dX2_requireRoom_10 : decode cX2_requireRoom 10 = .ok (.isub, 1) := by decide +kernel
theorem dX2_requireRoom_11 : decode cX2_requireRoom 11 = .ok (.if_icmp .le 14, 3) := by decide +kernel
theorem dX2_requireRoom_14 : decode cX2_requireRoom 14 = .ok (.new 92, 3) := by decide +kernel
theorem dX2_requireRoom_17 : decode cX2_requireRoom 17 = .ok (.dup, 1) := by decide +kernel
theorem dX2_requireRoom_18 : decode cX2_requireRoom 18 = .ok (.ldc_w 266, 3) := by decide +kernel
theorem dX2_requireRoom_21 : decode cX2_requireRoom 21 = .ok (.invokespecial 96, 3) := by decide +kernel
theorem dX2_requireRoom_24 : decode cX2_requireRoom 24 = .ok (.athrow, 1) := by decide +kernel
theorem dX2_requireRoom_25 : decode cX2_requireRoom 25 = .ok (.return_, 1) := by decide +kernel
theorem dX2_requireNotEmpty_0 : decode cX2_requireNotEmpty 0 = .ok (.aload_n 0, 1) := by decide +kernel
theorem dX2_requireNotEmpty_1 : decode cX2_requireNotEmpty 1 = .ok (.getfield 53, 3) := by decide +kernel
theorem dX2_requireNotEmpty_4 : decode cX2_requireNotEmpty 4 = .ok (.ifCond .ne 14, 3) := by decide +kernel
theorem dX2_requireNotEmpty_7 : decode cX2_requireNotEmpty 7 = .ok (.new 189, 3) := by decide +kernel
theorem dX2_requireNotEmpty_10 : decode cX2_requireNotEmpty 10 = .ok (.dup, 1) := by decide +kernel
theorem dX2_requireNotEmpty_11 : decode cX2_requireNotEmpty 11 = .ok (.ldc_w 268, 3) := by decide +kernel
theorem dX2_requireNotEmpty_14 : decode cX2_requireNotEmpty 14 = .ok (.invokespecial 193, 3) := by decide +kernel
theorem dX2_requireNotEmpty_17 : decode cX2_requireNotEmpty 17 = .ok (.athrow, 1) := by decide +kernel
theorem dX2_requireNotEmpty_18 : decode cX2_requireNotEmpty 18 = .ok (.return_, 1) := by decide +kernel
end
section
theorem dX3_init_0 : decode cX3_init 0 = .ok (.aload_n 0, 1) := by decide +kernel
theorem dX3_init_1 : decode cX3_init 1 = .ok (.invokespecial 3, 3) := by decide +kernel
theorem dX3_init_4 : decode cX3_init 4 = .ok (.aload_n 0, 1) := by decide +kernel
theorem dX3_init_5 : decode cX3_init 5 = .ok (.bipush 60, 2) := by decide +kernel
theorem dX3_init_7 : decode cX3_init 7 = .ok (.newarray .int, 2) := by decide +kernel
theorem dX3_init_9 : decode cX3_init 9 = .ok (.putfield 9, 3) := by decide +kernel
theorem dX3_init_12 : decode cX3_init 12 = .ok (.return_, 1) := by decide +kernel
theorem dX3_at_0 : decode cX3_at 0 = .ok (.aload_n 0, 1) := by decide +kernel
theorem dX3_at_1 : decode cX3_at 1 = .ok (.getfield 9, 3) := by decide +kernel
theorem dX3_at_4 : decode cX3_at 4 = .ok (.iload_n 1, 1) := by decide +kernel
theorem dX3_at_5 : decode cX3_at 5 = .ok (.iaload, 1) := by decide +kernel
theorem dX3_at_6 : decode cX3_at 6 = .ok (.ireturn, 1) := by decide +kernel
theorem dX3_add_0 : decode cX3_add 0 = .ok (.aload_n 0, 1) := by decide +kernel
theorem dX3_add_1 : decode cX3_add 1 = .ok (.getfield 9, 3) := by decide +kernel
theorem dX3_add_4 : decode cX3_add 4 = .ok (.aload_n 0, 1) := by decide +kernel
theorem dX3_add_5 : decode cX3_add 5 = .ok (.getfield 15, 3) := by decide +kernel
theorem dX3_add_8 : decode cX3_add 8 = .ok (.iload_n 1, 1) := by decide +kernel
theorem dX3_add_9 : decode cX3_add 9 = .ok (.iastore, 1) := by decide +kernel
theorem dX3_add_10 : decode cX3_add 10 = .ok (.aload_n 0, 1) := by decide +kernel
theorem dX3_add_11 : decode cX3_add 11 = .ok (.dup, 1) := by decide +kernel
theorem dX3_add_12 : decode cX3_add 12 = .ok (.getfield 15, 3) := by decide +kernel
theorem dX3_add_15 : decode cX3_add 15 = .ok (.iconst 1, 1) := by decide +kernel
theorem dX3_add_16 : decode cX3_add 16 = .ok (.iadd, 1) := by decide +kernel
theorem dX3_add_17 : decode cX3_add 17 = .ok (.putfield 15, 3) := by decide +kernel
theorem dX3_add_20 : decode cX3_add 20 = .ok (.return_, 1) := by decide +kernel
theorem dX3_insert_0 : decode cX3_insert 0 = .ok (.aload_n 0, 1) := by decide +kernel
theorem dX3_insert_1 : decode cX3_insert 1 = .ok (.getfield 15, 3) := by decide +kernel
theorem dX3_insert_4 : decode cX3_insert 4 = .ok (.istore_n 3, 1) := by decide +kernel
theorem dX3_insert_5 : decode cX3_insert 5 = .ok (.iload_n 3, 1) := by decide +kernel
theorem dX3_insert_6 : decode cX3_insert 6 = .ok (.iload_n 1, 1) := by decide +kernel
theorem dX3_insert_7 : decode cX3_insert 7 = .ok (.if_icmp .le 23, 3) := by decide +kernel
theorem dX3_insert_10 : decode cX3_insert 10 = .ok (.aload_n 0, 1) := by decide +kernel
theorem dX3_insert_11 : decode cX3_insert 11 = .ok (.getfield 9, 3) := by decide +kernel
theorem dX3_insert_14 : decode cX3_insert 14 = .ok (.iload_n 3, 1) := by decide +kernel
theorem dX3_insert_15 : decode cX3_insert 15 = .ok (.aload_n 0, 1) := by decide +kernel
theorem dX3_insert_16 : decode cX3_insert 16 = .ok (.getfield 9, 3) := by decide +kernel
theorem dX3_insert_19 : decode cX3_insert 19 = .ok (.iload_n 3, 1) := by decide +kernel
theorem dX3_insert_20 : decode cX3_insert 20 = .ok (.iconst 1, 1) := by decide +kernel
theorem dX3_insert_21 : decode cX3_insert 21 = .ok (.isub, 1) := by decide +kernel
theorem dX3_insert_22 : decode cX3_insert 22 = .ok (.iaload, 1) := by decide +kernel
theorem dX3_insert_23 : decode cX3_insert 23 = .ok (.iastore, 1) := by decide +kernel
theorem dX3_insert_24 : decode cX3_insert 24 = .ok (.iinc 3 (-1), 3) := by decide +kernel
theorem dX3_insert_27 : decode cX3_insert 27 = .ok (.goto (-22), 3) := by decide +kernel
theorem dX3_insert_30 : decode cX3_insert 30 = .ok (.aload_n 0, 1) := by decide +kernel
theorem dX3_insert_31 : decode cX3_insert 31 = .ok (.getfield 9, 3) := by decide +kernel
theorem dX3_insert_34 : decode cX3_insert 34 = .ok (.iload_n 1, 1) := by decide +kernel
theorem dX3_insert_35 : decode cX3_insert 35 = .ok (.iload_n 2, 1) := by decide +kernel
theorem dX3_insert_36 : decode cX3_insert 36 = .ok (.iastore, 1) := by decide +kernel
theorem dX3_insert_37 : decode cX3_insert 37 = .ok (.aload_n 0, 1) := by decide +kernel
theorem dX3_insert_38 : decode cX3_insert 38 = .ok (.dup, 1) := by decide +kernel
theorem dX3_insert_39 : decode cX3_insert 39 = .ok (.getfield 15, 3) := by decide +kernel
theorem dX3_insert_42 : decode cX3_insert 42 = .ok (.iconst 1, 1) := by decide +kernel
theorem dX3_insert_43 : decode cX3_insert 43 = .ok (.iadd, 1) := by decide +kernel
theorem dX3_insert_44 : decode cX3_insert 44 = .ok (.putfield 15, 3) := by decide +kernel
theorem dX3_insert_47 : decode cX3_insert 47 = .ok (.return_, 1) := by decide +kernel
theorem dX3_remove_0 : decode cX3_remove 0 = .ok (.aload_n 0, 1) := by decide +kernel
theorem dX3_remove_1 : decode cX3_remove 1 = .ok (.getfield 9, 3) := by decide +kernel
theorem dX3_remove_4 : decode cX3_remove 4 = .ok (.iload_n 1, 1) := by decide +kernel
theorem dX3_remove_5 : decode cX3_remove 5 = .ok (.iaload, 1) := by decide +kernel
theorem dX3_remove_6 : decode cX3_remove 6 = .ok (.istore_n 2, 1) := by decide +kernel
theorem dX3_remove_7 : decode cX3_remove 7 = .ok (.aload_n 0, 1) := by decide +kernel
theorem dX3_remove_8 : decode cX3_remove 8 = .ok (.dup, 1) := by decide +kernel
theorem dX3_remove_9 : decode cX3_remove 9 = .ok (.getfield 15, 3) := by decide +kernel
theorem dX3_remove_12 : decode cX3_remove 12 = .ok (.iconst 1, 1) := by decide +kernel
theorem dX3_remove_13 : decode cX3_remove 13 = .ok (.isub, 1) := by decide +kernel
theorem dX3_remove_14 : decode cX3_remove 14 = .ok (.putfield 15, 3) := by decide +kernel
theorem dX3_remove_17 : decode cX3_remove 17 = .ok (.iload_n 1, 1) := by decide +kernel
theorem dX3_remove_18 : decode cX3_remove 18 = .ok (.istore_n 3, 1) := by decide +kernel
theorem dX3_remove_19 : decode cX3_remove 19 = .ok (.iload_n 3, 1) := by decide +kernel
theorem dX3_remove_20 : decode cX3_remove 20 = .ok (.aload_n 0, 1) := by decide +kernel
theorem dX3_remove_21 : decode cX3_remove 21 = .ok (.getfield 15, 3) := by decide +kernel
theorem dX3_remove_24 : decode cX3_remove 24 = .ok (.if_icmp .ge 23, 3) := by decide +kernel
theorem dX3_remove_27 : decode cX3_remove 27 = .ok (.aload_n 0, 1) := by decide +kernel
theorem dX3_remove_28 : decode cX3_remove 28 = .ok (.getfield 9, 3) := by decide +kernel
theorem dX3_remove_31 : decode cX3_remove 31 = .ok (.iload_n 3, 1) := by decide +kernel
theorem dX3_remove_32 : decode cX3_remove 32 = .ok (.aload_n 0, 1) := by decide +kernel
theorem dX3_remove_33 : decode cX3_remove 33 = .ok (.getfield 9, 3) := by decide +kernel
theorem dX3_remove_36 : decode cX3_remove 36 = .ok (.iload_n 3, 1) := by decide +kernel
theorem dX3_remove_37 : decode cX3_remove 37 = .ok (.iconst 1, 1) := by decide +kernel
theorem dX3_remove_38 : decode cX3_remove 38 = .ok (.iadd, 1) := by decide +kernel
theorem dX3_remove_39 : decode cX3_remove 39 = .ok (.iaload, 1) := by decide +kernel
theorem dX3_remove_40 : decode cX3_remove 40 = .ok (.iastore, 1) := by decide +kernel
theorem dX3_remove_41 : decode cX3_remove 41 = .ok (.iinc 3 1, 3) := by decide +kernel
theorem dX3_remove_44 : decode cX3_remove 44 = .ok (.goto (-25), 3) := by decide +kernel
theorem dX3_remove_47 : decode cX3_remove 47 = .ok (.iload_n 2, 1) := by decide +kernel
theorem dX3_remove_48 : decode cX3_remove 48 = .ok (.ireturn, 1) := by decide +kernel
theorem dX3_alike_0 : decode cX3_alike 0 = .ok (.iconst 0, 1) := by decide +kernel
theorem dX3_alike_1 : decode cX3_alike 1 = .ok (.istore 4, 2) := by decide +kernel
theorem dX3_alike_3 : decode cX3_alike 3 = .ok (.iload_n 1, 1) := by decide +kernel
theorem dX3_alike_4 : decode cX3_alike 4 = .ok (.iload 4, 2) := by decide +kernel
theorem dX3_alike_6 : decode cX3_alike 6 = .ok (.iadd, 1) := by decide +kernel
theorem dX3_alike_7 : decode cX3_alike 7 = .ok (.aload_n 0, 1) := by decide +kernel
theorem dX3_alike_8 : decode cX3_alike 8 = .ok (.getfield 15, 3) := by decide +kernel
theorem dX3_alike_11 : decode cX3_alike 11 = .ok (.if_icmp .ge 41, 3) := by decide +kernel
theorem dX3_alike_14 : decode cX3_alike 14 = .ok (.iload_n 3, 1) := by decide +kernel
theorem dX3_alike_15 : decode cX3_alike 15 = .ok (.iload 4, 2) := by decide +kernel
theorem dX3_alike_17 : decode cX3_alike 17 = .ok (.iadd, 1) := by decide +kernel
theorem dX3_alike_18 : decode cX3_alike 18 = .ok (.aload_n 2, 1) := by decide +kernel
theorem dX3_alike_19 : decode cX3_alike 19 = .ok (.getfield 15, 3) := by decide +kernel
theorem dX3_alike_22 : decode cX3_alike 22 = .ok (.if_icmp .ge 30, 3) := by decide +kernel
theorem dX3_alike_25 : decode cX3_alike 25 = .ok (.aload_n 0, 1) := by decide +kernel
theorem dX3_alike_26 : decode cX3_alike 26 = .ok (.getfield 9, 3) := by decide +kernel
theorem dX3_alike_29 : decode cX3_alike 29 = .ok (.iload_n 1, 1) := by decide +kernel
theorem dX3_alike_30 : decode cX3_alike 30 = .ok (.iload 4, 2) := by decide +kernel
theorem dX3_alike_32 : decode cX3_alike 32 = .ok (.iadd, 1) := by decide +kernel
theorem dX3_alike_33 : decode cX3_alike 33 = .ok (.iaload, 1) := by decide +kernel
theorem dX3_alike_34 : decode cX3_alike 34 = .ok (.aload_n 2, 1) := by decide +kernel
theorem dX3_alike_35 : decode cX3_alike 35 = .ok (.getfield 9, 3) := by decide +kernel
theorem dX3_alike_38 : decode cX3_alike 38 = .ok (.iload_n 3, 1) := by decide +kernel
theorem dX3_alike_39 : decode cX3_alike 39 = .ok (.iload 4, 2) := by decide +kernel
theorem dX3_alike_41 : decode cX3_alike 41 = .ok (.iadd, 1) := by decide +kernel
theorem dX3_alike_42 : decode cX3_alike 42 = .ok (.iaload, 1) := by decide +kernel
theorem dX3_alike_43 : decode cX3_alike 43 = .ok (.if_icmp .ne 9, 3) := by decide +kernel
theorem dX3_alike_46 : decode cX3_alike 46 = .ok (.iinc 4 1, 3) := by decide +kernel
theorem dX3_alike_49 : decode cX3_alike 49 = .ok (.goto (-46), 3) := by decide +kernel
theorem dX3_alike_52 : decode cX3_alike 52 = .ok (.iload 4, 2) := by decide +kernel
theorem dX3_alike_54 : decode cX3_alike 54 = .ok (.ireturn, 1) := by decide +kernel
theorem dX3_has_0 : decode cX3_has 0 = .ok (.iload_n 2, 1) := by decide +kernel
theorem dX3_has_1 : decode cX3_has 1 = .ok (.aload_n 1, 1) := by decide +kernel
theorem dX3_has_2 : decode cX3_has 2 = .ok (.getfield 15, 3) := by decide +kernel
theorem dX3_has_5 : decode cX3_has 5 = .ok (.iadd, 1) := by decide +kernel
theorem dX3_has_6 : decode cX3_has 6 = .ok (.aload_n 0, 1) := by decide +kernel
theorem dX3_has_7 : decode cX3_has 7 = .ok (.getfield 15, 3) := by decide +kernel
theorem dX3_has_10 : decode cX3_has 10 = .ok (.if_icmp .gt 21, 3) := by decide +kernel
theorem dX3_has_13 : decode cX3_has 13 = .ok (.aload_n 0, 1) := by decide +kernel
theorem dX3_has_14 : decode cX3_has 14 = .ok (.iload_n 2, 1) := by decide +kernel
theorem dX3_has_15 : decode cX3_has 15 = .ok (.aload_n 1, 1) := by decide +kernel
theorem dX3_has_16 : decode cX3_has 16 = .ok (.iconst 0, 1) := by decide +kernel
theorem dX3_has_17 : decode cX3_has 17 = .ok (.invokevirtual 19, 3) := by decide +kernel
theorem dX3_has_20 : decode cX3_has 20 = .ok (.aload_n 1, 1) := by decide +kernel
theorem dX3_has_21 : decode cX3_has 21 = .ok (.getfield 15, 3) := by decide +kernel
theorem dX3_has_24 : decode cX3_has 24 = .ok (.if_icmp .ne 7, 3) := by decide +kernel
theorem dX3_has_27 : decode cX3_has 27 = .ok (.iconst 1, 1) := by decide +kernel
theorem dX3_has_28 : decode cX3_has 28 = .ok (.goto 4, 3) := by decide +kernel
theorem dX3_has_31 : decode cX3_has 31 = .ok (.iconst 0, 1) := by decide +kernel
theorem dX3_has_32 : decode cX3_has 32 = .ok (.ireturn, 1) := by decide +kernel
theorem dX3_find_0 : decode cX3_find 0 = .ok (.iload_n 2, 1) := by decide +kernel
theorem dX3_find_1 : decode cX3_find 1 = .ok (.istore_n 3, 1) := by decide +kernel
theorem dX3_find_2 : decode cX3_find 2 = .ok (.iload_n 3, 1) := by decide +kernel
theorem dX3_find_3 : decode cX3_find 3 = .ok (.aload_n 1, 1) := by decide +kernel
theorem dX3_find_4 : decode cX3_find 4 = .ok (.getfield 15, 3) := by decide +kernel
theorem dX3_find_7 : decode cX3_find 7 = .ok (.iadd, 1) := by decide +kernel
theorem dX3_find_8 : decode cX3_find 8 = .ok (.aload_n 0, 1) := by decide +kernel
theorem dX3_find_9 : decode cX3_find 9 = .ok (.getfield 15, 3) := by decide +kernel
theorem dX3_find_12 : decode cX3_find 12 = .ok (.if_icmp .gt 20, 3) := by decide +kernel
theorem dX3_find_15 : decode cX3_find 15 = .ok (.aload_n 0, 1) := by decide +kernel
theorem dX3_find_16 : decode cX3_find 16 = .ok (.aload_n 1, 1) := by decide +kernel
theorem dX3_find_17 : decode cX3_find 17 = .ok (.iload_n 3, 1) := by decide +kernel
theorem dX3_find_18 : decode cX3_find 18 = .ok (.invokevirtual 23, 3) := by decide +kernel
theorem dX3_find_21 : decode cX3_find 21 = .ok (.ifCond .eq 5, 3) := by decide +kernel
theorem dX3_find_24 : decode cX3_find 24 = .ok (.iload_n 3, 1) := by decide +kernel
theorem dX3_find_25 : decode cX3_find 25 = .ok (.ireturn, 1) := by decide +kernel
theorem dX3_find_26 : decode cX3_find 26 = .ok (.iinc 3 1, 3) := by decide +kernel
theorem dX3_find_29 : decode cX3_find 29 = .ok (.goto (-27), 3) := by decide +kernel
theorem dX3_find_32 : decode cX3_find 32 = .ok (.iconst (-1), 1) := by decide +kernel
theorem dX3_find_33 : decode cX3_find 33 = .ok (.ireturn, 1) := by decide +kernel
theorem dX3_often_0 : decode cX3_often 0 = .ok (.iconst 0, 1) := by decide +kernel
theorem dX3_often_1 : decode cX3_often 1 = .ok (.istore_n 2, 1) := by decide +kernel
theorem dX3_often_2 : decode cX3_often 2 = .ok (.iconst 0, 1) := by decide +kernel
theorem dX3_often_3 : decode cX3_often 3 = .ok (.istore_n 3, 1) := by decide +kernel
theorem dX3_often_4 : decode cX3_often 4 = .ok (.iload_n 3, 1) := by decide +kernel
theorem dX3_often_5 : decode cX3_often 5 = .ok (.aload_n 0, 1) := by decide +kernel
theorem dX3_often_6 : decode cX3_often 6 = .ok (.getfield 15, 3) := by decide +kernel
theorem dX3_often_9 : decode cX3_often 9 = .ok (.if_icmp .ge 27, 3) := by decide +kernel
theorem dX3_often_12 : decode cX3_often 12 = .ok (.iload_n 2, 1) := by decide +kernel
theorem dX3_often_13 : decode cX3_often 13 = .ok (.aload_n 0, 1) := by decide +kernel
theorem dX3_often_14 : decode cX3_often 14 = .ok (.getfield 9, 3) := by decide +kernel
theorem dX3_often_17 : decode cX3_often 17 = .ok (.iload_n 3, 1) := by decide +kernel
theorem dX3_often_18 : decode cX3_often 18 = .ok (.iaload, 1) := by decide +kernel
theorem dX3_often_19 : decode cX3_often 19 = .ok (.iload_n 1, 1) := by decide +kernel
theorem dX3_often_20 : decode cX3_often 20 = .ok (.if_icmp .ne 7, 3) := by decide +kernel
theorem dX3_often_23 : decode cX3_often 23 = .ok (.iconst 1, 1) := by decide +kernel
theorem dX3_often_24 : decode cX3_often 24 = .ok (.goto 4, 3) := by decide +kernel
theorem dX3_often_27 : decode cX3_often 27 = .ok (.iconst 0, 1) := by decide +kernel
theorem dX3_often_28 : decode cX3_often 28 = .ok (.iadd, 1) := by decide +kernel
theorem dX3_often_29 : decode cX3_often 29 = .ok (.istore_n 2, 1) := by decide +kernel
theorem dX3_often_30 : decode cX3_often 30 = .ok (.iinc 3 1, 3) := by decide +kernel
theorem dX3_often_33 : decode cX3_often 33 = .ok (.goto (-29), 3) := by decide +kernel
theorem dX3_often_36 : decode cX3_often 36 = .ok (.iload_n 2, 1) := by decide +kernel
theorem dX3_often_37 : decode cX3_often 37 = .ok (.ireturn, 1) := by decide +kernel
theorem dX3_count_0 : decode cX3_count 0 = .ok (.iconst 0, 1) := by decide +kernel
theorem dX3_count_1 : decode cX3_count 1 = .ok (.istore_n 3, 1) := by decide +kernel
theorem dX3_count_2 : decode cX3_count 2 = .ok (.aload_n 0, 1) := by decide +kernel
theorem dX3_count_3 : decode cX3_count 3 = .ok (.aload_n 1, 1) := by decide +kernel
theorem dX3_count_4 : decode cX3_count 4 = .ok (.iconst 0, 1) := by decide +kernel
theorem dX3_count_5 : decode cX3_count 5 = .ok (.invokevirtual 27, 3) := by decide +kernel
theorem dX3_count_8 : decode cX3_count 8 = .ok (.istore 4, 2) := by decide +kernel
theorem dX3_count_10 : decode cX3_count 10 = .ok (.iload 4, 2) := by decide +kernel
theorem dX3_count_12 : decode cX3_count 12 = .ok (.iconst (-1), 1) := by decide +kernel
theorem dX3_count_13 : decode cX3_count 13 = .ok (.if_icmp .eq 35, 3) := by decide +kernel
theorem dX3_count_16 : decode cX3_count 16 = .ok (.iinc 3 1, 3) := by decide +kernel
theorem dX3_count_19 : decode cX3_count 19 = .ok (.aload_n 0, 1) := by decide +kernel
theorem dX3_count_20 : decode cX3_count 20 = .ok (.aload_n 1, 1) := by decide +kernel
theorem dX3_count_21 : decode cX3_count 21 = .ok (.iload 4, 2) := by decide +kernel
theorem dX3_count_23 : decode cX3_count 23 = .ok (.iload_n 2, 1) := by decide +kernel
theorem dX3_count_24 : decode cX3_count 24 = .ok (.ifCond .eq 14, 3) := by decide +kernel
theorem dX3_count_27 : decode cX3_count 27 = .ok (.iconst 1, 1) := by decide +kernel
theorem dX3_count_28 : decode cX3_count 28 = .ok (.aload_n 1, 1) := by decide +kernel
theorem dX3_count_29 : decode cX3_count 29 = .ok (.getfield 15, 3) := by decide +kernel
theorem dX3_count_32 : decode cX3_count 32 = .ok (.invokestatic 31, 3) := by decide +kernel
theorem dX3_count_35 : decode cX3_count 35 = .ok (.goto 4, 3) := by decide +kernel
theorem dX3_count_38 : decode cX3_count 38 = .ok (.iconst 1, 1) := by decide +kernel
theorem dX3_count_39 : decode cX3_count 39 = .ok (.iadd, 1) := by decide +kernel
theorem dX3_count_40 : decode cX3_count 40 = .ok (.invokevirtual 27, 3) := by decide +kernel
theorem dX3_count_43 : decode cX3_count 43 = .ok (.istore 4, 2) := by decide +kernel
theorem dX3_count_45 : decode cX3_count 45 = .ok (.goto (-35), 3) := by decide +kernel
theorem dX3_count_48 : decode cX3_count 48 = .ok (.iload_n 3, 1) := by decide +kernel
theorem dX3_count_49 : decode cX3_count 49 = .ok (.ireturn, 1) := by decide +kernel
theorem dX3_swap_0 : decode cX3_swap 0 = .ok (.aload_n 0, 1) := by decide +kernel
theorem dX3_swap_1 : decode cX3_swap 1 = .ok (.getfield 9, 3) := by decide +kernel
theorem dX3_swap_4 : decode cX3_swap 4 = .ok (.iload_n 1, 1) := by decide +kernel
theorem dX3_swap_5 : decode cX3_swap 5 = .ok (.iaload, 1) := by decide +kernel
theorem dX3_swap_6 : decode cX3_swap 6 = .ok (.istore_n 3, 1) := by decide +kernel
theorem dX3_swap_7 : decode cX3_swap 7 = .ok (.aload_n 0, 1) := by decide +kernel
theorem dX3_swap_8 : decode cX3_swap 8 = .ok (.getfield 9, 3) := by decide +kernel
theorem dX3_swap_11 : decode cX3_swap 11 = .ok (.iload_n 1, 1) := by decide +kernel
theorem dX3_swap_12 : decode cX3_swap 12 = .ok (.aload_n 0, 1) := by decide +kernel
theorem dX3_swap_13 : decode cX3_swap 13 = .ok (.getfield 9, 3) := by decide +kernel
theorem dX3_swap_16 : decode cX3_swap 16 = .ok (.iload_n 2, 1) := by decide +kernel
theorem dX3_swap_17 : decode cX3_swap 17 = .ok (.iaload, 1) := by decide +kernel
theorem dX3_swap_18 : decode cX3_swap 18 = .ok (.iastore, 1) := by decide +kernel
theorem dX3_swap_19 : decode cX3_swap 19 = .ok (.aload_n 0, 1) := by decide +kernel
theorem dX3_swap_20 : decode cX3_swap 20 = .ok (.getfield 9, 3) := by decide +kernel
theorem dX3_swap_23 : decode cX3_swap 23 = .ok (.iload_n 2, 1) := by decide +kernel
theorem dX3_swap_24 : decode cX3_swap 24 = .ok (.iload_n 3, 1) := by decide +kernel
theorem dX3_swap_25 : decode cX3_swap 25 = .ok (.iastore, 1) := by decide +kernel
theorem dX3_swap_26 : decode cX3_swap 26 = .ok (.return_, 1) := by decide +kernel
theorem dX3_takes_0 : decode cX3_takes 0 = .ok (.aload_n 0, 1) := by decide +kernel
theorem dX3_takes_1 : decode cX3_takes 1 = .ok (.iconst 0, 1) := by decide +kernel
theorem dX3_takes_2 : decode cX3_takes 2 = .ok (.putfield 15, 3) := by decide +kernel
theorem dX3_takes_5 : decode cX3_takes 5 = .ok (.iconst 0, 1) := by decide +kernel
theorem dX3_takes_6 : decode cX3_takes 6 = .ok (.istore_n 2, 1) := by decide +kernel
theorem dX3_takes_7 : decode cX3_takes 7 = .ok (.iload_n 2, 1) := by decide +kernel
theorem dX3_takes_8 : decode cX3_takes 8 = .ok (.aload_n 1, 1) := by decide +kernel
theorem dX3_takes_9 : decode cX3_takes 9 = .ok (.getfield 15, 3) := by decide +kernel
theorem dX3_takes_12 : decode cX3_takes 12 = .ok (.if_icmp .ge 19, 3) := by decide +kernel
theorem dX3_takes_15 : decode cX3_takes 15 = .ok (.aload_n 0, 1) := by decide +kernel
theorem dX3_takes_16 : decode cX3_takes 16 = .ok (.aload_n 1, 1) := by decide +kernel
theorem dX3_takes_17 : decode cX3_takes 17 = .ok (.getfield 9, 3) := by decide +kernel
theorem dX3_takes_20 : decode cX3_takes 20 = .ok (.iload_n 2, 1) := by decide +kernel
theorem dX3_takes_21 : decode cX3_takes 21 = .ok (.iaload, 1) := by decide +kernel
theorem dX3_takes_22 : decode cX3_takes 22 = .ok (.invokevirtual 37, 3) := by decide +kernel
theorem dX3_takes_25 : decode cX3_takes 25 = .ok (.iinc 2 1, 3) := by decide +kernel
theorem dX3_takes_28 : decode cX3_takes 28 = .ok (.goto (-21), 3) := by decide +kernel
theorem dX3_takes_31 : decode cX3_takes 31 = .ok (.return_, 1) := by decide +kernel
theorem dX3_others_0 : decode cX3_others 0 = .ok (.iconst 0, 1) := by decide +kernel
theorem dX3_others_1 : decode cX3_others 1 = .ok (.istore_n 2, 1) := by decide +kernel
theorem dX3_others_2 : decode cX3_others 2 = .ok (.iconst 0, 1) := by decide +kernel
theorem dX3_others_3 : decode cX3_others 3 = .ok (.istore_n 3, 1) := by decide +kernel
theorem dX3_others_4 : decode cX3_others 4 = .ok (.iload_n 3, 1) := by decide +kernel
theorem dX3_others_5 : decode cX3_others 5 = .ok (.aload_n 0, 1) := by decide +kernel
theorem dX3_others_6 : decode cX3_others 6 = .ok (.getfield 15, 3) := by decide +kernel
theorem dX3_others_9 : decode cX3_others 9 = .ok (.if_icmp .ge 32, 3) := by decide +kernel
theorem dX3_others_12 : decode cX3_others 12 = .ok (.iload_n 2, 1) := by decide +kernel
theorem dX3_others_13 : decode cX3_others 13 = .ok (.aload_n 0, 1) := by decide +kernel
theorem dX3_others_14 : decode cX3_others 14 = .ok (.getfield 9, 3) := by decide +kernel
theorem dX3_others_17 : decode cX3_others 17 = .ok (.iload_n 3, 1) := by decide +kernel
theorem dX3_others_18 : decode cX3_others 18 = .ok (.iaload, 1) := by decide +kernel
theorem dX3_others_19 : decode cX3_others 19 = .ok (.aload_n 1, 1) := by decide +kernel
theorem dX3_others_20 : decode cX3_others 20 = .ok (.getfield 9, 3) := by decide +kernel
theorem dX3_others_23 : decode cX3_others 23 = .ok (.iload_n 3, 1) := by decide +kernel
theorem dX3_others_24 : decode cX3_others 24 = .ok (.iaload, 1) := by decide +kernel
theorem dX3_others_25 : decode cX3_others 25 = .ok (.if_icmp .ne 7, 3) := by decide +kernel
theorem dX3_others_28 : decode cX3_others 28 = .ok (.iconst 0, 1) := by decide +kernel
theorem dX3_others_29 : decode cX3_others 29 = .ok (.goto 4, 3) := by decide +kernel
theorem dX3_others_32 : decode cX3_others 32 = .ok (.iconst 1, 1) := by decide +kernel
theorem dX3_others_33 : decode cX3_others 33 = .ok (.iadd, 1) := by decide +kernel
theorem dX3_others_34 : decode cX3_others 34 = .ok (.istore_n 2, 1) := by decide +kernel
theorem dX3_others_35 : decode cX3_others 35 = .ok (.iinc 3 1, 3) := by decide +kernel
theorem dX3_others_38 : decode cX3_others 38 = .ok (.goto (-34), 3) := by decide +kernel
theorem dX3_others_41 : decode cX3_others 41 = .ok (.iload_n 2, 1) := by decide +kernel
theorem dX3_others_42 : decode cX3_others 42 = .ok (.ireturn, 1) := by decide +kernel
theorem dX4_thrown_0 : decode cX4_thrown 0 = .ok (.aload_n 0, 1) := by decide +kernel
theorem dX4_thrown_1 : decode cX4_thrown 1 = .ok (.getfield 1, 3) := by decide +kernel
theorem dX4_thrown_4 : decode cX4_thrown 4 = .ok (.ireturn, 1) := by decide +kernel
theorem dX4_in_0 : decode cX4_in 0 = .ok (.lload_n 0, 1) := by decide +kernel
theorem dX4_in_1 : decode cX4_in 1 = .ok (.lload_n 2, 1) := by decide +kernel
theorem dX4_in_2 : decode cX4_in 2 = .ok (.lcmp, 1) := by decide +kernel
theorem dX4_in_3 : decode cX4_in 3 = .ok (.ifCond .lt 14, 3) := by decide +kernel
theorem dX4_in_6 : decode cX4_in 6 = .ok (.lload_n 0, 1) := by decide +kernel
theorem dX4_in_7 : decode cX4_in 7 = .ok (.lload 4, 2) := by decide +kernel
theorem dX4_in_9 : decode cX4_in 9 = .ok (.lcmp, 1) := by decide +kernel
theorem dX4_in_10 : decode cX4_in 10 = .ok (.ifCond .gt 7, 3) := by decide +kernel
theorem dX4_in_13 : decode cX4_in 13 = .ok (.iconst 1, 1) := by decide +kernel
theorem dX4_in_14 : decode cX4_in 14 = .ok (.goto 4, 3) := by decide +kernel
theorem dX4_in_17 : decode cX4_in 17 = .ok (.iconst 0, 1) := by decide +kernel
theorem dX4_in_18 : decode cX4_in 18 = .ok (.ireturn, 1) := by decide +kernel
theorem dX4_passes_0 : decode cX4_passes 0 = .ok (.aload_n 0, 1) := by decide +kernel
theorem dX4_passes_1 : decode cX4_passes 1 = .ok (.iload_n 1, 1) := by decide +kernel
theorem dX4_passes_2 : decode cX4_passes 2 = .ok (.ifCond .ne 7, 3) := by decide +kernel
theorem dX4_passes_5 : decode cX4_passes 5 = .ok (.iconst 1, 1) := by decide +kernel
theorem dX4_passes_6 : decode cX4_passes 6 = .ok (.goto 20, 3) := by decide +kernel
theorem dX4_passes_9 : decode cX4_passes 9 = .ok (.iload_n 2, 1) := by decide +kernel
theorem dX4_passes_10 : decode cX4_passes 10 = .ok (.ifCond .ne 7, 3) := by decide +kernel
theorem dX4_passes_13 : decode cX4_passes 13 = .ok (.iconst 2, 1) := by decide +kernel
theorem dX4_passes_14 : decode cX4_passes 14 = .ok (.goto 12, 3) := by decide +kernel
theorem dX4_passes_17 : decode cX4_passes 17 = .ok (.iload_n 3, 1) := by decide +kernel
theorem dX4_passes_18 : decode cX4_passes 18 = .ok (.ifCond .ne 7, 3) := by decide +kernel
theorem dX4_passes_21 : decode cX4_passes 21 = .ok (.iconst 3, 1) := by decide +kernel
theorem dX4_passes_22 : decode cX4_passes 22 = .ok (.goto 4, 3) := by decide +kernel
theorem dX4_passes_25 : decode cX4_passes 25 = .ok (.iconst 0, 1) := by decide +kernel
theorem dX4_passes_26 : decode cX4_passes 26 = .ok (.putfield 1, 3) := by decide +kernel
theorem dX4_passes_29 : decode cX4_passes 29 = .ok (.aload_n 0, 1) := by decide +kernel
theorem dX4_passes_30 : decode cX4_passes 30 = .ok (.getfield 1, 3) := by decide +kernel
theorem dX4_passes_33 : decode cX4_passes 33 = .ok (.ifCond .ne 7, 3) := by decide +kernel
theorem dX4_passes_36 : decode cX4_passes 36 = .ok (.iconst 1, 1) := by decide +kernel
theorem dX4_passes_37 : decode cX4_passes 37 = .ok (.goto 4, 3) := by decide +kernel
theorem dX4_passes_40 : decode cX4_passes 40 = .ok (.iconst 0, 1) := by decide +kernel
theorem dX4_passes_41 : decode cX4_passes 41 = .ok (.ireturn, 1) := by decide +kernel
theorem dX4_isText_0 : decode cX4_isText 0 = .ok (.iload_n 0, 1) := by decide +kernel
theorem dX4_isText_1 : decode cX4_isText 1 = .ok (.i2l, 1) := by decide +kernel
theorem dX4_isText_2 : decode cX4_isText 2 = .ok (.lconst 0, 1) := by decide +kernel
theorem dX4_isText_3 : decode cX4_isText 3 = .ok (.ldc2_w 7, 3) := by decide +kernel
theorem dX4_isText_6 : decode cX4_isText 6 = .ok (.invokestatic 9, 3) := by decide +kernel
theorem dX4_isText_9 : decode cX4_isText 9 = .ok (.ireturn, 1) := by decide +kernel
theorem dX4_isWord_0 : decode cX4_isWord 0 = .ok (.iload_n 0, 1) := by decide +kernel
theorem dX4_isWord_1 : decode cX4_isWord 1 = .ok (.i2l, 1) := by decide +kernel
theorem dX4_isWord_2 : decode cX4_isWord 2 = .ok (.lconst 0, 1) := by decide +kernel
theorem dX4_isWord_3 : decode cX4_isWord 3 = .ok (.ldc2_w 13, 3) := by decide +kernel
theorem dX4_isWord_6 : decode cX4_isWord 6 = .ok (.invokestatic 9, 3) := by decide +kernel
theorem dX4_isWord_9 : decode cX4_isWord 9 = .ok (.ireturn, 1) := by decide +kernel
theorem dX4_isPhrase_0 : decode cX4_isPhrase 0 = .ok (.iload_n 0, 1) := by decide +kernel
theorem dX4_isPhrase_1 : decode cX4_isPhrase 1 = .ok (.i2l, 1) := by decide +kernel
theorem dX4_isPhrase_2 : decode cX4_isPhrase 2 = .ok (.lconst 0, 1) := by decide +kernel
theorem dX4_isPhrase_3 : decode cX4_isPhrase 3 = .ok (.lconst 1, 1) := by decide +kernel
theorem dX4_isPhrase_4 : decode cX4_isPhrase 4 = .ok (.invokestatic 9, 3) := by decide +kernel
theorem dX4_isPhrase_7 : decode cX4_isPhrase 7 = .ok (.ireturn, 1) := by decide +kernel
theorem dX4_isOrder_0 : decode cX4_isOrder 0 = .ok (.iload_n 0, 1) := by decide +kernel
theorem dX4_isOrder_1 : decode cX4_isOrder 1 = .ok (.i2l, 1) := by decide +kernel
theorem dX4_isOrder_2 : decode cX4_isOrder 2 = .ok (.lconst 0, 1) := by decide +kernel
theorem dX4_isOrder_3 : decode cX4_isOrder 3 = .ok (.lconst 1, 1) := by decide +kernel
theorem dX4_isOrder_4 : decode cX4_isOrder 4 = .ok (.invokestatic 9, 3) := by decide +kernel
theorem dX4_isOrder_7 : decode cX4_isOrder 7 = .ok (.ireturn, 1) := by decide +kernel
theorem dX4_init_0 : decode cX4_init 0 = .ok (.aload_n 0, 1) := by decide +kernel
theorem dX4_init_1 : decode cX4_init 1 = .ok (.invokespecial 15, 3) := by decide +kernel
theorem dX4_init_4 : decode cX4_init 4 = .ok (.aload_n 0, 1) := by decide +kernel
theorem dX4_init_5 : decode cX4_init 5 = .ok (.iconst 4, 1) := by decide +kernel
theorem dX4_init_6 : decode cX4_init 6 = .ok (.anewarray 21, 3) := by decide +kernel
theorem dX4_init_9 : decode cX4_init 9 = .ok (.dup, 1) := by decide +kernel
theorem dX4_init_10 : decode cX4_init 10 = .ok (.iconst 0, 1) := by decide +kernel
theorem dX4_init_11 : decode cX4_init 11 = .ok (.new 21, 3) := by decide +kernel
theorem dX4_init_14 : decode cX4_init 14 = .ok (.dup, 1) := by decide +kernel
theorem dX4_init_15 : decode cX4_init 15 = .ok (.invokespecial 23, 3) := by decide +kernel
theorem dX4_init_18 : decode cX4_init 18 = .ok (.aastore, 1) := by decide +kernel
theorem dX4_init_19 : decode cX4_init 19 = .ok (.dup, 1) := by decide +kernel
theorem dX4_init_20 : decode cX4_init 20 = .ok (.iconst 1, 1) := by decide +kernel
theorem dX4_init_21 : decode cX4_init 21 = .ok (.new 21, 3) := by decide +kernel
theorem dX4_init_24 : decode cX4_init 24 = .ok (.dup, 1) := by decide +kernel
theorem dX4_init_25 : decode cX4_init 25 = .ok (.invokespecial 23, 3) := by decide +kernel
theorem dX4_init_28 : decode cX4_init 28 = .ok (.aastore, 1) := by decide +kernel
theorem dX4_init_29 : decode cX4_init 29 = .ok (.dup, 1) := by decide +kernel
theorem dX4_init_30 : decode cX4_init 30 = .ok (.iconst 2, 1) := by decide +kernel
theorem dX4_init_31 : decode cX4_init 31 = .ok (.new 21, 3) := by decide +kernel
theorem dX4_init_34 : decode cX4_init 34 = .ok (.dup, 1) := by decide +kernel
theorem dX4_init_35 : decode cX4_init 35 = .ok (.invokespecial 23, 3) := by decide +kernel
theorem dX4_init_38 : decode cX4_init 38 = .ok (.aastore, 1) := by decide +kernel
theorem dX4_init_39 : decode cX4_init 39 = .ok (.dup, 1) := by decide +kernel
theorem dX4_init_40 : decode cX4_init 40 = .ok (.iconst 3, 1) := by decide +kernel
theorem dX4_init_41 : decode cX4_init 41 = .ok (.new 21, 3) := by decide +kernel
theorem dX4_init_44 : decode cX4_init 44 = .ok (.dup, 1) := by decide +kernel
theorem dX4_init_45 : decode cX4_init 45 = .ok (.invokespecial 23, 3) := by decide +kernel
theorem dX4_init_48 : decode cX4_init 48 = .ok (.aastore, 1) := by decide +kernel
theorem dX4_init_49 : decode cX4_init 49 = .ok (.putfield 24, 3) := by decide +kernel
theorem dX4_init_52 : decode cX4_init 52 = .ok (.aload_n 0, 1) := by decide +kernel
theorem dX4_init_53 : decode cX4_init 53 = .ok (.iconst 2, 1) := by decide +kernel
theorem dX4_init_54 : decode cX4_init 54 = .ok (.anewarray 21, 3) := by decide +kernel
theorem dX4_init_57 : decode cX4_init 57 = .ok (.dup, 1) := by decide +kernel
theorem dX4_init_58 : decode cX4_init 58 = .ok (.iconst 0, 1) := by decide +kernel
theorem dX4_init_59 : decode cX4_init 59 = .ok (.new 21, 3) := by decide +kernel
theorem dX4_init_62 : decode cX4_init 62 = .ok (.dup, 1) := by decide +kernel
theorem dX4_init_63 : decode cX4_init 63 = .ok (.invokespecial 23, 3) := by decide +kernel
theorem dX4_init_66 : decode cX4_init 66 = .ok (.aastore, 1) := by decide +kernel
theorem dX4_init_67 : decode cX4_init 67 = .ok (.dup, 1) := by decide +kernel
theorem dX4_init_68 : decode cX4_init 68 = .ok (.iconst 1, 1) := by decide +kernel
theorem dX4_init_69 : decode cX4_init 69 = .ok (.new 21, 3) := by decide +kernel
theorem dX4_init_72 : decode cX4_init 72 = .ok (.dup, 1) := by decide +kernel
theorem dX4_init_73 : decode cX4_init 73 = .ok (.invokespecial 23, 3) := by decide +kernel
theorem dX4_init_76 : decode cX4_init 76 = .ok (.aastore, 1) := by decide +kernel
theorem dX4_init_77 : decode cX4_init 77 = .ok (.putfield 28, 3) := by decide +kernel
theorem dX4_init_80 : decode cX4_init 80 = .ok (.aload_n 0, 1) := by decide +kernel
theorem dX4_init_81 : decode cX4_init 81 = .ok (.new 21, 3) := by decide +kernel
theorem dX4_init_84 : decode cX4_init 84 = .ok (.dup, 1) := by decide +kernel
theorem dX4_init_85 : decode cX4_init 85 = .ok (.invokespecial 23, 3) := by decide +kernel
theorem dX4_init_88 : decode cX4_init 88 = .ok (.putfield 31, 3) := by decide +kernel
theorem dX4_init_91 : decode cX4_init 91 = .ok (.aload_n 0, 1) := by decide +kernel
theorem dX4_init_92 : decode cX4_init 92 = .ok (.bipush 100, 2) := by decide +kernel
theorem dX4_init_94 : decode cX4_init 94 = .ok (.newarray .int, 2) := by decide +kernel
theorem dX4_init_96 : decode cX4_init 96 = .ok (.putfield 35, 3) := by decide +kernel
theorem dX4_init_99 : decode cX4_init 99 = .ok (.aload_n 0, 1) := by decide +kernel
theorem dX4_init_100 : decode cX4_init 100 = .ok (.iconst 0, 1) := by decide +kernel
theorem dX4_init_101 : decode cX4_init 101 = .ok (.putfield 1, 3) := by decide +kernel
theorem dX4_init_104 : decode cX4_init 104 = .ok (.return_, 1) := by decide +kernel
theorem dX4_isPlace_0 : decode cX4_isPlace 0 = .ok (.iload_n 1, 1) := by decide +kernel
theorem dX4_isPlace_1 : decode cX4_isPlace 1 = .ok (.invokestatic 39, 3) := by decide +kernel
theorem dX4_isPlace_4 : decode cX4_isPlace 4 = .ok (.ifCond .eq 28, 3) := by decide +kernel
theorem dX4_isPlace_7 : decode cX4_isPlace 7 = .ok (.iload_n 2, 1) := by decide +kernel
theorem dX4_isPlace_8 : decode cX4_isPlace 8 = .ok (.i2l, 1) := by decide +kernel
theorem dX4_isPlace_9 : decode cX4_isPlace 9 = .ok (.lconst 0, 1) := by decide +kernel
theorem dX4_isPlace_10 : decode cX4_isPlace 10 = .ok (.aload_n 0, 1) := by decide +kernel
theorem dX4_isPlace_11 : decode cX4_isPlace 11 = .ok (.getfield 24, 3) := by decide +kernel
theorem dX4_isPlace_14 : decode cX4_isPlace 14 = .ok (.iload_n 1, 1) := by decide +kernel
theorem dX4_isPlace_15 : decode cX4_isPlace 15 = .ok (.aaload, 1) := by decide +kernel
theorem dX4_isPlace_16 : decode cX4_isPlace 16 = .ok (.getfield 43, 3) := by decide +kernel
theorem dX4_isPlace_19 : decode cX4_isPlace 19 = .ok (.iconst 1, 1) := by decide +kernel
theorem dX4_isPlace_20 : decode cX4_isPlace 20 = .ok (.isub, 1) := by decide +kernel
theorem dX4_isPlace_21 : decode cX4_isPlace 21 = .ok (.i2l, 1) := by decide +kernel
theorem dX4_isPlace_22 : decode cX4_isPlace 22 = .ok (.invokestatic 9, 3) := by decide +kernel
theorem dX4_isPlace_25 : decode cX4_isPlace 25 = .ok (.ifCond .eq 7, 3) := by decide +kernel
theorem dX4_isPlace_28 : decode cX4_isPlace 28 = .ok (.iconst 1, 1) := by decide +kernel
theorem dX4_isPlace_29 : decode cX4_isPlace 29 = .ok (.goto 4, 3) := by decide +kernel
theorem dX4_isPlace_32 : decode cX4_isPlace 32 = .ok (.iconst 0, 1) := by decide +kernel
theorem dX4_isPlace_33 : decode cX4_isPlace 33 = .ok (.ireturn, 1) := by decide +kernel
theorem dX4_isPart_0 : decode cX4_isPart 0 = .ok (.iload_n 1, 1) := by decide +kernel
theorem dX4_isPart_1 : decode cX4_isPart 1 = .ok (.invokestatic 39, 3) := by decide +kernel
theorem dX4_isPart_4 : decode cX4_isPart 4 = .ok (.ifCond .eq 46, 3) := by decide +kernel
theorem dX4_isPart_7 : decode cX4_isPart 7 = .ok (.iload_n 2, 1) := by decide +kernel
theorem dX4_isPart_8 : decode cX4_isPart 8 = .ok (.i2l, 1) := by decide +kernel
theorem dX4_isPart_9 : decode cX4_isPart 9 = .ok (.lconst 0, 1) := by decide +kernel
theorem dX4_isPart_10 : decode cX4_isPart 10 = .ok (.aload_n 0, 1) := by decide +kernel
theorem dX4_isPart_11 : decode cX4_isPart 11 = .ok (.getfield 24, 3) := by decide +kernel
theorem dX4_isPart_14 : decode cX4_isPart 14 = .ok (.iload_n 1, 1) := by decide +kernel
theorem dX4_isPart_15 : decode cX4_isPart 15 = .ok (.aaload, 1) := by decide +kernel
theorem dX4_isPart_16 : decode cX4_isPart 16 = .ok (.getfield 43, 3) := by decide +kernel
theorem dX4_isPart_19 : decode cX4_isPart 19 = .ok (.i2l, 1) := by decide +kernel
theorem dX4_isPart_20 : decode cX4_isPart 20 = .ok (.invokestatic 9, 3) := by decide +kernel
theorem dX4_isPart_23 : decode cX4_isPart 23 = .ok (.ifCond .eq 27, 3) := by decide +kernel
theorem dX4_isPart_26 : decode cX4_isPart 26 = .ok (.iload_n 3, 1) := by decide +kernel
theorem dX4_isPart_27 : decode cX4_isPart 27 = .ok (.i2l, 1) := by decide +kernel
theorem dX4_isPart_28 : decode cX4_isPart 28 = .ok (.iload_n 2, 1) := by decide +kernel
theorem dX4_isPart_29 : decode cX4_isPart 29 = .ok (.i2l, 1) := by decide +kernel
theorem dX4_isPart_30 : decode cX4_isPart 30 = .ok (.aload_n 0, 1) := by decide +kernel
theorem dX4_isPart_31 : decode cX4_isPart 31 = .ok (.getfield 24, 3) := by decide +kernel
theorem dX4_isPart_34 : decode cX4_isPart 34 = .ok (.iload_n 1, 1) := by decide +kernel
theorem dX4_isPart_35 : decode cX4_isPart 35 = .ok (.aaload, 1) := by decide +kernel
theorem dX4_isPart_36 : decode cX4_isPart 36 = .ok (.getfield 43, 3) := by decide +kernel
theorem dX4_isPart_39 : decode cX4_isPart 39 = .ok (.i2l, 1) := by decide +kernel
theorem dX4_isPart_40 : decode cX4_isPart 40 = .ok (.invokestatic 9, 3) := by decide +kernel
theorem dX4_isPart_43 : decode cX4_isPart 43 = .ok (.ifCond .eq 7, 3) := by decide +kernel
theorem dX4_isPart_46 : decode cX4_isPart 46 = .ok (.iconst 1, 1) := by decide +kernel
theorem dX4_isPart_47 : decode cX4_isPart 47 = .ok (.goto 4, 3) := by decide +kernel
theorem dX4_isPart_50 : decode cX4_isPart 50 = .ok (.iconst 0, 1) := by decide +kernel
theorem dX4_isPart_51 : decode cX4_isPart 51 = .ok (.ireturn, 1) := by decide +kernel
theorem dX4_hasRoom_0 : decode cX4_hasRoom 0 = .ok (.iload_n 1, 1) := by decide +kernel
theorem dX4_hasRoom_1 : decode cX4_hasRoom 1 = .ok (.invokestatic 39, 3) := by decide +kernel
theorem dX4_hasRoom_4 : decode cX4_hasRoom 4 = .ok (.ifCond .eq 26, 3) := by decide +kernel
theorem dX4_hasRoom_7 : decode cX4_hasRoom 7 = .ok (.aload_n 0, 1) := by decide +kernel
theorem dX4_hasRoom_8 : decode cX4_hasRoom 8 = .ok (.getfield 24, 3) := by decide +kernel
theorem dX4_hasRoom_11 : decode cX4_hasRoom 11 = .ok (.iload_n 1, 1) := by decide +kernel
theorem dX4_hasRoom_12 : decode cX4_hasRoom 12 = .ok (.aaload, 1) := by decide +kernel
theorem dX4_hasRoom_13 : decode cX4_hasRoom 13 = .ok (.getfield 43, 3) := by decide +kernel
theorem dX4_hasRoom_16 : decode cX4_hasRoom 16 = .ok (.i2l, 1) := by decide +kernel
theorem dX4_hasRoom_17 : decode cX4_hasRoom 17 = .ok (.lload_n 2, 1) := by decide +kernel
theorem dX4_hasRoom_18 : decode cX4_hasRoom 18 = .ok (.ladd, 1) := by decide +kernel
theorem dX4_hasRoom_19 : decode cX4_hasRoom 19 = .ok (.ldc2_w 46, 3) := by decide +kernel
theorem dX4_hasRoom_22 : decode cX4_hasRoom 22 = .ok (.lcmp, 1) := by decide +kernel
theorem dX4_hasRoom_23 : decode cX4_hasRoom 23 = .ok (.ifCond .gt 7, 3) := by decide +kernel
theorem dX4_hasRoom_26 : decode cX4_hasRoom 26 = .ok (.iconst 1, 1) := by decide +kernel
theorem dX4_hasRoom_27 : decode cX4_hasRoom 27 = .ok (.goto 4, 3) := by decide +kernel
theorem dX4_hasRoom_30 : decode cX4_hasRoom 30 = .ok (.iconst 0, 1) := by decide +kernel
theorem dX4_hasRoom_31 : decode cX4_hasRoom 31 = .ok (.ireturn, 1) := by decide +kernel
theorem dX4_add_0 : decode cX4_add 0 = .ok (.aload_n 0, 1) := by decide +kernel
theorem dX4_add_1 : decode cX4_add 1 = .ok (.iload_n 1, 1) := by decide +kernel
theorem dX4_add_2 : decode cX4_add 2 = .ok (.invokestatic 39, 3) := by decide +kernel
theorem dX4_add_5 : decode cX4_add 5 = .ok (.ifCond .eq 14, 3) := by decide +kernel
theorem dX4_add_8 : decode cX4_add 8 = .ok (.iload_n 2, 1) := by decide +kernel
theorem dX4_add_9 : decode cX4_add 9 = .ok (.invokestatic 48, 3) := by decide +kernel
theorem dX4_add_12 : decode cX4_add 12 = .ok (.ifCond .eq 7, 3) := by decide +kernel
theorem dX4_add_15 : decode cX4_add 15 = .ok (.iconst 1, 1) := by decide +kernel
theorem dX4_add_16 : decode cX4_add 16 = .ok (.goto 4, 3) := by decide +kernel
theorem dX4_add_19 : decode cX4_add 19 = .ok (.iconst 0, 1) := by decide +kernel
theorem dX4_add_20 : decode cX4_add 20 = .ok (.aload_n 0, 1) := by decide +kernel
theorem dX4_add_21 : decode cX4_add 21 = .ok (.iload_n 1, 1) := by decide +kernel
theorem dX4_add_22 : decode cX4_add 22 = .ok (.lconst 1, 1) := by decide +kernel
theorem dX4_add_23 : decode cX4_add 23 = .ok (.invokevirtual 51, 3) := by decide +kernel
theorem dX4_add_26 : decode cX4_add 26 = .ok (.iconst 1, 1) := by decide +kernel
theorem dX4_add_27 : decode cX4_add 27 = .ok (.invokevirtual 55, 3) := by decide +kernel
theorem dX4_add_30 : decode cX4_add 30 = .ok (.ifCond .ne 5, 3) := by decide +kernel
theorem dX4_add_33 : decode cX4_add 33 = .ok (.iconst 0, 1) := by decide +kernel
theorem dX4_add_34 : decode cX4_add 34 = .ok (.ireturn, 1) := by decide +kernel
theorem dX4_add_35 : decode cX4_add 35 = .ok (.aload_n 0, 1) := by decide +kernel
theorem dX4_add_36 : decode cX4_add 36 = .ok (.getfield 24, 3) := by decide +kernel
theorem dX4_add_39 : decode cX4_add 39 = .ok (.iload_n 1, 1) := by decide +kernel
theorem dX4_add_40 : decode cX4_add 40 = .ok (.aaload, 1) := by decide +kernel
theorem dX4_add_41 : decode cX4_add 41 = .ok (.iload_n 2, 1) := by decide +kernel
theorem dX4_add_42 : decode cX4_add 42 = .ok (.invokevirtual 59, 3) := by decide +kernel
theorem dX4_add_45 : decode cX4_add 45 = .ok (.aload_n 0, 1) := by decide +kernel
theorem dX4_add_46 : decode cX4_add 46 = .ok (.getfield 24, 3) := by decide +kernel
theorem dX4_add_49 : decode cX4_add 49 = .ok (.iload_n 1, 1) := by decide +kernel
theorem dX4_add_50 : decode cX4_add 50 = .ok (.aaload, 1) := by decide +kernel
theorem dX4_add_51 : decode cX4_add 51 = .ok (.getfield 43, 3) := by decide +kernel
theorem dX4_add_54 : decode cX4_add 54 = .ok (.ireturn, 1) := by decide +kernel
theorem dX4_addMany_0 : decode cX4_addMany 0 = .ok (.aload_n 0, 1) := by decide +kernel
theorem dX4_addMany_1 : decode cX4_addMany 1 = .ok (.iload_n 1, 1) := by decide +kernel
theorem dX4_addMany_2 : decode cX4_addMany 2 = .ok (.invokestatic 39, 3) := by decide +kernel
theorem dX4_addMany_5 : decode cX4_addMany 5 = .ok (.ifCond .eq 14, 3) := by decide +kernel
theorem dX4_addMany_8 : decode cX4_addMany 8 = .ok (.iload_n 2, 1) := by decide +kernel
theorem dX4_addMany_9 : decode cX4_addMany 9 = .ok (.invokestatic 48, 3) := by decide +kernel
theorem dX4_addMany_12 : decode cX4_addMany 12 = .ok (.ifCond .eq 7, 3) := by decide +kernel
theorem dX4_addMany_15 : decode cX4_addMany 15 = .ok (.iconst 1, 1) := by decide +kernel
theorem dX4_addMany_16 : decode cX4_addMany 16 = .ok (.goto 4, 3) := by decide +kernel
theorem dX4_addMany_19 : decode cX4_addMany 19 = .ok (.iconst 0, 1) := by decide +kernel
theorem dX4_addMany_20 : decode cX4_addMany 20 = .ok (.iload_n 3, 1) := by decide +kernel
theorem dX4_addMany_21 : decode cX4_addMany 21 = .ok (.ifCond .lt 7, 3) := by decide +kernel
theorem dX4_addMany_24 : decode cX4_addMany 24 = .ok (.iconst 1, 1) := by decide +kernel
theorem dX4_addMany_25 : decode cX4_addMany 25 = .ok (.goto 4, 3) := by decide +kernel
theorem dX4_addMany_28 : decode cX4_addMany 28 = .ok (.iconst 0, 1) := by decide +kernel
theorem dX4_addMany_29 : decode cX4_addMany 29 = .ok (.aload_n 0, 1) := by decide +kernel
theorem dX4_addMany_30 : decode cX4_addMany 30 = .ok (.iload_n 1, 1) := by decide +kernel
theorem dX4_addMany_31 : decode cX4_addMany 31 = .ok (.iload_n 3, 1) := by decide +kernel
theorem dX4_addMany_32 : decode cX4_addMany 32 = .ok (.i2l, 1) := by decide +kernel
theorem dX4_addMany_33 : decode cX4_addMany 33 = .ok (.invokevirtual 51, 3) := by decide +kernel
theorem dX4_addMany_36 : decode cX4_addMany 36 = .ok (.invokevirtual 55, 3) := by decide +kernel
theorem dX4_addMany_39 : decode cX4_addMany 39 = .ok (.ifCond .ne 5, 3) := by decide +kernel
theorem dX4_addMany_42 : decode cX4_addMany 42 = .ok (.iconst 0, 1) := by decide +kernel
theorem dX4_addMany_43 : decode cX4_addMany 43 = .ok (.ireturn, 1) := by decide +kernel
theorem dX4_addMany_44 : decode cX4_addMany 44 = .ok (.iconst 0, 1) := by decide +kernel
theorem dX4_addMany_45 : decode cX4_addMany 45 = .ok (.istore 4, 2) := by decide +kernel
theorem dX4_addMany_47 : decode cX4_addMany 47 = .ok (.iload 4, 2) := by decide +kernel
theorem dX4_addMany_49 : decode cX4_addMany 49 = .ok (.iload_n 3, 1) := by decide +kernel
theorem dX4_addMany_50 : decode cX4_addMany 50 = .ok (.if_icmp .ge 19, 3) := by decide +kernel
theorem dX4_addMany_53 : decode cX4_addMany 53 = .ok (.aload_n 0, 1) := by decide +kernel
theorem dX4_addMany_54 : decode cX4_addMany 54 = .ok (.getfield 24, 3) := by decide +kernel
theorem dX4_addMany_57 : decode cX4_addMany 57 = .ok (.iload_n 1, 1) := by decide +kernel
theorem dX4_addMany_58 : decode cX4_addMany 58 = .ok (.aaload, 1) := by decide +kernel
theorem dX4_addMany_59 : decode cX4_addMany 59 = .ok (.iload_n 2, 1) := by decide +kernel
theorem dX4_addMany_60 : decode cX4_addMany 60 = .ok (.invokevirtual 59, 3) := by decide +kernel
theorem dX4_addMany_63 : decode cX4_addMany 63 = .ok (.iinc 4 1, 3) := by decide +kernel
theorem dX4_addMany_66 : decode cX4_addMany 66 = .ok (.goto (-19), 3) := by decide +kernel
theorem dX4_addMany_69 : decode cX4_addMany 69 = .ok (.aload_n 0, 1) := by decide +kernel
theorem dX4_addMany_70 : decode cX4_addMany 70 = .ok (.getfield 24, 3) := by decide +kernel
theorem dX4_addMany_73 : decode cX4_addMany 73 = .ok (.iload_n 1, 1) := by decide +kernel
theorem dX4_addMany_74 : decode cX4_addMany 74 = .ok (.aaload, 1) := by decide +kernel
theorem dX4_addMany_75 : decode cX4_addMany 75 = .ok (.getfield 43, 3) := by decide +kernel
theorem dX4_addMany_78 : decode cX4_addMany 78 = .ok (.ireturn, 1) := by decide +kernel
theorem dX4_scatter_0 : decode cX4_scatter 0 = .ok (.aload_n 0, 1) := by decide +kernel
theorem dX4_scatter_1 : decode cX4_scatter 1 = .ok (.iload_n 1, 1) := by decide +kernel
theorem dX4_scatter_2 : decode cX4_scatter 2 = .ok (.invokestatic 39, 3) := by decide +kernel
theorem dX4_scatter_5 : decode cX4_scatter 5 = .ok (.iload_n 2, 1) := by decide +kernel
theorem dX4_scatter_6 : decode cX4_scatter 6 = .ok (.i2l, 1) := by decide +kernel
theorem dX4_scatter_7 : decode cX4_scatter 7 = .ok (.lconst 0, 1) := by decide +kernel
theorem dX4_scatter_8 : decode cX4_scatter 8 = .ok (.ldc2_w 46, 3) := by decide +kernel
theorem dX4_scatter_11 : decode cX4_scatter 11 = .ok (.invokestatic 9, 3) := by decide +kernel
theorem dX4_scatter_14 : decode cX4_scatter 14 = .ok (.ifCond .eq 24, 3) := by decide +kernel
theorem dX4_scatter_17 : decode cX4_scatter 17 = .ok (.iload_n 3, 1) := by decide +kernel
theorem dX4_scatter_18 : decode cX4_scatter 18 = .ok (.i2l, 1) := by decide +kernel
theorem dX4_scatter_19 : decode cX4_scatter 19 = .ok (.lconst 1, 1) := by decide +kernel
theorem dX4_scatter_20 : decode cX4_scatter 20 = .ok (.ldc2_w 63, 3) := by decide +kernel
theorem dX4_scatter_23 : decode cX4_scatter 23 = .ok (.invokestatic 9, 3) := by decide +kernel
theorem dX4_scatter_26 : decode cX4_scatter 26 = .ok (.ifCond .eq 12, 3) := by decide +kernel
theorem dX4_scatter_29 : decode cX4_scatter 29 = .ok (.iload 4, 2) := by decide +kernel
theorem dX4_scatter_31 : decode cX4_scatter 31 = .ok (.ifCond .lt 7, 3) := by decide +kernel
theorem dX4_scatter_34 : decode cX4_scatter 34 = .ok (.iconst 1, 1) := by decide +kernel
theorem dX4_scatter_35 : decode cX4_scatter 35 = .ok (.goto 4, 3) := by decide +kernel
theorem dX4_scatter_38 : decode cX4_scatter 38 = .ok (.iconst 0, 1) := by decide +kernel
theorem dX4_scatter_39 : decode cX4_scatter 39 = .ok (.aload_n 0, 1) := by decide +kernel
theorem dX4_scatter_40 : decode cX4_scatter 40 = .ok (.iload_n 1, 1) := by decide +kernel
theorem dX4_scatter_41 : decode cX4_scatter 41 = .ok (.iload_n 2, 1) := by decide +kernel
theorem dX4_scatter_42 : decode cX4_scatter 42 = .ok (.i2l, 1) := by decide +kernel
theorem dX4_scatter_43 : decode cX4_scatter 43 = .ok (.invokevirtual 51, 3) := by decide +kernel
theorem dX4_scatter_46 : decode cX4_scatter 46 = .ok (.invokevirtual 55, 3) := by decide +kernel
theorem dX4_scatter_49 : decode cX4_scatter 49 = .ok (.ifCond .ne 5, 3) := by decide +kernel
theorem dX4_scatter_52 : decode cX4_scatter 52 = .ok (.iconst 0, 1) := by decide +kernel
theorem dX4_scatter_53 : decode cX4_scatter 53 = .ok (.ireturn, 1) := by decide +kernel
theorem dX4_scatter_54 : decode cX4_scatter 54 = .ok (.iload 4, 2) := by decide +kernel
theorem dX4_scatter_56 : decode cX4_scatter 56 = .ok (.i2l, 1) := by decide +kernel
theorem dX4_scatter_57 : decode cX4_scatter 57 = .ok (.lstore 5, 2) := by decide +kernel
theorem dX4_scatter_59 : decode cX4_scatter 59 = .ok (.iconst 0, 1) := by decide +kernel
theorem dX4_scatter_60 : decode cX4_scatter 60 = .ok (.istore 7, 2) := by decide +kernel
theorem dX4_scatter_62 : decode cX4_scatter 62 = .ok (.iload 7, 2) := by decide +kernel
theorem dX4_scatter_64 : decode cX4_scatter 64 = .ok (.iload_n 2, 1) := by decide +kernel
theorem dX4_scatter_65 : decode cX4_scatter 65 = .ok (.if_icmp .ge 44, 3) := by decide +kernel
theorem dX4_scatter_68 : decode cX4_scatter 68 = .ok (.lload 5, 2) := by decide +kernel
theorem dX4_scatter_70 : decode cX4_scatter 70 = .ok (.ldc2_w 65, 3) := by decide +kernel
theorem dX4_scatter_73 : decode cX4_scatter 73 = .ok (.lmul, 1) := by decide +kernel
theorem dX4_scatter_74 : decode cX4_scatter 74 = .ok (.ldc2_w 67, 3) := by decide +kernel
theorem dX4_scatter_77 : decode cX4_scatter 77 = .ok (.ladd, 1) := by decide +kernel
theorem dX4_scatter_78 : decode cX4_scatter 78 = .ok (.ldc2_w 69, 3) := by decide +kernel
theorem dX4_scatter_81 : decode cX4_scatter 81 = .ok (.lrem, 1) := by decide +kernel
theorem dX4_scatter_82 : decode cX4_scatter 82 = .ok (.lstore 5, 2) := by decide +kernel
theorem dX4_scatter_84 : decode cX4_scatter 84 = .ok (.aload_n 0, 1) := by decide +kernel
theorem dX4_scatter_85 : decode cX4_scatter 85 = .ok (.getfield 24, 3) := by decide +kernel
theorem dX4_scatter_88 : decode cX4_scatter 88 = .ok (.iload_n 1, 1) := by decide +kernel
theorem dX4_scatter_89 : decode cX4_scatter 89 = .ok (.aaload, 1) := by decide +kernel
theorem dX4_scatter_90 : decode cX4_scatter 90 = .ok (.lload 5, 2) := by decide +kernel
theorem dX4_scatter_92 : decode cX4_scatter 92 = .ok (.ldc2_w 71, 3) := by decide +kernel
theorem dX4_scatter_95 : decode cX4_scatter 95 = .ok (.ldiv, 1) := by decide +kernel
theorem dX4_scatter_96 : decode cX4_scatter 96 = .ok (.iload_n 3, 1) := by decide +kernel
theorem dX4_scatter_97 : decode cX4_scatter 97 = .ok (.i2l, 1) := by decide +kernel
theorem dX4_scatter_98 : decode cX4_scatter 98 = .ok (.lrem, 1) := by decide +kernel
theorem dX4_scatter_99 : decode cX4_scatter 99 = .ok (.l2i, 1) := by decide +kernel
theorem dX4_scatter_100 : decode cX4_scatter 100 = .ok (.invokevirtual 59, 3) := by decide +kernel
theorem dX4_scatter_103 : decode cX4_scatter 103 = .ok (.iinc 7 1, 3) := by decide +kernel
theorem dX4_scatter_106 : decode cX4_scatter 106 = .ok (.goto (-44), 3) := by decide +kernel
theorem dX4_scatter_109 : decode cX4_scatter 109 = .ok (.aload_n 0, 1) := by decide +kernel
theorem dX4_scatter_110 : decode cX4_scatter 110 = .ok (.getfield 24, 3) := by decide +kernel
theorem dX4_scatter_113 : decode cX4_scatter 113 = .ok (.iload_n 1, 1) := by decide +kernel
theorem dX4_scatter_114 : decode cX4_scatter 114 = .ok (.aaload, 1) := by decide +kernel
theorem dX4_scatter_115 : decode cX4_scatter 115 = .ok (.getfield 43, 3) := by decide +kernel
theorem dX4_scatter_118 : decode cX4_scatter 118 = .ok (.ireturn, 1) := by decide +kernel
theorem dX4_insert_0 : decode cX4_insert 0 = .ok (.aload_n 0, 1) := by decide +kernel
theorem dX4_insert_1 : decode cX4_insert 1 = .ok (.aload_n 0, 1) := by decide +kernel
theorem dX4_insert_2 : decode cX4_insert 2 = .ok (.iload_n 1, 1) := by decide +kernel
theorem dX4_insert_3 : decode cX4_insert 3 = .ok (.iload_n 2, 1) := by decide +kernel
theorem dX4_insert_4 : decode cX4_insert 4 = .ok (.iload_n 2, 1) := by decide +kernel
theorem dX4_insert_5 : decode cX4_insert 5 = .ok (.invokevirtual 73, 3) := by decide +kernel
theorem dX4_insert_8 : decode cX4_insert 8 = .ok (.ifCond .eq 14, 3) := by decide +kernel
theorem dX4_insert_11 : decode cX4_insert 11 = .ok (.iload_n 3, 1) := by decide +kernel
theorem dX4_insert_12 : decode cX4_insert 12 = .ok (.invokestatic 48, 3) := by decide +kernel
theorem dX4_insert_15 : decode cX4_insert 15 = .ok (.ifCond .eq 7, 3) := by decide +kernel
theorem dX4_insert_18 : decode cX4_insert 18 = .ok (.iconst 1, 1) := by decide +kernel
theorem dX4_insert_19 : decode cX4_insert 19 = .ok (.goto 4, 3) := by decide +kernel
theorem dX4_insert_22 : decode cX4_insert 22 = .ok (.iconst 0, 1) := by decide +kernel
theorem dX4_insert_23 : decode cX4_insert 23 = .ok (.aload_n 0, 1) := by decide +kernel
theorem dX4_insert_24 : decode cX4_insert 24 = .ok (.iload_n 1, 1) := by decide +kernel
theorem dX4_insert_25 : decode cX4_insert 25 = .ok (.lconst 1, 1) := by decide +kernel
theorem dX4_insert_26 : decode cX4_insert 26 = .ok (.invokevirtual 51, 3) := by decide +kernel
theorem dX4_insert_29 : decode cX4_insert 29 = .ok (.iconst 1, 1) := by decide +kernel
theorem dX4_insert_30 : decode cX4_insert 30 = .ok (.invokevirtual 55, 3) := by decide +kernel
theorem dX4_insert_33 : decode cX4_insert 33 = .ok (.ifCond .ne 5, 3) := by decide +kernel
theorem dX4_insert_36 : decode cX4_insert 36 = .ok (.iconst 0, 1) := by decide +kernel
theorem dX4_insert_37 : decode cX4_insert 37 = .ok (.ireturn, 1) := by decide +kernel
theorem dX4_insert_38 : decode cX4_insert 38 = .ok (.aload_n 0, 1) := by decide +kernel
theorem dX4_insert_39 : decode cX4_insert 39 = .ok (.getfield 24, 3) := by decide +kernel
theorem dX4_insert_42 : decode cX4_insert 42 = .ok (.iload_n 1, 1) := by decide +kernel
theorem dX4_insert_43 : decode cX4_insert 43 = .ok (.aaload, 1) := by decide +kernel
theorem dX4_insert_44 : decode cX4_insert 44 = .ok (.iload_n 2, 1) := by decide +kernel
theorem dX4_insert_45 : decode cX4_insert 45 = .ok (.iload_n 3, 1) := by decide +kernel
theorem dX4_insert_46 : decode cX4_insert 46 = .ok (.invokevirtual 77, 3) := by decide +kernel
theorem dX4_insert_49 : decode cX4_insert 49 = .ok (.aload_n 0, 1) := by decide +kernel
theorem dX4_insert_50 : decode cX4_insert 50 = .ok (.getfield 24, 3) := by decide +kernel
theorem dX4_insert_53 : decode cX4_insert 53 = .ok (.iload_n 1, 1) := by decide +kernel
theorem dX4_insert_54 : decode cX4_insert 54 = .ok (.aaload, 1) := by decide +kernel
theorem dX4_insert_55 : decode cX4_insert 55 = .ok (.getfield 43, 3) := by decide +kernel
theorem dX4_insert_58 : decode cX4_insert 58 = .ok (.ireturn, 1) := by decide +kernel
theorem dX4_set_0 : decode cX4_set 0 = .ok (.aload_n 0, 1) := by decide +kernel
theorem dX4_set_1 : decode cX4_set 1 = .ok (.aload_n 0, 1) := by decide +kernel
theorem dX4_set_2 : decode cX4_set 2 = .ok (.iload_n 1, 1) := by decide +kernel
theorem dX4_set_3 : decode cX4_set 3 = .ok (.iload_n 2, 1) := by decide +kernel
theorem dX4_set_4 : decode cX4_set 4 = .ok (.invokevirtual 81, 3) := by decide +kernel
theorem dX4_set_7 : decode cX4_set 7 = .ok (.ifCond .eq 14, 3) := by decide +kernel
theorem dX4_set_10 : decode cX4_set 10 = .ok (.iload_n 3, 1) := by decide +kernel
theorem dX4_set_11 : decode cX4_set 11 = .ok (.invokestatic 48, 3) := by decide +kernel
theorem dX4_set_14 : decode cX4_set 14 = .ok (.ifCond .eq 7, 3) := by decide +kernel
theorem dX4_set_17 : decode cX4_set 17 = .ok (.iconst 1, 1) := by decide +kernel
theorem dX4_set_18 : decode cX4_set 18 = .ok (.goto 4, 3) := by decide +kernel
theorem dX4_set_21 : decode cX4_set 21 = .ok (.iconst 0, 1) := by decide +kernel
theorem dX4_set_22 : decode cX4_set 22 = .ok (.iconst 1, 1) := by decide +kernel
theorem dX4_set_23 : decode cX4_set 23 = .ok (.iconst 1, 1) := by decide +kernel
theorem dX4_set_24 : decode cX4_set 24 = .ok (.invokevirtual 55, 3) := by decide +kernel
theorem dX4_set_27 : decode cX4_set 27 = .ok (.ifCond .ne 5, 3) := by decide +kernel
theorem dX4_set_30 : decode cX4_set 30 = .ok (.iconst 0, 1) := by decide +kernel
theorem dX4_set_31 : decode cX4_set 31 = .ok (.ireturn, 1) := by decide +kernel
theorem dX4_set_32 : decode cX4_set 32 = .ok (.aload_n 0, 1) := by decide +kernel
theorem dX4_set_33 : decode cX4_set 33 = .ok (.getfield 24, 3) := by decide +kernel
theorem dX4_set_36 : decode cX4_set 36 = .ok (.iload_n 1, 1) := by decide +kernel
theorem dX4_set_37 : decode cX4_set 37 = .ok (.aaload, 1) := by decide +kernel
theorem dX4_set_38 : decode cX4_set 38 = .ok (.iload_n 2, 1) := by decide +kernel
theorem dX4_set_39 : decode cX4_set 39 = .ok (.invokevirtual 85, 3) := by decide +kernel
theorem dX4_set_42 : decode cX4_set 42 = .ok (.istore 4, 2) := by decide +kernel
theorem dX4_set_44 : decode cX4_set 44 = .ok (.aload_n 0, 1) := by decide +kernel
theorem dX4_set_45 : decode cX4_set 45 = .ok (.getfield 24, 3) := by decide +kernel
theorem dX4_set_48 : decode cX4_set 48 = .ok (.iload_n 1, 1) := by decide +kernel
theorem dX4_set_49 : decode cX4_set 49 = .ok (.aaload, 1) := by decide +kernel
theorem dX4_set_50 : decode cX4_set 50 = .ok (.getfield 89, 3) := by decide +kernel
theorem dX4_set_53 : decode cX4_set 53 = .ok (.iload_n 2, 1) := by decide +kernel
theorem dX4_set_54 : decode cX4_set 54 = .ok (.iload_n 3, 1) := by decide +kernel
theorem dX4_set_55 : decode cX4_set 55 = .ok (.iastore, 1) := by decide +kernel
theorem dX4_set_56 : decode cX4_set 56 = .ok (.iload 4, 2) := by decide +kernel
theorem dX4_set_58 : decode cX4_set 58 = .ok (.ireturn, 1) := by decide +kernel
theorem dX4_remove_0 : decode cX4_remove 0 = .ok (.aload_n 0, 1) := by decide +kernel
theorem dX4_remove_1 : decode cX4_remove 1 = .ok (.aload_n 0, 1) := by decide +kernel
theorem dX4_remove_2 : decode cX4_remove 2 = .ok (.iload_n 1, 1) := by decide +kernel
theorem dX4_remove_3 : decode cX4_remove 3 = .ok (.iload_n 2, 1) := by decide +kernel
theorem dX4_remove_4 : decode cX4_remove 4 = .ok (.invokevirtual 81, 3) := by decide +kernel
theorem dX4_remove_7 : decode cX4_remove 7 = .ok (.iconst 1, 1) := by decide +kernel
theorem dX4_remove_8 : decode cX4_remove 8 = .ok (.iconst 1, 1) := by decide +kernel
theorem dX4_remove_9 : decode cX4_remove 9 = .ok (.invokevirtual 55, 3) := by decide +kernel
theorem dX4_remove_12 : decode cX4_remove 12 = .ok (.ifCond .eq 16, 3) := by decide +kernel
theorem dX4_remove_15 : decode cX4_remove 15 = .ok (.aload_n 0, 1) := by decide +kernel
theorem dX4_remove_16 : decode cX4_remove 16 = .ok (.getfield 24, 3) := by decide +kernel
theorem dX4_remove_19 : decode cX4_remove 19 = .ok (.iload_n 1, 1) := by decide +kernel
theorem dX4_remove_20 : decode cX4_remove 20 = .ok (.aaload, 1) := by decide +kernel
theorem dX4_remove_21 : decode cX4_remove 21 = .ok (.iload_n 2, 1) := by decide +kernel
theorem dX4_remove_22 : decode cX4_remove 22 = .ok (.invokevirtual 92, 3) := by decide +kernel
theorem dX4_remove_25 : decode cX4_remove 25 = .ok (.goto 4, 3) := by decide +kernel
theorem dX4_remove_28 : decode cX4_remove 28 = .ok (.iconst 0, 1) := by decide +kernel
theorem dX4_remove_29 : decode cX4_remove 29 = .ok (.ireturn, 1) := by decide +kernel
theorem dX4_cut_0 : decode cX4_cut 0 = .ok (.aload_n 0, 1) := by decide +kernel
theorem dX4_cut_1 : decode cX4_cut 1 = .ok (.aload_n 0, 1) := by decide +kernel
theorem dX4_cut_2 : decode cX4_cut 2 = .ok (.iload_n 1, 1) := by decide +kernel
theorem dX4_cut_3 : decode cX4_cut 3 = .ok (.iload_n 2, 1) := by decide +kernel
theorem dX4_cut_4 : decode cX4_cut 4 = .ok (.iload_n 3, 1) := by decide +kernel
theorem dX4_cut_5 : decode cX4_cut 5 = .ok (.invokevirtual 73, 3) := by decide +kernel
theorem dX4_cut_8 : decode cX4_cut 8 = .ok (.iconst 1, 1) := by decide +kernel
theorem dX4_cut_9 : decode cX4_cut 9 = .ok (.iconst 1, 1) := by decide +kernel
theorem dX4_cut_10 : decode cX4_cut 10 = .ok (.invokevirtual 55, 3) := by decide +kernel
theorem dX4_cut_13 : decode cX4_cut 13 = .ok (.ifCond .ne 5, 3) := by decide +kernel
theorem dX4_cut_16 : decode cX4_cut 16 = .ok (.iconst 0, 1) := by decide +kernel
theorem dX4_cut_17 : decode cX4_cut 17 = .ok (.ireturn, 1) := by decide +kernel
theorem dX4_cut_18 : decode cX4_cut 18 = .ok (.iload_n 2, 1) := by decide +kernel
theorem dX4_cut_19 : decode cX4_cut 19 = .ok (.istore 4, 2) := by decide +kernel
theorem dX4_cut_21 : decode cX4_cut 21 = .ok (.iload 4, 2) := by decide +kernel
theorem dX4_cut_23 : decode cX4_cut 23 = .ok (.iload_n 3, 1) := by decide +kernel
theorem dX4_cut_24 : decode cX4_cut 24 = .ok (.if_icmp .ge 21, 3) := by decide +kernel
theorem dX4_cut_27 : decode cX4_cut 27 = .ok (.aload_n 0, 1) := by decide +kernel
theorem dX4_cut_28 : decode cX4_cut 28 = .ok (.getfield 24, 3) := by decide +kernel
theorem dX4_cut_31 : decode cX4_cut 31 = .ok (.iload_n 1, 1) := by decide +kernel
theorem dX4_cut_32 : decode cX4_cut 32 = .ok (.aaload, 1) := by decide +kernel
theorem dX4_cut_33 : decode cX4_cut 33 = .ok (.iload_n 2, 1) := by decide +kernel
theorem dX4_cut_34 : decode cX4_cut 34 = .ok (.invokevirtual 92, 3) := by decide +kernel
theorem dX4_cut_37 : decode cX4_cut 37 = .ok (.istore 5, 2) := by decide +kernel
theorem dX4_cut_39 : decode cX4_cut 39 = .ok (.iinc 4 1, 3) := by decide +kernel
theorem dX4_cut_42 : decode cX4_cut 42 = .ok (.goto (-21), 3) := by decide +kernel
theorem dX4_cut_45 : decode cX4_cut 45 = .ok (.aload_n 0, 1) := by decide +kernel
theorem dX4_cut_46 : decode cX4_cut 46 = .ok (.getfield 24, 3) := by decide +kernel
theorem dX4_cut_49 : decode cX4_cut 49 = .ok (.iload_n 1, 1) := by decide +kernel
theorem dX4_cut_50 : decode cX4_cut 50 = .ok (.aaload, 1) := by decide +kernel
theorem dX4_cut_51 : decode cX4_cut 51 = .ok (.getfield 43, 3) := by decide +kernel
theorem dX4_cut_54 : decode cX4_cut 54 = .ok (.ireturn, 1) := by decide +kernel
theorem dX4_size_0 : decode cX4_size 0 = .ok (.aload_n 0, 1) := by decide +kernel
theorem dX4_size_1 : decode cX4_size 1 = .ok (.iload_n 1, 1) := by decide +kernel
theorem dX4_size_2 : decode cX4_size 2 = .ok (.invokestatic 39, 3) := by decide +kernel
theorem dX4_size_5 : decode cX4_size 5 = .ok (.iconst 1, 1) := by decide +kernel
theorem dX4_size_6 : decode cX4_size 6 = .ok (.iconst 1, 1) := by decide +kernel
theorem dX4_size_7 : decode cX4_size 7 = .ok (.invokevirtual 55, 3) := by decide +kernel
theorem dX4_size_10 : decode cX4_size 10 = .ok (.ifCond .eq 15, 3) := by decide +kernel
theorem dX4_size_13 : decode cX4_size 13 = .ok (.aload_n 0, 1) := by decide +kernel
theorem dX4_size_14 : decode cX4_size 14 = .ok (.getfield 24, 3) := by decide +kernel
theorem dX4_size_17 : decode cX4_size 17 = .ok (.iload_n 1, 1) := by decide +kernel
theorem dX4_size_18 : decode cX4_size 18 = .ok (.aaload, 1) := by decide +kernel
theorem dX4_size_19 : decode cX4_size 19 = .ok (.getfield 43, 3) := by decide +kernel
theorem dX4_size_22 : decode cX4_size 22 = .ok (.goto 4, 3) := by decide +kernel
theorem dX4_size_25 : decode cX4_size 25 = .ok (.iconst 0, 1) := by decide +kernel
theorem dX4_size_26 : decode cX4_size 26 = .ok (.ireturn, 1) := by decide +kernel
theorem dX4_at_0 : decode cX4_at 0 = .ok (.aload_n 0, 1) := by decide +kernel
theorem dX4_at_1 : decode cX4_at 1 = .ok (.aload_n 0, 1) := by decide +kernel
theorem dX4_at_2 : decode cX4_at 2 = .ok (.iload_n 1, 1) := by decide +kernel
theorem dX4_at_3 : decode cX4_at 3 = .ok (.iload_n 2, 1) := by decide +kernel
theorem dX4_at_4 : decode cX4_at 4 = .ok (.invokevirtual 81, 3) := by decide +kernel
theorem dX4_at_7 : decode cX4_at 7 = .ok (.iconst 1, 1) := by decide +kernel
theorem dX4_at_8 : decode cX4_at 8 = .ok (.iconst 1, 1) := by decide +kernel
theorem dX4_at_9 : decode cX4_at 9 = .ok (.invokevirtual 55, 3) := by decide +kernel
theorem dX4_at_12 : decode cX4_at 12 = .ok (.ifCond .eq 16, 3) := by decide +kernel
theorem dX4_at_15 : decode cX4_at 15 = .ok (.aload_n 0, 1) := by decide +kernel
theorem dX4_at_16 : decode cX4_at 16 = .ok (.getfield 24, 3) := by decide +kernel
theorem dX4_at_19 : decode cX4_at 19 = .ok (.iload_n 1, 1) := by decide +kernel
theorem dX4_at_20 : decode cX4_at 20 = .ok (.aaload, 1) := by decide +kernel
theorem dX4_at_21 : decode cX4_at 21 = .ok (.iload_n 2, 1) := by decide +kernel
theorem dX4_at_22 : decode cX4_at 22 = .ok (.invokevirtual 85, 3) := by decide +kernel
theorem dX4_at_25 : decode cX4_at 25 = .ok (.goto 4, 3) := by decide +kernel
theorem dX4_at_28 : decode cX4_at 28 = .ok (.iconst 0, 1) := by decide +kernel
theorem dX4_at_29 : decode cX4_at 29 = .ok (.ireturn, 1) := by decide +kernel
theorem dX4_digest_0 : decode cX4_digest 0 = .ok (.aload_n 0, 1) := by decide +kernel
theorem dX4_digest_1 : decode cX4_digest 1 = .ok (.iload_n 1, 1) := by decide +kernel
theorem dX4_digest_2 : decode cX4_digest 2 = .ok (.invokestatic 39, 3) := by decide +kernel
theorem dX4_digest_5 : decode cX4_digest 5 = .ok (.iconst 1, 1) := by decide +kernel
theorem dX4_digest_6 : decode cX4_digest 6 = .ok (.iconst 1, 1) := by decide +kernel
theorem dX4_digest_7 : decode cX4_digest 7 = .ok (.invokevirtual 55, 3) := by decide +kernel
theorem dX4_digest_10 : decode cX4_digest 10 = .ok (.ifCond .ne 5, 3) := by decide +kernel
theorem dX4_digest_13 : decode cX4_digest 13 = .ok (.iconst 0, 1) := by decide +kernel
theorem dX4_digest_14 : decode cX4_digest 14 = .ok (.ireturn, 1) := by decide +kernel
theorem dX4_digest_15 : decode cX4_digest 15 = .ok (.bipush 7, 2) := by decide +kernel
theorem dX4_digest_17 : decode cX4_digest 17 = .ok (.istore_n 2, 1) := by decide +kernel
theorem dX4_digest_18 : decode cX4_digest 18 = .ok (.iconst 0, 1) := by decide +kernel
theorem dX4_digest_19 : decode cX4_digest 19 = .ok (.istore_n 3, 1) := by decide +kernel
theorem dX4_digest_20 : decode cX4_digest 20 = .ok (.iload_n 3, 1) := by decide +kernel
theorem dX4_digest_21 : decode cX4_digest 21 = .ok (.aload_n 0, 1) := by decide +kernel
theorem dX4_digest_22 : decode cX4_digest 22 = .ok (.getfield 24, 3) := by decide +kernel
theorem dX4_digest_25 : decode cX4_digest 25 = .ok (.iload_n 1, 1) := by decide +kernel
theorem dX4_digest_26 : decode cX4_digest 26 = .ok (.aaload, 1) := by decide +kernel
theorem dX4_digest_27 : decode cX4_digest 27 = .ok (.getfield 43, 3) := by decide +kernel
theorem dX4_digest_30 : decode cX4_digest 30 = .ok (.if_icmp .ge 25, 3) := by decide +kernel
theorem dX4_digest_33 : decode cX4_digest 33 = .ok (.bipush 31, 2) := by decide +kernel
theorem dX4_digest_35 : decode cX4_digest 35 = .ok (.iload_n 2, 1) := by decide +kernel
theorem dX4_digest_36 : decode cX4_digest 36 = .ok (.imul, 1) := by decide +kernel
theorem dX4_digest_37 : decode cX4_digest 37 = .ok (.aload_n 0, 1) := by decide +kernel
theorem dX4_digest_38 : decode cX4_digest 38 = .ok (.getfield 24, 3) := by decide +kernel
theorem dX4_digest_41 : decode cX4_digest 41 = .ok (.iload_n 1, 1) := by decide +kernel
theorem dX4_digest_42 : decode cX4_digest 42 = .ok (.aaload, 1) := by decide +kernel
theorem dX4_digest_43 : decode cX4_digest 43 = .ok (.iload_n 3, 1) := by decide +kernel
theorem dX4_digest_44 : decode cX4_digest 44 = .ok (.invokevirtual 85, 3) := by decide +kernel
theorem dX4_digest_47 : decode cX4_digest 47 = .ok (.iadd, 1) := by decide +kernel
theorem dX4_digest_48 : decode cX4_digest 48 = .ok (.istore_n 2, 1) := by decide +kernel
theorem dX4_digest_49 : decode cX4_digest 49 = .ok (.iinc 3 1, 3) := by decide +kernel
theorem dX4_digest_52 : decode cX4_digest 52 = .ok (.goto (-32), 3) := by decide +kernel
theorem dX4_digest_55 : decode cX4_digest 55 = .ok (.iload_n 2, 1) := by decide +kernel
theorem dX4_digest_56 : decode cX4_digest 56 = .ok (.ireturn, 1) := by decide +kernel
theorem dX4_setRank_0 : decode cX4_setRank 0 = .ok (.aload_n 0, 1) := by decide +kernel
theorem dX4_setRank_1 : decode cX4_setRank 1 = .ok (.iload_n 1, 1) := by decide +kernel
theorem dX4_setRank_2 : decode cX4_setRank 2 = .ok (.invokestatic 48, 3) := by decide +kernel
theorem dX4_setRank_5 : decode cX4_setRank 5 = .ok (.iload_n 2, 1) := by decide +kernel
theorem dX4_setRank_6 : decode cX4_setRank 6 = .ok (.i2l, 1) := by decide +kernel
theorem dX4_setRank_7 : decode cX4_setRank 7 = .ok (.ldc2_w 95, 3) := by decide +kernel
theorem dX4_setRank_10 : decode cX4_setRank 10 = .ok (.ldc2_w 97, 3) := by decide +kernel
theorem dX4_setRank_13 : decode cX4_setRank 13 = .ok (.invokestatic 9, 3) := by decide +kernel
theorem dX4_setRank_16 : decode cX4_setRank 16 = .ok (.iconst 1, 1) := by decide +kernel
theorem dX4_setRank_17 : decode cX4_setRank 17 = .ok (.invokevirtual 55, 3) := by decide +kernel
theorem dX4_setRank_20 : decode cX4_setRank 20 = .ok (.ifCond .ne 5, 3) := by decide +kernel
theorem dX4_setRank_23 : decode cX4_setRank 23 = .ok (.iconst 0, 1) := by decide +kernel
theorem dX4_setRank_24 : decode cX4_setRank 24 = .ok (.ireturn, 1) := by decide +kernel
theorem dX4_setRank_25 : decode cX4_setRank 25 = .ok (.aload_n 0, 1) := by decide +kernel
theorem dX4_setRank_26 : decode cX4_setRank 26 = .ok (.getfield 35, 3) := by decide +kernel
theorem dX4_setRank_29 : decode cX4_setRank 29 = .ok (.iload_n 1, 1) := by decide +kernel
theorem dX4_setRank_30 : decode cX4_setRank 30 = .ok (.iaload, 1) := by decide +kernel
theorem dX4_setRank_31 : decode cX4_setRank 31 = .ok (.istore_n 3, 1) := by decide +kernel
theorem dX4_setRank_32 : decode cX4_setRank 32 = .ok (.aload_n 0, 1) := by decide +kernel
theorem dX4_setRank_33 : decode cX4_setRank 33 = .ok (.getfield 35, 3) := by decide +kernel
theorem dX4_setRank_36 : decode cX4_setRank 36 = .ok (.iload_n 1, 1) := by decide +kernel
theorem dX4_setRank_37 : decode cX4_setRank 37 = .ok (.iload_n 2, 1) := by decide +kernel
theorem dX4_setRank_38 : decode cX4_setRank 38 = .ok (.iastore, 1) := by decide +kernel
theorem dX4_setRank_39 : decode cX4_setRank 39 = .ok (.iload_n 3, 1) := by decide +kernel
theorem dX4_setRank_40 : decode cX4_setRank 40 = .ok (.ireturn, 1) := by decide +kernel
theorem dX4_say_0 : decode cX4_say 0 = .ok (.iload_n 1, 1) := by decide +kernel
theorem dX4_say_1 : decode cX4_say 1 = .ok (.invokestatic 99, 3) := by decide +kernel
theorem dX4_say_4 : decode cX4_say 4 = .ok (.istore_n 3, 1) := by decide +kernel
theorem dX4_say_5 : decode cX4_say 5 = .ok (.aload_n 0, 1) := by decide +kernel
theorem dX4_say_6 : decode cX4_say 6 = .ok (.iload_n 3, 1) := by decide +kernel
theorem dX4_say_7 : decode cX4_say 7 = .ok (.ifCond .eq 14, 3) := by decide +kernel
theorem dX4_say_10 : decode cX4_say 10 = .ok (.iload_n 2, 1) := by decide +kernel
theorem dX4_say_11 : decode cX4_say 11 = .ok (.invokestatic 48, 3) := by decide +kernel
theorem dX4_say_14 : decode cX4_say 14 = .ok (.ifCond .eq 7, 3) := by decide +kernel
theorem dX4_say_17 : decode cX4_say 17 = .ok (.iconst 1, 1) := by decide +kernel
theorem dX4_say_18 : decode cX4_say 18 = .ok (.goto 4, 3) := by decide +kernel
theorem dX4_say_21 : decode cX4_say 21 = .ok (.iconst 0, 1) := by decide +kernel
theorem dX4_say_22 : decode cX4_say 22 = .ok (.iload_n 3, 1) := by decide +kernel
theorem dX4_say_23 : decode cX4_say 23 = .ok (.ifCond .eq 21, 3) := by decide +kernel
theorem dX4_say_26 : decode cX4_say 26 = .ok (.aload_n 0, 1) := by decide +kernel
theorem dX4_say_27 : decode cX4_say 27 = .ok (.getfield 28, 3) := by decide +kernel
theorem dX4_say_30 : decode cX4_say 30 = .ok (.iload_n 1, 1) := by decide +kernel
theorem dX4_say_31 : decode cX4_say 31 = .ok (.aaload, 1) := by decide +kernel
theorem dX4_say_32 : decode cX4_say 32 = .ok (.getfield 43, 3) := by decide +kernel
theorem dX4_say_35 : decode cX4_say 35 = .ok (.bipush 12, 2) := by decide +kernel
theorem dX4_say_37 : decode cX4_say 37 = .ok (.if_icmp .ge 7, 3) := by decide +kernel
theorem dX4_say_40 : decode cX4_say 40 = .ok (.iconst 1, 1) := by decide +kernel
theorem dX4_say_41 : decode cX4_say 41 = .ok (.goto 4, 3) := by decide +kernel
theorem dX4_say_44 : decode cX4_say 44 = .ok (.iconst 0, 1) := by decide +kernel
theorem dX4_say_45 : decode cX4_say 45 = .ok (.iconst 1, 1) := by decide +kernel
theorem dX4_say_46 : decode cX4_say 46 = .ok (.invokevirtual 55, 3) := by decide +kernel
theorem dX4_say_49 : decode cX4_say 49 = .ok (.ifCond .ne 5, 3) := by decide +kernel
theorem dX4_say_52 : decode cX4_say 52 = .ok (.iconst 0, 1) := by decide +kernel
theorem dX4_say_53 : decode cX4_say 53 = .ok (.ireturn, 1) := by decide +kernel
theorem dX4_say_54 : decode cX4_say 54 = .ok (.aload_n 0, 1) := by decide +kernel
theorem dX4_say_55 : decode cX4_say 55 = .ok (.getfield 28, 3) := by decide +kernel
theorem dX4_say_58 : decode cX4_say 58 = .ok (.iload_n 1, 1) := by decide +kernel
theorem dX4_say_59 : decode cX4_say 59 = .ok (.aaload, 1) := by decide +kernel
theorem dX4_say_60 : decode cX4_say 60 = .ok (.iload_n 2, 1) := by decide +kernel
theorem dX4_say_61 : decode cX4_say 61 = .ok (.invokevirtual 59, 3) := by decide +kernel
theorem dX4_say_64 : decode cX4_say 64 = .ok (.aload_n 0, 1) := by decide +kernel
theorem dX4_say_65 : decode cX4_say 65 = .ok (.getfield 28, 3) := by decide +kernel
theorem dX4_say_68 : decode cX4_say 68 = .ok (.iload_n 1, 1) := by decide +kernel
theorem dX4_say_69 : decode cX4_say 69 = .ok (.aaload, 1) := by decide +kernel
theorem dX4_say_70 : decode cX4_say 70 = .ok (.getfield 43, 3) := by decide +kernel
theorem dX4_say_73 : decode cX4_say 73 = .ok (.ireturn, 1) := by decide +kernel
theorem dX4_quote_0 : decode cX4_quote 0 = .ok (.aload_n 0, 1) := by decide +kernel
theorem dX4_quote_1 : decode cX4_quote 1 = .ok (.iload_n 1, 1) := by decide +kernel
theorem dX4_quote_2 : decode cX4_quote 2 = .ok (.invokestatic 99, 3) := by decide +kernel
theorem dX4_quote_5 : decode cX4_quote 5 = .ok (.ifCond .eq 18, 3) := by decide +kernel
theorem dX4_quote_8 : decode cX4_quote 8 = .ok (.aload_n 0, 1) := by decide +kernel
theorem dX4_quote_9 : decode cX4_quote 9 = .ok (.iload_n 2, 1) := by decide +kernel
theorem dX4_quote_10 : decode cX4_quote 10 = .ok (.iload_n 3, 1) := by decide +kernel
theorem dX4_quote_11 : decode cX4_quote 11 = .ok (.iload 4, 2) := by decide +kernel
theorem dX4_quote_13 : decode cX4_quote 13 = .ok (.invokevirtual 73, 3) := by decide +kernel
theorem dX4_quote_16 : decode cX4_quote 16 = .ok (.ifCond .eq 7, 3) := by decide +kernel
theorem dX4_quote_19 : decode cX4_quote 19 = .ok (.iconst 1, 1) := by decide +kernel
theorem dX4_quote_20 : decode cX4_quote 20 = .ok (.goto 4, 3) := by decide +kernel
theorem dX4_quote_23 : decode cX4_quote 23 = .ok (.iconst 0, 1) := by decide +kernel
theorem dX4_quote_24 : decode cX4_quote 24 = .ok (.iload 4, 2) := by decide +kernel
theorem dX4_quote_26 : decode cX4_quote 26 = .ok (.i2l, 1) := by decide +kernel
theorem dX4_quote_27 : decode cX4_quote 27 = .ok (.iload_n 3, 1) := by decide +kernel
theorem dX4_quote_28 : decode cX4_quote 28 = .ok (.i2l, 1) := by decide +kernel
theorem dX4_quote_29 : decode cX4_quote 29 = .ok (.lsub, 1) := by decide +kernel
theorem dX4_quote_30 : decode cX4_quote 30 = .ok (.ldc2_w 102, 3) := by decide +kernel
theorem dX4_quote_33 : decode cX4_quote 33 = .ok (.lcmp, 1) := by decide +kernel
theorem dX4_quote_34 : decode cX4_quote 34 = .ok (.ifCond .gt 7, 3) := by decide +kernel
theorem dX4_quote_37 : decode cX4_quote 37 = .ok (.iconst 1, 1) := by decide +kernel
theorem dX4_quote_38 : decode cX4_quote 38 = .ok (.goto 4, 3) := by decide +kernel
theorem dX4_quote_41 : decode cX4_quote 41 = .ok (.iconst 0, 1) := by decide +kernel
theorem dX4_quote_42 : decode cX4_quote 42 = .ok (.iconst 1, 1) := by decide +kernel
theorem dX4_quote_43 : decode cX4_quote 43 = .ok (.invokevirtual 55, 3) := by decide +kernel
theorem dX4_quote_46 : decode cX4_quote 46 = .ok (.ifCond .ne 5, 3) := by decide +kernel
theorem dX4_quote_49 : decode cX4_quote 49 = .ok (.iconst 0, 1) := by decide +kernel
theorem dX4_quote_50 : decode cX4_quote 50 = .ok (.ireturn, 1) := by decide +kernel
theorem dX4_quote_51 : decode cX4_quote 51 = .ok (.aload_n 0, 1) := by decide +kernel
theorem dX4_quote_52 : decode cX4_quote 52 = .ok (.getfield 28, 3) := by decide +kernel
theorem dX4_quote_55 : decode cX4_quote 55 = .ok (.iload_n 1, 1) := by decide +kernel
theorem dX4_quote_56 : decode cX4_quote 56 = .ok (.aaload, 1) := by decide +kernel
theorem dX4_quote_57 : decode cX4_quote 57 = .ok (.iconst 0, 1) := by decide +kernel
theorem dX4_quote_58 : decode cX4_quote 58 = .ok (.putfield 43, 3) := by decide +kernel
theorem dX4_quote_61 : decode cX4_quote 61 = .ok (.iload_n 3, 1) := by decide +kernel
theorem dX4_quote_62 : decode cX4_quote 62 = .ok (.istore 5, 2) := by decide +kernel
theorem dX4_quote_64 : decode cX4_quote 64 = .ok (.iload 5, 2) := by decide +kernel
theorem dX4_quote_66 : decode cX4_quote 66 = .ok (.iload 4, 2) := by decide +kernel
theorem dX4_quote_68 : decode cX4_quote 68 = .ok (.if_icmp .ge 29, 3) := by decide +kernel
theorem dX4_quote_71 : decode cX4_quote 71 = .ok (.aload_n 0, 1) := by decide +kernel
theorem dX4_quote_72 : decode cX4_quote 72 = .ok (.getfield 28, 3) := by decide +kernel
theorem dX4_quote_75 : decode cX4_quote 75 = .ok (.iload_n 1, 1) := by decide +kernel
theorem dX4_quote_76 : decode cX4_quote 76 = .ok (.aaload, 1) := by decide +kernel
theorem dX4_quote_77 : decode cX4_quote 77 = .ok (.aload_n 0, 1) := by decide +kernel
theorem dX4_quote_78 : decode cX4_quote 78 = .ok (.getfield 24, 3) := by decide +kernel
theorem dX4_quote_81 : decode cX4_quote 81 = .ok (.iload_n 2, 1) := by decide +kernel
theorem dX4_quote_82 : decode cX4_quote 82 = .ok (.aaload, 1) := by decide +kernel
theorem dX4_quote_83 : decode cX4_quote 83 = .ok (.iload 5, 2) := by decide +kernel
theorem dX4_quote_85 : decode cX4_quote 85 = .ok (.invokevirtual 85, 3) := by decide +kernel
theorem dX4_quote_88 : decode cX4_quote 88 = .ok (.invokevirtual 59, 3) := by decide +kernel
theorem dX4_quote_91 : decode cX4_quote 91 = .ok (.iinc 5 1, 3) := by decide +kernel
theorem dX4_quote_94 : decode cX4_quote 94 = .ok (.goto (-30), 3) := by decide +kernel
theorem dX4_quote_97 : decode cX4_quote 97 = .ok (.aload_n 0, 1) := by decide +kernel
theorem dX4_quote_98 : decode cX4_quote 98 = .ok (.getfield 28, 3) := by decide +kernel
theorem dX4_quote_101 : decode cX4_quote 101 = .ok (.iload_n 1, 1) := by decide +kernel
theorem dX4_quote_102 : decode cX4_quote 102 = .ok (.aaload, 1) := by decide +kernel
theorem dX4_quote_103 : decode cX4_quote 103 = .ok (.getfield 43, 3) := by decide +kernel
theorem dX4_quote_106 : decode cX4_quote 106 = .ok (.ireturn, 1) := by decide +kernel
theorem dX4_hush_0 : decode cX4_hush 0 = .ok (.aload_n 0, 1) := by decide +kernel
theorem dX4_hush_1 : decode cX4_hush 1 = .ok (.iload_n 1, 1) := by decide +kernel
theorem dX4_hush_2 : decode cX4_hush 2 = .ok (.invokestatic 99, 3) := by decide +kernel
theorem dX4_hush_5 : decode cX4_hush 5 = .ok (.iconst 1, 1) := by decide +kernel
theorem dX4_hush_6 : decode cX4_hush 6 = .ok (.iconst 1, 1) := by decide +kernel
theorem dX4_hush_7 : decode cX4_hush 7 = .ok (.invokevirtual 55, 3) := by decide +kernel
theorem dX4_hush_10 : decode cX4_hush 10 = .ok (.ifCond .ne 5, 3) := by decide +kernel
theorem dX4_hush_13 : decode cX4_hush 13 = .ok (.iconst 0, 1) := by decide +kernel
theorem dX4_hush_14 : decode cX4_hush 14 = .ok (.ireturn, 1) := by decide +kernel
theorem dX4_hush_15 : decode cX4_hush 15 = .ok (.aload_n 0, 1) := by decide +kernel
theorem dX4_hush_16 : decode cX4_hush 16 = .ok (.getfield 28, 3) := by decide +kernel
theorem dX4_hush_19 : decode cX4_hush 19 = .ok (.iload_n 1, 1) := by decide +kernel
theorem dX4_hush_20 : decode cX4_hush 20 = .ok (.aaload, 1) := by decide +kernel
theorem dX4_hush_21 : decode cX4_hush 21 = .ok (.getfield 43, 3) := by decide +kernel
theorem dX4_hush_24 : decode cX4_hush 24 = .ok (.istore_n 2, 1) := by decide +kernel
theorem dX4_hush_25 : decode cX4_hush 25 = .ok (.aload_n 0, 1) := by decide +kernel
theorem dX4_hush_26 : decode cX4_hush 26 = .ok (.getfield 28, 3) := by decide +kernel
theorem dX4_hush_29 : decode cX4_hush 29 = .ok (.iload_n 1, 1) := by decide +kernel
theorem dX4_hush_30 : decode cX4_hush 30 = .ok (.aaload, 1) := by decide +kernel
theorem dX4_hush_31 : decode cX4_hush 31 = .ok (.iconst 0, 1) := by decide +kernel
theorem dX4_hush_32 : decode cX4_hush 32 = .ok (.putfield 43, 3) := by decide +kernel
theorem dX4_hush_35 : decode cX4_hush 35 = .ok (.iload_n 2, 1) := by decide +kernel
theorem dX4_hush_36 : decode cX4_hush 36 = .ok (.ireturn, 1) := by decide +kernel
theorem dX4_wordOf_0 : decode cX4_wordOf 0 = .ok (.iload_n 1, 1) := by decide +kernel
theorem dX4_wordOf_1 : decode cX4_wordOf 1 = .ok (.invokestatic 99, 3) := by decide +kernel
theorem dX4_wordOf_4 : decode cX4_wordOf 4 = .ok (.ifCond .eq 28, 3) := by decide +kernel
theorem dX4_wordOf_7 : decode cX4_wordOf 7 = .ok (.iload_n 2, 1) := by decide +kernel
theorem dX4_wordOf_8 : decode cX4_wordOf 8 = .ok (.i2l, 1) := by decide +kernel
theorem dX4_wordOf_9 : decode cX4_wordOf 9 = .ok (.lconst 0, 1) := by decide +kernel
theorem dX4_wordOf_10 : decode cX4_wordOf 10 = .ok (.aload_n 0, 1) := by decide +kernel
theorem dX4_wordOf_11 : decode cX4_wordOf 11 = .ok (.getfield 28, 3) := by decide +kernel
theorem dX4_wordOf_14 : decode cX4_wordOf 14 = .ok (.iload_n 1, 1) := by decide +kernel
theorem dX4_wordOf_15 : decode cX4_wordOf 15 = .ok (.aaload, 1) := by decide +kernel
theorem dX4_wordOf_16 : decode cX4_wordOf 16 = .ok (.getfield 43, 3) := by decide +kernel
theorem dX4_wordOf_19 : decode cX4_wordOf 19 = .ok (.iconst 1, 1) := by decide +kernel
theorem dX4_wordOf_20 : decode cX4_wordOf 20 = .ok (.isub, 1) := by decide +kernel
theorem dX4_wordOf_21 : decode cX4_wordOf 21 = .ok (.i2l, 1) := by decide +kernel
theorem dX4_wordOf_22 : decode cX4_wordOf 22 = .ok (.invokestatic 9, 3) := by decide +kernel
theorem dX4_wordOf_25 : decode cX4_wordOf 25 = .ok (.ifCond .eq 7, 3) := by decide +kernel
theorem dX4_wordOf_28 : decode cX4_wordOf 28 = .ok (.iconst 1, 1) := by decide +kernel
theorem dX4_wordOf_29 : decode cX4_wordOf 29 = .ok (.goto 4, 3) := by decide +kernel
theorem dX4_wordOf_32 : decode cX4_wordOf 32 = .ok (.iconst 0, 1) := by decide +kernel
theorem dX4_wordOf_33 : decode cX4_wordOf 33 = .ok (.istore_n 3, 1) := by decide +kernel
theorem dX4_wordOf_34 : decode cX4_wordOf 34 = .ok (.aload_n 0, 1) := by decide +kernel
theorem dX4_wordOf_35 : decode cX4_wordOf 35 = .ok (.iload_n 3, 1) := by decide +kernel
theorem dX4_wordOf_36 : decode cX4_wordOf 36 = .ok (.iconst 1, 1) := by decide +kernel
theorem dX4_wordOf_37 : decode cX4_wordOf 37 = .ok (.iconst 1, 1) := by decide +kernel
theorem dX4_wordOf_38 : decode cX4_wordOf 38 = .ok (.invokevirtual 55, 3) := by decide +kernel
theorem dX4_wordOf_41 : decode cX4_wordOf 41 = .ok (.ifCond .eq 16, 3) := by decide +kernel
theorem dX4_wordOf_44 : decode cX4_wordOf 44 = .ok (.aload_n 0, 1) := by decide +kernel
theorem dX4_wordOf_45 : decode cX4_wordOf 45 = .ok (.getfield 28, 3) := by decide +kernel
theorem dX4_wordOf_48 : decode cX4_wordOf 48 = .ok (.iload_n 1, 1) := by decide +kernel
theorem dX4_wordOf_49 : decode cX4_wordOf 49 = .ok (.aaload, 1) := by decide +kernel
theorem dX4_wordOf_50 : decode cX4_wordOf 50 = .ok (.iload_n 2, 1) := by decide +kernel
theorem dX4_wordOf_51 : decode cX4_wordOf 51 = .ok (.invokevirtual 85, 3) := by decide +kernel
theorem dX4_wordOf_54 : decode cX4_wordOf 54 = .ok (.goto 4, 3) := by decide +kernel
theorem dX4_wordOf_57 : decode cX4_wordOf 57 = .ok (.iconst 0, 1) := by decide +kernel
theorem dX4_wordOf_58 : decode cX4_wordOf 58 = .ok (.ireturn, 1) := by decide +kernel
theorem dX4_find_0 : decode cX4_find 0 = .ok (.aload_n 0, 1) := by decide +kernel
theorem dX4_find_1 : decode cX4_find 1 = .ok (.iload_n 1, 1) := by decide +kernel
theorem dX4_find_2 : decode cX4_find 2 = .ok (.invokestatic 39, 3) := by decide +kernel
theorem dX4_find_5 : decode cX4_find 5 = .ok (.iconst 1, 1) := by decide +kernel
theorem dX4_find_6 : decode cX4_find 6 = .ok (.iconst 1, 1) := by decide +kernel
theorem dX4_find_7 : decode cX4_find 7 = .ok (.invokevirtual 55, 3) := by decide +kernel
theorem dX4_find_10 : decode cX4_find 10 = .ok (.ifCond .eq 22, 3) := by decide +kernel
theorem dX4_find_13 : decode cX4_find 13 = .ok (.aload_n 0, 1) := by decide +kernel
theorem dX4_find_14 : decode cX4_find 14 = .ok (.getfield 24, 3) := by decide +kernel
theorem dX4_find_17 : decode cX4_find 17 = .ok (.iload_n 1, 1) := by decide +kernel
theorem dX4_find_18 : decode cX4_find 18 = .ok (.aaload, 1) := by decide +kernel
theorem dX4_find_19 : decode cX4_find 19 = .ok (.aload_n 0, 1) := by decide +kernel
theorem dX4_find_20 : decode cX4_find 20 = .ok (.getfield 28, 3) := by decide +kernel
theorem dX4_find_23 : decode cX4_find 23 = .ok (.iconst 0, 1) := by decide +kernel
theorem dX4_find_24 : decode cX4_find 24 = .ok (.aaload, 1) := by decide +kernel
theorem dX4_find_25 : decode cX4_find 25 = .ok (.iconst 0, 1) := by decide +kernel
theorem dX4_find_26 : decode cX4_find 26 = .ok (.invokevirtual 104, 3) := by decide +kernel
theorem dX4_find_29 : decode cX4_find 29 = .ok (.goto 4, 3) := by decide +kernel
theorem dX4_find_32 : decode cX4_find 32 = .ok (.iconst 0, 1) := by decide +kernel
theorem dX4_find_33 : decode cX4_find 33 = .ok (.ireturn, 1) := by decide +kernel
theorem dX4_findLast_0 : decode cX4_findLast 0 = .ok (.aload_n 0, 1) := by decide +kernel
theorem dX4_findLast_1 : decode cX4_findLast 1 = .ok (.iload_n 1, 1) := by decide +kernel
theorem dX4_findLast_2 : decode cX4_findLast 2 = .ok (.invokestatic 39, 3) := by decide +kernel
theorem dX4_findLast_5 : decode cX4_findLast 5 = .ok (.iconst 1, 1) := by decide +kernel
theorem dX4_findLast_6 : decode cX4_findLast 6 = .ok (.iconst 1, 1) := by decide +kernel
theorem dX4_findLast_7 : decode cX4_findLast 7 = .ok (.invokevirtual 55, 3) := by decide +kernel
theorem dX4_findLast_10 : decode cX4_findLast 10 = .ok (.ifCond .ne 5, 3) := by decide +kernel
theorem dX4_findLast_13 : decode cX4_findLast 13 = .ok (.iconst 0, 1) := by decide +kernel
theorem dX4_findLast_14 : decode cX4_findLast 14 = .ok (.ireturn, 1) := by decide +kernel
theorem dX4_findLast_15 : decode cX4_findLast 15 = .ok (.iconst (-1), 1) := by decide +kernel
theorem dX4_findLast_16 : decode cX4_findLast 16 = .ok (.istore_n 2, 1) := by decide +kernel
theorem dX4_findLast_17 : decode cX4_findLast 17 = .ok (.iconst 0, 1) := by decide +kernel
theorem dX4_findLast_18 : decode cX4_findLast 18 = .ok (.istore_n 3, 1) := by decide +kernel
theorem dX4_findLast_19 : decode cX4_findLast 19 = .ok (.iload_n 3, 1) := by decide +kernel
theorem dX4_findLast_20 : decode cX4_findLast 20 = .ok (.aload_n 0, 1) := by decide +kernel
theorem dX4_findLast_21 : decode cX4_findLast 21 = .ok (.getfield 24, 3) := by decide +kernel
theorem dX4_findLast_24 : decode cX4_findLast 24 = .ok (.iload_n 1, 1) := by decide +kernel
theorem dX4_findLast_25 : decode cX4_findLast 25 = .ok (.aaload, 1) := by decide +kernel
theorem dX4_findLast_26 : decode cX4_findLast 26 = .ok (.getfield 43, 3) := by decide +kernel
theorem dX4_findLast_29 : decode cX4_findLast 29 = .ok (.if_icmp .gt 34, 3) := by decide +kernel
theorem dX4_findLast_32 : decode cX4_findLast 32 = .ok (.aload_n 0, 1) := by decide +kernel
theorem dX4_findLast_33 : decode cX4_findLast 33 = .ok (.getfield 24, 3) := by decide +kernel
theorem dX4_findLast_36 : decode cX4_findLast 36 = .ok (.iload_n 1, 1) := by decide +kernel
theorem dX4_findLast_37 : decode cX4_findLast 37 = .ok (.aaload, 1) := by decide +kernel
theorem dX4_findLast_38 : decode cX4_findLast 38 = .ok (.aload_n 0, 1) := by decide +kernel
theorem dX4_findLast_39 : decode cX4_findLast 39 = .ok (.getfield 28, 3) := by decide +kernel
theorem dX4_findLast_42 : decode cX4_findLast 42 = .ok (.iconst 0, 1) := by decide +kernel
theorem dX4_findLast_43 : decode cX4_findLast 43 = .ok (.aaload, 1) := by decide +kernel
theorem dX4_findLast_44 : decode cX4_findLast 44 = .ok (.iload_n 3, 1) := by decide +kernel
theorem dX4_findLast_45 : decode cX4_findLast 45 = .ok (.invokevirtual 108, 3) := by decide +kernel
theorem dX4_findLast_48 : decode cX4_findLast 48 = .ok (.ifCond .eq 7, 3) := by decide +kernel
theorem dX4_findLast_51 : decode cX4_findLast 51 = .ok (.iload_n 3, 1) := by decide +kernel
theorem dX4_findLast_52 : decode cX4_findLast 52 = .ok (.goto 4, 3) := by decide +kernel
theorem dX4_findLast_55 : decode cX4_findLast 55 = .ok (.iload_n 2, 1) := by decide +kernel
theorem dX4_findLast_56 : decode cX4_findLast 56 = .ok (.istore_n 2, 1) := by decide +kernel
theorem dX4_findLast_57 : decode cX4_findLast 57 = .ok (.iinc 3 1, 3) := by decide +kernel
theorem dX4_findLast_60 : decode cX4_findLast 60 = .ok (.goto (-41), 3) := by decide +kernel
theorem dX4_findLast_63 : decode cX4_findLast 63 = .ok (.iload_n 2, 1) := by decide +kernel
theorem dX4_findLast_64 : decode cX4_findLast 64 = .ok (.ireturn, 1) := by decide +kernel
theorem dX4_findIn_0 : decode cX4_findIn 0 = .ok (.aload_n 0, 1) := by decide +kernel
theorem dX4_findIn_1 : decode cX4_findIn 1 = .ok (.aload_n 0, 1) := by decide +kernel
theorem dX4_findIn_2 : decode cX4_findIn 2 = .ok (.iload_n 1, 1) := by decide +kernel
theorem dX4_findIn_3 : decode cX4_findIn 3 = .ok (.iload_n 2, 1) := by decide +kernel
theorem dX4_findIn_4 : decode cX4_findIn 4 = .ok (.iload_n 3, 1) := by decide +kernel
theorem dX4_findIn_5 : decode cX4_findIn 5 = .ok (.invokevirtual 73, 3) := by decide +kernel
theorem dX4_findIn_8 : decode cX4_findIn 8 = .ok (.iconst 1, 1) := by decide +kernel
theorem dX4_findIn_9 : decode cX4_findIn 9 = .ok (.iconst 1, 1) := by decide +kernel
theorem dX4_findIn_10 : decode cX4_findIn 10 = .ok (.invokevirtual 55, 3) := by decide +kernel
theorem dX4_findIn_13 : decode cX4_findIn 13 = .ok (.ifCond .ne 5, 3) := by decide +kernel
theorem dX4_findIn_16 : decode cX4_findIn 16 = .ok (.iconst 0, 1) := by decide +kernel
theorem dX4_findIn_17 : decode cX4_findIn 17 = .ok (.ireturn, 1) := by decide +kernel
theorem dX4_findIn_18 : decode cX4_findIn 18 = .ok (.aload_n 0, 1) := by decide +kernel
theorem dX4_findIn_19 : decode cX4_findIn 19 = .ok (.getfield 24, 3) := by decide +kernel
theorem dX4_findIn_22 : decode cX4_findIn 22 = .ok (.iload_n 1, 1) := by decide +kernel
theorem dX4_findIn_23 : decode cX4_findIn 23 = .ok (.aaload, 1) := by decide +kernel
theorem dX4_findIn_24 : decode cX4_findIn 24 = .ok (.aload_n 0, 1) := by decide +kernel
theorem dX4_findIn_25 : decode cX4_findIn 25 = .ok (.getfield 28, 3) := by decide +kernel
theorem dX4_findIn_28 : decode cX4_findIn 28 = .ok (.iconst 0, 1) := by decide +kernel
theorem dX4_findIn_29 : decode cX4_findIn 29 = .ok (.aaload, 1) := by decide +kernel
theorem dX4_findIn_30 : decode cX4_findIn 30 = .ok (.iload_n 2, 1) := by decide +kernel
theorem dX4_findIn_31 : decode cX4_findIn 31 = .ok (.invokevirtual 104, 3) := by decide +kernel
theorem dX4_findIn_34 : decode cX4_findIn 34 = .ok (.istore 4, 2) := by decide +kernel
theorem dX4_findIn_36 : decode cX4_findIn 36 = .ok (.iload 4, 2) := by decide +kernel
theorem dX4_findIn_38 : decode cX4_findIn 38 = .ok (.iconst (-1), 1) := by decide +kernel
theorem dX4_findIn_39 : decode cX4_findIn 39 = .ok (.if_icmp .eq 19, 3) := by decide +kernel
theorem dX4_findIn_42 : decode cX4_findIn 42 = .ok (.iload 4, 2) := by decide +kernel
theorem dX4_findIn_44 : decode cX4_findIn 44 = .ok (.aload_n 0, 1) := by decide +kernel
theorem dX4_findIn_45 : decode cX4_findIn 45 = .ok (.getfield 28, 3) := by decide +kernel
theorem dX4_findIn_48 : decode cX4_findIn 48 = .ok (.iconst 0, 1) := by decide +kernel
theorem dX4_findIn_49 : decode cX4_findIn 49 = .ok (.aaload, 1) := by decide +kernel
theorem dX4_findIn_50 : decode cX4_findIn 50 = .ok (.getfield 43, 3) := by decide +kernel
theorem dX4_findIn_53 : decode cX4_findIn 53 = .ok (.iadd, 1) := by decide +kernel
theorem dX4_findIn_54 : decode cX4_findIn 54 = .ok (.iload_n 3, 1) := by decide +kernel
theorem dX4_findIn_55 : decode cX4_findIn 55 = .ok (.if_icmp .le 7, 3) := by decide +kernel
theorem dX4_findIn_58 : decode cX4_findIn 58 = .ok (.iconst (-1), 1) := by decide +kernel
theorem dX4_findIn_59 : decode cX4_findIn 59 = .ok (.goto 5, 3) := by decide +kernel
theorem dX4_findIn_62 : decode cX4_findIn 62 = .ok (.iload 4, 2) := by decide +kernel
theorem dX4_findIn_64 : decode cX4_findIn 64 = .ok (.ireturn, 1) := by decide +kernel
theorem dX4_count_0 : decode cX4_count 0 = .ok (.aload_n 0, 1) := by decide +kernel
theorem dX4_count_1 : decode cX4_count 1 = .ok (.iload_n 1, 1) := by decide +kernel
theorem dX4_count_2 : decode cX4_count 2 = .ok (.invokestatic 39, 3) := by decide +kernel
theorem dX4_count_5 : decode cX4_count 5 = .ok (.iconst 1, 1) := by decide +kernel
theorem dX4_count_6 : decode cX4_count 6 = .ok (.iconst 1, 1) := by decide +kernel
theorem dX4_count_7 : decode cX4_count 7 = .ok (.invokevirtual 55, 3) := by decide +kernel
theorem dX4_count_10 : decode cX4_count 10 = .ok (.ifCond .eq 22, 3) := by decide +kernel
theorem dX4_count_13 : decode cX4_count 13 = .ok (.aload_n 0, 1) := by decide +kernel
theorem dX4_count_14 : decode cX4_count 14 = .ok (.getfield 24, 3) := by decide +kernel
theorem dX4_count_17 : decode cX4_count 17 = .ok (.iload_n 1, 1) := by decide +kernel
theorem dX4_count_18 : decode cX4_count 18 = .ok (.aaload, 1) := by decide +kernel
theorem dX4_count_19 : decode cX4_count 19 = .ok (.aload_n 0, 1) := by decide +kernel
theorem dX4_count_20 : decode cX4_count 20 = .ok (.getfield 28, 3) := by decide +kernel
theorem dX4_count_23 : decode cX4_count 23 = .ok (.iconst 0, 1) := by decide +kernel
theorem dX4_count_24 : decode cX4_count 24 = .ok (.aaload, 1) := by decide +kernel
theorem dX4_count_25 : decode cX4_count 25 = .ok (.iload_n 2, 1) := by decide +kernel
theorem dX4_count_26 : decode cX4_count 26 = .ok (.invokevirtual 112, 3) := by decide +kernel
theorem dX4_count_29 : decode cX4_count 29 = .ok (.goto 4, 3) := by decide +kernel
theorem dX4_count_32 : decode cX4_count 32 = .ok (.iconst 0, 1) := by decide +kernel
theorem dX4_count_33 : decode cX4_count 33 = .ok (.ireturn, 1) := by decide +kernel
theorem dX4_replace_0 : decode cX4_replace 0 = .ok (.iload_n 1, 1) := by decide +kernel
theorem dX4_replace_1 : decode cX4_replace 1 = .ok (.invokestatic 39, 3) := by decide +kernel
theorem dX4_replace_4 : decode cX4_replace 4 = .ok (.istore_n 2, 1) := by decide +kernel
theorem dX4_replace_5 : decode cX4_replace 5 = .ok (.aload_n 0, 1) := by decide +kernel
theorem dX4_replace_6 : decode cX4_replace 6 = .ok (.getfield 28, 3) := by decide +kernel
theorem dX4_replace_9 : decode cX4_replace 9 = .ok (.iconst 0, 1) := by decide +kernel
theorem dX4_replace_10 : decode cX4_replace 10 = .ok (.aaload, 1) := by decide +kernel
theorem dX4_replace_11 : decode cX4_replace 11 = .ok (.astore_n 3, 1) := by decide +kernel
theorem dX4_replace_12 : decode cX4_replace 12 = .ok (.iload_n 2, 1) := by decide +kernel
theorem dX4_replace_13 : decode cX4_replace 13 = .ok (.ifCond .eq 24, 3) := by decide +kernel
theorem dX4_replace_16 : decode cX4_replace 16 = .ok (.aload_n 3, 1) := by decide +kernel
theorem dX4_replace_17 : decode cX4_replace 17 = .ok (.getfield 43, 3) := by decide +kernel
theorem dX4_replace_20 : decode cX4_replace 20 = .ok (.ifCond .le 17, 3) := by decide +kernel
theorem dX4_replace_23 : decode cX4_replace 23 = .ok (.aload_n 0, 1) := by decide +kernel
theorem dX4_replace_24 : decode cX4_replace 24 = .ok (.getfield 24, 3) := by decide +kernel
theorem dX4_replace_27 : decode cX4_replace 27 = .ok (.iload_n 1, 1) := by decide +kernel
theorem dX4_replace_28 : decode cX4_replace 28 = .ok (.aaload, 1) := by decide +kernel
theorem dX4_replace_29 : decode cX4_replace 29 = .ok (.aload_n 3, 1) := by decide +kernel
theorem dX4_replace_30 : decode cX4_replace 30 = .ok (.iconst 1, 1) := by decide +kernel
theorem dX4_replace_31 : decode cX4_replace 31 = .ok (.invokevirtual 112, 3) := by decide +kernel
theorem dX4_replace_34 : decode cX4_replace 34 = .ok (.goto 4, 3) := by decide +kernel
theorem dX4_replace_37 : decode cX4_replace 37 = .ok (.iconst 0, 1) := by decide +kernel
theorem dX4_replace_38 : decode cX4_replace 38 = .ok (.istore 4, 2) := by decide +kernel
theorem dX4_replace_40 : decode cX4_replace 40 = .ok (.iload_n 2, 1) := by decide +kernel
theorem dX4_replace_41 : decode cX4_replace 41 = .ok (.ifCond .eq 39, 3) := by decide +kernel
theorem dX4_replace_44 : decode cX4_replace 44 = .ok (.aload_n 0, 1) := by decide +kernel
theorem dX4_replace_45 : decode cX4_replace 45 = .ok (.getfield 24, 3) := by decide +kernel
theorem dX4_replace_48 : decode cX4_replace 48 = .ok (.iload_n 1, 1) := by decide +kernel
theorem dX4_replace_49 : decode cX4_replace 49 = .ok (.aaload, 1) := by decide +kernel
theorem dX4_replace_50 : decode cX4_replace 50 = .ok (.getfield 43, 3) := by decide +kernel
theorem dX4_replace_53 : decode cX4_replace 53 = .ok (.iload 4, 2) := by decide +kernel
theorem dX4_replace_55 : decode cX4_replace 55 = .ok (.aload_n 0, 1) := by decide +kernel
theorem dX4_replace_56 : decode cX4_replace 56 = .ok (.getfield 28, 3) := by decide +kernel
theorem dX4_replace_59 : decode cX4_replace 59 = .ok (.iconst 1, 1) := by decide +kernel
theorem dX4_replace_60 : decode cX4_replace 60 = .ok (.aaload, 1) := by decide +kernel
theorem dX4_replace_61 : decode cX4_replace 61 = .ok (.getfield 43, 3) := by decide +kernel
theorem dX4_replace_64 : decode cX4_replace 64 = .ok (.aload_n 3, 1) := by decide +kernel
theorem dX4_replace_65 : decode cX4_replace 65 = .ok (.getfield 43, 3) := by decide +kernel
theorem dX4_replace_68 : decode cX4_replace 68 = .ok (.isub, 1) := by decide +kernel
theorem dX4_replace_69 : decode cX4_replace 69 = .ok (.imul, 1) := by decide +kernel
theorem dX4_replace_70 : decode cX4_replace 70 = .ok (.iadd, 1) := by decide +kernel
theorem dX4_replace_71 : decode cX4_replace 71 = .ok (.bipush 60, 2) := by decide +kernel
theorem dX4_replace_73 : decode cX4_replace 73 = .ok (.if_icmp .gt 7, 3) := by decide +kernel
theorem dX4_replace_76 : decode cX4_replace 76 = .ok (.iconst 1, 1) := by decide +kernel
theorem dX4_replace_77 : decode cX4_replace 77 = .ok (.goto 4, 3) := by decide +kernel
theorem dX4_replace_80 : decode cX4_replace 80 = .ok (.iconst 0, 1) := by decide +kernel
theorem dX4_replace_81 : decode cX4_replace 81 = .ok (.istore 5, 2) := by decide +kernel
theorem dX4_replace_83 : decode cX4_replace 83 = .ok (.aload_n 0, 1) := by decide +kernel
theorem dX4_replace_84 : decode cX4_replace 84 = .ok (.iload_n 2, 1) := by decide +kernel
theorem dX4_replace_85 : decode cX4_replace 85 = .ok (.aload_n 3, 1) := by decide +kernel
theorem dX4_replace_86 : decode cX4_replace 86 = .ok (.getfield 43, 3) := by decide +kernel
theorem dX4_replace_89 : decode cX4_replace 89 = .ok (.ifCond .le 12, 3) := by decide +kernel
theorem dX4_replace_92 : decode cX4_replace 92 = .ok (.iload 5, 2) := by decide +kernel
theorem dX4_replace_94 : decode cX4_replace 94 = .ok (.ifCond .eq 7, 3) := by decide +kernel
theorem dX4_replace_97 : decode cX4_replace 97 = .ok (.iconst 1, 1) := by decide +kernel
theorem dX4_replace_98 : decode cX4_replace 98 = .ok (.goto 4, 3) := by decide +kernel
theorem dX4_replace_101 : decode cX4_replace 101 = .ok (.iconst 0, 1) := by decide +kernel
theorem dX4_replace_102 : decode cX4_replace 102 = .ok (.iconst 1, 1) := by decide +kernel
theorem dX4_replace_103 : decode cX4_replace 103 = .ok (.invokevirtual 55, 3) := by decide +kernel
theorem dX4_replace_106 : decode cX4_replace 106 = .ok (.ifCond .ne 5, 3) := by decide +kernel
theorem dX4_replace_109 : decode cX4_replace 109 = .ok (.iconst 0, 1) := by decide +kernel
theorem dX4_replace_110 : decode cX4_replace 110 = .ok (.ireturn, 1) := by decide +kernel
theorem dX4_replace_111 : decode cX4_replace 111 = .ok (.aload_n 0, 1) := by decide +kernel
theorem dX4_replace_112 : decode cX4_replace 112 = .ok (.getfield 31, 3) := by decide +kernel
theorem dX4_replace_115 : decode cX4_replace 115 = .ok (.aload_n 0, 1) := by decide +kernel
theorem dX4_replace_116 : decode cX4_replace 116 = .ok (.getfield 24, 3) := by decide +kernel
theorem dX4_replace_119 : decode cX4_replace 119 = .ok (.iload_n 1, 1) := by decide +kernel
theorem dX4_replace_120 : decode cX4_replace 120 = .ok (.aaload, 1) := by decide +kernel
theorem dX4_replace_121 : decode cX4_replace 121 = .ok (.invokevirtual 116, 3) := by decide +kernel
theorem dX4_replace_124 : decode cX4_replace 124 = .ok (.aload_n 0, 1) := by decide +kernel
theorem dX4_replace_125 : decode cX4_replace 125 = .ok (.getfield 24, 3) := by decide +kernel
theorem dX4_replace_128 : decode cX4_replace 128 = .ok (.iload_n 1, 1) := by decide +kernel
theorem dX4_replace_129 : decode cX4_replace 129 = .ok (.aaload, 1) := by decide +kernel
theorem dX4_replace_130 : decode cX4_replace 130 = .ok (.iconst 0, 1) := by decide +kernel
theorem dX4_replace_131 : decode cX4_replace 131 = .ok (.putfield 43, 3) := by decide +kernel
theorem dX4_replace_134 : decode cX4_replace 134 = .ok (.iconst 0, 1) := by decide +kernel
theorem dX4_replace_135 : decode cX4_replace 135 = .ok (.istore 6, 2) := by decide +kernel
theorem dX4_replace_137 : decode cX4_replace 137 = .ok (.iload 6, 2) := by decide +kernel
theorem dX4_replace_139 : decode cX4_replace 139 = .ok (.aload_n 0, 1) := by decide +kernel
theorem dX4_replace_140 : decode cX4_replace 140 = .ok (.getfield 31, 3) := by decide +kernel
theorem dX4_replace_143 : decode cX4_replace 143 = .ok (.getfield 43, 3) := by decide +kernel
theorem dX4_replace_146 : decode cX4_replace 146 = .ok (.if_icmp .ge 107, 3) := by decide +kernel
theorem dX4_replace_149 : decode cX4_replace 149 = .ok (.aload_n 0, 1) := by decide +kernel
theorem dX4_replace_150 : decode cX4_replace 150 = .ok (.getfield 31, 3) := by decide +kernel
theorem dX4_replace_153 : decode cX4_replace 153 = .ok (.aload_n 3, 1) := by decide +kernel
theorem dX4_replace_154 : decode cX4_replace 154 = .ok (.iload 6, 2) := by decide +kernel
theorem dX4_replace_156 : decode cX4_replace 156 = .ok (.invokevirtual 108, 3) := by decide +kernel
theorem dX4_replace_159 : decode cX4_replace 159 = .ok (.istore 7, 2) := by decide +kernel
theorem dX4_replace_161 : decode cX4_replace 161 = .ok (.iconst 0, 1) := by decide +kernel
theorem dX4_replace_162 : decode cX4_replace 162 = .ok (.istore 8, 2) := by decide +kernel
theorem dX4_replace_164 : decode cX4_replace 164 = .ok (.iload 7, 2) := by decide +kernel
theorem dX4_replace_166 : decode cX4_replace 166 = .ok (.ifCond .eq 43, 3) := by decide +kernel
theorem dX4_replace_169 : decode cX4_replace 169 = .ok (.iload 8, 2) := by decide +kernel
theorem dX4_replace_171 : decode cX4_replace 171 = .ok (.aload_n 0, 1) := by decide +kernel
theorem dX4_replace_172 : decode cX4_replace 172 = .ok (.getfield 28, 3) := by decide +kernel
theorem dX4_replace_175 : decode cX4_replace 175 = .ok (.iconst 1, 1) := by decide +kernel
theorem dX4_replace_176 : decode cX4_replace 176 = .ok (.aaload, 1) := by decide +kernel
theorem dX4_replace_177 : decode cX4_replace 177 = .ok (.getfield 43, 3) := by decide +kernel
theorem dX4_replace_180 : decode cX4_replace 180 = .ok (.if_icmp .ge 29, 3) := by decide +kernel
theorem dX4_replace_183 : decode cX4_replace 183 = .ok (.aload_n 0, 1) := by decide +kernel
theorem dX4_replace_184 : decode cX4_replace 184 = .ok (.getfield 24, 3) := by decide +kernel
theorem dX4_replace_187 : decode cX4_replace 187 = .ok (.iload_n 1, 1) := by decide +kernel
theorem dX4_replace_188 : decode cX4_replace 188 = .ok (.aaload, 1) := by decide +kernel
theorem dX4_replace_189 : decode cX4_replace 189 = .ok (.aload_n 0, 1) := by decide +kernel
theorem dX4_replace_190 : decode cX4_replace 190 = .ok (.getfield 28, 3) := by decide +kernel
theorem dX4_replace_193 : decode cX4_replace 193 = .ok (.iconst 1, 1) := by decide +kernel
theorem dX4_replace_194 : decode cX4_replace 194 = .ok (.aaload, 1) := by decide +kernel
theorem dX4_replace_195 : decode cX4_replace 195 = .ok (.iload 8, 2) := by decide +kernel
theorem dX4_replace_197 : decode cX4_replace 197 = .ok (.invokevirtual 85, 3) := by decide +kernel
theorem dX4_replace_200 : decode cX4_replace 200 = .ok (.invokevirtual 59, 3) := by decide +kernel
theorem dX4_replace_203 : decode cX4_replace 203 = .ok (.iinc 8 1, 3) := by decide +kernel
theorem dX4_replace_206 : decode cX4_replace 206 = .ok (.goto (-42), 3) := by decide +kernel
theorem dX4_replace_209 : decode cX4_replace 209 = .ok (.iload 7, 2) := by decide +kernel
theorem dX4_replace_211 : decode cX4_replace 211 = .ok (.ifCond .ne 21, 3) := by decide +kernel
theorem dX4_replace_214 : decode cX4_replace 214 = .ok (.aload_n 0, 1) := by decide +kernel
theorem dX4_replace_215 : decode cX4_replace 215 = .ok (.getfield 24, 3) := by decide +kernel
theorem dX4_replace_218 : decode cX4_replace 218 = .ok (.iload_n 1, 1) := by decide +kernel
theorem dX4_replace_219 : decode cX4_replace 219 = .ok (.aaload, 1) := by decide +kernel
theorem dX4_replace_220 : decode cX4_replace 220 = .ok (.aload_n 0, 1) := by decide +kernel
theorem dX4_replace_221 : decode cX4_replace 221 = .ok (.getfield 31, 3) := by decide +kernel
theorem dX4_replace_224 : decode cX4_replace 224 = .ok (.iload 6, 2) := by decide +kernel
theorem dX4_replace_226 : decode cX4_replace 226 = .ok (.invokevirtual 85, 3) := by decide +kernel
theorem dX4_replace_229 : decode cX4_replace 229 = .ok (.invokevirtual 59, 3) := by decide +kernel
theorem dX4_replace_232 : decode cX4_replace 232 = .ok (.iload 6, 2) := by decide +kernel
theorem dX4_replace_234 : decode cX4_replace 234 = .ok (.iload 7, 2) := by decide +kernel
theorem dX4_replace_236 : decode cX4_replace 236 = .ok (.ifCond .eq 10, 3) := by decide +kernel
theorem dX4_replace_239 : decode cX4_replace 239 = .ok (.aload_n 3, 1) := by decide +kernel
theorem dX4_replace_240 : decode cX4_replace 240 = .ok (.getfield 43, 3) := by decide +kernel
theorem dX4_replace_243 : decode cX4_replace 243 = .ok (.goto 4, 3) := by decide +kernel
theorem dX4_replace_246 : decode cX4_replace 246 = .ok (.iconst 1, 1) := by decide +kernel
theorem dX4_replace_247 : decode cX4_replace 247 = .ok (.iadd, 1) := by decide +kernel
theorem dX4_replace_248 : decode cX4_replace 248 = .ok (.istore 6, 2) := by decide +kernel
theorem dX4_replace_250 : decode cX4_replace 250 = .ok (.goto (-113), 3) := by decide +kernel
theorem dX4_replace_253 : decode cX4_replace 253 = .ok (.iload 4, 2) := by decide +kernel
theorem dX4_replace_255 : decode cX4_replace 255 = .ok (.ireturn, 1) := by decide +kernel
theorem dX4_replaceWord_0 : decode cX4_replaceWord 0 = .ok (.aload_n 0, 1) := by decide +kernel
theorem dX4_replaceWord_1 : decode cX4_replaceWord 1 = .ok (.iload_n 1, 1) := by decide +kernel
theorem dX4_replaceWord_2 : decode cX4_replaceWord 2 = .ok (.invokestatic 39, 3) := by decide +kernel
theorem dX4_replaceWord_5 : decode cX4_replaceWord 5 = .ok (.ifCond .eq 21, 3) := by decide +kernel
theorem dX4_replaceWord_8 : decode cX4_replaceWord 8 = .ok (.iload_n 2, 1) := by decide +kernel
theorem dX4_replaceWord_9 : decode cX4_replaceWord 9 = .ok (.invokestatic 48, 3) := by decide +kernel
theorem dX4_replaceWord_12 : decode cX4_replaceWord 12 = .ok (.ifCond .eq 14, 3) := by decide +kernel
theorem dX4_replaceWord_15 : decode cX4_replaceWord 15 = .ok (.iload_n 3, 1) := by decide +kernel
theorem dX4_replaceWord_16 : decode cX4_replaceWord 16 = .ok (.invokestatic 48, 3) := by decide +kernel
theorem dX4_replaceWord_19 : decode cX4_replaceWord 19 = .ok (.ifCond .eq 7, 3) := by decide +kernel
theorem dX4_replaceWord_22 : decode cX4_replaceWord 22 = .ok (.iconst 1, 1) := by decide +kernel
theorem dX4_replaceWord_23 : decode cX4_replaceWord 23 = .ok (.goto 4, 3) := by decide +kernel
theorem dX4_replaceWord_26 : decode cX4_replaceWord 26 = .ok (.iconst 0, 1) := by decide +kernel
theorem dX4_replaceWord_27 : decode cX4_replaceWord 27 = .ok (.iconst 1, 1) := by decide +kernel
theorem dX4_replaceWord_28 : decode cX4_replaceWord 28 = .ok (.iconst 1, 1) := by decide +kernel
theorem dX4_replaceWord_29 : decode cX4_replaceWord 29 = .ok (.invokevirtual 55, 3) := by decide +kernel
theorem dX4_replaceWord_32 : decode cX4_replaceWord 32 = .ok (.ifCond .ne 5, 3) := by decide +kernel
theorem dX4_replaceWord_35 : decode cX4_replaceWord 35 = .ok (.iconst 0, 1) := by decide +kernel
theorem dX4_replaceWord_36 : decode cX4_replaceWord 36 = .ok (.ireturn, 1) := by decide +kernel
theorem dX4_replaceWord_37 : decode cX4_replaceWord 37 = .ok (.aload_n 0, 1) := by decide +kernel
theorem dX4_replaceWord_38 : decode cX4_replaceWord 38 = .ok (.getfield 24, 3) := by decide +kernel
theorem dX4_replaceWord_41 : decode cX4_replaceWord 41 = .ok (.iload_n 1, 1) := by decide +kernel
theorem dX4_replaceWord_42 : decode cX4_replaceWord 42 = .ok (.aaload, 1) := by decide +kernel
theorem dX4_replaceWord_43 : decode cX4_replaceWord 43 = .ok (.iload_n 2, 1) := by decide +kernel
theorem dX4_replaceWord_44 : decode cX4_replaceWord 44 = .ok (.invokevirtual 120, 3) := by decide +kernel
theorem dX4_replaceWord_47 : decode cX4_replaceWord 47 = .ok (.ifCond .le 7, 3) := by decide +kernel
theorem dX4_replaceWord_50 : decode cX4_replaceWord 50 = .ok (.iconst 1, 1) := by decide +kernel
theorem dX4_replaceWord_51 : decode cX4_replaceWord 51 = .ok (.goto 4, 3) := by decide +kernel
theorem dX4_replaceWord_54 : decode cX4_replaceWord 54 = .ok (.iconst 0, 1) := by decide +kernel
theorem dX4_replaceWord_55 : decode cX4_replaceWord 55 = .ok (.istore 4, 2) := by decide +kernel
theorem dX4_replaceWord_57 : decode cX4_replaceWord 57 = .ok (.iconst 0, 1) := by decide +kernel
theorem dX4_replaceWord_58 : decode cX4_replaceWord 58 = .ok (.istore 5, 2) := by decide +kernel
theorem dX4_replaceWord_60 : decode cX4_replaceWord 60 = .ok (.iload 5, 2) := by decide +kernel
theorem dX4_replaceWord_62 : decode cX4_replaceWord 62 = .ok (.aload_n 0, 1) := by decide +kernel
theorem dX4_replaceWord_63 : decode cX4_replaceWord 63 = .ok (.getfield 24, 3) := by decide +kernel
theorem dX4_replaceWord_66 : decode cX4_replaceWord 66 = .ok (.iload_n 1, 1) := by decide +kernel
theorem dX4_replaceWord_67 : decode cX4_replaceWord 67 = .ok (.aaload, 1) := by decide +kernel
theorem dX4_replaceWord_68 : decode cX4_replaceWord 68 = .ok (.getfield 43, 3) := by decide +kernel
theorem dX4_replaceWord_71 : decode cX4_replaceWord 71 = .ok (.if_icmp .ge 51, 3) := by decide +kernel
theorem dX4_replaceWord_74 : decode cX4_replaceWord 74 = .ok (.aload_n 0, 1) := by decide +kernel
theorem dX4_replaceWord_75 : decode cX4_replaceWord 75 = .ok (.getfield 24, 3) := by decide +kernel
theorem dX4_replaceWord_78 : decode cX4_replaceWord 78 = .ok (.iload_n 1, 1) := by decide +kernel
theorem dX4_replaceWord_79 : decode cX4_replaceWord 79 = .ok (.aaload, 1) := by decide +kernel
theorem dX4_replaceWord_80 : decode cX4_replaceWord 80 = .ok (.getfield 89, 3) := by decide +kernel
theorem dX4_replaceWord_83 : decode cX4_replaceWord 83 = .ok (.iload 5, 2) := by decide +kernel
theorem dX4_replaceWord_85 : decode cX4_replaceWord 85 = .ok (.aload_n 0, 1) := by decide +kernel
theorem dX4_replaceWord_86 : decode cX4_replaceWord 86 = .ok (.getfield 24, 3) := by decide +kernel
theorem dX4_replaceWord_89 : decode cX4_replaceWord 89 = .ok (.iload_n 1, 1) := by decide +kernel
theorem dX4_replaceWord_90 : decode cX4_replaceWord 90 = .ok (.aaload, 1) := by decide +kernel
theorem dX4_replaceWord_91 : decode cX4_replaceWord 91 = .ok (.iload 5, 2) := by decide +kernel
theorem dX4_replaceWord_93 : decode cX4_replaceWord 93 = .ok (.invokevirtual 85, 3) := by decide +kernel
theorem dX4_replaceWord_96 : decode cX4_replaceWord 96 = .ok (.iload_n 2, 1) := by decide +kernel
theorem dX4_replaceWord_97 : decode cX4_replaceWord 97 = .ok (.if_icmp .ne 7, 3) := by decide +kernel
theorem dX4_replaceWord_100 : decode cX4_replaceWord 100 = .ok (.iload_n 3, 1) := by decide +kernel
theorem dX4_replaceWord_101 : decode cX4_replaceWord 101 = .ok (.goto 14, 3) := by decide +kernel
theorem dX4_replaceWord_104 : decode cX4_replaceWord 104 = .ok (.aload_n 0, 1) := by decide +kernel
theorem dX4_replaceWord_105 : decode cX4_replaceWord 105 = .ok (.getfield 24, 3) := by decide +kernel
theorem dX4_replaceWord_108 : decode cX4_replaceWord 108 = .ok (.iload_n 1, 1) := by decide +kernel
theorem dX4_replaceWord_109 : decode cX4_replaceWord 109 = .ok (.aaload, 1) := by decide +kernel
theorem dX4_replaceWord_110 : decode cX4_replaceWord 110 = .ok (.iload 5, 2) := by decide +kernel
theorem dX4_replaceWord_112 : decode cX4_replaceWord 112 = .ok (.invokevirtual 85, 3) := by decide +kernel
theorem dX4_replaceWord_115 : decode cX4_replaceWord 115 = .ok (.iastore, 1) := by decide +kernel
theorem dX4_replaceWord_116 : decode cX4_replaceWord 116 = .ok (.iinc 5 1, 3) := by decide +kernel
theorem dX4_replaceWord_119 : decode cX4_replaceWord 119 = .ok (.goto (-59), 3) := by decide +kernel
theorem dX4_replaceWord_122 : decode cX4_replaceWord 122 = .ok (.iload 4, 2) := by decide +kernel
theorem dX4_replaceWord_124 : decode cX4_replaceWord 124 = .ok (.ireturn, 1) := by decide +kernel
theorem dX4_frequency_0 : decode cX4_frequency 0 = .ok (.aload_n 0, 1) := by decide +kernel
theorem dX4_frequency_1 : decode cX4_frequency 1 = .ok (.iload_n 1, 1) := by decide +kernel
theorem dX4_frequency_2 : decode cX4_frequency 2 = .ok (.invokestatic 39, 3) := by decide +kernel
theorem dX4_frequency_5 : decode cX4_frequency 5 = .ok (.ifCond .eq 14, 3) := by decide +kernel
theorem dX4_frequency_8 : decode cX4_frequency 8 = .ok (.iload_n 2, 1) := by decide +kernel
theorem dX4_frequency_9 : decode cX4_frequency 9 = .ok (.invokestatic 48, 3) := by decide +kernel
theorem dX4_frequency_12 : decode cX4_frequency 12 = .ok (.ifCond .eq 7, 3) := by decide +kernel
theorem dX4_frequency_15 : decode cX4_frequency 15 = .ok (.iconst 1, 1) := by decide +kernel
theorem dX4_frequency_16 : decode cX4_frequency 16 = .ok (.goto 4, 3) := by decide +kernel
theorem dX4_frequency_19 : decode cX4_frequency 19 = .ok (.iconst 0, 1) := by decide +kernel
theorem dX4_frequency_20 : decode cX4_frequency 20 = .ok (.iconst 1, 1) := by decide +kernel
theorem dX4_frequency_21 : decode cX4_frequency 21 = .ok (.iconst 1, 1) := by decide +kernel
theorem dX4_frequency_22 : decode cX4_frequency 22 = .ok (.invokevirtual 55, 3) := by decide +kernel
theorem dX4_frequency_25 : decode cX4_frequency 25 = .ok (.ifCond .eq 16, 3) := by decide +kernel
theorem dX4_frequency_28 : decode cX4_frequency 28 = .ok (.aload_n 0, 1) := by decide +kernel
theorem dX4_frequency_29 : decode cX4_frequency 29 = .ok (.getfield 24, 3) := by decide +kernel
theorem dX4_frequency_32 : decode cX4_frequency 32 = .ok (.iload_n 1, 1) := by decide +kernel
theorem dX4_frequency_33 : decode cX4_frequency 33 = .ok (.aaload, 1) := by decide +kernel
theorem dX4_frequency_34 : decode cX4_frequency 34 = .ok (.iload_n 2, 1) := by decide +kernel
theorem dX4_frequency_35 : decode cX4_frequency 35 = .ok (.invokevirtual 120, 3) := by decide +kernel
theorem dX4_frequency_38 : decode cX4_frequency 38 = .ok (.goto 4, 3) := by decide +kernel
theorem dX4_frequency_41 : decode cX4_frequency 41 = .ok (.iconst 0, 1) := by decide +kernel
theorem dX4_frequency_42 : decode cX4_frequency 42 = .ok (.ireturn, 1) := by decide +kernel
theorem dX4_different_0 : decode cX4_different 0 = .ok (.aload_n 0, 1) := by decide +kernel
theorem dX4_different_1 : decode cX4_different 1 = .ok (.iload_n 1, 1) := by decide +kernel
theorem dX4_different_2 : decode cX4_different 2 = .ok (.invokestatic 39, 3) := by decide +kernel
theorem dX4_different_5 : decode cX4_different 5 = .ok (.iconst 1, 1) := by decide +kernel
theorem dX4_different_6 : decode cX4_different 6 = .ok (.iconst 1, 1) := by decide +kernel
theorem dX4_different_7 : decode cX4_different 7 = .ok (.invokevirtual 55, 3) := by decide +kernel
theorem dX4_different_10 : decode cX4_different 10 = .ok (.ifCond .ne 5, 3) := by decide +kernel
theorem dX4_different_13 : decode cX4_different 13 = .ok (.iconst 0, 1) := by decide +kernel
theorem dX4_different_14 : decode cX4_different 14 = .ok (.ireturn, 1) := by decide +kernel
theorem dX4_different_15 : decode cX4_different 15 = .ok (.iconst 0, 1) := by decide +kernel
theorem dX4_different_16 : decode cX4_different 16 = .ok (.istore_n 2, 1) := by decide +kernel
theorem dX4_different_17 : decode cX4_different 17 = .ok (.iconst 0, 1) := by decide +kernel
theorem dX4_different_18 : decode cX4_different 18 = .ok (.istore_n 3, 1) := by decide +kernel
theorem dX4_different_19 : decode cX4_different 19 = .ok (.iload_n 3, 1) := by decide +kernel
theorem dX4_different_20 : decode cX4_different 20 = .ok (.bipush 100, 2) := by decide +kernel
theorem dX4_different_22 : decode cX4_different 22 = .ok (.if_icmp .ge 30, 3) := by decide +kernel
theorem dX4_different_25 : decode cX4_different 25 = .ok (.iload_n 2, 1) := by decide +kernel
theorem dX4_different_26 : decode cX4_different 26 = .ok (.aload_n 0, 1) := by decide +kernel
theorem dX4_different_27 : decode cX4_different 27 = .ok (.getfield 24, 3) := by decide +kernel
theorem dX4_different_30 : decode cX4_different 30 = .ok (.iload_n 1, 1) := by decide +kernel
theorem dX4_different_31 : decode cX4_different 31 = .ok (.aaload, 1) := by decide +kernel
theorem dX4_different_32 : decode cX4_different 32 = .ok (.iload_n 3, 1) := by decide +kernel
theorem dX4_different_33 : decode cX4_different 33 = .ok (.invokevirtual 120, 3) := by decide +kernel
theorem dX4_different_36 : decode cX4_different 36 = .ok (.ifCond .le 7, 3) := by decide +kernel
theorem dX4_different_39 : decode cX4_different 39 = .ok (.iconst 1, 1) := by decide +kernel
theorem dX4_different_40 : decode cX4_different 40 = .ok (.goto 4, 3) := by decide +kernel
theorem dX4_different_43 : decode cX4_different 43 = .ok (.iconst 0, 1) := by decide +kernel
theorem dX4_different_44 : decode cX4_different 44 = .ok (.iadd, 1) := by decide +kernel
theorem dX4_different_45 : decode cX4_different 45 = .ok (.istore_n 2, 1) := by decide +kernel
theorem dX4_different_46 : decode cX4_different 46 = .ok (.iinc 3 1, 3) := by decide +kernel
theorem dX4_different_49 : decode cX4_different 49 = .ok (.goto (-30), 3) := by decide +kernel
theorem dX4_different_52 : decode cX4_different 52 = .ok (.iload_n 2, 1) := by decide +kernel
theorem dX4_different_53 : decode cX4_different 53 = .ok (.ireturn, 1) := by decide +kernel
theorem dX4_most_0 : decode cX4_most 0 = .ok (.aload_n 0, 1) := by decide +kernel
theorem dX4_most_1 : decode cX4_most 1 = .ok (.iload_n 1, 1) := by decide +kernel
theorem dX4_most_2 : decode cX4_most 2 = .ok (.invokestatic 39, 3) := by decide +kernel
theorem dX4_most_5 : decode cX4_most 5 = .ok (.iload_n 1, 1) := by decide +kernel
theorem dX4_most_6 : decode cX4_most 6 = .ok (.invokestatic 39, 3) := by decide +kernel
theorem dX4_most_9 : decode cX4_most 9 = .ok (.ifCond .eq 19, 3) := by decide +kernel
theorem dX4_most_12 : decode cX4_most 12 = .ok (.aload_n 0, 1) := by decide +kernel
theorem dX4_most_13 : decode cX4_most 13 = .ok (.getfield 24, 3) := by decide +kernel
theorem dX4_most_16 : decode cX4_most 16 = .ok (.iload_n 1, 1) := by decide +kernel
theorem dX4_most_17 : decode cX4_most 17 = .ok (.aaload, 1) := by decide +kernel
theorem dX4_most_18 : decode cX4_most 18 = .ok (.getfield 43, 3) := by decide +kernel
theorem dX4_most_21 : decode cX4_most 21 = .ok (.ifCond .le 7, 3) := by decide +kernel
theorem dX4_most_24 : decode cX4_most 24 = .ok (.iconst 1, 1) := by decide +kernel
theorem dX4_most_25 : decode cX4_most 25 = .ok (.goto 4, 3) := by decide +kernel
theorem dX4_most_28 : decode cX4_most 28 = .ok (.iconst 0, 1) := by decide +kernel
theorem dX4_most_29 : decode cX4_most 29 = .ok (.iconst 1, 1) := by decide +kernel
theorem dX4_most_30 : decode cX4_most 30 = .ok (.invokevirtual 55, 3) := by decide +kernel
theorem dX4_most_33 : decode cX4_most 33 = .ok (.ifCond .ne 5, 3) := by decide +kernel
theorem dX4_most_36 : decode cX4_most 36 = .ok (.iconst 0, 1) := by decide +kernel
theorem dX4_most_37 : decode cX4_most 37 = .ok (.ireturn, 1) := by decide +kernel
theorem dX4_most_38 : decode cX4_most 38 = .ok (.iconst 0, 1) := by decide +kernel
theorem dX4_most_39 : decode cX4_most 39 = .ok (.istore_n 2, 1) := by decide +kernel
theorem dX4_most_40 : decode cX4_most 40 = .ok (.iconst 1, 1) := by decide +kernel
theorem dX4_most_41 : decode cX4_most 41 = .ok (.istore_n 3, 1) := by decide +kernel
theorem dX4_most_42 : decode cX4_most 42 = .ok (.iload_n 3, 1) := by decide +kernel
theorem dX4_most_43 : decode cX4_most 43 = .ok (.bipush 100, 2) := by decide +kernel
theorem dX4_most_45 : decode cX4_most 45 = .ok (.if_icmp .ge 38, 3) := by decide +kernel
theorem dX4_most_48 : decode cX4_most 48 = .ok (.aload_n 0, 1) := by decide +kernel
theorem dX4_most_49 : decode cX4_most 49 = .ok (.getfield 24, 3) := by decide +kernel
theorem dX4_most_52 : decode cX4_most 52 = .ok (.iload_n 1, 1) := by decide +kernel
theorem dX4_most_53 : decode cX4_most 53 = .ok (.aaload, 1) := by decide +kernel
theorem dX4_most_54 : decode cX4_most 54 = .ok (.iload_n 3, 1) := by decide +kernel
theorem dX4_most_55 : decode cX4_most 55 = .ok (.invokevirtual 120, 3) := by decide +kernel
theorem dX4_most_58 : decode cX4_most 58 = .ok (.aload_n 0, 1) := by decide +kernel
theorem dX4_most_59 : decode cX4_most 59 = .ok (.getfield 24, 3) := by decide +kernel
theorem dX4_most_62 : decode cX4_most 62 = .ok (.iload_n 1, 1) := by decide +kernel
theorem dX4_most_63 : decode cX4_most 63 = .ok (.aaload, 1) := by decide +kernel
theorem dX4_most_64 : decode cX4_most 64 = .ok (.iload_n 2, 1) := by decide +kernel
theorem dX4_most_65 : decode cX4_most 65 = .ok (.invokevirtual 120, 3) := by decide +kernel
theorem dX4_most_68 : decode cX4_most 68 = .ok (.if_icmp .le 7, 3) := by decide +kernel
theorem dX4_most_71 : decode cX4_most 71 = .ok (.iload_n 3, 1) := by decide +kernel
theorem dX4_most_72 : decode cX4_most 72 = .ok (.goto 4, 3) := by decide +kernel
theorem dX4_most_75 : decode cX4_most 75 = .ok (.iload_n 2, 1) := by decide +kernel
theorem dX4_most_76 : decode cX4_most 76 = .ok (.istore_n 2, 1) := by decide +kernel
theorem dX4_most_77 : decode cX4_most 77 = .ok (.iinc 3 1, 3) := by decide +kernel
theorem dX4_most_80 : decode cX4_most 80 = .ok (.goto (-38), 3) := by decide +kernel
theorem dX4_most_83 : decode cX4_most 83 = .ok (.iload_n 2, 1) := by decide +kernel
theorem dX4_most_84 : decode cX4_most 84 = .ok (.ireturn, 1) := by decide +kernel
theorem dX4_isApart_0 : decode cX4_isApart 0 = .ok (.aload_n 0, 1) := by decide +kernel
theorem dX4_isApart_1 : decode cX4_isApart 1 = .ok (.iload_n 1, 1) := by decide +kernel
theorem dX4_isApart_2 : decode cX4_isApart 2 = .ok (.invokestatic 39, 3) := by decide +kernel
theorem dX4_isApart_5 : decode cX4_isApart 5 = .ok (.ifCond .eq 14, 3) := by decide +kernel
theorem dX4_isApart_8 : decode cX4_isApart 8 = .ok (.iload_n 2, 1) := by decide +kernel
theorem dX4_isApart_9 : decode cX4_isApart 9 = .ok (.invokestatic 39, 3) := by decide +kernel
theorem dX4_isApart_12 : decode cX4_isApart 12 = .ok (.ifCond .eq 7, 3) := by decide +kernel
theorem dX4_isApart_15 : decode cX4_isApart 15 = .ok (.iconst 1, 1) := by decide +kernel
theorem dX4_isApart_16 : decode cX4_isApart 16 = .ok (.goto 4, 3) := by decide +kernel
theorem dX4_isApart_19 : decode cX4_isApart 19 = .ok (.iconst 0, 1) := by decide +kernel
theorem dX4_isApart_20 : decode cX4_isApart 20 = .ok (.iconst 1, 1) := by decide +kernel
theorem dX4_isApart_21 : decode cX4_isApart 21 = .ok (.iconst 1, 1) := by decide +kernel
theorem dX4_isApart_22 : decode cX4_isApart 22 = .ok (.invokevirtual 55, 3) := by decide +kernel
theorem dX4_isApart_25 : decode cX4_isApart 25 = .ok (.ifCond .ne 5, 3) := by decide +kernel
theorem dX4_isApart_28 : decode cX4_isApart 28 = .ok (.iconst 0, 1) := by decide +kernel
theorem dX4_isApart_29 : decode cX4_isApart 29 = .ok (.ireturn, 1) := by decide +kernel
theorem dX4_isApart_30 : decode cX4_isApart 30 = .ok (.iconst 0, 1) := by decide +kernel
theorem dX4_isApart_31 : decode cX4_isApart 31 = .ok (.istore_n 3, 1) := by decide +kernel
theorem dX4_isApart_32 : decode cX4_isApart 32 = .ok (.iload_n 3, 1) := by decide +kernel
theorem dX4_isApart_33 : decode cX4_isApart 33 = .ok (.bipush 100, 2) := by decide +kernel
theorem dX4_isApart_35 : decode cX4_isApart 35 = .ok (.if_icmp .ge 37, 3) := by decide +kernel
theorem dX4_isApart_38 : decode cX4_isApart 38 = .ok (.aload_n 0, 1) := by decide +kernel
theorem dX4_isApart_39 : decode cX4_isApart 39 = .ok (.getfield 24, 3) := by decide +kernel
theorem dX4_isApart_42 : decode cX4_isApart 42 = .ok (.iload_n 1, 1) := by decide +kernel
theorem dX4_isApart_43 : decode cX4_isApart 43 = .ok (.aaload, 1) := by decide +kernel
theorem dX4_isApart_44 : decode cX4_isApart 44 = .ok (.iload_n 3, 1) := by decide +kernel
theorem dX4_isApart_45 : decode cX4_isApart 45 = .ok (.invokevirtual 120, 3) := by decide +kernel
theorem dX4_isApart_48 : decode cX4_isApart 48 = .ok (.ifCond .le 18, 3) := by decide +kernel
theorem dX4_isApart_51 : decode cX4_isApart 51 = .ok (.aload_n 0, 1) := by decide +kernel
theorem dX4_isApart_52 : decode cX4_isApart 52 = .ok (.getfield 24, 3) := by decide +kernel
theorem dX4_isApart_55 : decode cX4_isApart 55 = .ok (.iload_n 2, 1) := by decide +kernel
theorem dX4_isApart_56 : decode cX4_isApart 56 = .ok (.aaload, 1) := by decide +kernel
theorem dX4_isApart_57 : decode cX4_isApart 57 = .ok (.iload_n 3, 1) := by decide +kernel
theorem dX4_isApart_58 : decode cX4_isApart 58 = .ok (.invokevirtual 120, 3) := by decide +kernel
theorem dX4_isApart_61 : decode cX4_isApart 61 = .ok (.ifCond .le 5, 3) := by decide +kernel
theorem dX4_isApart_64 : decode cX4_isApart 64 = .ok (.iconst 0, 1) := by decide +kernel
theorem dX4_isApart_65 : decode cX4_isApart 65 = .ok (.ireturn, 1) := by decide +kernel
theorem dX4_isApart_66 : decode cX4_isApart 66 = .ok (.iinc 3 1, 3) := by decide +kernel
theorem dX4_isApart_69 : decode cX4_isApart 69 = .ok (.goto (-37), 3) := by decide +kernel
theorem dX4_isApart_72 : decode cX4_isApart 72 = .ok (.iconst 1, 1) := by decide +kernel
theorem dX4_isApart_73 : decode cX4_isApart 73 = .ok (.ireturn, 1) := by decide +kernel
theorem dX4_alone_0 : decode cX4_alone 0 = .ok (.aload_n 0, 1) := by decide +kernel
theorem dX4_alone_1 : decode cX4_alone 1 = .ok (.iload_n 1, 1) := by decide +kernel
theorem dX4_alone_2 : decode cX4_alone 2 = .ok (.invokestatic 39, 3) := by decide +kernel
theorem dX4_alone_5 : decode cX4_alone 5 = .ok (.ifCond .eq 14, 3) := by decide +kernel
theorem dX4_alone_8 : decode cX4_alone 8 = .ok (.iload_n 2, 1) := by decide +kernel
theorem dX4_alone_9 : decode cX4_alone 9 = .ok (.invokestatic 39, 3) := by decide +kernel
theorem dX4_alone_12 : decode cX4_alone 12 = .ok (.ifCond .eq 7, 3) := by decide +kernel
theorem dX4_alone_15 : decode cX4_alone 15 = .ok (.iconst 1, 1) := by decide +kernel
theorem dX4_alone_16 : decode cX4_alone 16 = .ok (.goto 4, 3) := by decide +kernel
theorem dX4_alone_19 : decode cX4_alone 19 = .ok (.iconst 0, 1) := by decide +kernel
theorem dX4_alone_20 : decode cX4_alone 20 = .ok (.iconst 1, 1) := by decide +kernel
theorem dX4_alone_21 : decode cX4_alone 21 = .ok (.iconst 1, 1) := by decide +kernel
theorem dX4_alone_22 : decode cX4_alone 22 = .ok (.invokevirtual 55, 3) := by decide +kernel
theorem dX4_alone_25 : decode cX4_alone 25 = .ok (.ifCond .ne 5, 3) := by decide +kernel
theorem dX4_alone_28 : decode cX4_alone 28 = .ok (.iconst 0, 1) := by decide +kernel
theorem dX4_alone_29 : decode cX4_alone 29 = .ok (.ireturn, 1) := by decide +kernel
theorem dX4_alone_30 : decode cX4_alone 30 = .ok (.iconst 0, 1) := by decide +kernel
theorem dX4_alone_31 : decode cX4_alone 31 = .ok (.istore_n 3, 1) := by decide +kernel
theorem dX4_alone_32 : decode cX4_alone 32 = .ok (.iconst 0, 1) := by decide +kernel
theorem dX4_alone_33 : decode cX4_alone 33 = .ok (.istore 4, 2) := by decide +kernel
theorem dX4_alone_35 : decode cX4_alone 35 = .ok (.iload 4, 2) := by decide +kernel
theorem dX4_alone_37 : decode cX4_alone 37 = .ok (.bipush 100, 2) := by decide +kernel
theorem dX4_alone_39 : decode cX4_alone 39 = .ok (.if_icmp .ge 45, 3) := by decide +kernel
theorem dX4_alone_42 : decode cX4_alone 42 = .ok (.iload_n 3, 1) := by decide +kernel
theorem dX4_alone_43 : decode cX4_alone 43 = .ok (.aload_n 0, 1) := by decide +kernel
theorem dX4_alone_44 : decode cX4_alone 44 = .ok (.getfield 24, 3) := by decide +kernel
theorem dX4_alone_47 : decode cX4_alone 47 = .ok (.iload_n 1, 1) := by decide +kernel
theorem dX4_alone_48 : decode cX4_alone 48 = .ok (.aaload, 1) := by decide +kernel
theorem dX4_alone_49 : decode cX4_alone 49 = .ok (.iload 4, 2) := by decide +kernel
theorem dX4_alone_51 : decode cX4_alone 51 = .ok (.invokevirtual 120, 3) := by decide +kernel
theorem dX4_alone_54 : decode cX4_alone 54 = .ok (.ifCond .le 21, 3) := by decide +kernel
theorem dX4_alone_57 : decode cX4_alone 57 = .ok (.aload_n 0, 1) := by decide +kernel
theorem dX4_alone_58 : decode cX4_alone 58 = .ok (.getfield 24, 3) := by decide +kernel
theorem dX4_alone_61 : decode cX4_alone 61 = .ok (.iload_n 2, 1) := by decide +kernel
theorem dX4_alone_62 : decode cX4_alone 62 = .ok (.aaload, 1) := by decide +kernel
theorem dX4_alone_63 : decode cX4_alone 63 = .ok (.iload 4, 2) := by decide +kernel
theorem dX4_alone_65 : decode cX4_alone 65 = .ok (.invokevirtual 120, 3) := by decide +kernel
theorem dX4_alone_68 : decode cX4_alone 68 = .ok (.ifCond .ne 7, 3) := by decide +kernel
theorem dX4_alone_71 : decode cX4_alone 71 = .ok (.iconst 1, 1) := by decide +kernel
theorem dX4_alone_72 : decode cX4_alone 72 = .ok (.goto 4, 3) := by decide +kernel
theorem dX4_alone_75 : decode cX4_alone 75 = .ok (.iconst 0, 1) := by decide +kernel
theorem dX4_alone_76 : decode cX4_alone 76 = .ok (.iadd, 1) := by decide +kernel
theorem dX4_alone_77 : decode cX4_alone 77 = .ok (.istore_n 3, 1) := by decide +kernel
theorem dX4_alone_78 : decode cX4_alone 78 = .ok (.iinc 4 1, 3) := by decide +kernel
theorem dX4_alone_81 : decode cX4_alone 81 = .ok (.goto (-46), 3) := by decide +kernel
theorem dX4_alone_84 : decode cX4_alone 84 = .ok (.iload_n 3, 1) := by decide +kernel
theorem dX4_alone_85 : decode cX4_alone 85 = .ok (.ireturn, 1) := by decide +kernel
theorem dX4_valueOf_0 : decode cX4_valueOf 0 = .ok (.iload_n 2, 1) := by decide +kernel
theorem dX4_valueOf_1 : decode cX4_valueOf 1 = .ok (.ifCond .ne 7, 3) := by decide +kernel
theorem dX4_valueOf_4 : decode cX4_valueOf 4 = .ok (.iload_n 1, 1) := by decide +kernel
theorem dX4_valueOf_5 : decode cX4_valueOf 5 = .ok (.goto 9, 3) := by decide +kernel
theorem dX4_valueOf_8 : decode cX4_valueOf 8 = .ok (.aload_n 0, 1) := by decide +kernel
theorem dX4_valueOf_9 : decode cX4_valueOf 9 = .ok (.getfield 35, 3) := by decide +kernel
theorem dX4_valueOf_12 : decode cX4_valueOf 12 = .ok (.iload_n 1, 1) := by decide +kernel
theorem dX4_valueOf_13 : decode cX4_valueOf 13 = .ok (.iaload, 1) := by decide +kernel
theorem dX4_valueOf_14 : decode cX4_valueOf 14 = .ok (.ireturn, 1) := by decide +kernel
theorem dX4_outermost_0 : decode cX4_outermost 0 = .ok (.aload_n 0, 1) := by decide +kernel
theorem dX4_outermost_1 : decode cX4_outermost 1 = .ok (.aload_n 0, 1) := by decide +kernel
theorem dX4_outermost_2 : decode cX4_outermost 2 = .ok (.getfield 24, 3) := by decide +kernel
theorem dX4_outermost_5 : decode cX4_outermost 5 = .ok (.iload_n 1, 1) := by decide +kernel
theorem dX4_outermost_6 : decode cX4_outermost 6 = .ok (.aaload, 1) := by decide +kernel
theorem dX4_outermost_7 : decode cX4_outermost 7 = .ok (.iconst 0, 1) := by decide +kernel
theorem dX4_outermost_8 : decode cX4_outermost 8 = .ok (.invokevirtual 85, 3) := by decide +kernel
theorem dX4_outermost_11 : decode cX4_outermost 11 = .ok (.iload_n 2, 1) := by decide +kernel
theorem dX4_outermost_12 : decode cX4_outermost 12 = .ok (.invokevirtual 123, 3) := by decide +kernel
theorem dX4_outermost_15 : decode cX4_outermost 15 = .ok (.istore 4, 2) := by decide +kernel
theorem dX4_outermost_17 : decode cX4_outermost 17 = .ok (.iconst 1, 1) := by decide +kernel
theorem dX4_outermost_18 : decode cX4_outermost 18 = .ok (.istore 5, 2) := by decide +kernel
theorem dX4_outermost_20 : decode cX4_outermost 20 = .ok (.iload 5, 2) := by decide +kernel
theorem dX4_outermost_22 : decode cX4_outermost 22 = .ok (.aload_n 0, 1) := by decide +kernel
theorem dX4_outermost_23 : decode cX4_outermost 23 = .ok (.getfield 24, 3) := by decide +kernel
theorem dX4_outermost_26 : decode cX4_outermost 26 = .ok (.iload_n 1, 1) := by decide +kernel
theorem dX4_outermost_27 : decode cX4_outermost 27 = .ok (.aaload, 1) := by decide +kernel
theorem dX4_outermost_28 : decode cX4_outermost 28 = .ok (.getfield 43, 3) := by decide +kernel
theorem dX4_outermost_31 : decode cX4_outermost 31 = .ok (.if_icmp .ge 50, 3) := by decide +kernel
theorem dX4_outermost_34 : decode cX4_outermost 34 = .ok (.aload_n 0, 1) := by decide +kernel
theorem dX4_outermost_35 : decode cX4_outermost 35 = .ok (.aload_n 0, 1) := by decide +kernel
theorem dX4_outermost_36 : decode cX4_outermost 36 = .ok (.getfield 24, 3) := by decide +kernel
theorem dX4_outermost_39 : decode cX4_outermost 39 = .ok (.iload_n 1, 1) := by decide +kernel
theorem dX4_outermost_40 : decode cX4_outermost 40 = .ok (.aaload, 1) := by decide +kernel
theorem dX4_outermost_41 : decode cX4_outermost 41 = .ok (.iload 5, 2) := by decide +kernel
theorem dX4_outermost_43 : decode cX4_outermost 43 = .ok (.invokevirtual 85, 3) := by decide +kernel
theorem dX4_outermost_46 : decode cX4_outermost 46 = .ok (.iload_n 2, 1) := by decide +kernel
theorem dX4_outermost_47 : decode cX4_outermost 47 = .ok (.invokevirtual 123, 3) := by decide +kernel
theorem dX4_outermost_50 : decode cX4_outermost 50 = .ok (.istore 6, 2) := by decide +kernel
theorem dX4_outermost_52 : decode cX4_outermost 52 = .ok (.iload_n 3, 1) := by decide +kernel
theorem dX4_outermost_53 : decode cX4_outermost 53 = .ok (.ifCond .eq 13, 3) := by decide +kernel
theorem dX4_outermost_56 : decode cX4_outermost 56 = .ok (.iload 4, 2) := by decide +kernel
theorem dX4_outermost_58 : decode cX4_outermost 58 = .ok (.iload 6, 2) := by decide +kernel
theorem dX4_outermost_60 : decode cX4_outermost 60 = .ok (.invokestatic 127, 3) := by decide +kernel
theorem dX4_outermost_63 : decode cX4_outermost 63 = .ok (.goto 10, 3) := by decide +kernel
theorem dX4_outermost_66 : decode cX4_outermost 66 = .ok (.iload 4, 2) := by decide +kernel
theorem dX4_outermost_68 : decode cX4_outermost 68 = .ok (.iload 6, 2) := by decide +kernel
theorem dX4_outermost_70 : decode cX4_outermost 70 = .ok (.invokestatic 132, 3) := by decide +kernel
theorem dX4_outermost_73 : decode cX4_outermost 73 = .ok (.istore 4, 2) := by decide +kernel
theorem dX4_outermost_75 : decode cX4_outermost 75 = .ok (.iinc 5 1, 3) := by decide +kernel
theorem dX4_outermost_78 : decode cX4_outermost 78 = .ok (.goto (-58), 3) := by decide +kernel
theorem dX4_outermost_81 : decode cX4_outermost 81 = .ok (.iload 4, 2) := by decide +kernel
theorem dX4_outermost_83 : decode cX4_outermost 83 = .ok (.ireturn, 1) := by decide +kernel
theorem dX4_greatest_0 : decode cX4_greatest 0 = .ok (.aload_n 0, 1) := by decide +kernel
theorem dX4_greatest_1 : decode cX4_greatest 1 = .ok (.iload_n 1, 1) := by decide +kernel
theorem dX4_greatest_2 : decode cX4_greatest 2 = .ok (.invokestatic 39, 3) := by decide +kernel
theorem dX4_greatest_5 : decode cX4_greatest 5 = .ok (.iload_n 2, 1) := by decide +kernel
theorem dX4_greatest_6 : decode cX4_greatest 6 = .ok (.invokestatic 135, 3) := by decide +kernel
theorem dX4_greatest_9 : decode cX4_greatest 9 = .ok (.iload_n 1, 1) := by decide +kernel
theorem dX4_greatest_10 : decode cX4_greatest 10 = .ok (.invokestatic 39, 3) := by decide +kernel
theorem dX4_greatest_13 : decode cX4_greatest 13 = .ok (.ifCond .eq 19, 3) := by decide +kernel
theorem dX4_greatest_16 : decode cX4_greatest 16 = .ok (.aload_n 0, 1) := by decide +kernel
theorem dX4_greatest_17 : decode cX4_greatest 17 = .ok (.getfield 24, 3) := by decide +kernel
theorem dX4_greatest_20 : decode cX4_greatest 20 = .ok (.iload_n 1, 1) := by decide +kernel
theorem dX4_greatest_21 : decode cX4_greatest 21 = .ok (.aaload, 1) := by decide +kernel
theorem dX4_greatest_22 : decode cX4_greatest 22 = .ok (.getfield 43, 3) := by decide +kernel
theorem dX4_greatest_25 : decode cX4_greatest 25 = .ok (.ifCond .le 7, 3) := by decide +kernel
theorem dX4_greatest_28 : decode cX4_greatest 28 = .ok (.iconst 1, 1) := by decide +kernel
theorem dX4_greatest_29 : decode cX4_greatest 29 = .ok (.goto 4, 3) := by decide +kernel
theorem dX4_greatest_32 : decode cX4_greatest 32 = .ok (.iconst 0, 1) := by decide +kernel
theorem dX4_greatest_33 : decode cX4_greatest 33 = .ok (.invokevirtual 55, 3) := by decide +kernel
theorem dX4_greatest_36 : decode cX4_greatest 36 = .ok (.ifCond .eq 13, 3) := by decide +kernel
theorem dX4_greatest_39 : decode cX4_greatest 39 = .ok (.aload_n 0, 1) := by decide +kernel
theorem dX4_greatest_40 : decode cX4_greatest 40 = .ok (.iload_n 1, 1) := by decide +kernel
theorem dX4_greatest_41 : decode cX4_greatest 41 = .ok (.iload_n 2, 1) := by decide +kernel
theorem dX4_greatest_42 : decode cX4_greatest 42 = .ok (.iconst 1, 1) := by decide +kernel
theorem dX4_greatest_43 : decode cX4_greatest 43 = .ok (.invokevirtual 138, 3) := by decide +kernel
theorem dX4_greatest_46 : decode cX4_greatest 46 = .ok (.goto 4, 3) := by decide +kernel
theorem dX4_greatest_49 : decode cX4_greatest 49 = .ok (.iconst 0, 1) := by decide +kernel
theorem dX4_greatest_50 : decode cX4_greatest 50 = .ok (.ireturn, 1) := by decide +kernel
theorem dX4_least_0 : decode cX4_least 0 = .ok (.aload_n 0, 1) := by decide +kernel
theorem dX4_least_1 : decode cX4_least 1 = .ok (.iload_n 1, 1) := by decide +kernel
theorem dX4_least_2 : decode cX4_least 2 = .ok (.invokestatic 39, 3) := by decide +kernel
theorem dX4_least_5 : decode cX4_least 5 = .ok (.iload_n 2, 1) := by decide +kernel
theorem dX4_least_6 : decode cX4_least 6 = .ok (.invokestatic 135, 3) := by decide +kernel
theorem dX4_least_9 : decode cX4_least 9 = .ok (.iload_n 1, 1) := by decide +kernel
theorem dX4_least_10 : decode cX4_least 10 = .ok (.invokestatic 39, 3) := by decide +kernel
theorem dX4_least_13 : decode cX4_least 13 = .ok (.ifCond .eq 19, 3) := by decide +kernel
theorem dX4_least_16 : decode cX4_least 16 = .ok (.aload_n 0, 1) := by decide +kernel
theorem dX4_least_17 : decode cX4_least 17 = .ok (.getfield 24, 3) := by decide +kernel
theorem dX4_least_20 : decode cX4_least 20 = .ok (.iload_n 1, 1) := by decide +kernel
theorem dX4_least_21 : decode cX4_least 21 = .ok (.aaload, 1) := by decide +kernel
theorem dX4_least_22 : decode cX4_least 22 = .ok (.getfield 43, 3) := by decide +kernel
theorem dX4_least_25 : decode cX4_least 25 = .ok (.ifCond .le 7, 3) := by decide +kernel
theorem dX4_least_28 : decode cX4_least 28 = .ok (.iconst 1, 1) := by decide +kernel
theorem dX4_least_29 : decode cX4_least 29 = .ok (.goto 4, 3) := by decide +kernel
theorem dX4_least_32 : decode cX4_least 32 = .ok (.iconst 0, 1) := by decide +kernel
theorem dX4_least_33 : decode cX4_least 33 = .ok (.invokevirtual 55, 3) := by decide +kernel
theorem dX4_least_36 : decode cX4_least 36 = .ok (.ifCond .eq 13, 3) := by decide +kernel
theorem dX4_least_39 : decode cX4_least 39 = .ok (.aload_n 0, 1) := by decide +kernel
theorem dX4_least_40 : decode cX4_least 40 = .ok (.iload_n 1, 1) := by decide +kernel
theorem dX4_least_41 : decode cX4_least 41 = .ok (.iload_n 2, 1) := by decide +kernel
theorem dX4_least_42 : decode cX4_least 42 = .ok (.iconst 0, 1) := by decide +kernel
theorem dX4_least_43 : decode cX4_least 43 = .ok (.invokevirtual 138, 3) := by decide +kernel
theorem dX4_least_46 : decode cX4_least 46 = .ok (.goto 4, 3) := by decide +kernel
theorem dX4_least_49 : decode cX4_least 49 = .ok (.iconst 0, 1) := by decide +kernel
theorem dX4_least_50 : decode cX4_least 50 = .ok (.ireturn, 1) := by decide +kernel
theorem dX4_sort_0 : decode cX4_sort 0 = .ok (.aload_n 0, 1) := by decide +kernel
theorem dX4_sort_1 : decode cX4_sort 1 = .ok (.iload_n 1, 1) := by decide +kernel
theorem dX4_sort_2 : decode cX4_sort 2 = .ok (.invokestatic 39, 3) := by decide +kernel
theorem dX4_sort_5 : decode cX4_sort 5 = .ok (.iload_n 2, 1) := by decide +kernel
theorem dX4_sort_6 : decode cX4_sort 6 = .ok (.invokestatic 135, 3) := by decide +kernel
theorem dX4_sort_9 : decode cX4_sort 9 = .ok (.iconst 1, 1) := by decide +kernel
theorem dX4_sort_10 : decode cX4_sort 10 = .ok (.invokevirtual 55, 3) := by decide +kernel
theorem dX4_sort_13 : decode cX4_sort 13 = .ok (.ifCond .ne 5, 3) := by decide +kernel
theorem dX4_sort_16 : decode cX4_sort 16 = .ok (.iconst 0, 1) := by decide +kernel
theorem dX4_sort_17 : decode cX4_sort 17 = .ok (.ireturn, 1) := by decide +kernel
theorem dX4_sort_18 : decode cX4_sort 18 = .ok (.aload_n 0, 1) := by decide +kernel
theorem dX4_sort_19 : decode cX4_sort 19 = .ok (.getfield 24, 3) := by decide +kernel
theorem dX4_sort_22 : decode cX4_sort 22 = .ok (.iload_n 1, 1) := by decide +kernel
theorem dX4_sort_23 : decode cX4_sort 23 = .ok (.aaload, 1) := by decide +kernel
theorem dX4_sort_24 : decode cX4_sort 24 = .ok (.astore 4, 2) := by decide +kernel
theorem dX4_sort_26 : decode cX4_sort 26 = .ok (.aload_n 0, 1) := by decide +kernel
theorem dX4_sort_27 : decode cX4_sort 27 = .ok (.getfield 31, 3) := by decide +kernel
theorem dX4_sort_30 : decode cX4_sort 30 = .ok (.aload 4, 2) := by decide +kernel
theorem dX4_sort_32 : decode cX4_sort 32 = .ok (.invokevirtual 116, 3) := by decide +kernel
theorem dX4_sort_35 : decode cX4_sort 35 = .ok (.iconst 1, 1) := by decide +kernel
theorem dX4_sort_36 : decode cX4_sort 36 = .ok (.istore 5, 2) := by decide +kernel
theorem dX4_sort_38 : decode cX4_sort 38 = .ok (.iload 5, 2) := by decide +kernel
theorem dX4_sort_40 : decode cX4_sort 40 = .ok (.aload 4, 2) := by decide +kernel
theorem dX4_sort_42 : decode cX4_sort 42 = .ok (.getfield 43, 3) := by decide +kernel
theorem dX4_sort_45 : decode cX4_sort 45 = .ok (.if_icmp .ge 100, 3) := by decide +kernel
theorem dX4_sort_48 : decode cX4_sort 48 = .ok (.iload 5, 2) := by decide +kernel
theorem dX4_sort_50 : decode cX4_sort 50 = .ok (.istore 6, 2) := by decide +kernel
theorem dX4_sort_52 : decode cX4_sort 52 = .ok (.iload 6, 2) := by decide +kernel
theorem dX4_sort_54 : decode cX4_sort 54 = .ok (.ifCond .le 85, 3) := by decide +kernel
theorem dX4_sort_57 : decode cX4_sort 57 = .ok (.iload_n 3, 1) := by decide +kernel
theorem dX4_sort_58 : decode cX4_sort 58 = .ok (.ifCond .eq 35, 3) := by decide +kernel
theorem dX4_sort_61 : decode cX4_sort 61 = .ok (.aload_n 0, 1) := by decide +kernel
theorem dX4_sort_62 : decode cX4_sort 62 = .ok (.aload 4, 2) := by decide +kernel
theorem dX4_sort_64 : decode cX4_sort 64 = .ok (.iload 6, 2) := by decide +kernel
theorem dX4_sort_66 : decode cX4_sort 66 = .ok (.iconst 1, 1) := by decide +kernel
theorem dX4_sort_67 : decode cX4_sort 67 = .ok (.isub, 1) := by decide +kernel
theorem dX4_sort_68 : decode cX4_sort 68 = .ok (.invokevirtual 85, 3) := by decide +kernel
theorem dX4_sort_71 : decode cX4_sort 71 = .ok (.iload_n 2, 1) := by decide +kernel
theorem dX4_sort_72 : decode cX4_sort 72 = .ok (.invokevirtual 123, 3) := by decide +kernel
theorem dX4_sort_75 : decode cX4_sort 75 = .ok (.aload_n 0, 1) := by decide +kernel
theorem dX4_sort_76 : decode cX4_sort 76 = .ok (.aload 4, 2) := by decide +kernel
theorem dX4_sort_78 : decode cX4_sort 78 = .ok (.iload 6, 2) := by decide +kernel
theorem dX4_sort_80 : decode cX4_sort 80 = .ok (.invokevirtual 85, 3) := by decide +kernel
theorem dX4_sort_83 : decode cX4_sort 83 = .ok (.iload_n 2, 1) := by decide +kernel
theorem dX4_sort_84 : decode cX4_sort 84 = .ok (.invokevirtual 123, 3) := by decide +kernel
theorem dX4_sort_87 : decode cX4_sort 87 = .ok (.if_icmp .ge 52, 3) := by decide +kernel
theorem dX4_sort_90 : decode cX4_sort 90 = .ok (.goto 32, 3) := by decide +kernel
theorem dX4_sort_93 : decode cX4_sort 93 = .ok (.aload_n 0, 1) := by decide +kernel
theorem dX4_sort_94 : decode cX4_sort 94 = .ok (.aload 4, 2) := by decide +kernel
theorem dX4_sort_96 : decode cX4_sort 96 = .ok (.iload 6, 2) := by decide +kernel
theorem dX4_sort_98 : decode cX4_sort 98 = .ok (.iconst 1, 1) := by decide +kernel
theorem dX4_sort_99 : decode cX4_sort 99 = .ok (.isub, 1) := by decide +kernel
theorem dX4_sort_100 : decode cX4_sort 100 = .ok (.invokevirtual 85, 3) := by decide +kernel
theorem dX4_sort_103 : decode cX4_sort 103 = .ok (.iload_n 2, 1) := by decide +kernel
theorem dX4_sort_104 : decode cX4_sort 104 = .ok (.invokevirtual 123, 3) := by decide +kernel
theorem dX4_sort_107 : decode cX4_sort 107 = .ok (.aload_n 0, 1) := by decide +kernel
theorem dX4_sort_108 : decode cX4_sort 108 = .ok (.aload 4, 2) := by decide +kernel
theorem dX4_sort_110 : decode cX4_sort 110 = .ok (.iload 6, 2) := by decide +kernel
theorem dX4_sort_112 : decode cX4_sort 112 = .ok (.invokevirtual 85, 3) := by decide +kernel
theorem dX4_sort_115 : decode cX4_sort 115 = .ok (.iload_n 2, 1) := by decide +kernel
theorem dX4_sort_116 : decode cX4_sort 116 = .ok (.invokevirtual 123, 3) := by decide +kernel
theorem dX4_sort_119 : decode cX4_sort 119 = .ok (.if_icmp .le 20, 3) := by decide +kernel
theorem dX4_sort_122 : decode cX4_sort 122 = .ok (.aload 4, 2) := by decide +kernel
theorem dX4_sort_124 : decode cX4_sort 124 = .ok (.iload 6, 2) := by decide +kernel
theorem dX4_sort_126 : decode cX4_sort 126 = .ok (.iconst 1, 1) := by decide +kernel
theorem dX4_sort_127 : decode cX4_sort 127 = .ok (.isub, 1) := by decide +kernel
theorem dX4_sort_128 : decode cX4_sort 128 = .ok (.iload 6, 2) := by decide +kernel
theorem dX4_sort_130 : decode cX4_sort 130 = .ok (.invokevirtual 142, 3) := by decide +kernel
theorem dX4_sort_133 : decode cX4_sort 133 = .ok (.iinc 6 (-1), 3) := by decide +kernel
theorem dX4_sort_136 : decode cX4_sort 136 = .ok (.goto (-84), 3) := by decide +kernel
theorem dX4_sort_139 : decode cX4_sort 139 = .ok (.iinc 5 1, 3) := by decide +kernel
theorem dX4_sort_142 : decode cX4_sort 142 = .ok (.goto (-104), 3) := by decide +kernel
theorem dX4_sort_145 : decode cX4_sort 145 = .ok (.aload 4, 2) := by decide +kernel
theorem dX4_sort_147 : decode cX4_sort 147 = .ok (.aload_n 0, 1) := by decide +kernel
theorem dX4_sort_148 : decode cX4_sort 148 = .ok (.getfield 31, 3) := by decide +kernel
theorem dX4_sort_151 : decode cX4_sort 151 = .ok (.invokevirtual 145, 3) := by decide +kernel
theorem dX4_sort_154 : decode cX4_sort 154 = .ok (.ireturn, 1) := by decide +kernel
theorem dX4_areInOrder_0 : decode cX4_areInOrder 0 = .ok (.iconst 1, 1) := by decide +kernel
theorem dX4_areInOrder_1 : decode cX4_areInOrder 1 = .ok (.istore_n 3, 1) := by decide +kernel
theorem dX4_areInOrder_2 : decode cX4_areInOrder 2 = .ok (.iload_n 3, 1) := by decide +kernel
theorem dX4_areInOrder_3 : decode cX4_areInOrder 3 = .ok (.aload_n 1, 1) := by decide +kernel
theorem dX4_areInOrder_4 : decode cX4_areInOrder 4 = .ok (.getfield 43, 3) := by decide +kernel
theorem dX4_areInOrder_7 : decode cX4_areInOrder 7 = .ok (.if_icmp .ge 36, 3) := by decide +kernel
theorem dX4_areInOrder_10 : decode cX4_areInOrder 10 = .ok (.aload_n 0, 1) := by decide +kernel
theorem dX4_areInOrder_11 : decode cX4_areInOrder 11 = .ok (.aload_n 1, 1) := by decide +kernel
theorem dX4_areInOrder_12 : decode cX4_areInOrder 12 = .ok (.iload_n 3, 1) := by decide +kernel
theorem dX4_areInOrder_13 : decode cX4_areInOrder 13 = .ok (.invokevirtual 85, 3) := by decide +kernel
theorem dX4_areInOrder_16 : decode cX4_areInOrder 16 = .ok (.iload_n 2, 1) := by decide +kernel
theorem dX4_areInOrder_17 : decode cX4_areInOrder 17 = .ok (.invokevirtual 123, 3) := by decide +kernel
theorem dX4_areInOrder_20 : decode cX4_areInOrder 20 = .ok (.aload_n 0, 1) := by decide +kernel
theorem dX4_areInOrder_21 : decode cX4_areInOrder 21 = .ok (.aload_n 1, 1) := by decide +kernel
theorem dX4_areInOrder_22 : decode cX4_areInOrder 22 = .ok (.iload_n 3, 1) := by decide +kernel
theorem dX4_areInOrder_23 : decode cX4_areInOrder 23 = .ok (.iconst 1, 1) := by decide +kernel
theorem dX4_areInOrder_24 : decode cX4_areInOrder 24 = .ok (.isub, 1) := by decide +kernel
theorem dX4_areInOrder_25 : decode cX4_areInOrder 25 = .ok (.invokevirtual 85, 3) := by decide +kernel
theorem dX4_areInOrder_28 : decode cX4_areInOrder 28 = .ok (.iload_n 2, 1) := by decide +kernel
theorem dX4_areInOrder_29 : decode cX4_areInOrder 29 = .ok (.invokevirtual 123, 3) := by decide +kernel
theorem dX4_areInOrder_32 : decode cX4_areInOrder 32 = .ok (.if_icmp .ge 5, 3) := by decide +kernel
theorem dX4_areInOrder_35 : decode cX4_areInOrder 35 = .ok (.iconst 0, 1) := by decide +kernel
theorem dX4_areInOrder_36 : decode cX4_areInOrder 36 = .ok (.ireturn, 1) := by decide +kernel
theorem dX4_areInOrder_37 : decode cX4_areInOrder 37 = .ok (.iinc 3 1, 3) := by decide +kernel
theorem dX4_areInOrder_40 : decode cX4_areInOrder 40 = .ok (.goto (-38), 3) := by decide +kernel
theorem dX4_areInOrder_43 : decode cX4_areInOrder 43 = .ok (.iconst 1, 1) := by decide +kernel
theorem dX4_areInOrder_44 : decode cX4_areInOrder 44 = .ok (.ireturn, 1) := by decide +kernel
theorem dX4_isSorted_0 : decode cX4_isSorted 0 = .ok (.aload_n 0, 1) := by decide +kernel
theorem dX4_isSorted_1 : decode cX4_isSorted 1 = .ok (.iload_n 1, 1) := by decide +kernel
theorem dX4_isSorted_2 : decode cX4_isSorted 2 = .ok (.invokestatic 39, 3) := by decide +kernel
theorem dX4_isSorted_5 : decode cX4_isSorted 5 = .ok (.iload_n 2, 1) := by decide +kernel
theorem dX4_isSorted_6 : decode cX4_isSorted 6 = .ok (.invokestatic 135, 3) := by decide +kernel
theorem dX4_isSorted_9 : decode cX4_isSorted 9 = .ok (.iconst 1, 1) := by decide +kernel
theorem dX4_isSorted_10 : decode cX4_isSorted 10 = .ok (.invokevirtual 55, 3) := by decide +kernel
theorem dX4_isSorted_13 : decode cX4_isSorted 13 = .ok (.ifCond .eq 21, 3) := by decide +kernel
theorem dX4_isSorted_16 : decode cX4_isSorted 16 = .ok (.aload_n 0, 1) := by decide +kernel
theorem dX4_isSorted_17 : decode cX4_isSorted 17 = .ok (.aload_n 0, 1) := by decide +kernel
theorem dX4_isSorted_18 : decode cX4_isSorted 18 = .ok (.getfield 24, 3) := by decide +kernel
theorem dX4_isSorted_21 : decode cX4_isSorted 21 = .ok (.iload_n 1, 1) := by decide +kernel
theorem dX4_isSorted_22 : decode cX4_isSorted 22 = .ok (.aaload, 1) := by decide +kernel
theorem dX4_isSorted_23 : decode cX4_isSorted 23 = .ok (.iload_n 2, 1) := by decide +kernel
theorem dX4_isSorted_24 : decode cX4_isSorted 24 = .ok (.invokevirtual 149, 3) := by decide +kernel
theorem dX4_isSorted_27 : decode cX4_isSorted 27 = .ok (.ifCond .eq 7, 3) := by decide +kernel
theorem dX4_isSorted_30 : decode cX4_isSorted 30 = .ok (.iconst 1, 1) := by decide +kernel
theorem dX4_isSorted_31 : decode cX4_isSorted 31 = .ok (.goto 4, 3) := by decide +kernel
theorem dX4_isSorted_34 : decode cX4_isSorted 34 = .ok (.iconst 0, 1) := by decide +kernel
theorem dX4_isSorted_35 : decode cX4_isSorted 35 = .ok (.ireturn, 1) := by decide +kernel
theorem dX4_search_0 : decode cX4_search 0 = .ok (.iload_n 1, 1) := by decide +kernel
theorem dX4_search_1 : decode cX4_search 1 = .ok (.invokestatic 39, 3) := by decide +kernel
theorem dX4_search_4 : decode cX4_search 4 = .ok (.ifCond .eq 14, 3) := by decide +kernel
theorem dX4_search_7 : decode cX4_search 7 = .ok (.iload_n 3, 1) := by decide +kernel
theorem dX4_search_8 : decode cX4_search 8 = .ok (.invokestatic 48, 3) := by decide +kernel
theorem dX4_search_11 : decode cX4_search 11 = .ok (.ifCond .eq 7, 3) := by decide +kernel
theorem dX4_search_14 : decode cX4_search 14 = .ok (.iconst 1, 1) := by decide +kernel
theorem dX4_search_15 : decode cX4_search 15 = .ok (.goto 4, 3) := by decide +kernel
theorem dX4_search_18 : decode cX4_search 18 = .ok (.iconst 0, 1) := by decide +kernel
theorem dX4_search_19 : decode cX4_search 19 = .ok (.istore 4, 2) := by decide +kernel
theorem dX4_search_21 : decode cX4_search 21 = .ok (.aload_n 0, 1) := by decide +kernel
theorem dX4_search_22 : decode cX4_search 22 = .ok (.iload 4, 2) := by decide +kernel
theorem dX4_search_24 : decode cX4_search 24 = .ok (.iload_n 2, 1) := by decide +kernel
theorem dX4_search_25 : decode cX4_search 25 = .ok (.invokestatic 135, 3) := by decide +kernel
theorem dX4_search_28 : decode cX4_search 28 = .ok (.iload 4, 2) := by decide +kernel
theorem dX4_search_30 : decode cX4_search 30 = .ok (.ifCond .eq 28, 3) := by decide +kernel
theorem dX4_search_33 : decode cX4_search 33 = .ok (.iload_n 2, 1) := by decide +kernel
theorem dX4_search_34 : decode cX4_search 34 = .ok (.invokestatic 135, 3) := by decide +kernel
theorem dX4_search_37 : decode cX4_search 37 = .ok (.ifCond .eq 21, 3) := by decide +kernel
theorem dX4_search_40 : decode cX4_search 40 = .ok (.aload_n 0, 1) := by decide +kernel
theorem dX4_search_41 : decode cX4_search 41 = .ok (.aload_n 0, 1) := by decide +kernel
theorem dX4_search_42 : decode cX4_search 42 = .ok (.getfield 24, 3) := by decide +kernel
theorem dX4_search_45 : decode cX4_search 45 = .ok (.iload_n 1, 1) := by decide +kernel
theorem dX4_search_46 : decode cX4_search 46 = .ok (.aaload, 1) := by decide +kernel
theorem dX4_search_47 : decode cX4_search 47 = .ok (.iload_n 2, 1) := by decide +kernel
theorem dX4_search_48 : decode cX4_search 48 = .ok (.invokevirtual 149, 3) := by decide +kernel
theorem dX4_search_51 : decode cX4_search 51 = .ok (.ifCond .eq 7, 3) := by decide +kernel
theorem dX4_search_54 : decode cX4_search 54 = .ok (.iconst 1, 1) := by decide +kernel
theorem dX4_search_55 : decode cX4_search 55 = .ok (.goto 4, 3) := by decide +kernel
theorem dX4_search_58 : decode cX4_search 58 = .ok (.iconst 0, 1) := by decide +kernel
theorem dX4_search_59 : decode cX4_search 59 = .ok (.invokevirtual 55, 3) := by decide +kernel
theorem dX4_search_62 : decode cX4_search 62 = .ok (.ifCond .ne 5, 3) := by decide +kernel
theorem dX4_search_65 : decode cX4_search 65 = .ok (.iconst 0, 1) := by decide +kernel
theorem dX4_search_66 : decode cX4_search 66 = .ok (.ireturn, 1) := by decide +kernel
theorem dX4_search_67 : decode cX4_search 67 = .ok (.iconst 0, 1) := by decide +kernel
theorem dX4_search_68 : decode cX4_search 68 = .ok (.istore 5, 2) := by decide +kernel
theorem dX4_search_70 : decode cX4_search 70 = .ok (.iconst 0, 1) := by decide +kernel
theorem dX4_search_71 : decode cX4_search 71 = .ok (.istore 6, 2) := by decide +kernel
theorem dX4_search_73 : decode cX4_search 73 = .ok (.iload 6, 2) := by decide +kernel
theorem dX4_search_75 : decode cX4_search 75 = .ok (.aload_n 0, 1) := by decide +kernel
theorem dX4_search_76 : decode cX4_search 76 = .ok (.getfield 24, 3) := by decide +kernel
theorem dX4_search_79 : decode cX4_search 79 = .ok (.iload_n 1, 1) := by decide +kernel
theorem dX4_search_80 : decode cX4_search 80 = .ok (.aaload, 1) := by decide +kernel
theorem dX4_search_81 : decode cX4_search 81 = .ok (.getfield 43, 3) := by decide +kernel
theorem dX4_search_84 : decode cX4_search 84 = .ok (.if_icmp .ge 62, 3) := by decide +kernel
theorem dX4_search_87 : decode cX4_search 87 = .ok (.aload_n 0, 1) := by decide +kernel
theorem dX4_search_88 : decode cX4_search 88 = .ok (.aload_n 0, 1) := by decide +kernel
theorem dX4_search_89 : decode cX4_search 89 = .ok (.getfield 24, 3) := by decide +kernel
theorem dX4_search_92 : decode cX4_search 92 = .ok (.iload_n 1, 1) := by decide +kernel
theorem dX4_search_93 : decode cX4_search 93 = .ok (.aaload, 1) := by decide +kernel
theorem dX4_search_94 : decode cX4_search 94 = .ok (.iload 6, 2) := by decide +kernel
theorem dX4_search_96 : decode cX4_search 96 = .ok (.invokevirtual 85, 3) := by decide +kernel
theorem dX4_search_99 : decode cX4_search 99 = .ok (.iload_n 2, 1) := by decide +kernel
theorem dX4_search_100 : decode cX4_search 100 = .ok (.invokevirtual 123, 3) := by decide +kernel
theorem dX4_search_103 : decode cX4_search 103 = .ok (.istore 7, 2) := by decide +kernel
theorem dX4_search_105 : decode cX4_search 105 = .ok (.iload 7, 2) := by decide +kernel
theorem dX4_search_107 : decode cX4_search 107 = .ok (.aload_n 0, 1) := by decide +kernel
theorem dX4_search_108 : decode cX4_search 108 = .ok (.iload_n 3, 1) := by decide +kernel
theorem dX4_search_109 : decode cX4_search 109 = .ok (.iload_n 2, 1) := by decide +kernel
theorem dX4_search_110 : decode cX4_search 110 = .ok (.invokevirtual 123, 3) := by decide +kernel
theorem dX4_search_113 : decode cX4_search 113 = .ok (.if_icmp .ne 6, 3) := by decide +kernel
theorem dX4_search_116 : decode cX4_search 116 = .ok (.bipush (-2), 2) := by decide +kernel
theorem dX4_search_118 : decode cX4_search 118 = .ok (.ireturn, 1) := by decide +kernel
theorem dX4_search_119 : decode cX4_search 119 = .ok (.iload 5, 2) := by decide +kernel
theorem dX4_search_121 : decode cX4_search 121 = .ok (.iload 7, 2) := by decide +kernel
theorem dX4_search_123 : decode cX4_search 123 = .ok (.aload_n 0, 1) := by decide +kernel
theorem dX4_search_124 : decode cX4_search 124 = .ok (.iload_n 3, 1) := by decide +kernel
theorem dX4_search_125 : decode cX4_search 125 = .ok (.iload_n 2, 1) := by decide +kernel
theorem dX4_search_126 : decode cX4_search 126 = .ok (.invokevirtual 123, 3) := by decide +kernel
theorem dX4_search_129 : decode cX4_search 129 = .ok (.if_icmp .ge 7, 3) := by decide +kernel
theorem dX4_search_132 : decode cX4_search 132 = .ok (.iconst 1, 1) := by decide +kernel
theorem dX4_search_133 : decode cX4_search 133 = .ok (.goto 4, 3) := by decide +kernel
theorem dX4_search_136 : decode cX4_search 136 = .ok (.iconst 0, 1) := by decide +kernel
theorem dX4_search_137 : decode cX4_search 137 = .ok (.iadd, 1) := by decide +kernel
theorem dX4_search_138 : decode cX4_search 138 = .ok (.istore 5, 2) := by decide +kernel
theorem dX4_search_140 : decode cX4_search 140 = .ok (.iinc 6 1, 3) := by decide +kernel
theorem dX4_search_143 : decode cX4_search 143 = .ok (.goto (-70), 3) := by decide +kernel
theorem dX4_search_146 : decode cX4_search 146 = .ok (.iload 5, 2) := by decide +kernel
theorem dX4_search_148 : decode cX4_search 148 = .ok (.ireturn, 1) := by decide +kernel
theorem dX4_turn_0 : decode cX4_turn 0 = .ok (.aload_n 0, 1) := by decide +kernel
theorem dX4_turn_1 : decode cX4_turn 1 = .ok (.aload_n 0, 1) := by decide +kernel
theorem dX4_turn_2 : decode cX4_turn 2 = .ok (.iload_n 1, 1) := by decide +kernel
theorem dX4_turn_3 : decode cX4_turn 3 = .ok (.iload_n 2, 1) := by decide +kernel
theorem dX4_turn_4 : decode cX4_turn 4 = .ok (.iload_n 3, 1) := by decide +kernel
theorem dX4_turn_5 : decode cX4_turn 5 = .ok (.invokevirtual 73, 3) := by decide +kernel
theorem dX4_turn_8 : decode cX4_turn 8 = .ok (.iconst 1, 1) := by decide +kernel
theorem dX4_turn_9 : decode cX4_turn 9 = .ok (.iconst 1, 1) := by decide +kernel
theorem dX4_turn_10 : decode cX4_turn 10 = .ok (.invokevirtual 55, 3) := by decide +kernel
theorem dX4_turn_13 : decode cX4_turn 13 = .ok (.ifCond .ne 5, 3) := by decide +kernel
theorem dX4_turn_16 : decode cX4_turn 16 = .ok (.iconst 0, 1) := by decide +kernel
theorem dX4_turn_17 : decode cX4_turn 17 = .ok (.ireturn, 1) := by decide +kernel
theorem dX4_turn_18 : decode cX4_turn 18 = .ok (.iconst 0, 1) := by decide +kernel
theorem dX4_turn_19 : decode cX4_turn 19 = .ok (.istore 4, 2) := by decide +kernel
theorem dX4_turn_21 : decode cX4_turn 21 = .ok (.iload 4, 2) := by decide +kernel
theorem dX4_turn_23 : decode cX4_turn 23 = .ok (.iload_n 3, 1) := by decide +kernel
theorem dX4_turn_24 : decode cX4_turn 24 = .ok (.iload_n 2, 1) := by decide +kernel
theorem dX4_turn_25 : decode cX4_turn 25 = .ok (.isub, 1) := by decide +kernel
theorem dX4_turn_26 : decode cX4_turn 26 = .ok (.iconst 2, 1) := by decide +kernel
theorem dX4_turn_27 : decode cX4_turn 27 = .ok (.idiv, 1) := by decide +kernel
theorem dX4_turn_28 : decode cX4_turn 28 = .ok (.if_icmp .ge 28, 3) := by decide +kernel
theorem dX4_turn_31 : decode cX4_turn 31 = .ok (.aload_n 0, 1) := by decide +kernel
theorem dX4_turn_32 : decode cX4_turn 32 = .ok (.getfield 24, 3) := by decide +kernel
theorem dX4_turn_35 : decode cX4_turn 35 = .ok (.iload_n 1, 1) := by decide +kernel
theorem dX4_turn_36 : decode cX4_turn 36 = .ok (.aaload, 1) := by decide +kernel
theorem dX4_turn_37 : decode cX4_turn 37 = .ok (.iload_n 2, 1) := by decide +kernel
theorem dX4_turn_38 : decode cX4_turn 38 = .ok (.iload 4, 2) := by decide +kernel
theorem dX4_turn_40 : decode cX4_turn 40 = .ok (.iadd, 1) := by decide +kernel
theorem dX4_turn_41 : decode cX4_turn 41 = .ok (.iload_n 3, 1) := by decide +kernel
theorem dX4_turn_42 : decode cX4_turn 42 = .ok (.iconst 1, 1) := by decide +kernel
theorem dX4_turn_43 : decode cX4_turn 43 = .ok (.isub, 1) := by decide +kernel
theorem dX4_turn_44 : decode cX4_turn 44 = .ok (.iload 4, 2) := by decide +kernel
theorem dX4_turn_46 : decode cX4_turn 46 = .ok (.isub, 1) := by decide +kernel
theorem dX4_turn_47 : decode cX4_turn 47 = .ok (.invokevirtual 142, 3) := by decide +kernel
theorem dX4_turn_50 : decode cX4_turn 50 = .ok (.iinc 4 1, 3) := by decide +kernel
theorem dX4_turn_53 : decode cX4_turn 53 = .ok (.goto (-32), 3) := by decide +kernel
theorem dX4_turn_56 : decode cX4_turn 56 = .ok (.iload_n 3, 1) := by decide +kernel
theorem dX4_turn_57 : decode cX4_turn 57 = .ok (.iload_n 2, 1) := by decide +kernel
theorem dX4_turn_58 : decode cX4_turn 58 = .ok (.isub, 1) := by decide +kernel
theorem dX4_turn_59 : decode cX4_turn 59 = .ok (.ireturn, 1) := by decide +kernel
theorem dX4_move_0 : decode cX4_move 0 = .ok (.aload_n 0, 1) := by decide +kernel
theorem dX4_move_1 : decode cX4_move 1 = .ok (.aload_n 0, 1) := by decide +kernel
theorem dX4_move_2 : decode cX4_move 2 = .ok (.iload_n 1, 1) := by decide +kernel
theorem dX4_move_3 : decode cX4_move 3 = .ok (.iload_n 2, 1) := by decide +kernel
theorem dX4_move_4 : decode cX4_move 4 = .ok (.iload_n 3, 1) := by decide +kernel
theorem dX4_move_5 : decode cX4_move 5 = .ok (.invokevirtual 73, 3) := by decide +kernel
theorem dX4_move_8 : decode cX4_move 8 = .ok (.iconst 1, 1) := by decide +kernel
theorem dX4_move_9 : decode cX4_move 9 = .ok (.iconst 1, 1) := by decide +kernel
theorem dX4_move_10 : decode cX4_move 10 = .ok (.invokevirtual 55, 3) := by decide +kernel
theorem dX4_move_13 : decode cX4_move 13 = .ok (.ifCond .eq 8, 3) := by decide +kernel
theorem dX4_move_16 : decode cX4_move 16 = .ok (.iload_n 2, 1) := by decide +kernel
theorem dX4_move_17 : decode cX4_move 17 = .ok (.iload_n 3, 1) := by decide +kernel
theorem dX4_move_18 : decode cX4_move 18 = .ok (.if_icmp .ne 5, 3) := by decide +kernel
theorem dX4_move_21 : decode cX4_move 21 = .ok (.iconst 0, 1) := by decide +kernel
theorem dX4_move_22 : decode cX4_move 22 = .ok (.ireturn, 1) := by decide +kernel
theorem dX4_move_23 : decode cX4_move 23 = .ok (.iload_n 3, 1) := by decide +kernel
theorem dX4_move_24 : decode cX4_move 24 = .ok (.iload_n 2, 1) := by decide +kernel
theorem dX4_move_25 : decode cX4_move 25 = .ok (.isub, 1) := by decide +kernel
theorem dX4_move_26 : decode cX4_move 26 = .ok (.istore 5, 2) := by decide +kernel
theorem dX4_move_28 : decode cX4_move 28 = .ok (.iload 4, 2) := by decide +kernel
theorem dX4_move_30 : decode cX4_move 30 = .ok (.iload 5, 2) := by decide +kernel
theorem dX4_move_32 : decode cX4_move 32 = .ok (.irem, 1) := by decide +kernel
theorem dX4_move_33 : decode cX4_move 33 = .ok (.iload 5, 2) := by decide +kernel
theorem dX4_move_35 : decode cX4_move 35 = .ok (.iadd, 1) := by decide +kernel
theorem dX4_move_36 : decode cX4_move 36 = .ok (.iload 5, 2) := by decide +kernel
theorem dX4_move_38 : decode cX4_move 38 = .ok (.irem, 1) := by decide +kernel
theorem dX4_move_39 : decode cX4_move 39 = .ok (.istore 6, 2) := by decide +kernel
theorem dX4_move_41 : decode cX4_move 41 = .ok (.aload_n 0, 1) := by decide +kernel
theorem dX4_move_42 : decode cX4_move 42 = .ok (.getfield 31, 3) := by decide +kernel
theorem dX4_move_45 : decode cX4_move 45 = .ok (.aload_n 0, 1) := by decide +kernel
theorem dX4_move_46 : decode cX4_move 46 = .ok (.getfield 24, 3) := by decide +kernel
theorem dX4_move_49 : decode cX4_move 49 = .ok (.iload_n 1, 1) := by decide +kernel
theorem dX4_move_50 : decode cX4_move 50 = .ok (.aaload, 1) := by decide +kernel
theorem dX4_move_51 : decode cX4_move 51 = .ok (.invokevirtual 116, 3) := by decide +kernel
theorem dX4_move_54 : decode cX4_move 54 = .ok (.iconst 0, 1) := by decide +kernel
theorem dX4_move_55 : decode cX4_move 55 = .ok (.istore 7, 2) := by decide +kernel
theorem dX4_move_57 : decode cX4_move 57 = .ok (.iload 7, 2) := by decide +kernel
theorem dX4_move_59 : decode cX4_move 59 = .ok (.iload 5, 2) := by decide +kernel
theorem dX4_move_61 : decode cX4_move 61 = .ok (.if_icmp .ge 40, 3) := by decide +kernel
theorem dX4_move_64 : decode cX4_move 64 = .ok (.aload_n 0, 1) := by decide +kernel
theorem dX4_move_65 : decode cX4_move 65 = .ok (.getfield 24, 3) := by decide +kernel
theorem dX4_move_68 : decode cX4_move 68 = .ok (.iload_n 1, 1) := by decide +kernel
theorem dX4_move_69 : decode cX4_move 69 = .ok (.aaload, 1) := by decide +kernel
theorem dX4_move_70 : decode cX4_move 70 = .ok (.getfield 89, 3) := by decide +kernel
theorem dX4_move_73 : decode cX4_move 73 = .ok (.iload_n 2, 1) := by decide +kernel
theorem dX4_move_74 : decode cX4_move 74 = .ok (.iload 7, 2) := by decide +kernel
theorem dX4_move_76 : decode cX4_move 76 = .ok (.iload 6, 2) := by decide +kernel
theorem dX4_move_78 : decode cX4_move 78 = .ok (.iadd, 1) := by decide +kernel
theorem dX4_move_79 : decode cX4_move 79 = .ok (.iload 5, 2) := by decide +kernel
theorem dX4_move_81 : decode cX4_move 81 = .ok (.irem, 1) := by decide +kernel
theorem dX4_move_82 : decode cX4_move 82 = .ok (.iadd, 1) := by decide +kernel
theorem dX4_move_83 : decode cX4_move 83 = .ok (.aload_n 0, 1) := by decide +kernel
theorem dX4_move_84 : decode cX4_move 84 = .ok (.getfield 31, 3) := by decide +kernel
theorem dX4_move_87 : decode cX4_move 87 = .ok (.iload_n 2, 1) := by decide +kernel
theorem dX4_move_88 : decode cX4_move 88 = .ok (.iload 7, 2) := by decide +kernel
theorem dX4_move_90 : decode cX4_move 90 = .ok (.iadd, 1) := by decide +kernel
theorem dX4_move_91 : decode cX4_move 91 = .ok (.invokevirtual 85, 3) := by decide +kernel
theorem dX4_move_94 : decode cX4_move 94 = .ok (.iastore, 1) := by decide +kernel
theorem dX4_move_95 : decode cX4_move 95 = .ok (.iinc 7 1, 3) := by decide +kernel
theorem dX4_move_98 : decode cX4_move 98 = .ok (.goto (-41), 3) := by decide +kernel
theorem dX4_move_101 : decode cX4_move 101 = .ok (.iload 6, 2) := by decide +kernel
theorem dX4_move_103 : decode cX4_move 103 = .ok (.ireturn, 1) := by decide +kernel
theorem dX4_swap_0 : decode cX4_swap 0 = .ok (.aload_n 0, 1) := by decide +kernel
theorem dX4_swap_1 : decode cX4_swap 1 = .ok (.aload_n 0, 1) := by decide +kernel
theorem dX4_swap_2 : decode cX4_swap 2 = .ok (.iload_n 1, 1) := by decide +kernel
theorem dX4_swap_3 : decode cX4_swap 3 = .ok (.iload_n 2, 1) := by decide +kernel
theorem dX4_swap_4 : decode cX4_swap 4 = .ok (.invokevirtual 81, 3) := by decide +kernel
theorem dX4_swap_7 : decode cX4_swap 7 = .ok (.ifCond .eq 16, 3) := by decide +kernel
theorem dX4_swap_10 : decode cX4_swap 10 = .ok (.aload_n 0, 1) := by decide +kernel
theorem dX4_swap_11 : decode cX4_swap 11 = .ok (.iload_n 1, 1) := by decide +kernel
theorem dX4_swap_12 : decode cX4_swap 12 = .ok (.iload_n 3, 1) := by decide +kernel
theorem dX4_swap_13 : decode cX4_swap 13 = .ok (.invokevirtual 81, 3) := by decide +kernel
theorem dX4_swap_16 : decode cX4_swap 16 = .ok (.ifCond .eq 7, 3) := by decide +kernel
theorem dX4_swap_19 : decode cX4_swap 19 = .ok (.iconst 1, 1) := by decide +kernel
theorem dX4_swap_20 : decode cX4_swap 20 = .ok (.goto 4, 3) := by decide +kernel
theorem dX4_swap_23 : decode cX4_swap 23 = .ok (.iconst 0, 1) := by decide +kernel
theorem dX4_swap_24 : decode cX4_swap 24 = .ok (.iconst 1, 1) := by decide +kernel
theorem dX4_swap_25 : decode cX4_swap 25 = .ok (.iconst 1, 1) := by decide +kernel
theorem dX4_swap_26 : decode cX4_swap 26 = .ok (.invokevirtual 55, 3) := by decide +kernel
theorem dX4_swap_29 : decode cX4_swap 29 = .ok (.ifCond .ne 5, 3) := by decide +kernel
theorem dX4_swap_32 : decode cX4_swap 32 = .ok (.iconst 0, 1) := by decide +kernel
theorem dX4_swap_33 : decode cX4_swap 33 = .ok (.ireturn, 1) := by decide +kernel
theorem dX4_swap_34 : decode cX4_swap 34 = .ok (.aload_n 0, 1) := by decide +kernel
theorem dX4_swap_35 : decode cX4_swap 35 = .ok (.getfield 24, 3) := by decide +kernel
theorem dX4_swap_38 : decode cX4_swap 38 = .ok (.iload_n 1, 1) := by decide +kernel
theorem dX4_swap_39 : decode cX4_swap 39 = .ok (.aaload, 1) := by decide +kernel
theorem dX4_swap_40 : decode cX4_swap 40 = .ok (.iload_n 2, 1) := by decide +kernel
theorem dX4_swap_41 : decode cX4_swap 41 = .ok (.iload_n 3, 1) := by decide +kernel
theorem dX4_swap_42 : decode cX4_swap 42 = .ok (.invokevirtual 142, 3) := by decide +kernel
theorem dX4_swap_45 : decode cX4_swap 45 = .ok (.aload_n 0, 1) := by decide +kernel
theorem dX4_swap_46 : decode cX4_swap 46 = .ok (.getfield 24, 3) := by decide +kernel
theorem dX4_swap_49 : decode cX4_swap 49 = .ok (.iload_n 1, 1) := by decide +kernel
theorem dX4_swap_50 : decode cX4_swap 50 = .ok (.aaload, 1) := by decide +kernel
theorem dX4_swap_51 : decode cX4_swap 51 = .ok (.iload_n 2, 1) := by decide +kernel
theorem dX4_swap_52 : decode cX4_swap 52 = .ok (.invokevirtual 85, 3) := by decide +kernel
theorem dX4_swap_55 : decode cX4_swap 55 = .ok (.ireturn, 1) := by decide +kernel
theorem dX4_fill_0 : decode cX4_fill 0 = .ok (.aload_n 0, 1) := by decide +kernel
theorem dX4_fill_1 : decode cX4_fill 1 = .ok (.aload_n 0, 1) := by decide +kernel
theorem dX4_fill_2 : decode cX4_fill 2 = .ok (.iload_n 1, 1) := by decide +kernel
theorem dX4_fill_3 : decode cX4_fill 3 = .ok (.iload_n 2, 1) := by decide +kernel
theorem dX4_fill_4 : decode cX4_fill 4 = .ok (.iload_n 3, 1) := by decide +kernel
theorem dX4_fill_5 : decode cX4_fill 5 = .ok (.invokevirtual 73, 3) := by decide +kernel
theorem dX4_fill_8 : decode cX4_fill 8 = .ok (.ifCond .eq 15, 3) := by decide +kernel
theorem dX4_fill_11 : decode cX4_fill 11 = .ok (.iload 4, 2) := by decide +kernel
theorem dX4_fill_13 : decode cX4_fill 13 = .ok (.invokestatic 48, 3) := by decide +kernel
theorem dX4_fill_16 : decode cX4_fill 16 = .ok (.ifCond .eq 7, 3) := by decide +kernel
theorem dX4_fill_19 : decode cX4_fill 19 = .ok (.iconst 1, 1) := by decide +kernel
theorem dX4_fill_20 : decode cX4_fill 20 = .ok (.goto 4, 3) := by decide +kernel
theorem dX4_fill_23 : decode cX4_fill 23 = .ok (.iconst 0, 1) := by decide +kernel
theorem dX4_fill_24 : decode cX4_fill 24 = .ok (.iconst 1, 1) := by decide +kernel
theorem dX4_fill_25 : decode cX4_fill 25 = .ok (.iconst 1, 1) := by decide +kernel
theorem dX4_fill_26 : decode cX4_fill 26 = .ok (.invokevirtual 55, 3) := by decide +kernel
theorem dX4_fill_29 : decode cX4_fill 29 = .ok (.ifCond .ne 5, 3) := by decide +kernel
theorem dX4_fill_32 : decode cX4_fill 32 = .ok (.iconst 0, 1) := by decide +kernel
theorem dX4_fill_33 : decode cX4_fill 33 = .ok (.ireturn, 1) := by decide +kernel
theorem dX4_fill_34 : decode cX4_fill 34 = .ok (.iconst 0, 1) := by decide +kernel
theorem dX4_fill_35 : decode cX4_fill 35 = .ok (.istore 5, 2) := by decide +kernel
theorem dX4_fill_37 : decode cX4_fill 37 = .ok (.iload_n 2, 1) := by decide +kernel
theorem dX4_fill_38 : decode cX4_fill 38 = .ok (.istore 6, 2) := by decide +kernel
theorem dX4_fill_40 : decode cX4_fill 40 = .ok (.iload 6, 2) := by decide +kernel
theorem dX4_fill_42 : decode cX4_fill 42 = .ok (.iload_n 3, 1) := by decide +kernel
theorem dX4_fill_43 : decode cX4_fill 43 = .ok (.if_icmp .ge 49, 3) := by decide +kernel
theorem dX4_fill_46 : decode cX4_fill 46 = .ok (.iload 5, 2) := by decide +kernel
theorem dX4_fill_48 : decode cX4_fill 48 = .ok (.aload_n 0, 1) := by decide +kernel
theorem dX4_fill_49 : decode cX4_fill 49 = .ok (.getfield 24, 3) := by decide +kernel
theorem dX4_fill_52 : decode cX4_fill 52 = .ok (.iload_n 1, 1) := by decide +kernel
theorem dX4_fill_53 : decode cX4_fill 53 = .ok (.aaload, 1) := by decide +kernel
theorem dX4_fill_54 : decode cX4_fill 54 = .ok (.iload 6, 2) := by decide +kernel
theorem dX4_fill_56 : decode cX4_fill 56 = .ok (.invokevirtual 85, 3) := by decide +kernel
theorem dX4_fill_59 : decode cX4_fill 59 = .ok (.iload 4, 2) := by decide +kernel
theorem dX4_fill_61 : decode cX4_fill 61 = .ok (.if_icmp .ne 7, 3) := by decide +kernel
theorem dX4_fill_64 : decode cX4_fill 64 = .ok (.iconst 0, 1) := by decide +kernel
theorem dX4_fill_65 : decode cX4_fill 65 = .ok (.goto 4, 3) := by decide +kernel
theorem dX4_fill_68 : decode cX4_fill 68 = .ok (.iconst 1, 1) := by decide +kernel
theorem dX4_fill_69 : decode cX4_fill 69 = .ok (.iadd, 1) := by decide +kernel
theorem dX4_fill_70 : decode cX4_fill 70 = .ok (.istore 5, 2) := by decide +kernel
theorem dX4_fill_72 : decode cX4_fill 72 = .ok (.aload_n 0, 1) := by decide +kernel
theorem dX4_fill_73 : decode cX4_fill 73 = .ok (.getfield 24, 3) := by decide +kernel
theorem dX4_fill_76 : decode cX4_fill 76 = .ok (.iload_n 1, 1) := by decide +kernel
theorem dX4_fill_77 : decode cX4_fill 77 = .ok (.aaload, 1) := by decide +kernel
theorem dX4_fill_78 : decode cX4_fill 78 = .ok (.getfield 89, 3) := by decide +kernel
theorem dX4_fill_81 : decode cX4_fill 81 = .ok (.iload 6, 2) := by decide +kernel
theorem dX4_fill_83 : decode cX4_fill 83 = .ok (.iload 4, 2) := by decide +kernel
theorem dX4_fill_85 : decode cX4_fill 85 = .ok (.iastore, 1) := by decide +kernel
theorem dX4_fill_86 : decode cX4_fill 86 = .ok (.iinc 6 1, 3) := by decide +kernel
theorem dX4_fill_89 : decode cX4_fill 89 = .ok (.goto (-49), 3) := by decide +kernel
theorem dX4_fill_92 : decode cX4_fill 92 = .ok (.iload 5, 2) := by decide +kernel
theorem dX4_fill_94 : decode cX4_fill 94 = .ok (.ireturn, 1) := by decide +kernel
theorem dX4_copy_0 : decode cX4_copy 0 = .ok (.iload_n 1, 1) := by decide +kernel
theorem dX4_copy_1 : decode cX4_copy 1 = .ok (.invokestatic 39, 3) := by decide +kernel
theorem dX4_copy_4 : decode cX4_copy 4 = .ok (.ifCond .eq 14, 3) := by decide +kernel
theorem dX4_copy_7 : decode cX4_copy 7 = .ok (.iload_n 2, 1) := by decide +kernel
theorem dX4_copy_8 : decode cX4_copy 8 = .ok (.invokestatic 39, 3) := by decide +kernel
theorem dX4_copy_11 : decode cX4_copy 11 = .ok (.ifCond .eq 7, 3) := by decide +kernel
theorem dX4_copy_14 : decode cX4_copy 14 = .ok (.iconst 1, 1) := by decide +kernel
theorem dX4_copy_15 : decode cX4_copy 15 = .ok (.goto 4, 3) := by decide +kernel
theorem dX4_copy_18 : decode cX4_copy 18 = .ok (.iconst 0, 1) := by decide +kernel
theorem dX4_copy_19 : decode cX4_copy 19 = .ok (.istore_n 3, 1) := by decide +kernel
theorem dX4_copy_20 : decode cX4_copy 20 = .ok (.aload_n 0, 1) := by decide +kernel
theorem dX4_copy_21 : decode cX4_copy 21 = .ok (.iload_n 3, 1) := by decide +kernel
theorem dX4_copy_22 : decode cX4_copy 22 = .ok (.iload_n 3, 1) := by decide +kernel
theorem dX4_copy_23 : decode cX4_copy 23 = .ok (.ifCond .eq 28, 3) := by decide +kernel
theorem dX4_copy_26 : decode cX4_copy 26 = .ok (.aload_n 0, 1) := by decide +kernel
theorem dX4_copy_27 : decode cX4_copy 27 = .ok (.getfield 24, 3) := by decide +kernel
theorem dX4_copy_30 : decode cX4_copy 30 = .ok (.iload_n 2, 1) := by decide +kernel
theorem dX4_copy_31 : decode cX4_copy 31 = .ok (.aaload, 1) := by decide +kernel
theorem dX4_copy_32 : decode cX4_copy 32 = .ok (.getfield 43, 3) := by decide +kernel
theorem dX4_copy_35 : decode cX4_copy 35 = .ok (.aload_n 0, 1) := by decide +kernel
theorem dX4_copy_36 : decode cX4_copy 36 = .ok (.getfield 24, 3) := by decide +kernel
theorem dX4_copy_39 : decode cX4_copy 39 = .ok (.iload_n 1, 1) := by decide +kernel
theorem dX4_copy_40 : decode cX4_copy 40 = .ok (.aaload, 1) := by decide +kernel
theorem dX4_copy_41 : decode cX4_copy 41 = .ok (.getfield 43, 3) := by decide +kernel
theorem dX4_copy_44 : decode cX4_copy 44 = .ok (.if_icmp .lt 7, 3) := by decide +kernel
theorem dX4_copy_47 : decode cX4_copy 47 = .ok (.iconst 1, 1) := by decide +kernel
theorem dX4_copy_48 : decode cX4_copy 48 = .ok (.goto 4, 3) := by decide +kernel
theorem dX4_copy_51 : decode cX4_copy 51 = .ok (.iconst 0, 1) := by decide +kernel
theorem dX4_copy_52 : decode cX4_copy 52 = .ok (.iconst 1, 1) := by decide +kernel
theorem dX4_copy_53 : decode cX4_copy 53 = .ok (.invokevirtual 55, 3) := by decide +kernel
theorem dX4_copy_56 : decode cX4_copy 56 = .ok (.ifCond .ne 5, 3) := by decide +kernel
theorem dX4_copy_59 : decode cX4_copy 59 = .ok (.iconst 0, 1) := by decide +kernel
theorem dX4_copy_60 : decode cX4_copy 60 = .ok (.ireturn, 1) := by decide +kernel
theorem dX4_copy_61 : decode cX4_copy 61 = .ok (.iconst 0, 1) := by decide +kernel
theorem dX4_copy_62 : decode cX4_copy 62 = .ok (.istore 4, 2) := by decide +kernel
theorem dX4_copy_64 : decode cX4_copy 64 = .ok (.iload 4, 2) := by decide +kernel
theorem dX4_copy_66 : decode cX4_copy 66 = .ok (.aload_n 0, 1) := by decide +kernel
theorem dX4_copy_67 : decode cX4_copy 67 = .ok (.getfield 24, 3) := by decide +kernel
theorem dX4_copy_70 : decode cX4_copy 70 = .ok (.iload_n 1, 1) := by decide +kernel
theorem dX4_copy_71 : decode cX4_copy 71 = .ok (.aaload, 1) := by decide +kernel
theorem dX4_copy_72 : decode cX4_copy 72 = .ok (.getfield 43, 3) := by decide +kernel
theorem dX4_copy_75 : decode cX4_copy 75 = .ok (.if_icmp .ge 32, 3) := by decide +kernel
theorem dX4_copy_78 : decode cX4_copy 78 = .ok (.aload_n 0, 1) := by decide +kernel
theorem dX4_copy_79 : decode cX4_copy 79 = .ok (.getfield 24, 3) := by decide +kernel
theorem dX4_copy_82 : decode cX4_copy 82 = .ok (.iload_n 2, 1) := by decide +kernel
theorem dX4_copy_83 : decode cX4_copy 83 = .ok (.aaload, 1) := by decide +kernel
theorem dX4_copy_84 : decode cX4_copy 84 = .ok (.getfield 89, 3) := by decide +kernel
theorem dX4_copy_87 : decode cX4_copy 87 = .ok (.iload 4, 2) := by decide +kernel
theorem dX4_copy_89 : decode cX4_copy 89 = .ok (.aload_n 0, 1) := by decide +kernel
theorem dX4_copy_90 : decode cX4_copy 90 = .ok (.getfield 24, 3) := by decide +kernel
theorem dX4_copy_93 : decode cX4_copy 93 = .ok (.iload_n 1, 1) := by decide +kernel
theorem dX4_copy_94 : decode cX4_copy 94 = .ok (.aaload, 1) := by decide +kernel
theorem dX4_copy_95 : decode cX4_copy 95 = .ok (.iload 4, 2) := by decide +kernel
theorem dX4_copy_97 : decode cX4_copy 97 = .ok (.invokevirtual 85, 3) := by decide +kernel
theorem dX4_copy_100 : decode cX4_copy 100 = .ok (.iastore, 1) := by decide +kernel
theorem dX4_copy_101 : decode cX4_copy 101 = .ok (.iinc 4 1, 3) := by decide +kernel
theorem dX4_copy_104 : decode cX4_copy 104 = .ok (.goto (-40), 3) := by decide +kernel
theorem dX4_copy_107 : decode cX4_copy 107 = .ok (.aload_n 0, 1) := by decide +kernel
theorem dX4_copy_108 : decode cX4_copy 108 = .ok (.getfield 24, 3) := by decide +kernel
theorem dX4_copy_111 : decode cX4_copy 111 = .ok (.iload_n 2, 1) := by decide +kernel
theorem dX4_copy_112 : decode cX4_copy 112 = .ok (.aaload, 1) := by decide +kernel
theorem dX4_copy_113 : decode cX4_copy 113 = .ok (.getfield 43, 3) := by decide +kernel
theorem dX4_copy_116 : decode cX4_copy 116 = .ok (.ireturn, 1) := by decide +kernel
theorem dX4_stands_0 : decode cX4_stands 0 = .ok (.iload_n 2, 1) := by decide +kernel
theorem dX4_stands_1 : decode cX4_stands 1 = .ok (.istore_n 3, 1) := by decide +kernel
theorem dX4_stands_2 : decode cX4_stands 2 = .ok (.iconst (-1), 1) := by decide +kernel
theorem dX4_stands_3 : decode cX4_stands 3 = .ok (.istore 4, 2) := by decide +kernel
theorem dX4_stands_5 : decode cX4_stands 5 = .ok (.iconst 0, 1) := by decide +kernel
theorem dX4_stands_6 : decode cX4_stands 6 = .ok (.istore 5, 2) := by decide +kernel
theorem dX4_stands_8 : decode cX4_stands 8 = .ok (.iload_n 1, 1) := by decide +kernel
theorem dX4_stands_9 : decode cX4_stands 9 = .ok (.invokestatic 48, 3) := by decide +kernel
theorem dX4_stands_12 : decode cX4_stands 12 = .ok (.ifCond .eq 86, 3) := by decide +kernel
theorem dX4_stands_15 : decode cX4_stands 15 = .ok (.iload_n 2, 1) := by decide +kernel
theorem dX4_stands_16 : decode cX4_stands 16 = .ok (.ifCond .lt 82, 3) := by decide +kernel
theorem dX4_stands_19 : decode cX4_stands 19 = .ok (.iload 5, 2) := by decide +kernel
theorem dX4_stands_21 : decode cX4_stands 21 = .ok (.iconst 4, 1) := by decide +kernel
theorem dX4_stands_22 : decode cX4_stands 22 = .ok (.if_icmp .ge 76, 3) := by decide +kernel
theorem dX4_stands_25 : decode cX4_stands 25 = .ok (.iconst 0, 1) := by decide +kernel
theorem dX4_stands_26 : decode cX4_stands 26 = .ok (.istore 6, 2) := by decide +kernel
theorem dX4_stands_28 : decode cX4_stands 28 = .ok (.iload 6, 2) := by decide +kernel
theorem dX4_stands_30 : decode cX4_stands 30 = .ok (.aload_n 0, 1) := by decide +kernel
theorem dX4_stands_31 : decode cX4_stands 31 = .ok (.getfield 24, 3) := by decide +kernel
theorem dX4_stands_34 : decode cX4_stands 34 = .ok (.iload 5, 2) := by decide +kernel
theorem dX4_stands_36 : decode cX4_stands 36 = .ok (.aaload, 1) := by decide +kernel
theorem dX4_stands_37 : decode cX4_stands 37 = .ok (.getfield 43, 3) := by decide +kernel
theorem dX4_stands_40 : decode cX4_stands 40 = .ok (.if_icmp .ge 52, 3) := by decide +kernel
theorem dX4_stands_43 : decode cX4_stands 43 = .ok (.iload 4, 2) := by decide +kernel
theorem dX4_stands_45 : decode cX4_stands 45 = .ok (.iconst (-1), 1) := by decide +kernel
theorem dX4_stands_46 : decode cX4_stands 46 = .ok (.if_icmp .ne 46, 3) := by decide +kernel
theorem dX4_stands_49 : decode cX4_stands 49 = .ok (.aload_n 0, 1) := by decide +kernel
theorem dX4_stands_50 : decode cX4_stands 50 = .ok (.getfield 24, 3) := by decide +kernel
theorem dX4_stands_53 : decode cX4_stands 53 = .ok (.iload 5, 2) := by decide +kernel
theorem dX4_stands_55 : decode cX4_stands 55 = .ok (.aaload, 1) := by decide +kernel
theorem dX4_stands_56 : decode cX4_stands 56 = .ok (.iload 6, 2) := by decide +kernel
theorem dX4_stands_58 : decode cX4_stands 58 = .ok (.invokevirtual 85, 3) := by decide +kernel
theorem dX4_stands_61 : decode cX4_stands 61 = .ok (.iload_n 1, 1) := by decide +kernel
theorem dX4_stands_62 : decode cX4_stands 62 = .ok (.if_icmp .ne 24, 3) := by decide +kernel
theorem dX4_stands_65 : decode cX4_stands 65 = .ok (.iload_n 3, 1) := by decide +kernel
theorem dX4_stands_66 : decode cX4_stands 66 = .ok (.ifCond .ne 14, 3) := by decide +kernel
theorem dX4_stands_69 : decode cX4_stands 69 = .ok (.bipush 100, 2) := by decide +kernel
theorem dX4_stands_71 : decode cX4_stands 71 = .ok (.iload 5, 2) := by decide +kernel
theorem dX4_stands_73 : decode cX4_stands 73 = .ok (.imul, 1) := by decide +kernel
theorem dX4_stands_74 : decode cX4_stands 74 = .ok (.iload 6, 2) := by decide +kernel
theorem dX4_stands_76 : decode cX4_stands 76 = .ok (.iadd, 1) := by decide +kernel
theorem dX4_stands_77 : decode cX4_stands 77 = .ok (.goto 4, 3) := by decide +kernel
theorem dX4_stands_80 : decode cX4_stands 80 = .ok (.iconst (-1), 1) := by decide +kernel
theorem dX4_stands_81 : decode cX4_stands 81 = .ok (.istore 4, 2) := by decide +kernel
theorem dX4_stands_83 : decode cX4_stands 83 = .ok (.iinc 3 (-1), 3) := by decide +kernel
theorem dX4_stands_86 : decode cX4_stands 86 = .ok (.iinc 6 1, 3) := by decide +kernel
theorem dX4_stands_89 : decode cX4_stands 89 = .ok (.goto (-61), 3) := by decide +kernel
theorem dX4_stands_92 : decode cX4_stands 92 = .ok (.iinc 5 1, 3) := by decide +kernel
theorem dX4_stands_95 : decode cX4_stands 95 = .ok (.goto (-87), 3) := by decide +kernel
theorem dX4_stands_98 : decode cX4_stands 98 = .ok (.aload_n 0, 1) := by decide +kernel
theorem dX4_stands_99 : decode cX4_stands 99 = .ok (.iload_n 1, 1) := by decide +kernel
theorem dX4_stands_100 : decode cX4_stands 100 = .ok (.invokestatic 48, 3) := by decide +kernel
theorem dX4_stands_103 : decode cX4_stands 103 = .ok (.iload 4, 2) := by decide +kernel
theorem dX4_stands_105 : decode cX4_stands 105 = .ok (.iconst (-1), 1) := by decide +kernel
theorem dX4_stands_106 : decode cX4_stands 106 = .ok (.if_icmp .eq 7, 3) := by decide +kernel
theorem dX4_stands_109 : decode cX4_stands 109 = .ok (.iconst 1, 1) := by decide +kernel
theorem dX4_stands_110 : decode cX4_stands 110 = .ok (.goto 4, 3) := by decide +kernel
theorem dX4_stands_113 : decode cX4_stands 113 = .ok (.iconst 0, 1) := by decide +kernel
theorem dX4_stands_114 : decode cX4_stands 114 = .ok (.iconst 1, 1) := by decide +kernel
theorem dX4_stands_115 : decode cX4_stands 115 = .ok (.invokevirtual 55, 3) := by decide +kernel
theorem dX4_stands_118 : decode cX4_stands 118 = .ok (.ifCond .eq 8, 3) := by decide +kernel
theorem dX4_stands_121 : decode cX4_stands 121 = .ok (.iload 4, 2) := by decide +kernel
theorem dX4_stands_123 : decode cX4_stands 123 = .ok (.goto 4, 3) := by decide +kernel
theorem dX4_stands_126 : decode cX4_stands 126 = .ok (.iconst 0, 1) := by decide +kernel
theorem dX4_stands_127 : decode cX4_stands 127 = .ok (.ireturn, 1) := by decide +kernel
theorem dX4_near_0 : decode cX4_near 0 = .ok (.aload_n 0, 1) := by decide +kernel
theorem dX4_near_1 : decode cX4_near 1 = .ok (.aload_n 0, 1) := by decide +kernel
theorem dX4_near_2 : decode cX4_near 2 = .ok (.iload_n 1, 1) := by decide +kernel
theorem dX4_near_3 : decode cX4_near 3 = .ok (.iload_n 2, 1) := by decide +kernel
theorem dX4_near_4 : decode cX4_near 4 = .ok (.invokevirtual 81, 3) := by decide +kernel
theorem dX4_near_7 : decode cX4_near 7 = .ok (.ifCond .eq 14, 3) := by decide +kernel
theorem dX4_near_10 : decode cX4_near 10 = .ok (.iload_n 3, 1) := by decide +kernel
theorem dX4_near_11 : decode cX4_near 11 = .ok (.invokestatic 48, 3) := by decide +kernel
theorem dX4_near_14 : decode cX4_near 14 = .ok (.ifCond .eq 7, 3) := by decide +kernel
theorem dX4_near_17 : decode cX4_near 17 = .ok (.iconst 1, 1) := by decide +kernel
theorem dX4_near_18 : decode cX4_near 18 = .ok (.goto 4, 3) := by decide +kernel
theorem dX4_near_21 : decode cX4_near 21 = .ok (.iconst 0, 1) := by decide +kernel
theorem dX4_near_22 : decode cX4_near 22 = .ok (.iconst 1, 1) := by decide +kernel
theorem dX4_near_23 : decode cX4_near 23 = .ok (.iconst 1, 1) := by decide +kernel
theorem dX4_near_24 : decode cX4_near 24 = .ok (.invokevirtual 55, 3) := by decide +kernel
theorem dX4_near_27 : decode cX4_near 27 = .ok (.ifCond .ne 5, 3) := by decide +kernel
theorem dX4_near_30 : decode cX4_near 30 = .ok (.iconst 0, 1) := by decide +kernel
theorem dX4_near_31 : decode cX4_near 31 = .ok (.ireturn, 1) := by decide +kernel
theorem dX4_near_32 : decode cX4_near 32 = .ok (.iconst (-1), 1) := by decide +kernel
theorem dX4_near_33 : decode cX4_near 33 = .ok (.istore 4, 2) := by decide +kernel
theorem dX4_near_35 : decode cX4_near 35 = .ok (.iconst 0, 1) := by decide +kernel
theorem dX4_near_36 : decode cX4_near 36 = .ok (.istore 5, 2) := by decide +kernel
theorem dX4_near_38 : decode cX4_near 38 = .ok (.iload 5, 2) := by decide +kernel
theorem dX4_near_40 : decode cX4_near 40 = .ok (.aload_n 0, 1) := by decide +kernel
theorem dX4_near_41 : decode cX4_near 41 = .ok (.getfield 24, 3) := by decide +kernel
theorem dX4_near_44 : decode cX4_near 44 = .ok (.iload_n 1, 1) := by decide +kernel
theorem dX4_near_45 : decode cX4_near 45 = .ok (.aaload, 1) := by decide +kernel
theorem dX4_near_46 : decode cX4_near 46 = .ok (.getfield 43, 3) := by decide +kernel
theorem dX4_near_49 : decode cX4_near 49 = .ok (.if_icmp .ge 68, 3) := by decide +kernel
theorem dX4_near_52 : decode cX4_near 52 = .ok (.aload_n 0, 1) := by decide +kernel
theorem dX4_near_53 : decode cX4_near 53 = .ok (.getfield 24, 3) := by decide +kernel
theorem dX4_near_56 : decode cX4_near 56 = .ok (.iload_n 1, 1) := by decide +kernel
theorem dX4_near_57 : decode cX4_near 57 = .ok (.aaload, 1) := by decide +kernel
theorem dX4_near_58 : decode cX4_near 58 = .ok (.iload 5, 2) := by decide +kernel
theorem dX4_near_60 : decode cX4_near 60 = .ok (.invokevirtual 85, 3) := by decide +kernel
theorem dX4_near_63 : decode cX4_near 63 = .ok (.iload_n 3, 1) := by decide +kernel
theorem dX4_near_64 : decode cX4_near 64 = .ok (.if_icmp .ne 7, 3) := by decide +kernel
theorem dX4_near_67 : decode cX4_near 67 = .ok (.iconst 1, 1) := by decide +kernel
theorem dX4_near_68 : decode cX4_near 68 = .ok (.goto 4, 3) := by decide +kernel
theorem dX4_near_71 : decode cX4_near 71 = .ok (.iconst 0, 1) := by decide +kernel
theorem dX4_near_72 : decode cX4_near 72 = .ok (.istore 6, 2) := by decide +kernel
theorem dX4_near_74 : decode cX4_near 74 = .ok (.iload 6, 2) := by decide +kernel
theorem dX4_near_76 : decode cX4_near 76 = .ok (.ifCond .eq 31, 3) := by decide +kernel
theorem dX4_near_79 : decode cX4_near 79 = .ok (.iload 4, 2) := by decide +kernel
theorem dX4_near_81 : decode cX4_near 81 = .ok (.iconst (-1), 1) := by decide +kernel
theorem dX4_near_82 : decode cX4_near 82 = .ok (.if_icmp .eq 20, 3) := by decide +kernel
theorem dX4_near_85 : decode cX4_near 85 = .ok (.iload 5, 2) := by decide +kernel
theorem dX4_near_87 : decode cX4_near 87 = .ok (.iload_n 2, 1) := by decide +kernel
theorem dX4_near_88 : decode cX4_near 88 = .ok (.isub, 1) := by decide +kernel
theorem dX4_near_89 : decode cX4_near 89 = .ok (.invokestatic 152, 3) := by decide +kernel
theorem dX4_near_92 : decode cX4_near 92 = .ok (.iload 4, 2) := by decide +kernel
theorem dX4_near_94 : decode cX4_near 94 = .ok (.iload_n 2, 1) := by decide +kernel
theorem dX4_near_95 : decode cX4_near 95 = .ok (.isub, 1) := by decide +kernel
theorem dX4_near_96 : decode cX4_near 96 = .ok (.invokestatic 152, 3) := by decide +kernel
theorem dX4_near_99 : decode cX4_near 99 = .ok (.if_icmp .ge 8, 3) := by decide +kernel
theorem dX4_near_102 : decode cX4_near 102 = .ok (.iload 5, 2) := by decide +kernel
theorem dX4_near_104 : decode cX4_near 104 = .ok (.goto 5, 3) := by decide +kernel
theorem dX4_near_107 : decode cX4_near 107 = .ok (.iload 4, 2) := by decide +kernel
theorem dX4_near_109 : decode cX4_near 109 = .ok (.istore 4, 2) := by decide +kernel
theorem dX4_near_111 : decode cX4_near 111 = .ok (.iinc 5 1, 3) := by decide +kernel
theorem dX4_near_114 : decode cX4_near 114 = .ok (.goto (-76), 3) := by decide +kernel
theorem dX4_near_117 : decode cX4_near 117 = .ok (.iload 4, 2) := by decide +kernel
theorem dX4_near_119 : decode cX4_near 119 = .ok (.ireturn, 1) := by decide +kernel
theorem dX4_common_0 : decode cX4_common 0 = .ok (.aload_n 0, 1) := by decide +kernel
theorem dX4_common_1 : decode cX4_common 1 = .ok (.iload_n 1, 1) := by decide +kernel
theorem dX4_common_2 : decode cX4_common 2 = .ok (.invokestatic 39, 3) := by decide +kernel
theorem dX4_common_5 : decode cX4_common 5 = .ok (.ifCond .eq 14, 3) := by decide +kernel
theorem dX4_common_8 : decode cX4_common 8 = .ok (.iload_n 2, 1) := by decide +kernel
theorem dX4_common_9 : decode cX4_common 9 = .ok (.invokestatic 39, 3) := by decide +kernel
theorem dX4_common_12 : decode cX4_common 12 = .ok (.ifCond .eq 7, 3) := by decide +kernel
theorem dX4_common_15 : decode cX4_common 15 = .ok (.iconst 1, 1) := by decide +kernel
theorem dX4_common_16 : decode cX4_common 16 = .ok (.goto 4, 3) := by decide +kernel
theorem dX4_common_19 : decode cX4_common 19 = .ok (.iconst 0, 1) := by decide +kernel
theorem dX4_common_20 : decode cX4_common 20 = .ok (.iload_n 3, 1) := by decide +kernel
theorem dX4_common_21 : decode cX4_common 21 = .ok (.i2l, 1) := by decide +kernel
theorem dX4_common_22 : decode cX4_common 22 = .ok (.lconst 0, 1) := by decide +kernel
theorem dX4_common_23 : decode cX4_common 23 = .ok (.ldc2_w 155, 3) := by decide +kernel
theorem dX4_common_26 : decode cX4_common 26 = .ok (.invokestatic 9, 3) := by decide +kernel
theorem dX4_common_29 : decode cX4_common 29 = .ok (.iconst 1, 1) := by decide +kernel
theorem dX4_common_30 : decode cX4_common 30 = .ok (.invokevirtual 55, 3) := by decide +kernel
theorem dX4_common_33 : decode cX4_common 33 = .ok (.ifCond .ne 5, 3) := by decide +kernel
theorem dX4_common_36 : decode cX4_common 36 = .ok (.iconst 0, 1) := by decide +kernel
theorem dX4_common_37 : decode cX4_common 37 = .ok (.ireturn, 1) := by decide +kernel
theorem dX4_common_38 : decode cX4_common 38 = .ok (.iconst 3, 1) := by decide +kernel
theorem dX4_common_39 : decode cX4_common 39 = .ok (.newarray .int, 2) := by decide +kernel
theorem dX4_common_41 : decode cX4_common 41 = .ok (.dup, 1) := by decide +kernel
theorem dX4_common_42 : decode cX4_common 42 = .ok (.iconst 0, 1) := by decide +kernel
theorem dX4_common_43 : decode cX4_common 43 = .ok (.iconst 0, 1) := by decide +kernel
theorem dX4_common_44 : decode cX4_common 44 = .ok (.iastore, 1) := by decide +kernel
theorem dX4_common_45 : decode cX4_common 45 = .ok (.dup, 1) := by decide +kernel
theorem dX4_common_46 : decode cX4_common 46 = .ok (.iconst 1, 1) := by decide +kernel
theorem dX4_common_47 : decode cX4_common 47 = .ok (.iconst 0, 1) := by decide +kernel
theorem dX4_common_48 : decode cX4_common 48 = .ok (.iastore, 1) := by decide +kernel
theorem dX4_common_49 : decode cX4_common 49 = .ok (.dup, 1) := by decide +kernel
theorem dX4_common_50 : decode cX4_common 50 = .ok (.iconst 2, 1) := by decide +kernel
theorem dX4_common_51 : decode cX4_common 51 = .ok (.iconst 0, 1) := by decide +kernel
theorem dX4_common_52 : decode cX4_common 52 = .ok (.iastore, 1) := by decide +kernel
theorem dX4_common_53 : decode cX4_common 53 = .ok (.astore 4, 2) := by decide +kernel
theorem dX4_common_55 : decode cX4_common 55 = .ok (.iconst 0, 1) := by decide +kernel
theorem dX4_common_56 : decode cX4_common 56 = .ok (.istore 5, 2) := by decide +kernel
theorem dX4_common_58 : decode cX4_common 58 = .ok (.iload 5, 2) := by decide +kernel
theorem dX4_common_60 : decode cX4_common 60 = .ok (.aload_n 0, 1) := by decide +kernel
theorem dX4_common_61 : decode cX4_common 61 = .ok (.getfield 24, 3) := by decide +kernel
theorem dX4_common_64 : decode cX4_common 64 = .ok (.iload_n 1, 1) := by decide +kernel
theorem dX4_common_65 : decode cX4_common 65 = .ok (.aaload, 1) := by decide +kernel
theorem dX4_common_66 : decode cX4_common 66 = .ok (.getfield 43, 3) := by decide +kernel
theorem dX4_common_69 : decode cX4_common 69 = .ok (.if_icmp .ge 80, 3) := by decide +kernel
theorem dX4_common_72 : decode cX4_common 72 = .ok (.iconst 0, 1) := by decide +kernel
theorem dX4_common_73 : decode cX4_common 73 = .ok (.istore 6, 2) := by decide +kernel
theorem dX4_common_75 : decode cX4_common 75 = .ok (.iload 6, 2) := by decide +kernel
theorem dX4_common_77 : decode cX4_common 77 = .ok (.aload_n 0, 1) := by decide +kernel
theorem dX4_common_78 : decode cX4_common 78 = .ok (.getfield 24, 3) := by decide +kernel
theorem dX4_common_81 : decode cX4_common 81 = .ok (.iload_n 2, 1) := by decide +kernel
theorem dX4_common_82 : decode cX4_common 82 = .ok (.aaload, 1) := by decide +kernel
theorem dX4_common_83 : decode cX4_common 83 = .ok (.getfield 43, 3) := by decide +kernel
theorem dX4_common_86 : decode cX4_common 86 = .ok (.if_icmp .ge 57, 3) := by decide +kernel
theorem dX4_common_89 : decode cX4_common 89 = .ok (.aload_n 0, 1) := by decide +kernel
theorem dX4_common_90 : decode cX4_common 90 = .ok (.getfield 24, 3) := by decide +kernel
theorem dX4_common_93 : decode cX4_common 93 = .ok (.iload_n 1, 1) := by decide +kernel
theorem dX4_common_94 : decode cX4_common 94 = .ok (.aaload, 1) := by decide +kernel
theorem dX4_common_95 : decode cX4_common 95 = .ok (.iload 5, 2) := by decide +kernel
theorem dX4_common_97 : decode cX4_common 97 = .ok (.aload_n 0, 1) := by decide +kernel
theorem dX4_common_98 : decode cX4_common 98 = .ok (.getfield 24, 3) := by decide +kernel
theorem dX4_common_101 : decode cX4_common 101 = .ok (.iload_n 2, 1) := by decide +kernel
theorem dX4_common_102 : decode cX4_common 102 = .ok (.aaload, 1) := by decide +kernel
theorem dX4_common_103 : decode cX4_common 103 = .ok (.iload 6, 2) := by decide +kernel
theorem dX4_common_105 : decode cX4_common 105 = .ok (.invokevirtual 157, 3) := by decide +kernel
theorem dX4_common_108 : decode cX4_common 108 = .ok (.istore 7, 2) := by decide +kernel
theorem dX4_common_110 : decode cX4_common 110 = .ok (.iload 7, 2) := by decide +kernel
theorem dX4_common_112 : decode cX4_common 112 = .ok (.aload 4, 2) := by decide +kernel
theorem dX4_common_114 : decode cX4_common 114 = .ok (.iconst 0, 1) := by decide +kernel
theorem dX4_common_115 : decode cX4_common 115 = .ok (.iaload, 1) := by decide +kernel
theorem dX4_common_116 : decode cX4_common 116 = .ok (.if_icmp .le 21, 3) := by decide +kernel
theorem dX4_common_119 : decode cX4_common 119 = .ok (.aload 4, 2) := by decide +kernel
theorem dX4_common_121 : decode cX4_common 121 = .ok (.iconst 0, 1) := by decide +kernel
theorem dX4_common_122 : decode cX4_common 122 = .ok (.iload 7, 2) := by decide +kernel
theorem dX4_common_124 : decode cX4_common 124 = .ok (.iastore, 1) := by decide +kernel
theorem dX4_common_125 : decode cX4_common 125 = .ok (.aload 4, 2) := by decide +kernel
theorem dX4_common_127 : decode cX4_common 127 = .ok (.iconst 1, 1) := by decide +kernel
theorem dX4_common_128 : decode cX4_common 128 = .ok (.iload 5, 2) := by decide +kernel
theorem dX4_common_130 : decode cX4_common 130 = .ok (.iastore, 1) := by decide +kernel
theorem dX4_common_131 : decode cX4_common 131 = .ok (.aload 4, 2) := by decide +kernel
theorem dX4_common_133 : decode cX4_common 133 = .ok (.iconst 2, 1) := by decide +kernel
theorem dX4_common_134 : decode cX4_common 134 = .ok (.iload 6, 2) := by decide +kernel
theorem dX4_common_136 : decode cX4_common 136 = .ok (.iastore, 1) := by decide +kernel
theorem dX4_common_137 : decode cX4_common 137 = .ok (.iinc 6 1, 3) := by decide +kernel
theorem dX4_common_140 : decode cX4_common 140 = .ok (.goto (-65), 3) := by decide +kernel
theorem dX4_common_143 : decode cX4_common 143 = .ok (.iinc 5 1, 3) := by decide +kernel
theorem dX4_common_146 : decode cX4_common 146 = .ok (.goto (-88), 3) := by decide +kernel
theorem dX4_common_149 : decode cX4_common 149 = .ok (.aload 4, 2) := by decide +kernel
theorem dX4_common_151 : decode cX4_common 151 = .ok (.iload_n 3, 1) := by decide +kernel
theorem dX4_common_152 : decode cX4_common 152 = .ok (.iaload, 1) := by decide +kernel
theorem dX4_common_153 : decode cX4_common 153 = .ok (.ireturn, 1) := by decide +kernel
theorem dX4_refuses_0 : decode cX4_refuses 0 = .ok (.aload_n 0, 1) := by decide +kernel
theorem dX4_refuses_1 : decode cX4_refuses 1 = .ok (.iload_n 1, 1) := by decide +kernel
theorem dX4_refuses_2 : decode cX4_refuses 2 = .ok (.i2l, 1) := by decide +kernel
theorem dX4_refuses_3 : decode cX4_refuses 3 = .ok (.lconst 0, 1) := by decide +kernel
theorem dX4_refuses_4 : decode cX4_refuses 4 = .ok (.ldc2_w 161, 3) := by decide +kernel
theorem dX4_refuses_7 : decode cX4_refuses 7 = .ok (.invokestatic 9, 3) := by decide +kernel
theorem dX4_refuses_10 : decode cX4_refuses 10 = .ok (.iconst 1, 1) := by decide +kernel
theorem dX4_refuses_11 : decode cX4_refuses 11 = .ok (.iconst 1, 1) := by decide +kernel
theorem dX4_refuses_12 : decode cX4_refuses 12 = .ok (.invokevirtual 55, 3) := by decide +kernel
theorem dX4_refuses_15 : decode cX4_refuses 15 = .ok (.ireturn, 1) := by decide +kernel
theorem dX4_turned_0 : decode cX4_turned 0 = .ok (.new 21, 3) := by decide +kernel
theorem dX4_turned_3 : decode cX4_turned 3 = .ok (.dup, 1) := by decide +kernel
theorem dX4_turned_4 : decode cX4_turned 4 = .ok (.invokespecial 23, 3) := by decide +kernel
theorem dX4_turned_7 : decode cX4_turned 7 = .ok (.astore_n 1, 1) := by decide +kernel
theorem dX4_turned_8 : decode cX4_turned 8 = .ok (.aload_n 0, 1) := by decide +kernel
theorem dX4_turned_9 : decode cX4_turned 9 = .ok (.getfield 43, 3) := by decide +kernel
theorem dX4_turned_12 : decode cX4_turned 12 = .ok (.iconst 1, 1) := by decide +kernel
theorem dX4_turned_13 : decode cX4_turned 13 = .ok (.isub, 1) := by decide +kernel
theorem dX4_turned_14 : decode cX4_turned 14 = .ok (.istore_n 2, 1) := by decide +kernel
theorem dX4_turned_15 : decode cX4_turned 15 = .ok (.iload_n 2, 1) := by decide +kernel
theorem dX4_turned_16 : decode cX4_turned 16 = .ok (.ifCond .lt 18, 3) := by decide +kernel
theorem dX4_turned_19 : decode cX4_turned 19 = .ok (.aload_n 1, 1) := by decide +kernel
theorem dX4_turned_20 : decode cX4_turned 20 = .ok (.aload_n 0, 1) := by decide +kernel
theorem dX4_turned_21 : decode cX4_turned 21 = .ok (.iload_n 2, 1) := by decide +kernel
theorem dX4_turned_22 : decode cX4_turned 22 = .ok (.invokevirtual 85, 3) := by decide +kernel
theorem dX4_turned_25 : decode cX4_turned 25 = .ok (.invokevirtual 59, 3) := by decide +kernel
theorem dX4_turned_28 : decode cX4_turned 28 = .ok (.iinc 2 (-1), 3) := by decide +kernel
theorem dX4_turned_31 : decode cX4_turned 31 = .ok (.goto (-16), 3) := by decide +kernel
theorem dX4_turned_34 : decode cX4_turned 34 = .ok (.aload_n 1, 1) := by decide +kernel
theorem dX4_turned_35 : decode cX4_turned 35 = .ok (.areturn, 1) := by decide +kernel
theorem dX4_errors_0 : decode cX4_errors 0 = .ok (.aload_n 0, 1) := by decide +kernel
theorem dX4_errors_1 : decode cX4_errors 1 = .ok (.iload_n 1, 1) := by decide +kernel
theorem dX4_errors_2 : decode cX4_errors 2 = .ok (.invokestatic 39, 3) := by decide +kernel
theorem dX4_errors_5 : decode cX4_errors 5 = .ok (.iconst 1, 1) := by decide +kernel
theorem dX4_errors_6 : decode cX4_errors 6 = .ok (.iconst 1, 1) := by decide +kernel
theorem dX4_errors_7 : decode cX4_errors 7 = .ok (.invokevirtual 55, 3) := by decide +kernel
theorem dX4_errors_10 : decode cX4_errors 10 = .ok (.ifCond .ne 5, 3) := by decide +kernel
theorem dX4_errors_13 : decode cX4_errors 13 = .ok (.iconst 0, 1) := by decide +kernel
theorem dX4_errors_14 : decode cX4_errors 14 = .ok (.ireturn, 1) := by decide +kernel
theorem dX4_errors_15 : decode cX4_errors 15 = .ok (.aload_n 0, 1) := by decide +kernel
theorem dX4_errors_16 : decode cX4_errors 16 = .ok (.getfield 24, 3) := by decide +kernel
theorem dX4_errors_19 : decode cX4_errors 19 = .ok (.iload_n 1, 1) := by decide +kernel
theorem dX4_errors_20 : decode cX4_errors 20 = .ok (.aaload, 1) := by decide +kernel
theorem dX4_errors_21 : decode cX4_errors 21 = .ok (.astore_n 2, 1) := by decide +kernel
theorem dX4_errors_22 : decode cX4_errors 22 = .ok (.aload_n 0, 1) := by decide +kernel
theorem dX4_errors_23 : decode cX4_errors 23 = .ok (.getfield 28, 3) := by decide +kernel
theorem dX4_errors_26 : decode cX4_errors 26 = .ok (.iconst 0, 1) := by decide +kernel
theorem dX4_errors_27 : decode cX4_errors 27 = .ok (.aaload, 1) := by decide +kernel
theorem dX4_errors_28 : decode cX4_errors 28 = .ok (.astore_n 3, 1) := by decide +kernel
theorem dX4_errors_29 : decode cX4_errors 29 = .ok (.aload_n 2, 1) := by decide +kernel
theorem dX4_errors_30 : decode cX4_errors 30 = .ok (.aload_n 3, 1) := by decide +kernel
theorem dX4_errors_31 : decode cX4_errors 31 = .ok (.iconst 0, 1) := by decide +kernel
theorem dX4_errors_32 : decode cX4_errors 32 = .ok (.invokevirtual 104, 3) := by decide +kernel
theorem dX4_errors_35 : decode cX4_errors 35 = .ok (.istore 4, 2) := by decide +kernel
theorem dX4_errors_37 : decode cX4_errors 37 = .ok (.iconst (-1), 1) := by decide +kernel
theorem dX4_errors_38 : decode cX4_errors 38 = .ok (.istore 5, 2) := by decide +kernel
theorem dX4_errors_40 : decode cX4_errors 40 = .ok (.aload_n 2, 1) := by decide +kernel
theorem dX4_errors_41 : decode cX4_errors 41 = .ok (.invokestatic 163, 3) := by decide +kernel
theorem dX4_errors_44 : decode cX4_errors 44 = .ok (.astore 6, 2) := by decide +kernel
theorem dX4_errors_46 : decode cX4_errors 46 = .ok (.aload_n 3, 1) := by decide +kernel
theorem dX4_errors_47 : decode cX4_errors 47 = .ok (.invokestatic 163, 3) := by decide +kernel
theorem dX4_errors_50 : decode cX4_errors 50 = .ok (.astore 7, 2) := by decide +kernel
theorem dX4_errors_52 : decode cX4_errors 52 = .ok (.iconst 0, 1) := by decide +kernel
theorem dX4_errors_53 : decode cX4_errors 53 = .ok (.istore 8, 2) := by decide +kernel
theorem dX4_errors_55 : decode cX4_errors 55 = .ok (.iload 8, 2) := by decide +kernel
theorem dX4_errors_57 : decode cX4_errors 57 = .ok (.aload 6, 2) := by decide +kernel
theorem dX4_errors_59 : decode cX4_errors 59 = .ok (.getfield 43, 3) := by decide +kernel
theorem dX4_errors_62 : decode cX4_errors 62 = .ok (.if_icmp .gt 30, 3) := by decide +kernel
theorem dX4_errors_65 : decode cX4_errors 65 = .ok (.aload 6, 2) := by decide +kernel
theorem dX4_errors_67 : decode cX4_errors 67 = .ok (.aload 7, 2) := by decide +kernel
theorem dX4_errors_69 : decode cX4_errors 69 = .ok (.iload 8, 2) := by decide +kernel
theorem dX4_errors_71 : decode cX4_errors 71 = .ok (.invokevirtual 108, 3) := by decide +kernel
theorem dX4_errors_74 : decode cX4_errors 74 = .ok (.ifCond .eq 8, 3) := by decide +kernel
theorem dX4_errors_77 : decode cX4_errors 77 = .ok (.iload 8, 2) := by decide +kernel
theorem dX4_errors_79 : decode cX4_errors 79 = .ok (.goto 5, 3) := by decide +kernel
theorem dX4_errors_82 : decode cX4_errors 82 = .ok (.iload 5, 2) := by decide +kernel
theorem dX4_errors_84 : decode cX4_errors 84 = .ok (.istore 5, 2) := by decide +kernel
theorem dX4_errors_86 : decode cX4_errors 86 = .ok (.iinc 8 1, 3) := by decide +kernel
theorem dX4_errors_89 : decode cX4_errors 89 = .ok (.goto (-34), 3) := by decide +kernel
theorem dX4_errors_92 : decode cX4_errors 92 = .ok (.iconst 0, 1) := by decide +kernel
theorem dX4_errors_93 : decode cX4_errors 93 = .ok (.istore 8, 2) := by decide +kernel
theorem dX4_errors_95 : decode cX4_errors 95 = .ok (.iconst 0, 1) := by decide +kernel
theorem dX4_errors_96 : decode cX4_errors 96 = .ok (.istore 9, 2) := by decide +kernel
theorem dX4_errors_98 : decode cX4_errors 98 = .ok (.iload 9, 2) := by decide +kernel
theorem dX4_errors_100 : decode cX4_errors 100 = .ok (.bipush 100, 2) := by decide +kernel
theorem dX4_errors_102 : decode cX4_errors 102 = .ok (.if_icmp .ge 20, 3) := by decide +kernel
theorem dX4_errors_105 : decode cX4_errors 105 = .ok (.iload 8, 2) := by decide +kernel
theorem dX4_errors_107 : decode cX4_errors 107 = .ok (.aload_n 2, 1) := by decide +kernel
theorem dX4_errors_108 : decode cX4_errors 108 = .ok (.iload 9, 2) := by decide +kernel
theorem dX4_errors_110 : decode cX4_errors 110 = .ok (.invokevirtual 120, 3) := by decide +kernel
theorem dX4_errors_113 : decode cX4_errors 113 = .ok (.iadd, 1) := by decide +kernel
theorem dX4_errors_114 : decode cX4_errors 114 = .ok (.istore 8, 2) := by decide +kernel
theorem dX4_errors_116 : decode cX4_errors 116 = .ok (.iinc 9 1, 3) := by decide +kernel
theorem dX4_errors_119 : decode cX4_errors 119 = .ok (.goto (-21), 3) := by decide +kernel
theorem dX4_errors_122 : decode cX4_errors 122 = .ok (.iload 4, 2) := by decide +kernel
theorem dX4_errors_124 : decode cX4_errors 124 = .ok (.iconst (-1), 1) := by decide +kernel
theorem dX4_errors_125 : decode cX4_errors 125 = .ok (.if_icmp .ne 7, 3) := by decide +kernel
theorem dX4_errors_128 : decode cX4_errors 128 = .ok (.iconst (-1), 1) := by decide +kernel
theorem dX4_errors_129 : decode cX4_errors 129 = .ok (.goto 15, 3) := by decide +kernel
theorem dX4_errors_132 : decode cX4_errors 132 = .ok (.aload_n 2, 1) := by decide +kernel
theorem dX4_errors_133 : decode cX4_errors 133 = .ok (.getfield 43, 3) := by decide +kernel
theorem dX4_errors_136 : decode cX4_errors 136 = .ok (.aload_n 3, 1) := by decide +kernel
theorem dX4_errors_137 : decode cX4_errors 137 = .ok (.getfield 43, 3) := by decide +kernel
theorem dX4_errors_140 : decode cX4_errors 140 = .ok (.isub, 1) := by decide +kernel
theorem dX4_errors_141 : decode cX4_errors 141 = .ok (.iload 4, 2) := by decide +kernel
theorem dX4_errors_143 : decode cX4_errors 143 = .ok (.isub, 1) := by decide +kernel
theorem dX4_errors_144 : decode cX4_errors 144 = .ok (.istore 9, 2) := by decide +kernel
theorem dX4_errors_146 : decode cX4_errors 146 = .ok (.iload 5, 2) := by decide +kernel
theorem dX4_errors_148 : decode cX4_errors 148 = .ok (.iload 9, 2) := by decide +kernel
theorem dX4_errors_150 : decode cX4_errors 150 = .ok (.if_icmp .ne 7, 3) := by decide +kernel
theorem dX4_errors_153 : decode cX4_errors 153 = .ok (.iconst 0, 1) := by decide +kernel
theorem dX4_errors_154 : decode cX4_errors 154 = .ok (.goto 4, 3) := by decide +kernel
theorem dX4_errors_157 : decode cX4_errors 157 = .ok (.iconst 1, 1) := by decide +kernel
theorem dX4_errors_158 : decode cX4_errors 158 = .ok (.iload 8, 2) := by decide +kernel
theorem dX4_errors_160 : decode cX4_errors 160 = .ok (.aload_n 2, 1) := by decide +kernel
theorem dX4_errors_161 : decode cX4_errors 161 = .ok (.getfield 43, 3) := by decide +kernel
theorem dX4_errors_164 : decode cX4_errors 164 = .ok (.if_icmp .ne 7, 3) := by decide +kernel
theorem dX4_errors_167 : decode cX4_errors 167 = .ok (.iconst 0, 1) := by decide +kernel
theorem dX4_errors_168 : decode cX4_errors 168 = .ok (.goto 4, 3) := by decide +kernel
theorem dX4_errors_171 : decode cX4_errors 171 = .ok (.iconst 1, 1) := by decide +kernel
theorem dX4_errors_172 : decode cX4_errors 172 = .ok (.iadd, 1) := by decide +kernel
theorem dX4_errors_173 : decode cX4_errors 173 = .ok (.ireturn, 1) := by decide +kernel
theorem dX4_meanWord_0 : decode cX4_meanWord 0 = .ok (.aload_n 0, 1) := by decide +kernel
theorem dX4_meanWord_1 : decode cX4_meanWord 1 = .ok (.iload_n 1, 1) := by decide +kernel
theorem dX4_meanWord_2 : decode cX4_meanWord 2 = .ok (.invokestatic 39, 3) := by decide +kernel
theorem dX4_meanWord_5 : decode cX4_meanWord 5 = .ok (.iconst 1, 1) := by decide +kernel
theorem dX4_meanWord_6 : decode cX4_meanWord 6 = .ok (.iconst 1, 1) := by decide +kernel
theorem dX4_meanWord_7 : decode cX4_meanWord 7 = .ok (.invokevirtual 55, 3) := by decide +kernel
theorem dX4_meanWord_10 : decode cX4_meanWord 10 = .ok (.ifCond .ne 5, 3) := by decide +kernel
theorem dX4_meanWord_13 : decode cX4_meanWord 13 = .ok (.dconst 0, 1) := by decide +kernel
theorem dX4_meanWord_14 : decode cX4_meanWord 14 = .ok (.dreturn, 1) := by decide +kernel
theorem dX4_meanWord_15 : decode cX4_meanWord 15 = .ok (.iconst 0, 1) := by decide +kernel
theorem dX4_meanWord_16 : decode cX4_meanWord 16 = .ok (.istore_n 2, 1) := by decide +kernel
theorem dX4_meanWord_17 : decode cX4_meanWord 17 = .ok (.iconst 0, 1) := by decide +kernel
theorem dX4_meanWord_18 : decode cX4_meanWord 18 = .ok (.istore_n 3, 1) := by decide +kernel
theorem dX4_meanWord_19 : decode cX4_meanWord 19 = .ok (.iload_n 3, 1) := by decide +kernel
theorem dX4_meanWord_20 : decode cX4_meanWord 20 = .ok (.aload_n 0, 1) := by decide +kernel
theorem dX4_meanWord_21 : decode cX4_meanWord 21 = .ok (.getfield 24, 3) := by decide +kernel
theorem dX4_meanWord_24 : decode cX4_meanWord 24 = .ok (.iload_n 1, 1) := by decide +kernel
theorem dX4_meanWord_25 : decode cX4_meanWord 25 = .ok (.aaload, 1) := by decide +kernel
theorem dX4_meanWord_26 : decode cX4_meanWord 26 = .ok (.getfield 43, 3) := by decide +kernel
theorem dX4_meanWord_29 : decode cX4_meanWord 29 = .ok (.if_icmp .ge 22, 3) := by decide +kernel
theorem dX4_meanWord_32 : decode cX4_meanWord 32 = .ok (.iload_n 2, 1) := by decide +kernel
theorem dX4_meanWord_33 : decode cX4_meanWord 33 = .ok (.aload_n 0, 1) := by decide +kernel
theorem dX4_meanWord_34 : decode cX4_meanWord 34 = .ok (.getfield 24, 3) := by decide +kernel
theorem dX4_meanWord_37 : decode cX4_meanWord 37 = .ok (.iload_n 1, 1) := by decide +kernel
theorem dX4_meanWord_38 : decode cX4_meanWord 38 = .ok (.aaload, 1) := by decide +kernel
theorem dX4_meanWord_39 : decode cX4_meanWord 39 = .ok (.iload_n 3, 1) := by decide +kernel
theorem dX4_meanWord_40 : decode cX4_meanWord 40 = .ok (.invokevirtual 85, 3) := by decide +kernel
theorem dX4_meanWord_43 : decode cX4_meanWord 43 = .ok (.iadd, 1) := by decide +kernel
theorem dX4_meanWord_44 : decode cX4_meanWord 44 = .ok (.istore_n 2, 1) := by decide +kernel
theorem dX4_meanWord_45 : decode cX4_meanWord 45 = .ok (.iinc 3 1, 3) := by decide +kernel
theorem dX4_meanWord_48 : decode cX4_meanWord 48 = .ok (.goto (-29), 3) := by decide +kernel
theorem dX4_meanWord_51 : decode cX4_meanWord 51 = .ok (.aload_n 0, 1) := by decide +kernel
theorem dX4_meanWord_52 : decode cX4_meanWord 52 = .ok (.getfield 24, 3) := by decide +kernel
theorem dX4_meanWord_55 : decode cX4_meanWord 55 = .ok (.iload_n 1, 1) := by decide +kernel
theorem dX4_meanWord_56 : decode cX4_meanWord 56 = .ok (.aaload, 1) := by decide +kernel
theorem dX4_meanWord_57 : decode cX4_meanWord 57 = .ok (.getfield 43, 3) := by decide +kernel
theorem dX4_meanWord_60 : decode cX4_meanWord 60 = .ok (.ifCond .ne 7, 3) := by decide +kernel
theorem dX4_meanWord_63 : decode cX4_meanWord 63 = .ok (.dconst 0, 1) := by decide +kernel
theorem dX4_meanWord_64 : decode cX4_meanWord 64 = .ok (.goto 16, 3) := by decide +kernel
theorem dX4_meanWord_67 : decode cX4_meanWord 67 = .ok (.iload_n 2, 1) := by decide +kernel
theorem dX4_meanWord_68 : decode cX4_meanWord 68 = .ok (.i2d, 1) := by decide +kernel
theorem dX4_meanWord_69 : decode cX4_meanWord 69 = .ok (.aload_n 0, 1) := by decide +kernel
theorem dX4_meanWord_70 : decode cX4_meanWord 70 = .ok (.getfield 24, 3) := by decide +kernel
theorem dX4_meanWord_73 : decode cX4_meanWord 73 = .ok (.iload_n 1, 1) := by decide +kernel
theorem dX4_meanWord_74 : decode cX4_meanWord 74 = .ok (.aaload, 1) := by decide +kernel
theorem dX4_meanWord_75 : decode cX4_meanWord 75 = .ok (.getfield 43, 3) := by decide +kernel
theorem dX4_meanWord_78 : decode cX4_meanWord 78 = .ok (.i2d, 1) := by decide +kernel
theorem dX4_meanWord_79 : decode cX4_meanWord 79 = .ok (.ddiv, 1) := by decide +kernel
theorem dX4_meanWord_80 : decode cX4_meanWord 80 = .ok (.dreturn, 1) := by decide +kernel
theorem dX4_share_0 : decode cX4_share 0 = .ok (.aload_n 0, 1) := by decide +kernel
theorem dX4_share_1 : decode cX4_share 1 = .ok (.iload_n 1, 1) := by decide +kernel
theorem dX4_share_2 : decode cX4_share 2 = .ok (.invokestatic 39, 3) := by decide +kernel
theorem dX4_share_5 : decode cX4_share 5 = .ok (.ifCond .eq 14, 3) := by decide +kernel
theorem dX4_share_8 : decode cX4_share 8 = .ok (.iload_n 2, 1) := by decide +kernel
theorem dX4_share_9 : decode cX4_share 9 = .ok (.invokestatic 48, 3) := by decide +kernel
theorem dX4_share_12 : decode cX4_share 12 = .ok (.ifCond .eq 7, 3) := by decide +kernel
theorem dX4_share_15 : decode cX4_share 15 = .ok (.iconst 1, 1) := by decide +kernel
theorem dX4_share_16 : decode cX4_share 16 = .ok (.goto 4, 3) := by decide +kernel
theorem dX4_share_19 : decode cX4_share 19 = .ok (.iconst 0, 1) := by decide +kernel
theorem dX4_share_20 : decode cX4_share 20 = .ok (.iconst 1, 1) := by decide +kernel
theorem dX4_share_21 : decode cX4_share 21 = .ok (.iconst 1, 1) := by decide +kernel
theorem dX4_share_22 : decode cX4_share 22 = .ok (.invokevirtual 55, 3) := by decide +kernel
theorem dX4_share_25 : decode cX4_share 25 = .ok (.ifCond .ne 5, 3) := by decide +kernel
theorem dX4_share_28 : decode cX4_share 28 = .ok (.fconst 0, 1) := by decide +kernel
theorem dX4_share_29 : decode cX4_share 29 = .ok (.freturn, 1) := by decide +kernel
theorem dX4_share_30 : decode cX4_share 30 = .ok (.aload_n 0, 1) := by decide +kernel
theorem dX4_share_31 : decode cX4_share 31 = .ok (.getfield 24, 3) := by decide +kernel
theorem dX4_share_34 : decode cX4_share 34 = .ok (.iload_n 1, 1) := by decide +kernel
theorem dX4_share_35 : decode cX4_share 35 = .ok (.aaload, 1) := by decide +kernel
theorem dX4_share_36 : decode cX4_share 36 = .ok (.getfield 43, 3) := by decide +kernel
theorem dX4_share_39 : decode cX4_share 39 = .ok (.istore_n 3, 1) := by decide +kernel
theorem dX4_share_40 : decode cX4_share 40 = .ok (.iload_n 3, 1) := by decide +kernel
theorem dX4_share_41 : decode cX4_share 41 = .ok (.ifCond .ne 7, 3) := by decide +kernel
theorem dX4_share_44 : decode cX4_share 44 = .ok (.fconst 0, 1) := by decide +kernel
theorem dX4_share_45 : decode cX4_share 45 = .ok (.goto 17, 3) := by decide +kernel
theorem dX4_share_48 : decode cX4_share 48 = .ok (.aload_n 0, 1) := by decide +kernel
theorem dX4_share_49 : decode cX4_share 49 = .ok (.getfield 24, 3) := by decide +kernel
theorem dX4_share_52 : decode cX4_share 52 = .ok (.iload_n 1, 1) := by decide +kernel
theorem dX4_share_53 : decode cX4_share 53 = .ok (.aaload, 1) := by decide +kernel
theorem dX4_share_54 : decode cX4_share 54 = .ok (.iload_n 2, 1) := by decide +kernel
theorem dX4_share_55 : decode cX4_share 55 = .ok (.invokevirtual 120, 3) := by decide +kernel
theorem dX4_share_58 : decode cX4_share 58 = .ok (.i2f, 1) := by decide +kernel
theorem dX4_share_59 : decode cX4_share 59 = .ok (.iload_n 3, 1) := by decide +kernel
theorem dX4_share_60 : decode cX4_share 60 = .ok (.i2f, 1) := by decide +kernel
theorem dX4_share_61 : decode cX4_share 61 = .ok (.fdiv, 1) := by decide +kernel
theorem dX4_share_62 : decode cX4_share 62 = .ok (.freturn, 1) := by decide +kernel
end
section
theorem dJ9_floorMod_7cf53_0 : decode cJ9_floorMod_7cf53 0 = .ok (.iload_n 0, 1) := by decide +kernel
theorem dJ9_floorMod_7cf53_1 : decode cJ9_floorMod_7cf53 1 = .ok (.iload_n 1, 1) := by decide +kernel
theorem dJ9_floorMod_7cf53_2 : decode cJ9_floorMod_7cf53 2 = .ok (.irem, 1) := by decide +kernel
theorem dJ9_floorMod_7cf53_3 : decode cJ9_floorMod_7cf53 3 = .ok (.istore_n 2, 1) := by decide +kernel
theorem dJ9_floorMod_7cf53_4 : decode cJ9_floorMod_7cf53 4 = .ok (.iload_n 0, 1) := by decide +kernel
theorem dJ9_floorMod_7cf53_5 : decode cJ9_floorMod_7cf53 5 = .ok (.iload_n 1, 1) := by decide +kernel
theorem dJ9_floorMod_7cf53_6 : decode cJ9_floorMod_7cf53 6 = .ok (.ixor, 1) := by decide +kernel
theorem dJ9_floorMod_7cf53_7 : decode cJ9_floorMod_7cf53 7 = .ok (.ifCond .ge 11, 3) := by decide +kernel
theorem dJ9_floorMod_7cf53_10 : decode cJ9_floorMod_7cf53 10 = .ok (.iload_n 2, 1) := by decide +kernel
theorem dJ9_floorMod_7cf53_11 : decode cJ9_floorMod_7cf53 11 = .ok (.ifCond .eq 7, 3) := by decide +kernel
theorem dJ9_floorMod_7cf53_14 : decode cJ9_floorMod_7cf53 14 = .ok (.iload_n 2, 1) := by decide +kernel
theorem dJ9_floorMod_7cf53_15 : decode cJ9_floorMod_7cf53 15 = .ok (.iload_n 1, 1) := by decide +kernel
theorem dJ9_floorMod_7cf53_16 : decode cJ9_floorMod_7cf53 16 = .ok (.iadd, 1) := by decide +kernel
theorem dJ9_floorMod_7cf53_17 : decode cJ9_floorMod_7cf53 17 = .ok (.ireturn, 1) := by decide +kernel
theorem dJ9_floorMod_7cf53_18 : decode cJ9_floorMod_7cf53 18 = .ok (.iload_n 2, 1) := by decide +kernel
theorem dJ9_floorMod_7cf53_19 : decode cJ9_floorMod_7cf53 19 = .ok (.ireturn, 1) := by decide +kernel
theorem dJ9_abs_0f7a4_0 : decode cJ9_abs_0f7a4 0 = .ok (.iload_n 0, 1) := by decide +kernel
theorem dJ9_abs_0f7a4_1 : decode cJ9_abs_0f7a4 1 = .ok (.ifCond .ge 8, 3) := by decide +kernel
theorem dJ9_abs_0f7a4_4 : decode cJ9_abs_0f7a4 4 = .ok (.iload_n 0, 1) := by decide +kernel
theorem dJ9_abs_0f7a4_5 : decode cJ9_abs_0f7a4 5 = .ok (.ineg, 1) := by decide +kernel
theorem dJ9_abs_0f7a4_6 : decode cJ9_abs_0f7a4 6 = .ok (.goto 4, 3) := by decide +kernel
theorem dJ9_abs_0f7a4_9 : decode cJ9_abs_0f7a4 9 = .ok (.iload_n 0, 1) := by decide +kernel
theorem dJ9_abs_0f7a4_10 : decode cJ9_abs_0f7a4 10 = .ok (.ireturn, 1) := by decide +kernel
theorem dJ9_max_7cf53_0 : decode cJ9_max_7cf53 0 = .ok (.iload_n 0, 1) := by decide +kernel
theorem dJ9_max_7cf53_1 : decode cJ9_max_7cf53 1 = .ok (.iload_n 1, 1) := by decide +kernel
theorem dJ9_max_7cf53_2 : decode cJ9_max_7cf53 2 = .ok (.if_icmp .lt 7, 3) := by decide +kernel
theorem dJ9_max_7cf53_5 : decode cJ9_max_7cf53 5 = .ok (.iload_n 0, 1) := by decide +kernel
theorem dJ9_max_7cf53_6 : decode cJ9_max_7cf53 6 = .ok (.goto 4, 3) := by decide +kernel
theorem dJ9_max_7cf53_9 : decode cJ9_max_7cf53 9 = .ok (.iload_n 1, 1) := by decide +kernel
theorem dJ9_max_7cf53_10 : decode cJ9_max_7cf53 10 = .ok (.ireturn, 1) := by decide +kernel
theorem dJ9_min_7cf53_0 : decode cJ9_min_7cf53 0 = .ok (.iload_n 0, 1) := by decide +kernel
theorem dJ9_min_7cf53_1 : decode cJ9_min_7cf53 1 = .ok (.iload_n 1, 1) := by decide +kernel
theorem dJ9_min_7cf53_2 : decode cJ9_min_7cf53 2 = .ok (.if_icmp .gt 7, 3) := by decide +kernel
theorem dJ9_min_7cf53_5 : decode cJ9_min_7cf53 5 = .ok (.iload_n 0, 1) := by decide +kernel
theorem dJ9_min_7cf53_6 : decode cJ9_min_7cf53 6 = .ok (.goto 4, 3) := by decide +kernel
theorem dJ9_min_7cf53_9 : decode cJ9_min_7cf53 9 = .ok (.iload_n 1, 1) := by decide +kernel
theorem dJ9_min_7cf53_10 : decode cJ9_min_7cf53 10 = .ok (.ireturn, 1) := by decide +kernel
theorem dL_add_0 : decode cL_add 0 = .ok (.aload_n 3, 1) := by decide +kernel
theorem dL_add_1 : decode cL_add 1 = .ok (.iconst 0, 1) := by decide +kernel
theorem dL_add_2 : decode cL_add 2 = .ok (.aload_n 0, 1) := by decide +kernel
theorem dL_add_3 : decode cL_add 3 = .ok (.iload_n 1, 1) := by decide +kernel
theorem dL_add_4 : decode cL_add 4 = .ok (.iload_n 2, 1) := by decide +kernel
theorem dL_add_5 : decode cL_add 5 = .ok (.invokevirtual 7, 3) := by decide +kernel
theorem dL_add_8 : decode cL_add 8 = .ok (.i2l, 1) := by decide +kernel
theorem dL_add_9 : decode cL_add 9 = .ok (.lastore, 1) := by decide +kernel
theorem dL_add_10 : decode cL_add 10 = .ok (.goto 11, 3) := by decide +kernel
theorem dL_add_13 : decode cL_add 13 = .ok (.astore 4, 2) := by decide +kernel
theorem dL_add_15 : decode cL_add 15 = .ok (.iconst 1, 1) := by decide +kernel
theorem dL_add_16 : decode cL_add 16 = .ok (.ireturn, 1) := by decide +kernel
theorem dL_add_17 : decode cL_add 17 = .ok (.astore 4, 2) := by decide +kernel
theorem dL_add_19 : decode cL_add 19 = .ok (.iconst 2, 1) := by decide +kernel
theorem dL_add_20 : decode cL_add 20 = .ok (.ireturn, 1) := by decide +kernel
theorem dL_add_21 : decode cL_add 21 = .ok (.iconst 0, 1) := by decide +kernel
theorem dL_add_22 : decode cL_add 22 = .ok (.ireturn, 1) := by decide +kernel
theorem dL_addMany_0 : decode cL_addMany 0 = .ok (.aload 4, 2) := by decide +kernel
theorem dL_addMany_2 : decode cL_addMany 2 = .ok (.iconst 0, 1) := by decide +kernel
theorem dL_addMany_3 : decode cL_addMany 3 = .ok (.aload_n 0, 1) := by decide +kernel
theorem dL_addMany_4 : decode cL_addMany 4 = .ok (.iload_n 1, 1) := by decide +kernel
theorem dL_addMany_5 : decode cL_addMany 5 = .ok (.iload_n 2, 1) := by decide +kernel
theorem dL_addMany_6 : decode cL_addMany 6 = .ok (.iload_n 3, 1) := by decide +kernel
theorem dL_addMany_7 : decode cL_addMany 7 = .ok (.invokevirtual 17, 3) := by decide +kernel
theorem dL_addMany_10 : decode cL_addMany 10 = .ok (.i2l, 1) := by decide +kernel
theorem dL_addMany_11 : decode cL_addMany 11 = .ok (.lastore, 1) := by decide +kernel
theorem dL_addMany_12 : decode cL_addMany 12 = .ok (.goto 15, 3) := by decide +kernel
theorem dL_addMany_15 : decode cL_addMany 15 = .ok (.astore 5, 2) := by decide +kernel
theorem dL_addMany_17 : decode cL_addMany 17 = .ok (.iconst 1, 1) := by decide +kernel
theorem dL_addMany_18 : decode cL_addMany 18 = .ok (.ireturn, 1) := by decide +kernel
theorem dL_addMany_19 : decode cL_addMany 19 = .ok (.astore 5, 2) := by decide +kernel
theorem dL_addMany_21 : decode cL_addMany 21 = .ok (.iconst 2, 1) := by decide +kernel
theorem dL_addMany_22 : decode cL_addMany 22 = .ok (.ireturn, 1) := by decide +kernel
theorem dL_addMany_23 : decode cL_addMany 23 = .ok (.astore 5, 2) := by decide +kernel
theorem dL_addMany_25 : decode cL_addMany 25 = .ok (.iconst 3, 1) := by decide +kernel
theorem dL_addMany_26 : decode cL_addMany 26 = .ok (.ireturn, 1) := by decide +kernel
theorem dL_addMany_27 : decode cL_addMany 27 = .ok (.iconst 0, 1) := by decide +kernel
theorem dL_addMany_28 : decode cL_addMany 28 = .ok (.ireturn, 1) := by decide +kernel
theorem dL_scatter_0 : decode cL_scatter 0 = .ok (.aload 5, 2) := by decide +kernel
theorem dL_scatter_2 : decode cL_scatter 2 = .ok (.iconst 0, 1) := by decide +kernel
theorem dL_scatter_3 : decode cL_scatter 3 = .ok (.aload_n 0, 1) := by decide +kernel
theorem dL_scatter_4 : decode cL_scatter 4 = .ok (.iload_n 1, 1) := by decide +kernel
theorem dL_scatter_5 : decode cL_scatter 5 = .ok (.iload_n 2, 1) := by decide +kernel
theorem dL_scatter_6 : decode cL_scatter 6 = .ok (.iload_n 3, 1) := by decide +kernel
theorem dL_scatter_7 : decode cL_scatter 7 = .ok (.iload 4, 2) := by decide +kernel
theorem dL_scatter_9 : decode cL_scatter 9 = .ok (.invokevirtual 23, 3) := by decide +kernel
theorem dL_scatter_12 : decode cL_scatter 12 = .ok (.i2l, 1) := by decide +kernel
theorem dL_scatter_13 : decode cL_scatter 13 = .ok (.lastore, 1) := by decide +kernel
theorem dL_scatter_14 : decode cL_scatter 14 = .ok (.goto 15, 3) := by decide +kernel
theorem dL_scatter_17 : decode cL_scatter 17 = .ok (.astore 6, 2) := by decide +kernel
theorem dL_scatter_19 : decode cL_scatter 19 = .ok (.iconst 1, 1) := by decide +kernel
theorem dL_scatter_20 : decode cL_scatter 20 = .ok (.ireturn, 1) := by decide +kernel
theorem dL_scatter_21 : decode cL_scatter 21 = .ok (.astore 6, 2) := by decide +kernel
theorem dL_scatter_23 : decode cL_scatter 23 = .ok (.iconst 2, 1) := by decide +kernel
theorem dL_scatter_24 : decode cL_scatter 24 = .ok (.ireturn, 1) := by decide +kernel
theorem dL_scatter_25 : decode cL_scatter 25 = .ok (.astore 6, 2) := by decide +kernel
theorem dL_scatter_27 : decode cL_scatter 27 = .ok (.iconst 3, 1) := by decide +kernel
theorem dL_scatter_28 : decode cL_scatter 28 = .ok (.ireturn, 1) := by decide +kernel
theorem dL_scatter_29 : decode cL_scatter 29 = .ok (.iconst 0, 1) := by decide +kernel
theorem dL_scatter_30 : decode cL_scatter 30 = .ok (.ireturn, 1) := by decide +kernel
theorem dL_insert_0 : decode cL_insert 0 = .ok (.aload 4, 2) := by decide +kernel
theorem dL_insert_2 : decode cL_insert 2 = .ok (.iconst 0, 1) := by decide +kernel
theorem dL_insert_3 : decode cL_insert 3 = .ok (.aload_n 0, 1) := by decide +kernel
theorem dL_insert_4 : decode cL_insert 4 = .ok (.iload_n 1, 1) := by decide +kernel
theorem dL_insert_5 : decode cL_insert 5 = .ok (.iload_n 2, 1) := by decide +kernel
theorem dL_insert_6 : decode cL_insert 6 = .ok (.iload_n 3, 1) := by decide +kernel
theorem dL_insert_7 : decode cL_insert 7 = .ok (.invokevirtual 27, 3) := by decide +kernel
theorem dL_insert_10 : decode cL_insert 10 = .ok (.i2l, 1) := by decide +kernel
theorem dL_insert_11 : decode cL_insert 11 = .ok (.lastore, 1) := by decide +kernel
theorem dL_insert_12 : decode cL_insert 12 = .ok (.goto 11, 3) := by decide +kernel
theorem dL_insert_15 : decode cL_insert 15 = .ok (.astore 5, 2) := by decide +kernel
theorem dL_insert_17 : decode cL_insert 17 = .ok (.iconst 1, 1) := by decide +kernel
theorem dL_insert_18 : decode cL_insert 18 = .ok (.ireturn, 1) := by decide +kernel
theorem dL_insert_19 : decode cL_insert 19 = .ok (.astore 5, 2) := by decide +kernel
theorem dL_insert_21 : decode cL_insert 21 = .ok (.iconst 2, 1) := by decide +kernel
theorem dL_insert_22 : decode cL_insert 22 = .ok (.ireturn, 1) := by decide +kernel
theorem dL_insert_23 : decode cL_insert 23 = .ok (.iconst 0, 1) := by decide +kernel
theorem dL_insert_24 : decode cL_insert 24 = .ok (.ireturn, 1) := by decide +kernel
theorem dL_set_0 : decode cL_set 0 = .ok (.aload 4, 2) := by decide +kernel
theorem dL_set_2 : decode cL_set 2 = .ok (.iconst 0, 1) := by decide +kernel
theorem dL_set_3 : decode cL_set 3 = .ok (.aload_n 0, 1) := by decide +kernel
theorem dL_set_4 : decode cL_set 4 = .ok (.iload_n 1, 1) := by decide +kernel
theorem dL_set_5 : decode cL_set 5 = .ok (.iload_n 2, 1) := by decide +kernel
theorem dL_set_6 : decode cL_set 6 = .ok (.iload_n 3, 1) := by decide +kernel
theorem dL_set_7 : decode cL_set 7 = .ok (.invokevirtual 30, 3) := by decide +kernel
theorem dL_set_10 : decode cL_set 10 = .ok (.i2l, 1) := by decide +kernel
theorem dL_set_11 : decode cL_set 11 = .ok (.lastore, 1) := by decide +kernel
theorem dL_set_12 : decode cL_set 12 = .ok (.goto 7, 3) := by decide +kernel
theorem dL_set_15 : decode cL_set 15 = .ok (.astore 5, 2) := by decide +kernel
theorem dL_set_17 : decode cL_set 17 = .ok (.iconst 1, 1) := by decide +kernel
theorem dL_set_18 : decode cL_set 18 = .ok (.ireturn, 1) := by decide +kernel
theorem dL_set_19 : decode cL_set 19 = .ok (.iconst 0, 1) := by decide +kernel
theorem dL_set_20 : decode cL_set 20 = .ok (.ireturn, 1) := by decide +kernel
theorem dL_remove_0 : decode cL_remove 0 = .ok (.aload_n 3, 1) := by decide +kernel
theorem dL_remove_1 : decode cL_remove 1 = .ok (.iconst 0, 1) := by decide +kernel
theorem dL_remove_2 : decode cL_remove 2 = .ok (.aload_n 0, 1) := by decide +kernel
theorem dL_remove_3 : decode cL_remove 3 = .ok (.iload_n 1, 1) := by decide +kernel
theorem dL_remove_4 : decode cL_remove 4 = .ok (.iload_n 2, 1) := by decide +kernel
theorem dL_remove_5 : decode cL_remove 5 = .ok (.invokevirtual 33, 3) := by decide +kernel
theorem dL_remove_8 : decode cL_remove 8 = .ok (.i2l, 1) := by decide +kernel
theorem dL_remove_9 : decode cL_remove 9 = .ok (.lastore, 1) := by decide +kernel
theorem dL_remove_10 : decode cL_remove 10 = .ok (.goto 7, 3) := by decide +kernel
theorem dL_remove_13 : decode cL_remove 13 = .ok (.astore 4, 2) := by decide +kernel
theorem dL_remove_15 : decode cL_remove 15 = .ok (.iconst 1, 1) := by decide +kernel
theorem dL_remove_16 : decode cL_remove 16 = .ok (.ireturn, 1) := by decide +kernel
theorem dL_remove_17 : decode cL_remove 17 = .ok (.iconst 0, 1) := by decide +kernel
theorem dL_remove_18 : decode cL_remove 18 = .ok (.ireturn, 1) := by decide +kernel
theorem dL_cut_0 : decode cL_cut 0 = .ok (.aload 4, 2) := by decide +kernel
theorem dL_cut_2 : decode cL_cut 2 = .ok (.iconst 0, 1) := by decide +kernel
theorem dL_cut_3 : decode cL_cut 3 = .ok (.aload_n 0, 1) := by decide +kernel
theorem dL_cut_4 : decode cL_cut 4 = .ok (.iload_n 1, 1) := by decide +kernel
theorem dL_cut_5 : decode cL_cut 5 = .ok (.iload_n 2, 1) := by decide +kernel
theorem dL_cut_6 : decode cL_cut 6 = .ok (.iload_n 3, 1) := by decide +kernel
theorem dL_cut_7 : decode cL_cut 7 = .ok (.invokevirtual 36, 3) := by decide +kernel
theorem dL_cut_10 : decode cL_cut 10 = .ok (.i2l, 1) := by decide +kernel
theorem dL_cut_11 : decode cL_cut 11 = .ok (.lastore, 1) := by decide +kernel
theorem dL_cut_12 : decode cL_cut 12 = .ok (.goto 7, 3) := by decide +kernel
theorem dL_cut_15 : decode cL_cut 15 = .ok (.astore 5, 2) := by decide +kernel
theorem dL_cut_17 : decode cL_cut 17 = .ok (.iconst 1, 1) := by decide +kernel
theorem dL_cut_18 : decode cL_cut 18 = .ok (.ireturn, 1) := by decide +kernel
theorem dL_cut_19 : decode cL_cut 19 = .ok (.iconst 0, 1) := by decide +kernel
theorem dL_cut_20 : decode cL_cut 20 = .ok (.ireturn, 1) := by decide +kernel
theorem dL_size_0 : decode cL_size 0 = .ok (.aload_n 2, 1) := by decide +kernel
theorem dL_size_1 : decode cL_size 1 = .ok (.iconst 0, 1) := by decide +kernel
theorem dL_size_2 : decode cL_size 2 = .ok (.aload_n 0, 1) := by decide +kernel
theorem dL_size_3 : decode cL_size 3 = .ok (.iload_n 1, 1) := by decide +kernel
theorem dL_size_4 : decode cL_size 4 = .ok (.invokevirtual 39, 3) := by decide +kernel
theorem dL_size_7 : decode cL_size 7 = .ok (.i2l, 1) := by decide +kernel
theorem dL_size_8 : decode cL_size 8 = .ok (.lastore, 1) := by decide +kernel
theorem dL_size_9 : decode cL_size 9 = .ok (.goto 6, 3) := by decide +kernel
theorem dL_size_12 : decode cL_size 12 = .ok (.astore_n 3, 1) := by decide +kernel
theorem dL_size_13 : decode cL_size 13 = .ok (.iconst 1, 1) := by decide +kernel
theorem dL_size_14 : decode cL_size 14 = .ok (.ireturn, 1) := by decide +kernel
theorem dL_size_15 : decode cL_size 15 = .ok (.iconst 0, 1) := by decide +kernel
theorem dL_size_16 : decode cL_size 16 = .ok (.ireturn, 1) := by decide +kernel
theorem dL_at_0 : decode cL_at 0 = .ok (.aload_n 3, 1) := by decide +kernel
theorem dL_at_1 : decode cL_at 1 = .ok (.iconst 0, 1) := by decide +kernel
theorem dL_at_2 : decode cL_at 2 = .ok (.aload_n 0, 1) := by decide +kernel
theorem dL_at_3 : decode cL_at 3 = .ok (.iload_n 1, 1) := by decide +kernel
theorem dL_at_4 : decode cL_at 4 = .ok (.iload_n 2, 1) := by decide +kernel
theorem dL_at_5 : decode cL_at 5 = .ok (.invokevirtual 43, 3) := by decide +kernel
theorem dL_at_8 : decode cL_at 8 = .ok (.i2l, 1) := by decide +kernel
theorem dL_at_9 : decode cL_at 9 = .ok (.lastore, 1) := by decide +kernel
theorem dL_at_10 : decode cL_at 10 = .ok (.goto 7, 3) := by decide +kernel
theorem dL_at_13 : decode cL_at 13 = .ok (.astore 4, 2) := by decide +kernel
theorem dL_at_15 : decode cL_at 15 = .ok (.iconst 1, 1) := by decide +kernel
theorem dL_at_16 : decode cL_at 16 = .ok (.ireturn, 1) := by decide +kernel
theorem dL_at_17 : decode cL_at 17 = .ok (.iconst 0, 1) := by decide +kernel
theorem dL_at_18 : decode cL_at 18 = .ok (.ireturn, 1) := by decide +kernel
theorem dL_digest_0 : decode cL_digest 0 = .ok (.aload_n 2, 1) := by decide +kernel
theorem dL_digest_1 : decode cL_digest 1 = .ok (.iconst 0, 1) := by decide +kernel
theorem dL_digest_2 : decode cL_digest 2 = .ok (.aload_n 0, 1) := by decide +kernel
theorem dL_digest_3 : decode cL_digest 3 = .ok (.iload_n 1, 1) := by decide +kernel
theorem dL_digest_4 : decode cL_digest 4 = .ok (.invokevirtual 46, 3) := by decide +kernel
theorem dL_digest_7 : decode cL_digest 7 = .ok (.i2l, 1) := by decide +kernel
theorem dL_digest_8 : decode cL_digest 8 = .ok (.lastore, 1) := by decide +kernel
theorem dL_digest_9 : decode cL_digest 9 = .ok (.goto 6, 3) := by decide +kernel
theorem dL_digest_12 : decode cL_digest 12 = .ok (.astore_n 3, 1) := by decide +kernel
theorem dL_digest_13 : decode cL_digest 13 = .ok (.iconst 1, 1) := by decide +kernel
theorem dL_digest_14 : decode cL_digest 14 = .ok (.ireturn, 1) := by decide +kernel
theorem dL_digest_15 : decode cL_digest 15 = .ok (.iconst 0, 1) := by decide +kernel
theorem dL_digest_16 : decode cL_digest 16 = .ok (.ireturn, 1) := by decide +kernel
theorem dL_setRank_0 : decode cL_setRank 0 = .ok (.aload_n 3, 1) := by decide +kernel
theorem dL_setRank_1 : decode cL_setRank 1 = .ok (.iconst 0, 1) := by decide +kernel
theorem dL_setRank_2 : decode cL_setRank 2 = .ok (.aload_n 0, 1) := by decide +kernel
theorem dL_setRank_3 : decode cL_setRank 3 = .ok (.iload_n 1, 1) := by decide +kernel
theorem dL_setRank_4 : decode cL_setRank 4 = .ok (.iload_n 2, 1) := by decide +kernel
theorem dL_setRank_5 : decode cL_setRank 5 = .ok (.invokevirtual 49, 3) := by decide +kernel
theorem dL_setRank_8 : decode cL_setRank 8 = .ok (.i2l, 1) := by decide +kernel
theorem dL_setRank_9 : decode cL_setRank 9 = .ok (.lastore, 1) := by decide +kernel
theorem dL_setRank_10 : decode cL_setRank 10 = .ok (.goto 11, 3) := by decide +kernel
theorem dL_setRank_13 : decode cL_setRank 13 = .ok (.astore 4, 2) := by decide +kernel
theorem dL_setRank_15 : decode cL_setRank 15 = .ok (.iconst 1, 1) := by decide +kernel
theorem dL_setRank_16 : decode cL_setRank 16 = .ok (.ireturn, 1) := by decide +kernel
theorem dL_setRank_17 : decode cL_setRank 17 = .ok (.astore 4, 2) := by decide +kernel
theorem dL_setRank_19 : decode cL_setRank 19 = .ok (.iconst 2, 1) := by decide +kernel
theorem dL_setRank_20 : decode cL_setRank 20 = .ok (.ireturn, 1) := by decide +kernel
theorem dL_setRank_21 : decode cL_setRank 21 = .ok (.iconst 0, 1) := by decide +kernel
theorem dL_setRank_22 : decode cL_setRank 22 = .ok (.ireturn, 1) := by decide +kernel
theorem dL_say_0 : decode cL_say 0 = .ok (.aload_n 3, 1) := by decide +kernel
theorem dL_say_1 : decode cL_say 1 = .ok (.iconst 0, 1) := by decide +kernel
theorem dL_say_2 : decode cL_say 2 = .ok (.aload_n 0, 1) := by decide +kernel
theorem dL_say_3 : decode cL_say 3 = .ok (.iload_n 1, 1) := by decide +kernel
theorem dL_say_4 : decode cL_say 4 = .ok (.iload_n 2, 1) := by decide +kernel
theorem dL_say_5 : decode cL_say 5 = .ok (.invokevirtual 52, 3) := by decide +kernel
theorem dL_say_8 : decode cL_say 8 = .ok (.i2l, 1) := by decide +kernel
theorem dL_say_9 : decode cL_say 9 = .ok (.lastore, 1) := by decide +kernel
theorem dL_say_10 : decode cL_say 10 = .ok (.goto 11, 3) := by decide +kernel
theorem dL_say_13 : decode cL_say 13 = .ok (.astore 4, 2) := by decide +kernel
theorem dL_say_15 : decode cL_say 15 = .ok (.iconst 1, 1) := by decide +kernel
theorem dL_say_16 : decode cL_say 16 = .ok (.ireturn, 1) := by decide +kernel
theorem dL_say_17 : decode cL_say 17 = .ok (.astore 4, 2) := by decide +kernel
theorem dL_say_19 : decode cL_say 19 = .ok (.iconst 2, 1) := by decide +kernel
theorem dL_say_20 : decode cL_say 20 = .ok (.ireturn, 1) := by decide +kernel
theorem dL_say_21 : decode cL_say 21 = .ok (.iconst 0, 1) := by decide +kernel
theorem dL_say_22 : decode cL_say 22 = .ok (.ireturn, 1) := by decide +kernel
theorem dL_quote_0 : decode cL_quote 0 = .ok (.aload 5, 2) := by decide +kernel
theorem dL_quote_2 : decode cL_quote 2 = .ok (.iconst 0, 1) := by decide +kernel
theorem dL_quote_3 : decode cL_quote 3 = .ok (.aload_n 0, 1) := by decide +kernel
theorem dL_quote_4 : decode cL_quote 4 = .ok (.iload_n 1, 1) := by decide +kernel
theorem dL_quote_5 : decode cL_quote 5 = .ok (.iload_n 2, 1) := by decide +kernel
theorem dL_quote_6 : decode cL_quote 6 = .ok (.iload_n 3, 1) := by decide +kernel
theorem dL_quote_7 : decode cL_quote 7 = .ok (.iload 4, 2) := by decide +kernel
theorem dL_quote_9 : decode cL_quote 9 = .ok (.invokevirtual 55, 3) := by decide +kernel
theorem dL_quote_12 : decode cL_quote 12 = .ok (.i2l, 1) := by decide +kernel
theorem dL_quote_13 : decode cL_quote 13 = .ok (.lastore, 1) := by decide +kernel
theorem dL_quote_14 : decode cL_quote 14 = .ok (.goto 11, 3) := by decide +kernel
theorem dL_quote_17 : decode cL_quote 17 = .ok (.astore 6, 2) := by decide +kernel
theorem dL_quote_19 : decode cL_quote 19 = .ok (.iconst 1, 1) := by decide +kernel
theorem dL_quote_20 : decode cL_quote 20 = .ok (.ireturn, 1) := by decide +kernel
theorem dL_quote_21 : decode cL_quote 21 = .ok (.astore 6, 2) := by decide +kernel
theorem dL_quote_23 : decode cL_quote 23 = .ok (.iconst 2, 1) := by decide +kernel
theorem dL_quote_24 : decode cL_quote 24 = .ok (.ireturn, 1) := by decide +kernel
theorem dL_quote_25 : decode cL_quote 25 = .ok (.iconst 0, 1) := by decide +kernel
theorem dL_quote_26 : decode cL_quote 26 = .ok (.ireturn, 1) := by decide +kernel
theorem dL_hush_0 : decode cL_hush 0 = .ok (.aload_n 2, 1) := by decide +kernel
theorem dL_hush_1 : decode cL_hush 1 = .ok (.iconst 0, 1) := by decide +kernel
theorem dL_hush_2 : decode cL_hush 2 = .ok (.aload_n 0, 1) := by decide +kernel
theorem dL_hush_3 : decode cL_hush 3 = .ok (.iload_n 1, 1) := by decide +kernel
theorem dL_hush_4 : decode cL_hush 4 = .ok (.invokevirtual 58, 3) := by decide +kernel
theorem dL_hush_7 : decode cL_hush 7 = .ok (.i2l, 1) := by decide +kernel
theorem dL_hush_8 : decode cL_hush 8 = .ok (.lastore, 1) := by decide +kernel
theorem dL_hush_9 : decode cL_hush 9 = .ok (.goto 6, 3) := by decide +kernel
theorem dL_hush_12 : decode cL_hush 12 = .ok (.astore_n 3, 1) := by decide +kernel
theorem dL_hush_13 : decode cL_hush 13 = .ok (.iconst 1, 1) := by decide +kernel
theorem dL_hush_14 : decode cL_hush 14 = .ok (.ireturn, 1) := by decide +kernel
theorem dL_hush_15 : decode cL_hush 15 = .ok (.iconst 0, 1) := by decide +kernel
theorem dL_hush_16 : decode cL_hush 16 = .ok (.ireturn, 1) := by decide +kernel
theorem dL_wordOf_0 : decode cL_wordOf 0 = .ok (.aload_n 3, 1) := by decide +kernel
theorem dL_wordOf_1 : decode cL_wordOf 1 = .ok (.iconst 0, 1) := by decide +kernel
theorem dL_wordOf_2 : decode cL_wordOf 2 = .ok (.aload_n 0, 1) := by decide +kernel
theorem dL_wordOf_3 : decode cL_wordOf 3 = .ok (.iload_n 1, 1) := by decide +kernel
theorem dL_wordOf_4 : decode cL_wordOf 4 = .ok (.iload_n 2, 1) := by decide +kernel
theorem dL_wordOf_5 : decode cL_wordOf 5 = .ok (.invokevirtual 61, 3) := by decide +kernel
theorem dL_wordOf_8 : decode cL_wordOf 8 = .ok (.i2l, 1) := by decide +kernel
theorem dL_wordOf_9 : decode cL_wordOf 9 = .ok (.lastore, 1) := by decide +kernel
theorem dL_wordOf_10 : decode cL_wordOf 10 = .ok (.goto 7, 3) := by decide +kernel
theorem dL_wordOf_13 : decode cL_wordOf 13 = .ok (.astore 4, 2) := by decide +kernel
theorem dL_wordOf_15 : decode cL_wordOf 15 = .ok (.iconst 1, 1) := by decide +kernel
theorem dL_wordOf_16 : decode cL_wordOf 16 = .ok (.ireturn, 1) := by decide +kernel
theorem dL_wordOf_17 : decode cL_wordOf 17 = .ok (.iconst 0, 1) := by decide +kernel
theorem dL_wordOf_18 : decode cL_wordOf 18 = .ok (.ireturn, 1) := by decide +kernel
theorem dL_find_0 : decode cL_find 0 = .ok (.aload_n 2, 1) := by decide +kernel
theorem dL_find_1 : decode cL_find 1 = .ok (.iconst 0, 1) := by decide +kernel
theorem dL_find_2 : decode cL_find 2 = .ok (.aload_n 0, 1) := by decide +kernel
theorem dL_find_3 : decode cL_find 3 = .ok (.iload_n 1, 1) := by decide +kernel
theorem dL_find_4 : decode cL_find 4 = .ok (.invokevirtual 64, 3) := by decide +kernel
theorem dL_find_7 : decode cL_find 7 = .ok (.i2l, 1) := by decide +kernel
theorem dL_find_8 : decode cL_find 8 = .ok (.lastore, 1) := by decide +kernel
theorem dL_find_9 : decode cL_find 9 = .ok (.goto 6, 3) := by decide +kernel
theorem dL_find_12 : decode cL_find 12 = .ok (.astore_n 3, 1) := by decide +kernel
theorem dL_find_13 : decode cL_find 13 = .ok (.iconst 1, 1) := by decide +kernel
theorem dL_find_14 : decode cL_find 14 = .ok (.ireturn, 1) := by decide +kernel
theorem dL_find_15 : decode cL_find 15 = .ok (.iconst 0, 1) := by decide +kernel
theorem dL_find_16 : decode cL_find 16 = .ok (.ireturn, 1) := by decide +kernel
theorem dL_findLast_0 : decode cL_findLast 0 = .ok (.aload_n 2, 1) := by decide +kernel
theorem dL_findLast_1 : decode cL_findLast 1 = .ok (.iconst 0, 1) := by decide +kernel
theorem dL_findLast_2 : decode cL_findLast 2 = .ok (.aload_n 0, 1) := by decide +kernel
theorem dL_findLast_3 : decode cL_findLast 3 = .ok (.iload_n 1, 1) := by decide +kernel
theorem dL_findLast_4 : decode cL_findLast 4 = .ok (.invokevirtual 67, 3) := by decide +kernel
theorem dL_findLast_7 : decode cL_findLast 7 = .ok (.i2l, 1) := by decide +kernel
theorem dL_findLast_8 : decode cL_findLast 8 = .ok (.lastore, 1) := by decide +kernel
theorem dL_findLast_9 : decode cL_findLast 9 = .ok (.goto 6, 3) := by decide +kernel
theorem dL_findLast_12 : decode cL_findLast 12 = .ok (.astore_n 3, 1) := by decide +kernel
theorem dL_findLast_13 : decode cL_findLast 13 = .ok (.iconst 1, 1) := by decide +kernel
theorem dL_findLast_14 : decode cL_findLast 14 = .ok (.ireturn, 1) := by decide +kernel
theorem dL_findLast_15 : decode cL_findLast 15 = .ok (.iconst 0, 1) := by decide +kernel
theorem dL_findLast_16 : decode cL_findLast 16 = .ok (.ireturn, 1) := by decide +kernel
theorem dL_findIn_0 : decode cL_findIn 0 = .ok (.aload 4, 2) := by decide +kernel
theorem dL_findIn_2 : decode cL_findIn 2 = .ok (.iconst 0, 1) := by decide +kernel
theorem dL_findIn_3 : decode cL_findIn 3 = .ok (.aload_n 0, 1) := by decide +kernel
theorem dL_findIn_4 : decode cL_findIn 4 = .ok (.iload_n 1, 1) := by decide +kernel
theorem dL_findIn_5 : decode cL_findIn 5 = .ok (.iload_n 2, 1) := by decide +kernel
theorem dL_findIn_6 : decode cL_findIn 6 = .ok (.iload_n 3, 1) := by decide +kernel
theorem dL_findIn_7 : decode cL_findIn 7 = .ok (.invokevirtual 70, 3) := by decide +kernel
theorem dL_findIn_10 : decode cL_findIn 10 = .ok (.i2l, 1) := by decide +kernel
theorem dL_findIn_11 : decode cL_findIn 11 = .ok (.lastore, 1) := by decide +kernel
theorem dL_findIn_12 : decode cL_findIn 12 = .ok (.goto 7, 3) := by decide +kernel
theorem dL_findIn_15 : decode cL_findIn 15 = .ok (.astore 5, 2) := by decide +kernel
theorem dL_findIn_17 : decode cL_findIn 17 = .ok (.iconst 1, 1) := by decide +kernel
theorem dL_findIn_18 : decode cL_findIn 18 = .ok (.ireturn, 1) := by decide +kernel
theorem dL_findIn_19 : decode cL_findIn 19 = .ok (.iconst 0, 1) := by decide +kernel
theorem dL_findIn_20 : decode cL_findIn 20 = .ok (.ireturn, 1) := by decide +kernel
theorem dL_count_0 : decode cL_count 0 = .ok (.aload_n 3, 1) := by decide +kernel
theorem dL_count_1 : decode cL_count 1 = .ok (.iconst 0, 1) := by decide +kernel
theorem dL_count_2 : decode cL_count 2 = .ok (.aload_n 0, 1) := by decide +kernel
theorem dL_count_3 : decode cL_count 3 = .ok (.iload_n 1, 1) := by decide +kernel
theorem dL_count_4 : decode cL_count 4 = .ok (.iload_n 2, 1) := by decide +kernel
theorem dL_count_5 : decode cL_count 5 = .ok (.invokevirtual 73, 3) := by decide +kernel
theorem dL_count_8 : decode cL_count 8 = .ok (.i2l, 1) := by decide +kernel
theorem dL_count_9 : decode cL_count 9 = .ok (.lastore, 1) := by decide +kernel
theorem dL_count_10 : decode cL_count 10 = .ok (.goto 7, 3) := by decide +kernel
theorem dL_count_13 : decode cL_count 13 = .ok (.astore 4, 2) := by decide +kernel
theorem dL_count_15 : decode cL_count 15 = .ok (.iconst 1, 1) := by decide +kernel
theorem dL_count_16 : decode cL_count 16 = .ok (.ireturn, 1) := by decide +kernel
theorem dL_count_17 : decode cL_count 17 = .ok (.iconst 0, 1) := by decide +kernel
theorem dL_count_18 : decode cL_count 18 = .ok (.ireturn, 1) := by decide +kernel
theorem dL_replace_0 : decode cL_replace 0 = .ok (.aload_n 2, 1) := by decide +kernel
theorem dL_replace_1 : decode cL_replace 1 = .ok (.iconst 0, 1) := by decide +kernel
theorem dL_replace_2 : decode cL_replace 2 = .ok (.aload_n 0, 1) := by decide +kernel
theorem dL_replace_3 : decode cL_replace 3 = .ok (.iload_n 1, 1) := by decide +kernel
theorem dL_replace_4 : decode cL_replace 4 = .ok (.invokevirtual 77, 3) := by decide +kernel
theorem dL_replace_7 : decode cL_replace 7 = .ok (.i2l, 1) := by decide +kernel
theorem dL_replace_8 : decode cL_replace 8 = .ok (.lastore, 1) := by decide +kernel
theorem dL_replace_9 : decode cL_replace 9 = .ok (.goto 9, 3) := by decide +kernel
theorem dL_replace_12 : decode cL_replace 12 = .ok (.astore_n 3, 1) := by decide +kernel
theorem dL_replace_13 : decode cL_replace 13 = .ok (.iconst 1, 1) := by decide +kernel
theorem dL_replace_14 : decode cL_replace 14 = .ok (.ireturn, 1) := by decide +kernel
theorem dL_replace_15 : decode cL_replace 15 = .ok (.astore_n 3, 1) := by decide +kernel
theorem dL_replace_16 : decode cL_replace 16 = .ok (.iconst 2, 1) := by decide +kernel
theorem dL_replace_17 : decode cL_replace 17 = .ok (.ireturn, 1) := by decide +kernel
theorem dL_replace_18 : decode cL_replace 18 = .ok (.iconst 0, 1) := by decide +kernel
theorem dL_replace_19 : decode cL_replace 19 = .ok (.ireturn, 1) := by decide +kernel
theorem dL_replaceWord_0 : decode cL_replaceWord 0 = .ok (.aload 4, 2) := by decide +kernel
theorem dL_replaceWord_2 : decode cL_replaceWord 2 = .ok (.iconst 0, 1) := by decide +kernel
theorem dL_replaceWord_3 : decode cL_replaceWord 3 = .ok (.aload_n 0, 1) := by decide +kernel
theorem dL_replaceWord_4 : decode cL_replaceWord 4 = .ok (.iload_n 1, 1) := by decide +kernel
theorem dL_replaceWord_5 : decode cL_replaceWord 5 = .ok (.iload_n 2, 1) := by decide +kernel
theorem dL_replaceWord_6 : decode cL_replaceWord 6 = .ok (.iload_n 3, 1) := by decide +kernel
theorem dL_replaceWord_7 : decode cL_replaceWord 7 = .ok (.invokevirtual 80, 3) := by decide +kernel
theorem dL_replaceWord_10 : decode cL_replaceWord 10 = .ok (.ifCond .eq 7, 3) := by decide +kernel
theorem dL_replaceWord_13 : decode cL_replaceWord 13 = .ok (.lconst 1, 1) := by decide +kernel
theorem dL_replaceWord_14 : decode cL_replaceWord 14 = .ok (.goto 4, 3) := by decide +kernel
theorem dL_replaceWord_17 : decode cL_replaceWord 17 = .ok (.lconst 0, 1) := by decide +kernel
theorem dL_replaceWord_18 : decode cL_replaceWord 18 = .ok (.lastore, 1) := by decide +kernel
theorem dL_replaceWord_19 : decode cL_replaceWord 19 = .ok (.goto 7, 3) := by decide +kernel
theorem dL_replaceWord_22 : decode cL_replaceWord 22 = .ok (.astore 5, 2) := by decide +kernel
theorem dL_replaceWord_24 : decode cL_replaceWord 24 = .ok (.iconst 1, 1) := by decide +kernel
theorem dL_replaceWord_25 : decode cL_replaceWord 25 = .ok (.ireturn, 1) := by decide +kernel
theorem dL_replaceWord_26 : decode cL_replaceWord 26 = .ok (.iconst 0, 1) := by decide +kernel
theorem dL_replaceWord_27 : decode cL_replaceWord 27 = .ok (.ireturn, 1) := by decide +kernel
theorem dL_frequency_0 : decode cL_frequency 0 = .ok (.aload_n 3, 1) := by decide +kernel
theorem dL_frequency_1 : decode cL_frequency 1 = .ok (.iconst 0, 1) := by decide +kernel
theorem dL_frequency_2 : decode cL_frequency 2 = .ok (.aload_n 0, 1) := by decide +kernel
theorem dL_frequency_3 : decode cL_frequency 3 = .ok (.iload_n 1, 1) := by decide +kernel
theorem dL_frequency_4 : decode cL_frequency 4 = .ok (.iload_n 2, 1) := by decide +kernel
theorem dL_frequency_5 : decode cL_frequency 5 = .ok (.invokevirtual 84, 3) := by decide +kernel
theorem dL_frequency_8 : decode cL_frequency 8 = .ok (.i2l, 1) := by decide +kernel
theorem dL_frequency_9 : decode cL_frequency 9 = .ok (.lastore, 1) := by decide +kernel
theorem dL_frequency_10 : decode cL_frequency 10 = .ok (.goto 7, 3) := by decide +kernel
theorem dL_frequency_13 : decode cL_frequency 13 = .ok (.astore 4, 2) := by decide +kernel
theorem dL_frequency_15 : decode cL_frequency 15 = .ok (.iconst 1, 1) := by decide +kernel
theorem dL_frequency_16 : decode cL_frequency 16 = .ok (.ireturn, 1) := by decide +kernel
theorem dL_frequency_17 : decode cL_frequency 17 = .ok (.iconst 0, 1) := by decide +kernel
theorem dL_frequency_18 : decode cL_frequency 18 = .ok (.ireturn, 1) := by decide +kernel
theorem dL_different_0 : decode cL_different 0 = .ok (.aload_n 2, 1) := by decide +kernel
theorem dL_different_1 : decode cL_different 1 = .ok (.iconst 0, 1) := by decide +kernel
theorem dL_different_2 : decode cL_different 2 = .ok (.aload_n 0, 1) := by decide +kernel
theorem dL_different_3 : decode cL_different 3 = .ok (.iload_n 1, 1) := by decide +kernel
theorem dL_different_4 : decode cL_different 4 = .ok (.invokevirtual 87, 3) := by decide +kernel
theorem dL_different_7 : decode cL_different 7 = .ok (.i2l, 1) := by decide +kernel
theorem dL_different_8 : decode cL_different 8 = .ok (.lastore, 1) := by decide +kernel
theorem dL_different_9 : decode cL_different 9 = .ok (.goto 6, 3) := by decide +kernel
theorem dL_different_12 : decode cL_different 12 = .ok (.astore_n 3, 1) := by decide +kernel
theorem dL_different_13 : decode cL_different 13 = .ok (.iconst 1, 1) := by decide +kernel
theorem dL_different_14 : decode cL_different 14 = .ok (.ireturn, 1) := by decide +kernel
theorem dL_different_15 : decode cL_different 15 = .ok (.iconst 0, 1) := by decide +kernel
theorem dL_different_16 : decode cL_different 16 = .ok (.ireturn, 1) := by decide +kernel
theorem dL_most_0 : decode cL_most 0 = .ok (.aload_n 2, 1) := by decide +kernel
theorem dL_most_1 : decode cL_most 1 = .ok (.iconst 0, 1) := by decide +kernel
theorem dL_most_2 : decode cL_most 2 = .ok (.aload_n 0, 1) := by decide +kernel
theorem dL_most_3 : decode cL_most 3 = .ok (.iload_n 1, 1) := by decide +kernel
theorem dL_most_4 : decode cL_most 4 = .ok (.invokevirtual 90, 3) := by decide +kernel
theorem dL_most_7 : decode cL_most 7 = .ok (.i2l, 1) := by decide +kernel
theorem dL_most_8 : decode cL_most 8 = .ok (.lastore, 1) := by decide +kernel
theorem dL_most_9 : decode cL_most 9 = .ok (.goto 9, 3) := by decide +kernel
theorem dL_most_12 : decode cL_most 12 = .ok (.astore_n 3, 1) := by decide +kernel
theorem dL_most_13 : decode cL_most 13 = .ok (.iconst 1, 1) := by decide +kernel
theorem dL_most_14 : decode cL_most 14 = .ok (.ireturn, 1) := by decide +kernel
theorem dL_most_15 : decode cL_most 15 = .ok (.astore_n 3, 1) := by decide +kernel
theorem dL_most_16 : decode cL_most 16 = .ok (.iconst 2, 1) := by decide +kernel
theorem dL_most_17 : decode cL_most 17 = .ok (.ireturn, 1) := by decide +kernel
theorem dL_most_18 : decode cL_most 18 = .ok (.iconst 0, 1) := by decide +kernel
theorem dL_most_19 : decode cL_most 19 = .ok (.ireturn, 1) := by decide +kernel
theorem dL_isApart_0 : decode cL_isApart 0 = .ok (.aload_n 3, 1) := by decide +kernel
theorem dL_isApart_1 : decode cL_isApart 1 = .ok (.iconst 0, 1) := by decide +kernel
theorem dL_isApart_2 : decode cL_isApart 2 = .ok (.aload_n 0, 1) := by decide +kernel
theorem dL_isApart_3 : decode cL_isApart 3 = .ok (.iload_n 1, 1) := by decide +kernel
theorem dL_isApart_4 : decode cL_isApart 4 = .ok (.iload_n 2, 1) := by decide +kernel
theorem dL_isApart_5 : decode cL_isApart 5 = .ok (.invokevirtual 95, 3) := by decide +kernel
theorem dL_isApart_8 : decode cL_isApart 8 = .ok (.ifCond .eq 7, 3) := by decide +kernel
theorem dL_isApart_11 : decode cL_isApart 11 = .ok (.lconst 1, 1) := by decide +kernel
theorem dL_isApart_12 : decode cL_isApart 12 = .ok (.goto 4, 3) := by decide +kernel
theorem dL_isApart_15 : decode cL_isApart 15 = .ok (.lconst 0, 1) := by decide +kernel
theorem dL_isApart_16 : decode cL_isApart 16 = .ok (.lastore, 1) := by decide +kernel
theorem dL_isApart_17 : decode cL_isApart 17 = .ok (.goto 7, 3) := by decide +kernel
theorem dL_isApart_20 : decode cL_isApart 20 = .ok (.astore 4, 2) := by decide +kernel
theorem dL_isApart_22 : decode cL_isApart 22 = .ok (.iconst 1, 1) := by decide +kernel
theorem dL_isApart_23 : decode cL_isApart 23 = .ok (.ireturn, 1) := by decide +kernel
theorem dL_isApart_24 : decode cL_isApart 24 = .ok (.iconst 0, 1) := by decide +kernel
theorem dL_isApart_25 : decode cL_isApart 25 = .ok (.ireturn, 1) := by decide +kernel
theorem dL_alone_0 : decode cL_alone 0 = .ok (.aload_n 3, 1) := by decide +kernel
theorem dL_alone_1 : decode cL_alone 1 = .ok (.iconst 0, 1) := by decide +kernel
theorem dL_alone_2 : decode cL_alone 2 = .ok (.aload_n 0, 1) := by decide +kernel
theorem dL_alone_3 : decode cL_alone 3 = .ok (.iload_n 1, 1) := by decide +kernel
theorem dL_alone_4 : decode cL_alone 4 = .ok (.iload_n 2, 1) := by decide +kernel
theorem dL_alone_5 : decode cL_alone 5 = .ok (.invokevirtual 99, 3) := by decide +kernel
theorem dL_alone_8 : decode cL_alone 8 = .ok (.i2l, 1) := by decide +kernel
theorem dL_alone_9 : decode cL_alone 9 = .ok (.lastore, 1) := by decide +kernel
theorem dL_alone_10 : decode cL_alone 10 = .ok (.goto 7, 3) := by decide +kernel
theorem dL_alone_13 : decode cL_alone 13 = .ok (.astore 4, 2) := by decide +kernel
theorem dL_alone_15 : decode cL_alone 15 = .ok (.iconst 1, 1) := by decide +kernel
theorem dL_alone_16 : decode cL_alone 16 = .ok (.ireturn, 1) := by decide +kernel
theorem dL_alone_17 : decode cL_alone 17 = .ok (.iconst 0, 1) := by decide +kernel
theorem dL_alone_18 : decode cL_alone 18 = .ok (.ireturn, 1) := by decide +kernel
theorem dL_greatest_0 : decode cL_greatest 0 = .ok (.aload_n 3, 1) := by decide +kernel
theorem dL_greatest_1 : decode cL_greatest 1 = .ok (.iconst 0, 1) := by decide +kernel
theorem dL_greatest_2 : decode cL_greatest 2 = .ok (.aload_n 0, 1) := by decide +kernel
theorem dL_greatest_3 : decode cL_greatest 3 = .ok (.iload_n 1, 1) := by decide +kernel
theorem dL_greatest_4 : decode cL_greatest 4 = .ok (.iload_n 2, 1) := by decide +kernel
theorem dL_greatest_5 : decode cL_greatest 5 = .ok (.invokevirtual 102, 3) := by decide +kernel
theorem dL_greatest_8 : decode cL_greatest 8 = .ok (.i2l, 1) := by decide +kernel
theorem dL_greatest_9 : decode cL_greatest 9 = .ok (.lastore, 1) := by decide +kernel
theorem dL_greatest_10 : decode cL_greatest 10 = .ok (.goto 15, 3) := by decide +kernel
theorem dL_greatest_13 : decode cL_greatest 13 = .ok (.astore 4, 2) := by decide +kernel
theorem dL_greatest_15 : decode cL_greatest 15 = .ok (.iconst 1, 1) := by decide +kernel
theorem dL_greatest_16 : decode cL_greatest 16 = .ok (.ireturn, 1) := by decide +kernel
theorem dL_greatest_17 : decode cL_greatest 17 = .ok (.astore 4, 2) := by decide +kernel
theorem dL_greatest_19 : decode cL_greatest 19 = .ok (.iconst 2, 1) := by decide +kernel
theorem dL_greatest_20 : decode cL_greatest 20 = .ok (.ireturn, 1) := by decide +kernel
theorem dL_greatest_21 : decode cL_greatest 21 = .ok (.astore 4, 2) := by decide +kernel
theorem dL_greatest_23 : decode cL_greatest 23 = .ok (.iconst 3, 1) := by decide +kernel
theorem dL_greatest_24 : decode cL_greatest 24 = .ok (.ireturn, 1) := by decide +kernel
theorem dL_greatest_25 : decode cL_greatest 25 = .ok (.iconst 0, 1) := by decide +kernel
theorem dL_greatest_26 : decode cL_greatest 26 = .ok (.ireturn, 1) := by decide +kernel
theorem dL_least_0 : decode cL_least 0 = .ok (.aload_n 3, 1) := by decide +kernel
theorem dL_least_1 : decode cL_least 1 = .ok (.iconst 0, 1) := by decide +kernel
theorem dL_least_2 : decode cL_least 2 = .ok (.aload_n 0, 1) := by decide +kernel
theorem dL_least_3 : decode cL_least 3 = .ok (.iload_n 1, 1) := by decide +kernel
theorem dL_least_4 : decode cL_least 4 = .ok (.iload_n 2, 1) := by decide +kernel
theorem dL_least_5 : decode cL_least 5 = .ok (.invokevirtual 105, 3) := by decide +kernel
theorem dL_least_8 : decode cL_least 8 = .ok (.i2l, 1) := by decide +kernel
theorem dL_least_9 : decode cL_least 9 = .ok (.lastore, 1) := by decide +kernel
theorem dL_least_10 : decode cL_least 10 = .ok (.goto 15, 3) := by decide +kernel
theorem dL_least_13 : decode cL_least 13 = .ok (.astore 4, 2) := by decide +kernel
theorem dL_least_15 : decode cL_least 15 = .ok (.iconst 1, 1) := by decide +kernel
theorem dL_least_16 : decode cL_least 16 = .ok (.ireturn, 1) := by decide +kernel
theorem dL_least_17 : decode cL_least 17 = .ok (.astore 4, 2) := by decide +kernel
theorem dL_least_19 : decode cL_least 19 = .ok (.iconst 2, 1) := by decide +kernel
theorem dL_least_20 : decode cL_least 20 = .ok (.ireturn, 1) := by decide +kernel
theorem dL_least_21 : decode cL_least 21 = .ok (.astore 4, 2) := by decide +kernel
theorem dL_least_23 : decode cL_least 23 = .ok (.iconst 3, 1) := by decide +kernel
theorem dL_least_24 : decode cL_least 24 = .ok (.ireturn, 1) := by decide +kernel
theorem dL_least_25 : decode cL_least 25 = .ok (.iconst 0, 1) := by decide +kernel
theorem dL_least_26 : decode cL_least 26 = .ok (.ireturn, 1) := by decide +kernel
theorem dL_sort_0 : decode cL_sort 0 = .ok (.aload 4, 2) := by decide +kernel
theorem dL_sort_2 : decode cL_sort 2 = .ok (.iconst 0, 1) := by decide +kernel
theorem dL_sort_3 : decode cL_sort 3 = .ok (.aload_n 0, 1) := by decide +kernel
theorem dL_sort_4 : decode cL_sort 4 = .ok (.iload_n 1, 1) := by decide +kernel
theorem dL_sort_5 : decode cL_sort 5 = .ok (.iload_n 2, 1) := by decide +kernel
theorem dL_sort_6 : decode cL_sort 6 = .ok (.iload_n 3, 1) := by decide +kernel
theorem dL_sort_7 : decode cL_sort 7 = .ok (.invokevirtual 108, 3) := by decide +kernel
theorem dL_sort_10 : decode cL_sort 10 = .ok (.i2l, 1) := by decide +kernel
theorem dL_sort_11 : decode cL_sort 11 = .ok (.lastore, 1) := by decide +kernel
theorem dL_sort_12 : decode cL_sort 12 = .ok (.goto 11, 3) := by decide +kernel
theorem dL_sort_15 : decode cL_sort 15 = .ok (.astore 5, 2) := by decide +kernel
theorem dL_sort_17 : decode cL_sort 17 = .ok (.iconst 1, 1) := by decide +kernel
theorem dL_sort_18 : decode cL_sort 18 = .ok (.ireturn, 1) := by decide +kernel
theorem dL_sort_19 : decode cL_sort 19 = .ok (.astore 5, 2) := by decide +kernel
theorem dL_sort_21 : decode cL_sort 21 = .ok (.iconst 2, 1) := by decide +kernel
theorem dL_sort_22 : decode cL_sort 22 = .ok (.ireturn, 1) := by decide +kernel
theorem dL_sort_23 : decode cL_sort 23 = .ok (.iconst 0, 1) := by decide +kernel
theorem dL_sort_24 : decode cL_sort 24 = .ok (.ireturn, 1) := by decide +kernel
theorem dL_isSorted_0 : decode cL_isSorted 0 = .ok (.aload_n 3, 1) := by decide +kernel
theorem dL_isSorted_1 : decode cL_isSorted 1 = .ok (.iconst 0, 1) := by decide +kernel
theorem dL_isSorted_2 : decode cL_isSorted 2 = .ok (.aload_n 0, 1) := by decide +kernel
theorem dL_isSorted_3 : decode cL_isSorted 3 = .ok (.iload_n 1, 1) := by decide +kernel
theorem dL_isSorted_4 : decode cL_isSorted 4 = .ok (.iload_n 2, 1) := by decide +kernel
theorem dL_isSorted_5 : decode cL_isSorted 5 = .ok (.invokevirtual 112, 3) := by decide +kernel
theorem dL_isSorted_8 : decode cL_isSorted 8 = .ok (.ifCond .eq 7, 3) := by decide +kernel
theorem dL_isSorted_11 : decode cL_isSorted 11 = .ok (.lconst 1, 1) := by decide +kernel
theorem dL_isSorted_12 : decode cL_isSorted 12 = .ok (.goto 4, 3) := by decide +kernel
theorem dL_isSorted_15 : decode cL_isSorted 15 = .ok (.lconst 0, 1) := by decide +kernel
theorem dL_isSorted_16 : decode cL_isSorted 16 = .ok (.lastore, 1) := by decide +kernel
theorem dL_isSorted_17 : decode cL_isSorted 17 = .ok (.goto 11, 3) := by decide +kernel
theorem dL_isSorted_20 : decode cL_isSorted 20 = .ok (.astore 4, 2) := by decide +kernel
theorem dL_isSorted_22 : decode cL_isSorted 22 = .ok (.iconst 1, 1) := by decide +kernel
theorem dL_isSorted_23 : decode cL_isSorted 23 = .ok (.ireturn, 1) := by decide +kernel
theorem dL_isSorted_24 : decode cL_isSorted 24 = .ok (.astore 4, 2) := by decide +kernel
theorem dL_isSorted_26 : decode cL_isSorted 26 = .ok (.iconst 2, 1) := by decide +kernel
theorem dL_isSorted_27 : decode cL_isSorted 27 = .ok (.ireturn, 1) := by decide +kernel
theorem dL_isSorted_28 : decode cL_isSorted 28 = .ok (.iconst 0, 1) := by decide +kernel
theorem dL_isSorted_29 : decode cL_isSorted 29 = .ok (.ireturn, 1) := by decide +kernel
theorem dL_search_0 : decode cL_search 0 = .ok (.aload 4, 2) := by decide +kernel
theorem dL_search_2 : decode cL_search 2 = .ok (.iconst 0, 1) := by decide +kernel
theorem dL_search_3 : decode cL_search 3 = .ok (.aload_n 0, 1) := by decide +kernel
theorem dL_search_4 : decode cL_search 4 = .ok (.iload_n 1, 1) := by decide +kernel
theorem dL_search_5 : decode cL_search 5 = .ok (.iload_n 2, 1) := by decide +kernel
theorem dL_search_6 : decode cL_search 6 = .ok (.iload_n 3, 1) := by decide +kernel
theorem dL_search_7 : decode cL_search 7 = .ok (.invokevirtual 115, 3) := by decide +kernel
theorem dL_search_10 : decode cL_search 10 = .ok (.i2l, 1) := by decide +kernel
theorem dL_search_11 : decode cL_search 11 = .ok (.lastore, 1) := by decide +kernel
theorem dL_search_12 : decode cL_search 12 = .ok (.goto 15, 3) := by decide +kernel
theorem dL_search_15 : decode cL_search 15 = .ok (.astore 5, 2) := by decide +kernel
theorem dL_search_17 : decode cL_search 17 = .ok (.iconst 1, 1) := by decide +kernel
theorem dL_search_18 : decode cL_search 18 = .ok (.ireturn, 1) := by decide +kernel
theorem dL_search_19 : decode cL_search 19 = .ok (.astore 5, 2) := by decide +kernel
theorem dL_search_21 : decode cL_search 21 = .ok (.iconst 2, 1) := by decide +kernel
theorem dL_search_22 : decode cL_search 22 = .ok (.ireturn, 1) := by decide +kernel
theorem dL_search_23 : decode cL_search 23 = .ok (.astore 5, 2) := by decide +kernel
theorem dL_search_25 : decode cL_search 25 = .ok (.iconst 3, 1) := by decide +kernel
theorem dL_search_26 : decode cL_search 26 = .ok (.ireturn, 1) := by decide +kernel
theorem dL_search_27 : decode cL_search 27 = .ok (.iconst 0, 1) := by decide +kernel
theorem dL_search_28 : decode cL_search 28 = .ok (.ireturn, 1) := by decide +kernel
theorem dL_turn_0 : decode cL_turn 0 = .ok (.aload 4, 2) := by decide +kernel
theorem dL_turn_2 : decode cL_turn 2 = .ok (.iconst 0, 1) := by decide +kernel
theorem dL_turn_3 : decode cL_turn 3 = .ok (.aload_n 0, 1) := by decide +kernel
theorem dL_turn_4 : decode cL_turn 4 = .ok (.iload_n 1, 1) := by decide +kernel
theorem dL_turn_5 : decode cL_turn 5 = .ok (.iload_n 2, 1) := by decide +kernel
theorem dL_turn_6 : decode cL_turn 6 = .ok (.iload_n 3, 1) := by decide +kernel
theorem dL_turn_7 : decode cL_turn 7 = .ok (.invokevirtual 118, 3) := by decide +kernel
theorem dL_turn_10 : decode cL_turn 10 = .ok (.i2l, 1) := by decide +kernel
theorem dL_turn_11 : decode cL_turn 11 = .ok (.lastore, 1) := by decide +kernel
theorem dL_turn_12 : decode cL_turn 12 = .ok (.goto 7, 3) := by decide +kernel
theorem dL_turn_15 : decode cL_turn 15 = .ok (.astore 5, 2) := by decide +kernel
theorem dL_turn_17 : decode cL_turn 17 = .ok (.iconst 1, 1) := by decide +kernel
theorem dL_turn_18 : decode cL_turn 18 = .ok (.ireturn, 1) := by decide +kernel
theorem dL_turn_19 : decode cL_turn 19 = .ok (.iconst 0, 1) := by decide +kernel
theorem dL_turn_20 : decode cL_turn 20 = .ok (.ireturn, 1) := by decide +kernel
theorem dL_move_0 : decode cL_move 0 = .ok (.aload 5, 2) := by decide +kernel
theorem dL_move_2 : decode cL_move 2 = .ok (.iconst 0, 1) := by decide +kernel
theorem dL_move_3 : decode cL_move 3 = .ok (.aload_n 0, 1) := by decide +kernel
theorem dL_move_4 : decode cL_move 4 = .ok (.iload_n 1, 1) := by decide +kernel
theorem dL_move_5 : decode cL_move 5 = .ok (.iload_n 2, 1) := by decide +kernel
theorem dL_move_6 : decode cL_move 6 = .ok (.iload_n 3, 1) := by decide +kernel
theorem dL_move_7 : decode cL_move 7 = .ok (.iload 4, 2) := by decide +kernel
theorem dL_move_9 : decode cL_move 9 = .ok (.invokevirtual 121, 3) := by decide +kernel
theorem dL_move_12 : decode cL_move 12 = .ok (.i2l, 1) := by decide +kernel
theorem dL_move_13 : decode cL_move 13 = .ok (.lastore, 1) := by decide +kernel
theorem dL_move_14 : decode cL_move 14 = .ok (.goto 7, 3) := by decide +kernel
theorem dL_move_17 : decode cL_move 17 = .ok (.astore 6, 2) := by decide +kernel
theorem dL_move_19 : decode cL_move 19 = .ok (.iconst 1, 1) := by decide +kernel
theorem dL_move_20 : decode cL_move 20 = .ok (.ireturn, 1) := by decide +kernel
theorem dL_move_21 : decode cL_move 21 = .ok (.iconst 0, 1) := by decide +kernel
theorem dL_move_22 : decode cL_move 22 = .ok (.ireturn, 1) := by decide +kernel
theorem dL_swap_0 : decode cL_swap 0 = .ok (.aload 4, 2) := by decide +kernel
theorem dL_swap_2 : decode cL_swap 2 = .ok (.iconst 0, 1) := by decide +kernel
theorem dL_swap_3 : decode cL_swap 3 = .ok (.aload_n 0, 1) := by decide +kernel
theorem dL_swap_4 : decode cL_swap 4 = .ok (.iload_n 1, 1) := by decide +kernel
theorem dL_swap_5 : decode cL_swap 5 = .ok (.iload_n 2, 1) := by decide +kernel
theorem dL_swap_6 : decode cL_swap 6 = .ok (.iload_n 3, 1) := by decide +kernel
theorem dL_swap_7 : decode cL_swap 7 = .ok (.invokevirtual 124, 3) := by decide +kernel
theorem dL_swap_10 : decode cL_swap 10 = .ok (.i2l, 1) := by decide +kernel
theorem dL_swap_11 : decode cL_swap 11 = .ok (.lastore, 1) := by decide +kernel
theorem dL_swap_12 : decode cL_swap 12 = .ok (.goto 7, 3) := by decide +kernel
theorem dL_swap_15 : decode cL_swap 15 = .ok (.astore 5, 2) := by decide +kernel
theorem dL_swap_17 : decode cL_swap 17 = .ok (.iconst 1, 1) := by decide +kernel
theorem dL_swap_18 : decode cL_swap 18 = .ok (.ireturn, 1) := by decide +kernel
theorem dL_swap_19 : decode cL_swap 19 = .ok (.iconst 0, 1) := by decide +kernel
theorem dL_swap_20 : decode cL_swap 20 = .ok (.ireturn, 1) := by decide +kernel
theorem dL_fill_0 : decode cL_fill 0 = .ok (.aload 5, 2) := by decide +kernel
theorem dL_fill_2 : decode cL_fill 2 = .ok (.iconst 0, 1) := by decide +kernel
theorem dL_fill_3 : decode cL_fill 3 = .ok (.aload_n 0, 1) := by decide +kernel
theorem dL_fill_4 : decode cL_fill 4 = .ok (.iload_n 1, 1) := by decide +kernel
theorem dL_fill_5 : decode cL_fill 5 = .ok (.iload_n 2, 1) := by decide +kernel
theorem dL_fill_6 : decode cL_fill 6 = .ok (.iload_n 3, 1) := by decide +kernel
theorem dL_fill_7 : decode cL_fill 7 = .ok (.iload 4, 2) := by decide +kernel
theorem dL_fill_9 : decode cL_fill 9 = .ok (.invokevirtual 127, 3) := by decide +kernel
theorem dL_fill_12 : decode cL_fill 12 = .ok (.i2l, 1) := by decide +kernel
theorem dL_fill_13 : decode cL_fill 13 = .ok (.lastore, 1) := by decide +kernel
theorem dL_fill_14 : decode cL_fill 14 = .ok (.goto 7, 3) := by decide +kernel
theorem dL_fill_17 : decode cL_fill 17 = .ok (.astore 6, 2) := by decide +kernel
theorem dL_fill_19 : decode cL_fill 19 = .ok (.iconst 1, 1) := by decide +kernel
theorem dL_fill_20 : decode cL_fill 20 = .ok (.ireturn, 1) := by decide +kernel
theorem dL_fill_21 : decode cL_fill 21 = .ok (.iconst 0, 1) := by decide +kernel
theorem dL_fill_22 : decode cL_fill 22 = .ok (.ireturn, 1) := by decide +kernel
theorem dL_copy_0 : decode cL_copy 0 = .ok (.aload_n 3, 1) := by decide +kernel
theorem dL_copy_1 : decode cL_copy 1 = .ok (.iconst 0, 1) := by decide +kernel
theorem dL_copy_2 : decode cL_copy 2 = .ok (.aload_n 0, 1) := by decide +kernel
theorem dL_copy_3 : decode cL_copy 3 = .ok (.iload_n 1, 1) := by decide +kernel
theorem dL_copy_4 : decode cL_copy 4 = .ok (.iload_n 2, 1) := by decide +kernel
theorem dL_copy_5 : decode cL_copy 5 = .ok (.invokevirtual 130, 3) := by decide +kernel
theorem dL_copy_8 : decode cL_copy 8 = .ok (.i2l, 1) := by decide +kernel
theorem dL_copy_9 : decode cL_copy 9 = .ok (.lastore, 1) := by decide +kernel
theorem dL_copy_10 : decode cL_copy 10 = .ok (.goto 11, 3) := by decide +kernel
theorem dL_copy_13 : decode cL_copy 13 = .ok (.astore 4, 2) := by decide +kernel
theorem dL_copy_15 : decode cL_copy 15 = .ok (.iconst 1, 1) := by decide +kernel
theorem dL_copy_16 : decode cL_copy 16 = .ok (.ireturn, 1) := by decide +kernel
theorem dL_copy_17 : decode cL_copy 17 = .ok (.astore 4, 2) := by decide +kernel
theorem dL_copy_19 : decode cL_copy 19 = .ok (.iconst 2, 1) := by decide +kernel
theorem dL_copy_20 : decode cL_copy 20 = .ok (.ireturn, 1) := by decide +kernel
theorem dL_copy_21 : decode cL_copy 21 = .ok (.iconst 0, 1) := by decide +kernel
theorem dL_copy_22 : decode cL_copy 22 = .ok (.ireturn, 1) := by decide +kernel
theorem dL_stands_0 : decode cL_stands 0 = .ok (.aload_n 3, 1) := by decide +kernel
theorem dL_stands_1 : decode cL_stands 1 = .ok (.iconst 0, 1) := by decide +kernel
theorem dL_stands_2 : decode cL_stands 2 = .ok (.aload_n 0, 1) := by decide +kernel
theorem dL_stands_3 : decode cL_stands 3 = .ok (.iload_n 1, 1) := by decide +kernel
theorem dL_stands_4 : decode cL_stands 4 = .ok (.iload_n 2, 1) := by decide +kernel
theorem dL_stands_5 : decode cL_stands 5 = .ok (.invokevirtual 133, 3) := by decide +kernel
theorem dL_stands_8 : decode cL_stands 8 = .ok (.i2l, 1) := by decide +kernel
theorem dL_stands_9 : decode cL_stands 9 = .ok (.lastore, 1) := by decide +kernel
theorem dL_stands_10 : decode cL_stands 10 = .ok (.goto 11, 3) := by decide +kernel
theorem dL_stands_13 : decode cL_stands 13 = .ok (.astore 4, 2) := by decide +kernel
theorem dL_stands_15 : decode cL_stands 15 = .ok (.iconst 1, 1) := by decide +kernel
theorem dL_stands_16 : decode cL_stands 16 = .ok (.ireturn, 1) := by decide +kernel
theorem dL_stands_17 : decode cL_stands 17 = .ok (.astore 4, 2) := by decide +kernel
theorem dL_stands_19 : decode cL_stands 19 = .ok (.iconst 2, 1) := by decide +kernel
theorem dL_stands_20 : decode cL_stands 20 = .ok (.ireturn, 1) := by decide +kernel
theorem dL_stands_21 : decode cL_stands 21 = .ok (.iconst 0, 1) := by decide +kernel
theorem dL_stands_22 : decode cL_stands 22 = .ok (.ireturn, 1) := by decide +kernel
theorem dL_near_0 : decode cL_near 0 = .ok (.aload 4, 2) := by decide +kernel
theorem dL_near_2 : decode cL_near 2 = .ok (.iconst 0, 1) := by decide +kernel
theorem dL_near_3 : decode cL_near 3 = .ok (.aload_n 0, 1) := by decide +kernel
theorem dL_near_4 : decode cL_near 4 = .ok (.iload_n 1, 1) := by decide +kernel
theorem dL_near_5 : decode cL_near 5 = .ok (.iload_n 2, 1) := by decide +kernel
theorem dL_near_6 : decode cL_near 6 = .ok (.iload_n 3, 1) := by decide +kernel
theorem dL_near_7 : decode cL_near 7 = .ok (.invokevirtual 136, 3) := by decide +kernel
theorem dL_near_10 : decode cL_near 10 = .ok (.i2l, 1) := by decide +kernel
theorem dL_near_11 : decode cL_near 11 = .ok (.lastore, 1) := by decide +kernel
theorem dL_near_12 : decode cL_near 12 = .ok (.goto 7, 3) := by decide +kernel
theorem dL_near_15 : decode cL_near 15 = .ok (.astore 5, 2) := by decide +kernel
theorem dL_near_17 : decode cL_near 17 = .ok (.iconst 1, 1) := by decide +kernel
theorem dL_near_18 : decode cL_near 18 = .ok (.ireturn, 1) := by decide +kernel
theorem dL_near_19 : decode cL_near 19 = .ok (.iconst 0, 1) := by decide +kernel
theorem dL_near_20 : decode cL_near 20 = .ok (.ireturn, 1) := by decide +kernel
theorem dL_common_0 : decode cL_common 0 = .ok (.aload 4, 2) := by decide +kernel
theorem dL_common_2 : decode cL_common 2 = .ok (.iconst 0, 1) := by decide +kernel
theorem dL_common_3 : decode cL_common 3 = .ok (.aload_n 0, 1) := by decide +kernel
theorem dL_common_4 : decode cL_common 4 = .ok (.iload_n 1, 1) := by decide +kernel
theorem dL_common_5 : decode cL_common 5 = .ok (.iload_n 2, 1) := by decide +kernel
theorem dL_common_6 : decode cL_common 6 = .ok (.iload_n 3, 1) := by decide +kernel
theorem dL_common_7 : decode cL_common 7 = .ok (.invokevirtual 139, 3) := by decide +kernel
theorem dL_common_10 : decode cL_common 10 = .ok (.i2l, 1) := by decide +kernel
theorem dL_common_11 : decode cL_common 11 = .ok (.lastore, 1) := by decide +kernel
theorem dL_common_12 : decode cL_common 12 = .ok (.goto 11, 3) := by decide +kernel
theorem dL_common_15 : decode cL_common 15 = .ok (.astore 5, 2) := by decide +kernel
theorem dL_common_17 : decode cL_common 17 = .ok (.iconst 1, 1) := by decide +kernel
theorem dL_common_18 : decode cL_common 18 = .ok (.ireturn, 1) := by decide +kernel
theorem dL_common_19 : decode cL_common 19 = .ok (.astore 5, 2) := by decide +kernel
theorem dL_common_21 : decode cL_common 21 = .ok (.iconst 2, 1) := by decide +kernel
theorem dL_common_22 : decode cL_common 22 = .ok (.ireturn, 1) := by decide +kernel
theorem dL_common_23 : decode cL_common 23 = .ok (.iconst 0, 1) := by decide +kernel
theorem dL_common_24 : decode cL_common 24 = .ok (.ireturn, 1) := by decide +kernel
theorem dL_refuses_0 : decode cL_refuses 0 = .ok (.aload_n 2, 1) := by decide +kernel
theorem dL_refuses_1 : decode cL_refuses 1 = .ok (.iconst 0, 1) := by decide +kernel
theorem dL_refuses_2 : decode cL_refuses 2 = .ok (.aload_n 0, 1) := by decide +kernel
theorem dL_refuses_3 : decode cL_refuses 3 = .ok (.iload_n 1, 1) := by decide +kernel
theorem dL_refuses_4 : decode cL_refuses 4 = .ok (.invokevirtual 142, 3) := by decide +kernel
theorem dL_refuses_7 : decode cL_refuses 7 = .ok (.ifCond .eq 7, 3) := by decide +kernel
theorem dL_refuses_10 : decode cL_refuses 10 = .ok (.lconst 1, 1) := by decide +kernel
theorem dL_refuses_11 : decode cL_refuses 11 = .ok (.goto 4, 3) := by decide +kernel
theorem dL_refuses_14 : decode cL_refuses 14 = .ok (.lconst 0, 1) := by decide +kernel
theorem dL_refuses_15 : decode cL_refuses 15 = .ok (.lastore, 1) := by decide +kernel
theorem dL_refuses_16 : decode cL_refuses 16 = .ok (.goto 6, 3) := by decide +kernel
theorem dL_refuses_19 : decode cL_refuses 19 = .ok (.astore_n 3, 1) := by decide +kernel
theorem dL_refuses_20 : decode cL_refuses 20 = .ok (.iconst 1, 1) := by decide +kernel
theorem dL_refuses_21 : decode cL_refuses 21 = .ok (.ireturn, 1) := by decide +kernel
theorem dL_refuses_22 : decode cL_refuses 22 = .ok (.iconst 0, 1) := by decide +kernel
theorem dL_refuses_23 : decode cL_refuses 23 = .ok (.ireturn, 1) := by decide +kernel
theorem dL_errors_0 : decode cL_errors 0 = .ok (.aload_n 2, 1) := by decide +kernel
theorem dL_errors_1 : decode cL_errors 1 = .ok (.iconst 0, 1) := by decide +kernel
theorem dL_errors_2 : decode cL_errors 2 = .ok (.aload_n 0, 1) := by decide +kernel
theorem dL_errors_3 : decode cL_errors 3 = .ok (.iload_n 1, 1) := by decide +kernel
theorem dL_errors_4 : decode cL_errors 4 = .ok (.invokevirtual 146, 3) := by decide +kernel
theorem dL_errors_7 : decode cL_errors 7 = .ok (.i2l, 1) := by decide +kernel
theorem dL_errors_8 : decode cL_errors 8 = .ok (.lastore, 1) := by decide +kernel
theorem dL_errors_9 : decode cL_errors 9 = .ok (.goto 6, 3) := by decide +kernel
theorem dL_errors_12 : decode cL_errors 12 = .ok (.astore_n 3, 1) := by decide +kernel
theorem dL_errors_13 : decode cL_errors 13 = .ok (.iconst 1, 1) := by decide +kernel
theorem dL_errors_14 : decode cL_errors 14 = .ok (.ireturn, 1) := by decide +kernel
theorem dL_errors_15 : decode cL_errors 15 = .ok (.iconst 0, 1) := by decide +kernel
theorem dL_errors_16 : decode cL_errors 16 = .ok (.ireturn, 1) := by decide +kernel
theorem dL_meanWord_0 : decode cL_meanWord 0 = .ok (.aload_n 2, 1) := by decide +kernel
theorem dL_meanWord_1 : decode cL_meanWord 1 = .ok (.iconst 0, 1) := by decide +kernel
theorem dL_meanWord_2 : decode cL_meanWord 2 = .ok (.aload_n 0, 1) := by decide +kernel
theorem dL_meanWord_3 : decode cL_meanWord 3 = .ok (.iload_n 1, 1) := by decide +kernel
theorem dL_meanWord_4 : decode cL_meanWord 4 = .ok (.invokevirtual 149, 3) := by decide +kernel
theorem dL_meanWord_7 : decode cL_meanWord 7 = .ok (.dastore, 1) := by decide +kernel
theorem dL_meanWord_8 : decode cL_meanWord 8 = .ok (.goto 6, 3) := by decide +kernel
theorem dL_meanWord_11 : decode cL_meanWord 11 = .ok (.astore_n 3, 1) := by decide +kernel
theorem dL_meanWord_12 : decode cL_meanWord 12 = .ok (.iconst 1, 1) := by decide +kernel
theorem dL_meanWord_13 : decode cL_meanWord 13 = .ok (.ireturn, 1) := by decide +kernel
theorem dL_meanWord_14 : decode cL_meanWord 14 = .ok (.iconst 0, 1) := by decide +kernel
theorem dL_meanWord_15 : decode cL_meanWord 15 = .ok (.ireturn, 1) := by decide +kernel
theorem dL_share_0 : decode cL_share 0 = .ok (.aload_n 3, 1) := by decide +kernel
theorem dL_share_1 : decode cL_share 1 = .ok (.iconst 0, 1) := by decide +kernel
theorem dL_share_2 : decode cL_share 2 = .ok (.aload_n 0, 1) := by decide +kernel
theorem dL_share_3 : decode cL_share 3 = .ok (.iload_n 1, 1) := by decide +kernel
theorem dL_share_4 : decode cL_share 4 = .ok (.iload_n 2, 1) := by decide +kernel
theorem dL_share_5 : decode cL_share 5 = .ok (.invokevirtual 153, 3) := by decide +kernel
theorem dL_share_8 : decode cL_share 8 = .ok (.f2d, 1) := by decide +kernel
theorem dL_share_9 : decode cL_share 9 = .ok (.dastore, 1) := by decide +kernel
theorem dL_share_10 : decode cL_share 10 = .ok (.goto 7, 3) := by decide +kernel
theorem dL_share_13 : decode cL_share 13 = .ok (.astore 4, 2) := by decide +kernel
theorem dL_share_15 : decode cL_share 15 = .ok (.iconst 1, 1) := by decide +kernel
theorem dL_share_16 : decode cL_share 16 = .ok (.ireturn, 1) := by decide +kernel
theorem dL_share_17 : decode cL_share 17 = .ok (.iconst 0, 1) := by decide +kernel
theorem dL_share_18 : decode cL_share 18 = .ok (.ireturn, 1) := by decide +kernel
end
section
/-! The worlds of this claim as one partial function: zM says what lies at which address; a method's contract speaks of any zM in which the cells that it uses lie, and says the zM behind it. What may change: all cells from B0 on (B0: the heap's size at the law's entry), so no frame rule is wanted. -/
abbrev zM : Type := Nat → Option va_E
abbrev zK : Type := va_G × (Nat → ClassId)
def zA (B0 : Nat) : Nat → Prop := fun q => B0 ≤ q
def zu (F : zM) (a : Nat) (e : va_E) : zM := fun q => if q = a then some e else F q
theorem zu_s {F : zM} {a : Nat} {e : va_E} : zu F a e a = some e := if_pos rfl
theorem zu_n {F : zM} {a b : Nat} {e : va_E} (h : b ≠ a) : zu F a e b = F b := if_neg h
theorem zu_k {F : zM} {a b : Nat} {e e0 e1 : va_E} (ha : F a = some e0) (hb : F b = some e1) (h : e1 ≠ e0) : zu F a e b = some e1 := by
  rw [zu_n (fun q => h ?_), hb]
  subst q
  exact Option.some.inj (hb.symm.trans ha)
def zH (D : va_G) (F : zM) (H : Heap) : Prop := ∀ (a : Nat) (e : va_E), F a = some e → va_at D vwCl (a, e) H
def zt (G : zK) : List (ClassId × FieldType) := [(G.2 0, .int), (G.2 1, .object RX1), (G.2 2, .object RX3), (G.2 3, .long), (G.2 4, .double)]
abbrev zAI (G : zK) (n : Nat) (f : Nat → Int32) : va_E := .inl (G.2 0, n, .inl f)
abbrev zA1 (G : zK) (n : Nat) (f : Nat → Option Nat) : va_E := .inl (G.2 1, n, .inr (.inr (.inr (.inr f))))
abbrev zA3 (G : zK) (n : Nat) (f : Nat → Option Nat) : va_E := .inl (G.2 2, n, .inr (.inr (.inr (.inr f))))
abbrev zAL (G : zK) (n : Nat) (f : Nat → Int64) : va_E := .inl (G.2 3, n, .inr (.inl f))
abbrev zAD (G : zK) (n : Nat) (f : Nat → UInt64) : va_E := .inl (G.2 4, n, .inr (.inr (.inr (.inl f))))
abbrev zO (ci : Nat) (fs : List Value) : va_E := .inr (ci, fs)
def zNest : List Cond := [.fieldLinkNest RX2 53 "WordConcordance$Row" "length" "I" RX2, .fieldLinkNest RX2 83 "WordConcordance$Row" "words" "[I" RX2, .fieldLinkNest RX4 43 "WordConcordanceModel$Row" "many" "I" RX4, .fieldLinkNest RX4 89 "WordConcordanceModel$Row" "words" "[I" RX4, .methodLinkNest RX4 23 yX3_init RX4, .declares (Bundle.initS "java/lang/RuntimeException"), .declares (Bundle.initS "java/lang/Exception"), .declares (Bundle.initS Bundle.tN)]
def zStr : List (String × Nat × String) := [(RX2, 113, "the wanted phrase has no words"), (RX2, 168, "the text is not sorted"), (RX2, 187, "the other text has fewer words"), (RX2, 191, "the word does not stand so often"), (RX2, 248, "no such text"), (RX2, 251, "no such phrase"), (RX2, 253, "no such word"), (RX2, 255, "no such place"), (RX2, 257, "no such part"), (RX2, 259, "out of range"), (RX2, 262, "less than 0"), (RX2, 264, "no such order"), (RX2, 266, "too many words"), (RX2, 268, "the text has no words"), (RX2, 94, "too many words for a phrase"), (RX0, 18, "fewer than no copies"), (RX0, 28, "no such place"), (RX0, 33, "the copies never change")]
def zNcs : List (String × String) := [(zES, zEI), (zEA, zEI), (zEN, zEI), (zEU, zEI), (zEI, zES), (zEA, zES), (zEN, zES), (zEU, zES), (zEI, zEA), (zES, zEA), (zEN, zEA), (zEU, zEA), (zEI, zEN), (zES, zEN), (zEA, zEN), (zEI, zEU), (zES, zEU), (zEA, zEU), (zEN, zEU)]
def zEx : List String := [zEI, zES, zEA, zEN, zEU]
def zCs (E : String) (U : State) : Prop := ∃ c t : ClassId, U.vm.findClass E = some c ∧ U.vm.findClass E = some t ∧ U.vm.assignable c t = true
theorem zCs.moved {E : String} {u U : State} (hvm : u.vm.Alike U.vm) (h : zCs E u) : zCs E U := by
  obtain ⟨c, t, h1, h2, h3⟩ := h
  exact ⟨c, t, by rw [hvm.findClass]; exact h1, by rw [hvm.findClass]; exact h2, by rw [hvm.assignable]; exact h3⟩
theorem zCs.of {E : String} {args : Array Value} {s : State} (h : (Cond.castable E E).before args s = true) : zCs E s := by
  obtain ⟨c, t, h1, h2, h3⟩ := Cond.castable_spec h
  exact ⟨c, t, h1, h2, h3⟩
theorem zCs.use {E : String} {args : Array Value} {s : State} (h : zCs E s) : (Cond.castable E E).before args s = true := by
  obtain ⟨c, t, h1, h2, h3⟩ := h
  cases Option.some.inj (h1.symm.trans h2)
  simp [Cond.before, Cond.holds, Cond.value, h1, h3]
/-- what the tables give at every state of the run -/
def zG (G : zK) (B0 : Nat) (U : State) : Prop := va_K G.1 vwCl (zt G) U ∧ (∀ w ∈ zNest, va_Nw w U) ∧ (∀ q ∈ zStr, ∃ a, vk_R q.1 q.2.1 q.2.2 a U) ∧ vx_Zq Bundle.tN "UNASSIGNED_STACK" Bundle.steD (zA B0) U U.heap ∧ vx_Zq Bundle.tN "SUPPRESSED_SENTINEL" Bundle.listD (zA B0) U U.heap ∧ va_AO RX1 U ∧ va_AO RX3 U ∧ (∀ q ∈ zNcs, va_Nc q.1 q.2 U) ∧ (∀ E ∈ zEx, zCs E U)
theorem zNw_go {s U : State} (hW : s.WarmedH U.vm) (h : ∀ w ∈ zNest, va_Nw w s) : ∀ w ∈ zNest, va_Nw w U := by
  intro w hw
  have h1 := h w hw
  simp only [zNest, List.mem_cons, List.not_mem_nil, or_false] at hw
  rcases hw with rfl | rfl | rfl | rfl | rfl | rfl | rfl | rfl
  · exact va_Nw.warmF hW h1
  · exact va_Nw.warmF hW h1
  · exact va_Nw.warmF hW h1
  · exact va_Nw.warmF hW h1
  · exact va_Nw.warmM hW h1
  · exact va_Nw.warmD hW h1
  · exact va_Nw.warmD hW h1
  · exact va_Nw.warmD hW h1
theorem zG.go {G : zK} {B0 : Nat} {s U : State} (h : zG G B0 s) (hW : s.WarmedH U.vm) (hk : ∀ a : Nat, a < s.heap.size → ¬ zA B0 a → U.heap[a]? = s.heap[a]?) : zG G B0 U := by
  obtain ⟨h1, h2, h3, h4, h5, h6, h7, h8, h9⟩ := h
  refine ⟨va_K.moved hW.alike h1, zNw_go hW h2, fun q hq => ?_, (h4.moved hW.alike).kept hk, (h5.moved hW.alike).kept hk, h6.moved hW.alike, h7.moved hW.alike, fun q hq => (h8 q hq).moved hW.alike, fun q hq => (h9 q hq).moved hW.alike⟩
  obtain ⟨a, ha⟩ := h3 q hq
  exact ⟨a, ha.warm hW⟩
/-- at a point of a walk: the tables, what has been kept, the world -/
def zI (G : zK) (B0 : Nat) (s : State) (H : Heap) (locs : List Loc) (F : zM) : Prop := zG G B0 s ∧ va_S (zA B0) s.heap H locs ∧ zH G.1 F H ∧ (∀ (a : Nat) (e : va_E), F a = some e → B0 ≤ a) ∧ B0 ≤ s.heap.size
theorem zI.P {G : zK} {B0 : Nat} {s : State} {H : Heap} {locs : List Loc} {F : zM} (h : zI G B0 s H locs F) {a : Nat} {e : va_E} (he : F a = some e) : va_P G.1 vwCl [(a, e)] H := by
  intro k q hk
  have hz : k < 1 := (List.getElem?_eq_some_iff.mp hk).1
  rw [show k = 0 by omega] at hk
  cases hk
  exact h.2.2.1 a e he
theorem zI.lt {G : zK} {B0 : Nat} {s : State} {H : Heap} {locs : List Loc} {F : zM} (h : zI G B0 s H locs F) {a : Nat} {e : va_E} (he : F a = some e) : a < H.size := (h.2.2.1 a e he).lt
theorem zH.put {D : va_G} {F : zM} {H H1 : Heap} {a : Nat} {e : va_E} (h : zH D F H) (he : va_at D vwCl (a, e) H1) (oq : ∀ q : Nat, q ≠ a → H1[q]? = H[q]?) : zH D (zu F a e) H1 := by
  intro b e' hb
  by_cases hba : b = a
  · subst hba
    rw [zu_s] at hb
    cases hb
    exact he
  · rw [zu_n hba] at hb
    exact (h b e' hb).kept (oq b hba)
theorem zI.put {G : zK} {B0 : Nat} {s : State} {H H1 : Heap} {locs : List Loc} {F : zM} (h : zI G B0 s H locs F) {a k : Nat} {e0 e : va_E} (h0 : F a = some e0) (he : va_at G.1 vwCl (a, e) H1) (z : H1.size = H.size) (oq : ∀ q : Nat, q ≠ a → H1[q]? = H[q]?) : zI G B0 s H1 (locs ++ [⟨a, k⟩]) (zu F a e) := by
  refine ⟨h.1, h.2.1.put z oq (h.2.2.2.1 a e0 h0), h.2.2.1.put he oq, fun b e' hb => ?_, h.2.2.2.2⟩
  by_cases hba : b = a
  · subst hba
    exact h.2.2.2.1 b e0 h0
  · rw [zu_n hba] at hb
    exact h.2.2.2.1 b e' hb
theorem zI.new {G : zK} {B0 : Nat} {s : State} {H H1 : Heap} {locs : List Loc} {F : zM} (h : zI G B0 s H locs F) {e : va_E} (he : va_at G.1 vwCl (H.size, e) H1) (z : H.size ≤ H1.size) (oq : ∀ q : Nat, q < H.size → H1[q]? = H[q]?) : zI G B0 s H1 locs (zu F H.size e) := by
  refine ⟨h.1, ⟨Nat.le_trans h.2.1.1 z, fun q h1 h2 => (oq q (Nat.lt_of_lt_of_le h1 h.2.1.1)).trans (h.2.1.2.1 q h1 h2), h.2.1.2.2⟩, fun b e' hb => ?_, fun b e' hb => ?_, h.2.2.2.2⟩
  · by_cases hba : b = H.size
    · subst hba
      rw [zu_s] at hb
      cases hb
      exact he
    · rw [zu_n hba] at hb
      exact (h.2.2.1 b e' hb).kept (oq b (h.lt hb))
  · by_cases hba : b = H.size
    · subst hba
      exact Nat.le_trans h.2.2.2.2 h.2.1.1
    · rw [zu_n hba] at hb
      exact h.2.2.2.1 b e' hb
/-- what every contract asks of the state, and says of the world behind -/
def zPre (G : zK) (B0 : Nat) (F : zM) (U : State) : Prop := zG G B0 U ∧ zH G.1 F U.heap ∧ (∀ (a : Nat) (e : va_E), F a = some e → B0 ≤ a) ∧ B0 ≤ U.heap.size
def zQ (G : zK) (B0 : Nat) (F : zM) (t : State) : Prop := zH G.1 F t.heap ∧ ∀ (a : Nat) (e : va_E), F a = some e → B0 ≤ a
theorem zPre.I {G : zK} {B0 : Nat} {F : zM} {s : State} (h : zPre G B0 F s) : zI G B0 s s.heap [] F := ⟨h.1, va_S.rf, h.2.1, h.2.2.1, h.2.2.2⟩
theorem zI.pre {G : zK} {B0 : Nat} {s : State} {H : Heap} {locs : List Loc} {F : zM} (h : zI G B0 s H locs F) {U : State} (hU : U.heap = H) (hW : s.WarmedH U.vm) : zPre G B0 F U := by
  refine ⟨h.1.go hW (fun a h1 h2 => by rw [hU]; exact h.2.1.2.1 a h1 h2), by rw [hU]; exact h.2.2.1, h.2.2.2.1, Nat.le_trans h.2.2.2.2 (by rw [hU]; exact h.2.1.1)⟩
theorem z_blind {G : zK} {B0 : Nat} {F : zM} {av : List Value} : FrameBlind (va_Pc av (zPre G B0 F)) := by
  intro a U g mk q
  obtain ⟨q0, q1, q2, q3, q4⟩ := q
  exact ⟨q0, q1.go (s := U) (U := U.calling g mk a) (State.WarmedH.refl U) (fun _ _ _ => rfl), q2, q3, q4⟩
theorem zI.call {G : zK} {B0 : Nat} {s : State} {H H1 : Heap} {locs locs1 : List Loc} {F F' : zM} (h : zI G B0 s H locs F) {t : State} (ht : t.heap = H1) (hq : zQ G B0 F' t) (hS : va_S (zA B0) s.heap H1 locs1) : zI G B0 s H1 locs1 F' := ⟨h.1, hS, by rw [← ht]; exact hq.1, hq.2, h.2.2.2.2⟩
section ZR
variable {p : Program} {l : Launch} {e : Env} {R : Room} {s : State} {m : MethodId} {args : Array Value} {below : List Frame} {meth : Method} {c : Code} {H : Heap} {locs : List Loc} {cells slots : Nat} {Q : State → Prop}
variable {cc : ByteArray} {pc : Nat} {ls : Array Slot} {rest : List Value} {a : Nat} {G : zK} {B0 : Nat} {F : zM}
theorem z_get (hexec : p.tables.exec = Jvm.exec) (hb : c.code = cc) {own ref C : String} {T : u_T} {N ci index : Nat} {Ts : List Cond} (hts : ∀ w ∈ Ts, w.before args s = true) (hown : s.vm.findClass own = some m.cls) (hin : ∀ w ∈ u_ws C T N, w ∈ Ts) (hc : vwCl[ci]? = some (C, T, N)) (k : Nat) (hk : k < N) (hlink : (Cond.fieldLink own index ref (T k).2.1 (T k).2.2.1).before args s = true) (hsame : ref = (T k).1) (hI : zI G B0 s H locs F) {fs : List Value} (he : F a = some (zO ci fs)) {v : Value} (hv : fs[k]? = some v) (hdg : decode cc pc = .ok (.getfield index, 3))
    (kk : W p l e R s m args below meth c H locs cells slots Q (F0 m (pc + 3) ls (v :: rest))) : W p l e R s m args below meth c H locs cells slots Q (F0 m pc ls (.ref a :: rest)) :=
  va_get hexec hb hts hin hown hI.1.1 (hI.P he) 0 rfl hc k hk hlink (fun _ h => by rw [hsame]; exact h) hv hdg kk
theorem z_getN (hexec : p.tables.exec = Jvm.exec) (hb : c.code = cc) {own ref C host : String} {T : u_T} {N ci index : Nat} {Ts : List Cond} (hts : ∀ w ∈ Ts, w.before args s = true) (hown : s.vm.findClass own = some m.cls) (hin : ∀ w ∈ u_ws C T N, w ∈ Ts) (hc : vwCl[ci]? = some (C, T, N)) (k : Nat) (hk : k < N) (hlink : Cond.fieldLinkNest own index ref (T k).2.1 (T k).2.2.1 host ∈ zNest) (hsame : ref = (T k).1) (hI : zI G B0 s H locs F) {fs : List Value} (he : F a = some (zO ci fs)) {v : Value} (hv : fs[k]? = some v) (hdg : decode cc pc = .ok (.getfield index, 3))
    (kk : W p l e R s m args below meth c H locs cells slots Q (F0 m (pc + 3) ls (v :: rest))) : W p l e R s m args below meth c H locs cells slots Q (F0 m pc ls (.ref a :: rest)) :=
  va_getN hexec hb hts hin hown hI.1.1 (hI.P he) 0 rfl hc k hk (va_Nw.use rfl (hI.1.2.1 _ hlink)) (fun _ h => by rw [hsame]; exact h) hv hdg kk
theorem z_put (hexec : p.tables.exec = Jvm.exec) (hb : c.code = cc) {own ref C : String} {T : u_T} {N ci index : Nat} {Ts : List Cond} (hts : ∀ w ∈ Ts, w.before args s = true) (hown : s.vm.findClass own = some m.cls) (hin : ∀ w ∈ u_ws C T N, w ∈ Ts) (ty0 : Nat → FieldType) (hty : ∀ k, k < N → parseFieldDescriptor (T k).2.2.1 = some (ty0 k)) (hnm : ∀ a, a < N → ∀ b, b < N → a ≠ b → (T a).2.1 ≠ (T b).2.1) (hc : vwCl[ci]? = some (C, T, N)) (k : Nat) (hk : k < N) (hlink : (Cond.fieldLink own index ref (T k).2.1 (T k).2.2.1).before args s = true) (hsame : ref = (T k).1) (hI : zI G B0 s H locs F) {fs : List Value} (he : F a = some (zO ci fs)) (hfin : (T k).2.2.2 = false) {ty : FieldType} {v : Value} (hd : parseFieldDescriptor (T k).2.2.1 = some ty) (hn : narrow ty v = v) (hfit : fits ty v = true) (hl : k < fs.length)
    (hdg : decode cc pc = .ok (.putfield index, 3)) (kk : ∀ (H1 : Heap) (locs1 : List Loc), ∀ F1 : zM, F1 a = some (zO ci (fs.set k v)) → (∀ b, b ≠ a → F1 b = F b) → zI G B0 s H1 locs1 F1 → W p l e R s m args below meth c H1 locs1 cells slots Q (F0 m (pc + 3) ls rest)) : W p l e R s m args below meth c H locs cells slots Q (F0 m pc ls (v :: .ref a :: rest)) := by
  have hap := va_apart (own := own) hts hin ty0 hty hnm hI.1.1 hc
  obtain ⟨r, h1, cell, q1, q2, q3, q4⟩ := hI.2.2.1 a _ he
  have hr : r = (C, T, N) := Option.some.inj (h1.symm.trans hc)
  subst hr
  obtain ⟨hS, hfc, kC, hkC, hkind⟩ := hI.1.1.1 ci _ hc
  obtain ⟨cf, kf, fi, f, hi, hsl⟩ := hS k hk
  have hlay := hts _ (hin _ (u_in_lay hk))
  unfold u_lay at hlay
  rw [if_neg (by rw [hfin]; decide)] at hlay
  have hst := (u_facts hfc hkC (u_lays hts hin hk) hi).1
  have h6 := u_store hfc hkC hkind hlay hi hd hn hfit
  refine W.putK hexec hb (f := f) ⟨hown, hlink, ⟨_, _, _, (by rw [hsame]; exact hi)⟩, hst⟩ (by rw [q2]; exact h6) q1 q3 (by rw [hsl]; exact k2_hasslot (q4 k hk)) rfl rfl hdg fun H' e1 e2 e3 => ?_
  rw [hsl] at e1 ⊢
  exact kk H' _ _ zu_s (fun b h => zu_n h) (hI.put he ⟨_, hc, t_OB.to (V := updV (vp_V fs) k v) ⟨_, e1, q2, q3, t_set q4 hap hk v⟩ (fun j _ => vp_updV_set hl v j)⟩ e2 e3)
theorem z_putN (hexec : p.tables.exec = Jvm.exec) (hb : c.code = cc) {own ref C host : String} {T : u_T} {N ci index : Nat} {Ts : List Cond} (hts : ∀ w ∈ Ts, w.before args s = true) (hown : s.vm.findClass own = some m.cls) (hin : ∀ w ∈ u_ws C T N, w ∈ Ts) (ty0 : Nat → FieldType) (hty : ∀ k, k < N → parseFieldDescriptor (T k).2.2.1 = some (ty0 k)) (hnm : ∀ a, a < N → ∀ b, b < N → a ≠ b → (T a).2.1 ≠ (T b).2.1) (hc : vwCl[ci]? = some (C, T, N)) (k : Nat) (hk : k < N) (hlink : Cond.fieldLinkNest own index ref (T k).2.1 (T k).2.2.1 host ∈ zNest) (hsame : ref = (T k).1) (hI : zI G B0 s H locs F) {fs : List Value} (he : F a = some (zO ci fs)) (hfin : (T k).2.2.2 = false) {ty : FieldType} {v : Value} (hd : parseFieldDescriptor (T k).2.2.1 = some ty) (hn : narrow ty v = v) (hfit : fits ty v = true) (hl : k < fs.length)
    (hdg : decode cc pc = .ok (.putfield index, 3)) (kk : ∀ (H1 : Heap) (locs1 : List Loc), ∀ F1 : zM, F1 a = some (zO ci (fs.set k v)) → (∀ b, b ≠ a → F1 b = F b) → zI G B0 s H1 locs1 F1 → W p l e R s m args below meth c H1 locs1 cells slots Q (F0 m (pc + 3) ls rest)) : W p l e R s m args below meth c H locs cells slots Q (F0 m pc ls (v :: .ref a :: rest)) := by
  have hap := va_apart (own := own) hts hin ty0 hty hnm hI.1.1 hc
  obtain ⟨r, h1, cell, q1, q2, q3, q4⟩ := hI.2.2.1 a _ he
  have hr : r = (C, T, N) := Option.some.inj (h1.symm.trans hc)
  subst hr
  obtain ⟨hS, hfc, kC, hkC, hkind⟩ := hI.1.1.1 ci _ hc
  obtain ⟨cf, kf, fi, f, hi, hsl⟩ := hS k hk
  have hlay := hts _ (hin _ (u_in_lay hk))
  unfold u_lay at hlay
  rw [if_neg (by rw [hfin]; decide)] at hlay
  have hst := (u_facts hfc hkC (u_lays hts hin hk) hi).1
  have h6 := u_store hfc hkC hkind hlay hi hd hn hfit
  refine va_WputK hexec hb (f := f) hown (va_Nw.use rfl (hI.1.2.1 _ hlink)) (by rw [hsame]; exact hi) hst (by rw [q2]; exact h6) q1 q3 (by rw [hsl]; exact k2_hasslot (q4 k hk)) rfl rfl hdg fun H' e1 e2 e3 => ?_
  rw [hsl] at e1 ⊢
  exact kk H' _ _ zu_s (fun b h => zu_n h) (hI.put he ⟨_, hc, t_OB.to (V := updV (vp_V fs) k v) ⟨_, e1, q2, q3, t_set q4 hap hk v⟩ (fun j _ => vp_updV_set hl v j)⟩ e2 e3)
theorem z_putF (hexec : p.tables.exec = Jvm.exec) (hb : c.code = cc) {own ref C : String} {T : u_T} {N ci index : Nat} {Ts : List Cond} (hts : ∀ w ∈ Ts, w.before args s = true) (hown : s.vm.findClass own = some m.cls) (hin : ∀ w ∈ u_ws C T N, w ∈ Ts) (ty0 : Nat → FieldType) (hty : ∀ k, k < N → parseFieldDescriptor (T k).2.2.1 = some (ty0 k)) (hnm : ∀ a, a < N → ∀ b, b < N → a ≠ b → (T a).2.1 ≠ (T b).2.1) (hc : vwCl[ci]? = some (C, T, N)) (k : Nat) (hk : k < N) (hlink : (Cond.fieldLink own index ref (T k).2.1 (T k).2.2.1).before args s = true) (hsame : ref = (T k).1) (hI : zI G B0 s H locs F) {fs : List Value} (he : F a = some (zO ci fs)) (hfin : (T k).2.2.2 = true) (hin2 : meth.name = "<init>") (hdecl : (T k).1 = own) {ty : FieldType} {v : Value} (hd : parseFieldDescriptor (T k).2.2.1 = some ty) (hn : narrow ty v = v) (hfit : fits ty v = true) (hl : k < fs.length)
    (hdg : decode cc pc = .ok (.putfield index, 3)) (kk : ∀ (H1 : Heap) (locs1 : List Loc), H1.size = H.size → ∀ F1 : zM, F1 a = some (zO ci (fs.set k v)) → (∀ b, b ≠ a → F1 b = F b) → zI G B0 s H1 locs1 F1 → W p l e R s m args below meth c H1 locs1 cells slots Q (F0 m (pc + 3) ls rest)) : W p l e R s m args below meth c H locs cells slots Q (F0 m pc ls (v :: .ref a :: rest)) := by
  have hap := va_apart (own := own) hts hin ty0 hty hnm hI.1.1 hc
  obtain ⟨r, h1, cell, q1, q2, q3, q4⟩ := hI.2.2.1 a _ he
  have hr : r = (C, T, N) := Option.some.inj (h1.symm.trans hc)
  subst hr
  obtain ⟨hS, hfc, kC, hkC, hkind⟩ := hI.1.1.1 ci _ hc
  obtain ⟨cf, kf, fi, f, hi, hsl⟩ := hS k hk
  have hlay := hts _ (hin _ (u_in_lay hk))
  unfold u_lay at hlay
  rw [if_pos hfin] at hlay
  have hst := (u_facts hfc hkC (u_lays hts hin hk) hi).1
  have hcf : m.cls = cf := by
    obtain ⟨_, _, c', _, _, _, -, -, hf', -, -, -, hown2, -⟩ := Cond.laysFinal_spec hlay
    have e1 : c' = cf := by have := hi.symm.trans hf'; simp at this; exact this.1.symm
    rw [hdecl] at hown2
    rw [← e1]; exact Option.some.inj (hown.symm.trans hown2)
  have h6 := u_fits hfc hkC hkind (Or.inr hlay) hi hd hn hfit
  refine W.putFinK hexec hb hown hlink (by rw [hsame]; exact hi) hst hcf hin2 (by rw [q2]; exact h6) q1 q3 (by rw [hsl]; exact k2_hasslot (q4 k hk)) rfl rfl hdg fun H' e1 e2 e3 => ?_
  rw [hsl] at e1 ⊢
  exact kk H' _ e2 _ zu_s (fun b h => zu_n h) (hI.put he ⟨_, hc, t_OB.to (V := updV (vp_V fs) k v) ⟨_, e1, q2, q3, t_set q4 hap hk v⟩ (fun j _ => vp_updV_set hl v j)⟩ e2 e3)
theorem z_ild (hexec : p.tables.exec = Jvm.exec) (hb : c.code = cc) (hI : zI G B0 s H locs F) {n : Nat} {f : Nat → Int32} (he : F a = some (zAI G n f)) {k : Nat} (hk : k < n) (hn : n < 2 ^ 31) {v : Int32} (hv : f k = v) (hdg : decode cc pc = .ok (.iaload, 1))
    (kk : W p l e R s m args below meth c H locs cells slots Q (F0 m (pc + 1) ls (.int v :: rest))) : W p l e R s m args below meth c H locs cells slots Q (F0 m pc ls (.int (nI k) :: .ref a :: rest)) := by
  subst hv
  refine va_iald hexec hb hI.1.1 (hI.P he) 0 0 rfl rfl (vp_in_nI hk hn) hdg ?_
  rw [nI_clamp (by omega)]
  exact kk
theorem z_alenI (hexec : p.tables.exec = Jvm.exec) (hb : c.code = cc) (hI : zI G B0 s H locs F) {n : Nat} {f : Nat → Int32} (he : F a = some (zAI G n f)) (hdg : decode cc pc = .ok (.arraylength, 1))
    (kk : W p l e R s m args below meth c H locs cells slots Q (F0 m (pc + 1) ls (.int (nI n) :: rest))) : W p l e R s m args below meth c H locs cells slots Q (F0 m pc ls (.ref a :: rest)) :=
  va_alen hexec hb hI.1.1 (hI.P he) 0 0 rfl rfl rfl hdg kk
theorem z_ald1 (hexec : p.tables.exec = Jvm.exec) (hb : c.code = cc) (hI : zI G B0 s H locs F) {n : Nat} {f : Nat → Option Nat} (he : F a = some (zA1 G n f)) {k : Nat} (hk : k < n) (hn : n < 2 ^ 31) {v : Nat} (hv : f k = some v) (hdg : decode cc pc = .ok (.aaload, 1))
    (kk : W p l e R s m args below meth c H locs cells slots Q (F0 m (pc + 1) ls (.ref v :: rest))) : W p l e R s m args below meth c H locs cells slots Q (F0 m pc ls (.int (nI k) :: .ref a :: rest)) := by
  refine va_aldq hexec hb hI.1.1 (hI.P he) 0 1 rfl rfl (vp_in_nI hk hn) hdg ?_
  rw [nI_clamp (by omega), hv]
  exact kk
theorem z_ald3 (hexec : p.tables.exec = Jvm.exec) (hb : c.code = cc) (hI : zI G B0 s H locs F) {n : Nat} {f : Nat → Option Nat} (he : F a = some (zA3 G n f)) {k : Nat} (hk : k < n) (hn : n < 2 ^ 31) {v : Nat} (hv : f k = some v) (hdg : decode cc pc = .ok (.aaload, 1))
    (kk : W p l e R s m args below meth c H locs cells slots Q (F0 m (pc + 1) ls (.ref v :: rest))) : W p l e R s m args below meth c H locs cells slots Q (F0 m pc ls (.int (nI k) :: .ref a :: rest)) := by
  refine va_aldq hexec hb hI.1.1 (hI.P he) 0 2 rfl rfl (vp_in_nI hk hn) hdg ?_
  rw [nI_clamp (by omega), hv]
  exact kk
theorem z_lld (hexec : p.tables.exec = Jvm.exec) (hb : c.code = cc) (hI : zI G B0 s H locs F) {n : Nat} {f : Nat → Int64} (he : F a = some (zAL G n f)) {k : Nat} (hk : k < n) (hn : n < 2 ^ 31) (hdg : decode cc pc = .ok (.laload, 1))
    (kk : W p l e R s m args below meth c H locs cells slots Q (F0 m (pc + 1) ls (.long (f k) :: rest))) : W p l e R s m args below meth c H locs cells slots Q (F0 m pc ls (.int (nI k) :: .ref a :: rest)) := by
  refine va_lald hexec hb hI.1.1 (hI.P he) 0 3 rfl rfl (vp_in_nI hk hn) hdg ?_
  rw [nI_clamp (by omega)]
  exact kk
theorem z_dld (hexec : p.tables.exec = Jvm.exec) (hb : c.code = cc) (hI : zI G B0 s H locs F) {n : Nat} {f : Nat → UInt64} (he : F a = some (zAD G n f)) {k : Nat} (hk : k < n) (hn : n < 2 ^ 31) (hdg : decode cc pc = .ok (.daload, 1))
    (kk : W p l e R s m args below meth c H locs cells slots Q (F0 m (pc + 1) ls (.double (f k) :: rest))) : W p l e R s m args below meth c H locs cells slots Q (F0 m pc ls (.int (nI k) :: .ref a :: rest)) := by
  refine va_dald hexec hb hI.1.1 (hI.P he) 0 4 rfl rfl (vp_in_nI hk hn) hdg ?_
  rw [nI_clamp (by omega)]
  exact kk
theorem z_ist (hexec : p.tables.exec = Jvm.exec) (hb : c.code = cc) (hI : zI G B0 s H locs F) {n : Nat} {f : Nat → Int32} (he : F a = some (zAI G n f)) {k : Nat} (hk : k < n) (hn : n < 2 ^ 31) {x : Int32} (hdg : decode cc pc = .ok (.iastore, 1))
    (kk : ∀ (H1 : Heap) (locs1 : List Loc), ∀ F1 : zM, F1 a = some (zAI G n (upd f k x)) → (∀ b, b ≠ a → F1 b = F b) → zI G B0 s H1 locs1 F1 → W p l e R s m args below meth c H1 locs1 cells slots Q (F0 m (pc + 1) ls rest)) : W p l e R s m args below meth c H locs cells slots Q (F0 m pc ls (.int x :: .int (nI k) :: .ref a :: rest)) := by
  have hin : vp_in (nI k) n := vp_in_nI hk hn
  have hcl : (nI k).toNatClampNeg = k := nI_clamp (by omega)
  refine W.iast hexec hb (hI.P he 0 _ rfl) ((hI.1.1.2 0 _ rfl).1 n (fun j => .int (f j))) (fun q => by cases q) (by show ¬ ((nI k) < 0 ∨ (arrV _ _ _).slots.size ≤ _); rw [arrV_size]; exact hin) rfl rfl hdg fun H1 e z oq => ?_
  refine kk H1 _ _ zu_s (fun b h => zu_n h) (hI.put he ?_ z oq)
  show H1[a]? = some (vp_cell _ _)
  rw [e, hcl]
  rw [vp_cell_i, vp_cell_i, arrV_store]
  congr 2
  funext q
  by_cases hq : q = k
  · subst hq
    simp [updV, upd]
  · simp [updV, upd, hq]
theorem z_lst (hexec : p.tables.exec = Jvm.exec) (hb : c.code = cc) (hI : zI G B0 s H locs F) {n : Nat} {f : Nat → Int64} (he : F a = some (zAL G n f)) {k : Nat} (hk : k < n) (hn : n < 2 ^ 31) {x : Int64} (hdg : decode cc pc = .ok (.lastore, 1))
    (kk : ∀ (H1 : Heap) (locs1 : List Loc), ∀ F1 : zM, F1 a = some (zAL G n (vp_updL f k x)) → (∀ b, b ≠ a → F1 b = F b) → zI G B0 s H1 locs1 F1 → W p l e R s m args below meth c H1 locs1 cells slots Q (F0 m (pc + 1) ls rest)) : W p l e R s m args below meth c H locs cells slots Q (F0 m pc ls (.long x :: .int (nI k) :: .ref a :: rest)) := by
  have hin : vp_in (nI k) n := vp_in_nI hk hn
  have hcl : (nI k).toNatClampNeg = k := nI_clamp (by omega)
  refine W.last hexec hb (hI.P he 0 _ rfl) ((hI.1.1.2 3 _ rfl).1 n (fun j => .long (f j))) (fun q => by cases q) (by show ¬ ((nI k) < 0 ∨ (arrV _ _ _).slots.size ≤ _); rw [arrV_size]; exact hin) rfl rfl hdg fun H1 e z oq => ?_
  refine kk H1 _ _ zu_s (fun b h => zu_n h) (hI.put he ?_ z oq)
  show H1[a]? = some (vp_cell _ _)
  rw [e, hcl]
  rw [vp_cell_l, vp_cell_l, arrV_store]
  congr 2
  funext q
  by_cases hq : q = k
  · subst hq
    simp [updV, vp_updL]
  · simp [updV, vp_updL, hq]
theorem z_dst (hexec : p.tables.exec = Jvm.exec) (hb : c.code = cc) (hI : zI G B0 s H locs F) {n : Nat} {f : Nat → UInt64} (he : F a = some (zAD G n f)) {k : Nat} (hk : k < n) (hn : n < 2 ^ 31) {x : UInt64} (hdg : decode cc pc = .ok (.dastore, 1))
    (kk : ∀ (H1 : Heap) (locs1 : List Loc), ∀ F1 : zM, F1 a = some (zAD G n (vf_upd f k x)) → (∀ b, b ≠ a → F1 b = F b) → zI G B0 s H1 locs1 F1 → W p l e R s m args below meth c H1 locs1 cells slots Q (F0 m (pc + 1) ls rest)) : W p l e R s m args below meth c H locs cells slots Q (F0 m pc ls (.double x :: .int (nI k) :: .ref a :: rest)) := by
  have hin : vp_in (nI k) n := vp_in_nI hk hn
  have hcl : (nI k).toNatClampNeg = k := nI_clamp (by omega)
  refine W.dast hexec hb (hI.P he 0 _ rfl) ((hI.1.1.2 4 _ rfl).1 n (fun j => .double (f j))) (fun q => by cases q) (by show ¬ ((nI k) < 0 ∨ (arrV _ _ _).slots.size ≤ _); rw [arrV_size]; exact hin) rfl rfl hdg fun H1 e z oq => ?_
  refine kk H1 _ _ zu_s (fun b h => zu_n h) (hI.put he ?_ z oq)
  show H1[a]? = some (vp_cell _ _)
  rw [e, hcl]
  rw [vp_cell_d, vp_cell_d, arrV_store]
  congr 2
  funext q
  by_cases hq : q = k
  · subst hq
    simp [updV, vf_upd]
  · simp [updV, vf_upd, hq]
theorem z_ast (t0 ci : Nat) {r : vw_C} {C : ClassId} (ht : (zt G)[t0]? = some (C, .object r.1)) (hc : vwCl[ci]? = some r) (hexec : p.tables.exec = Jvm.exec) (hb : c.code = cc) (hI : zI G B0 s H locs F) {n v : Nat} {vs : List Value} {f : Nat → Option Nat} (he : F a = some (.inl (C, n, .inr (.inr (.inr (.inr f)))))) (hv : F v = some (zO ci vs)) {k : Nat} (hk : k < n) (hn : n < 2 ^ 31) (hdg : decode cc pc = .ok (.aastore, 1))
    (kk : ∀ (H1 : Heap) (locs1 : List Loc), H1.size = H.size → ∀ F1 : zM, F1 a = some (.inl (C, n, .inr (.inr (.inr (.inr (va_up f k (some v))))))) → (∀ b, b ≠ a → F1 b = F b) → zI G B0 s H1 locs1 F1 → W p l e R s m args below meth c H1 locs1 cells slots Q (F0 m (pc + 1) ls rest)) : W p l e R s m args below meth c H locs cells slots Q (F0 m pc ls (.ref v :: .int (nI k) :: .ref a :: rest)) := by
  have hcl : (nI k).toNatClampNeg = k := nI_clamp (by omega)
  have h0 : ¬ nI k < 0 := fun q => vp_in_nI hk hn (Or.inl q)
  obtain ⟨r', hr', cellV, g1, g2, g3, -⟩ := hI.2.2.1 v _ hv
  have hcls := (hI.1.1.1 ci r hc).2
  obtain ⟨kA, comp, k1, k2, k3, -⟩ := (hI.1.1.2 t0 _ ht).2
  have hcomp : comp = G.1.1 ci := Option.some.inj (k3.symm.trans hcls.1)
  subst hcomp
  obtain ⟨kC, hkC, -⟩ := hcls.2
  refine W.aast hexec hb (hI.P he 0 _ rfl) (fun q h => by cases h) (fun h => by cases h) k1 k2 rfl hkC ⟨h0, by show _ < (arrV _ _ _).slots.size; rw [arrV_size, hcl]; exact hk⟩ g1 (fun q h => by rw [g3] at h; cases h) (by rw [g2]; exact hkC) (by rw [g2]; exact va_assign hcls) rfl rfl hdg fun H1 e z oq => ?_
  refine kk H1 _ z _ zu_s (fun b h => zu_n h) (hI.put he ?_ z oq)
  show H1[a]? = some (vp_cell _ _)
  rw [e, hcl]
  rw [vp_cell_q, vp_cell_q, arrV_store]
  congr 2
  funext q
  by_cases hq : q = k
  · subst hq
    simp [updV, va_up, va_rf]
  · simp [updV, va_up, hq]
theorem z_new (hexec : p.tables.exec = Jvm.exec) (hb : c.code = cc) {own C : String} {T : u_T} {N ci index : Nat} {Ts : List Cond} (hts : ∀ w ∈ Ts, w.before args s = true) (hown : s.vm.findClass own = some m.cls) (hin : ∀ w ∈ u_ws C T N, w ∈ Ts) (ty : Nat → FieldType) (hty : ∀ k, k < N → parseFieldDescriptor (T k).2.2.1 = some (ty k)) (hcl : (Cond.classLink own index C).before args s = true) (hinst : (Cond.instantiable C N).before args s = true) (hini : (Cond.initialized C).before args s = true)
    (hI : zI G B0 s H locs F) (hc : vwCl[ci]? = some (C, T, N)) {fs : List Value} (hfs : ∀ j, j < N → defaultValue (ty j) = vp_V fs j) (hcells : cells + 1 ≤ R.cells) (hslots : slots + N ≤ R.slots) (hdg : decode cc pc = .ok (.new index, 3))
    (kk : ∀ (q : Nat) (H1 : Heap), q = H.size → H1.size = q + 1 → ∀ F1 : zM, F1 q = some (zO ci fs) → (∀ b, b ≠ q → F1 b = F b) → zI G B0 s H1 locs F1 → W p l e R s m args below meth c H1 locs (cells + 1) (slots + N) Q (F0 m (pc + 3) ls (.ref q :: rest))) : W p l e R s m args below meth c H locs cells slots Q (F0 m pc ls rest) := by
  have hKn := hI.1.1.1 ci _ hc
  refine W.newcK hexec hb hown hcl hinst hini rfl hdg hcells hslots hKn.2.1 rfl fun H1 kC hkC e1 z1 o1 => ?_
  exact kk H.size H1 rfl z1 _ zu_s (fun b h => zu_n h) (hI.new ⟨_, hc, (u_born ty hts hin hKn hkC e1 hty).to hfs⟩ (by omega) o1)
theorem z_newI (hexec : p.tables.exec = Jvm.exec) (hb : c.code = cc) (harr : (Cond.arrayClass .int).before args s = true) (hI : zI G B0 s H locs F) {N' : Nat} (hN : N' < 1000) (hcells : cells + 1 ≤ R.cells) (hslots : slots + N' ≤ R.slots) (hdg : decode cc pc = .ok (.newarray .int, 2))
    (kk : ∀ (q : Nat) (H1 : Heap), q = H.size → H1.size = q + 1 → ∀ F1 : zM, F1 q = some (zAI G N' (fun _ => 0)) → (∀ b, b ≠ q → F1 b = F b) → zI G B0 s H1 locs F1 → W p l e R s m args below meth c H1 locs (cells + 1) (slots + N') Q (F0 m (pc + 2) ls (.ref q :: rest))) : W p l e R s m args below meth c H locs cells slots Q (F0 m pc ls (.int (nI N') :: rest)) := by
  refine va_newaK (atype := .int) hexec hb harr rfl hdg rfl (nI_pos (by omega)) (nI_clamp (by omega)) (by show N' * 4 ≤ 536870912; omega) hcells hslots rfl fun H1 cA e1 z1 o1 hAr hNm => ?_
  have hcA : cA = G.2 0 := by
    have h1 : s.vm.findClass ("[" ++ (FieldType.int).toString) = some (G.2 0) := (hI.1.1.2 0 _ rfl).2
    exact Option.some.inj (hNm.symm.trans h1)
  subst hcA
  exact kk H.size H1 rfl z1 _ zu_s (fun b h => zu_n h) (hI.new (by show H1[H.size]? = some (vp_cell _ _); rw [vp_cell_i]; exact e1) (by omega) o1)
theorem z_newJ (hexec : p.tables.exec = Jvm.exec) (hb : c.code = cc) (harr : (Cond.arrayClass .long).before args s = true) (hI : zI G B0 s H locs F) {N' : Nat} (hN : N' < 1000) (hcells : cells + 1 ≤ R.cells) (hslots : slots + N' ≤ R.slots) (hdg : decode cc pc = .ok (.newarray .long, 2))
    (kk : ∀ (q : Nat) (H1 : Heap), q = H.size → H1.size = q + 1 → ∀ F1 : zM, F1 q = some (zAL G N' (fun _ => 0)) → (∀ b, b ≠ q → F1 b = F b) → zI G B0 s H1 locs F1 → W p l e R s m args below meth c H1 locs (cells + 1) (slots + N') Q (F0 m (pc + 2) ls (.ref q :: rest))) : W p l e R s m args below meth c H locs cells slots Q (F0 m pc ls (.int (nI N') :: rest)) := by
  refine va_newaK (atype := .long) hexec hb harr rfl hdg rfl (nI_pos (by omega)) (nI_clamp (by omega)) (by show N' * 8 ≤ 536870912; omega) hcells hslots rfl fun H1 cA e1 z1 o1 hAr hNm => ?_
  have hcA : cA = G.2 3 := by
    have h1 : s.vm.findClass ("[" ++ (FieldType.long).toString) = some (G.2 3) := (hI.1.1.2 3 _ rfl).2
    exact Option.some.inj (hNm.symm.trans h1)
  subst hcA
  exact kk H.size H1 rfl z1 _ zu_s (fun b h => zu_n h) (hI.new (by show H1[H.size]? = some (vp_cell _ _); rw [vp_cell_l]; exact e1) (by omega) o1)
theorem z_newD (hexec : p.tables.exec = Jvm.exec) (hb : c.code = cc) (harr : (Cond.arrayClass .double).before args s = true) (hI : zI G B0 s H locs F) {N' : Nat} (hN : N' < 1000) (hcells : cells + 1 ≤ R.cells) (hslots : slots + N' ≤ R.slots) (hdg : decode cc pc = .ok (.newarray .double, 2))
    (kk : ∀ (q : Nat) (H1 : Heap), q = H.size → H1.size = q + 1 → ∀ F1 : zM, F1 q = some (zAD G N' (fun _ => 0)) → (∀ b, b ≠ q → F1 b = F b) → zI G B0 s H1 locs F1 → W p l e R s m args below meth c H1 locs (cells + 1) (slots + N') Q (F0 m (pc + 2) ls (.ref q :: rest))) : W p l e R s m args below meth c H locs cells slots Q (F0 m pc ls (.int (nI N') :: rest)) := by
  refine va_newaK (atype := .double) hexec hb harr rfl hdg rfl (nI_pos (by omega)) (nI_clamp (by omega)) (by show N' * 8 ≤ 536870912; omega) hcells hslots rfl fun H1 cA e1 z1 o1 hAr hNm => ?_
  have hcA : cA = G.2 4 := by
    have h1 : s.vm.findClass ("[" ++ (FieldType.double).toString) = some (G.2 4) := (hI.1.1.2 4 _ rfl).2
    exact Option.some.inj (hNm.symm.trans h1)
  subst hcA
  exact kk H.size H1 rfl z1 _ zu_s (fun b h => zu_n h) (hI.new (by show H1[H.size]? = some (vp_cell _ _); rw [vp_cell_d]; exact e1) (by omega) o1)
theorem z_newQ (t0 : Nat) {C : String} (ht : (zt G)[t0]? = some (G.2 t0, .object C)) (hexec : p.tables.exec = Jvm.exec) (hb : c.code = cc) {own : String} {index : Nat} (hown : s.vm.findClass own = some m.cls) (hclink : (Cond.classLink own index C).before args s = true) (hover : va_AO C s) (hI : zI G B0 s H locs F) {N' : Nat} (hN : N' < 1000) (hcells : cells + 1 ≤ R.cells) (hslots : slots + N' ≤ R.slots) (hdg : decode cc pc = .ok (.anewarray index, 3))
    (kk : ∀ (q : Nat) (H1 : Heap), q = H.size → H1.size = q + 1 → ∀ F1 : zM, F1 q = some (.inl (G.2 t0, N', .inr (.inr (.inr (.inr (fun _ => none)))))) → (∀ b, b ≠ q → F1 b = F b) → zI G B0 s H1 locs F1 → W p l e R s m args below meth c H1 locs (cells + 1) (slots + N') Q (F0 m (pc + 3) ls (.ref q :: rest))) : W p l e R s m args below meth c H locs cells slots Q (F0 m pc ls (.int (nI N') :: rest)) := by
  have hcl : (nI N').toNatClampNeg = N' := nI_clamp (by omega)
  refine W.anew hexec hb hown hclink (va_AO.use hover) rfl hdg rfl (nI_pos (by omega)) (by rw [hcl]; omega) hcells (by rw [hcl]; exact hslots) fun cA kA comp f1 f2 f3 f4 => ?_
  rw [hcl]
  generalize hH1 : H.push ({ cls := cA, slots := Array.replicate N' .null, vm := .none } : Cell) = H1
  have z1 : H1.size = H.size + 1 := by rw [← hH1, Array.size_push]
  have e1 : H1[H.size]? = some (arrV cA N' (fun _ => .null)) := by rw [← hH1, Array.getElem?_push_size, ← arrV_new]
  have o1 : ∀ q : Nat, q < H.size → H1[q]? = H[q]? := fun q hq => by rw [← hH1, Array.getElem?_push, if_neg (Nat.ne_of_lt hq)]
  have hcA : cA = G.2 t0 := by
    obtain ⟨kA', comp', k1, k2, k3, k4⟩ := (hI.1.1.2 t0 _ ht).2
    exact Option.some.inj (f1.symm.trans k4)
  subst hcA
  exact kk H.size H1 rfl z1 _ zu_s (fun b h => zu_n h) (hI.new (by show H1[H.size]? = some (vp_cell _ _); rw [vp_cell_q]; exact e1) (by omega) o1)
theorem z_top {x y : Value} (h : x = y) (k : W p l e R s m args below meth c H locs cells slots Q (F0 m pc ls (y :: rest))) : W p l e R s m args below meth c H locs cells slots Q (F0 m pc ls (x :: rest)) := by rw [h]; exact k
theorem z_topi {x y : Int32} (h : x = y) (k : W p l e R s m args below meth c H locs cells slots Q (F0 m pc ls (.int y :: rest))) : W p l e R s m args below meth c H locs cells slots Q (F0 m pc ls (.int x :: rest)) := by rw [h]; exact k
end ZR
end
section
/-! calls, ends and entries over such worlds -/
def zQo (G : zK) (B0 : Nat) (post : Option Value → zM → Prop) : Array Value → State → Outcome → State → Prop := fun _ st oc t => (∃ (v : Option Value) (F' : zM), oc = .returned v ∧ post v F' ∧ zQ G B0 F' t) ∧ va_F (zA B0) st t
abbrev zQi (G : zK) (B0 : Nat) (post : Int32 → zM → Prop) := zQo G B0 (fun v F' => ∃ r : Int32, v = some (.int r) ∧ post r F')
abbrev zQv (G : zK) (B0 : Nat) (post : zM → Prop) := zQo G B0 (fun v F' => v = none ∧ post F')
abbrev zQr (G : zK) (B0 : Nat) (post : Nat → zM → Prop) := zQo G B0 (fun v F' => ∃ r : Nat, v = some (.ref r) ∧ post r F')
abbrev zQd (G : zK) (B0 : Nat) (post : UInt64 → zM → Prop) := zQo G B0 (fun v F' => ∃ r : UInt64, v = some (.double r) ∧ post r F')
abbrev zQf (G : zK) (B0 : Nat) (post : UInt32 → zM → Prop) := zQo G B0 (fun v F' => ∃ r : UInt32, v = some (.float r) ∧ post r F')
def zXC (G : zK) (B0 : Nat) (F : zM) (PX : String → Prop) : String → State → State → Prop := vx_X (fun _ : Unit => True) (fun E _ t => PX E ∧ zQ G B0 F t) (zA B0)
theorem zW_in {w : Cond} (h : w ∈ zW) : w ∈ lw_tbl := (List.mem_filter.mp h).1
theorem zW_good {c0 : Cond} (h : c0 ∈ zW) : GoodIn zW (c0 :: zW) := fun w hw => (List.mem_cons.mp hw).elim (fun e => by rw [e]; exact ⟨h, good_of_word (List.mem_filter.mp h).2⟩) (fun h1 => ⟨h1, good_of_word (List.mem_filter.mp h1).2⟩)
def zMB (y : MethodName) (bytes : ByteArray) (maxL : Nat) (ret : Option FieldType) (n : Nat) : Prop := Cond.code y bytes maxL ret ∈ zW ∧ Cond.initialized y.cls ∈ zW ∧ (y.cls ≠ "java/lang/invoke/MethodHandle" ∧ y.cls ≠ "java/lang/invoke/VarHandle" ∧ (parseMethodDescriptor y.desc).map (fun d => d.parameters.length) = some n)
def zMV (C : String) (y : MethodName) (bytes : ByteArray) (maxL : Nat) (ret : Option FieldType) (n : Nat) : Prop := zMB y bytes maxL ret n ∧ Cond.instanceMethod y ∈ zW ∧ Cond.selects C y y ∈ zW
def zMS (y : MethodName) (bytes : ByteArray) (maxL : Nat) (ret : Option FieldType) (n : Nat) : Prop := zMB y bytes maxL ret n ∧ Cond.static y ∈ zW
def zMI (y : MethodName) (bytes : ByteArray) (maxL : Nat) (n : Nat) : Prop := zMB y bytes maxL none n ∧ y.name = "<init>" ∧ Cond.instanceMethod y ∈ zW
def zMH (y : MethodName) (bytes : ByteArray) (maxL : Nat) (ret : Option FieldType) (hh : List (Nat × Nat × Nat × Nat)) (n : Nat) : Prop := Cond.codeWith y bytes maxL ret hh ∈ zW ∧ Cond.initialized y.cls ∈ zW ∧ (y.cls ≠ "java/lang/invoke/MethodHandle" ∧ y.cls ≠ "java/lang/invoke/VarHandle" ∧ (parseMethodDescriptor y.desc).map (fun d => d.parameters.length) = some n) ∧ Cond.static y ∈ zW
section ZCW
variable {R : Room} {s : State} {args : Array Value}
theorem z_cb {own : String} {index maxL n : Nat} {y : MethodName} {bytes : ByteArray} {ret : Option FieldType} {rm : Room} (hB : zMB y bytes maxL ret n) (ht : ∀ w ∈ zW, w.before args s = true) (hl : Cond.methodLink own index y ∈ zW) (hR : rm.frames + 1 ≤ R.frames ∧ 8 + (maxL + 11) + rm.locals ≤ R.locals) : CallB R s args own index y bytes maxL ret (Cond.code y bytes maxL ret :: zW) rm rm.cells rm.slots n :=
  callB_of n ht (zW_good hB.1) rfl rfl rfl (ht _ hB.2.1) (ht _ hl) hB.2.2 hR
theorem z_cwV {own C : String} {index maxL n : Nat} {y : MethodName} {bytes : ByteArray} {ret : Option FieldType} {rm : Room} (hB : zMV C y bytes maxL ret n) (ht : ∀ w ∈ zW, w.before args s = true) (hl : Cond.methodLink own index y ∈ zW) (hR : rm.frames + 1 ≤ R.frames ∧ 8 + (maxL + 11) + rm.locals ≤ R.locals) : CallW R s args own C index y bytes maxL ret (Cond.code y bytes maxL ret :: zW) rm rm.cells rm.slots n :=
  ⟨z_cb hB.1 ht hl hR, ht _ hB.2.1, ht _ hB.2.2⟩
theorem z_cwS {own : String} {index maxL n : Nat} {y : MethodName} {bytes : ByteArray} {ret : Option FieldType} {rm : Room} (hB : zMS y bytes maxL ret n) (ht : ∀ w ∈ zW, w.before args s = true) (hl : Cond.methodLink own index y ∈ zW) (hR : rm.frames + 1 ≤ R.frames ∧ 8 + (maxL + 11) + rm.locals ≤ R.locals) : CallB R s args own index y bytes maxL ret (Cond.code y bytes maxL ret :: zW) rm rm.cells rm.slots n ∧ (Cond.static y).before args s = true :=
  ⟨z_cb hB.1 ht hl hR, ht _ hB.2⟩
theorem z_cwI {own : String} {index maxL n : Nat} {y : MethodName} {bytes : ByteArray} {rm : Room} (hB : zMI y bytes maxL n) (ht : ∀ w ∈ zW, w.before args s = true) (hl : Cond.methodLink own index y ∈ zW) (hR : rm.frames + 1 ≤ R.frames ∧ 8 + (maxL + 11) + rm.locals ≤ R.locals) : CallB R s args own index y bytes maxL none (Cond.code y bytes maxL none :: zW) rm rm.cells rm.slots n ∧ y.name = "<init>" ∧ (Cond.instanceMethod y).before args s = true :=
  ⟨z_cb hB.1 ht hl hR, hB.2.1, ht _ hB.2.2⟩
theorem z_cwH {own : String} {index maxL n : Nat} {y : MethodName} {bytes : ByteArray} {ret : Option FieldType} {hh : List (Nat × Nat × Nat × Nat)} {rm : Room} (hB : zMH y bytes maxL ret hh n) (ht : ∀ w ∈ zW, w.before args s = true) (hl : Cond.methodLink own index y ∈ zW) (hR : rm.frames + 1 ≤ R.frames ∧ 8 + (maxL + 11) + rm.locals ≤ R.locals) : vx_CSW R s args own index y bytes maxL ret hh (Cond.codeWith y bytes maxL ret hh :: zW) rm rm.cells rm.slots n := by
  obtain ⟨h1, h2, h3, h4⟩ := hB
  refine ⟨⟨rfl, rfl, hR.1, hR.2, pay_in ht (zW_good h1), List.mem_cons_self⟩, ht _ h1, ht _ h2, ⟨h3.1, h3.2.1⟩, fun sig h => ?_, ht _ hl, ht _ h4⟩
  have h5 := h3.2.2
  rw [h] at h5
  exact (Option.some.inj h5).symm
end ZCW
section ZC
variable {p : Program} {l : Launch} {e : Env} {R : Room} {s : State} {m : MethodId} {args : Array Value} {below : List Frame} {meth : Method} {c : Code} {H : Heap} {locs : List Loc} {cells slots : Nat} {Q : State → Prop}
variable {cc : ByteArray} {pc : Nat} {ls : Array Slot} {rest st0 : List Value} {G : zK} {B0 : Nat} {F : zM}
variable {y : MethodName} {bytes : ByteArray} {maxL nL mc ms n index : Nat} {ret : Option FieldType} {ws : List Cond} {rm : Room} {Qc : Array Value → State → Outcome → State → Prop} {XC : String → State → State → Prop} {free : Addr → Prop} {Ts : List Cond} {own C : String} {b : Addr} {As : List Value} {g : JFrame}
theorem z_V {T : u_T} {N ci : Nat} {fs : List Value} (S : CallFix p m c cc nL s args Ts own) (hI : zI G B0 s H locs F) (he : F b = some (zO ci fs)) (hc : vwCl[ci]? = some (C, T, N)) (hM : Met l y ws rm (va_Pc (.ref b :: As) (zPre G B0 F)) Qc mc ms free) (cw : CallW R s args own C index y bytes maxL ret ws rm mc ms n) (hn : As.length = n) (hsize : ls.size = nL) (hstack : st0 = As.reverse ++ .ref b :: rest) (hW : 2 * (F0 m pc ls st0).monitorRoom + (rest.map fun v => v.category).sum ≤ 8) (hdg : decode cc pc = .ok (.invokevirtual index, 3)) (hf : cells + mc ≤ R.cells ∧ slots + ms ≤ R.slots) : va_Run p l e R s m args below meth c H locs cells slots mc ms (F0 m pc ls st0) rest (Qc (Value.ref b :: As).toArray) free :=
  va_runV S hM cw ⟨z_blind, va_recv (q0 := 0) hI.1.1 (hI.P he) hc rfl, fun U hU hW => ⟨rfl, hI.pre hU hW⟩⟩ rfl hn hsize hstack hW hdg hf
theorem z_S (S : CallFix p m c cc nL s args Ts own) (hI : zI G B0 s H locs F) (hM : Met l y ws rm (va_Pc As (zPre G B0 F)) Qc mc ms free) (cw : CallB R s args own index y bytes maxL ret ws rm mc ms n ∧ (Cond.static y).before args s = true) (hn : As.length = n) (hsize : ls.size = nL) (hstack : st0 = As.reverse ++ rest) (hW : 2 * (F0 m pc ls st0).monitorRoom + (rest.map fun v => v.category).sum ≤ 8) (hdg : decode cc pc = .ok (.invokestatic index, 3)) (hf : cells + mc ≤ R.cells ∧ slots + ms ≤ R.slots) : va_Run p l e R s m args below meth c H locs cells slots mc ms (F0 m pc ls st0) rest (Qc As.toArray) free :=
  va_runS S hM cw ⟨z_blind, fun U hU hW => ⟨rfl, hI.pre hU hW⟩⟩ rfl hn hsize hstack hW hdg hf
theorem z_H {hh : List (Nat × Nat × Nat × Nat)} (S : CallFix p m c cc nL s args Ts own) (hI : zI G B0 s H locs F) (hM : Met l y ws rm (va_Pc As (zPre G B0 F)) Qc mc ms free) (cw : vx_CSW R s args own index y bytes maxL ret hh ws rm mc ms n) (hn : As.length = n) (hsize : ls.size = nL) (hstack : st0 = As.reverse ++ rest) (hW : 2 * (F0 m pc ls st0).monitorRoom + (rest.map fun v => v.category).sum ≤ 8) (hdg : decode cc pc = .ok (.invokestatic index, 3)) (hf : cells + mc ≤ R.cells ∧ slots + ms ≤ R.slots) : va_Run p l e R s m args below meth c H locs cells slots mc ms (F0 m pc ls st0) rest (Qc As.toArray) free :=
  vx_runSW S hM cw ⟨z_blind, fun U hU hW => ⟨rfl, hI.pre hU hW⟩⟩ rfl hn hsize hstack hW hdg hf
theorem z_In (S : CallFix p m c cc nL s args Ts own) (hI : zI G B0 s H locs F) (hM : Met l y ws rm (va_Pc (.ref b :: As) (zPre G B0 F)) Qc mc ms free) (cw : CallB R s args own index y bytes maxL none ws rm mc ms n ∧ y.name = "<init>" ∧ (Cond.instanceMethod y).before args s = true) (hn : As.length = n) (hsize : ls.size = nL) (hstack : st0 = As.reverse ++ .ref b :: rest) (hW : 2 * (F0 m pc ls st0).monitorRoom + (rest.map fun v => v.category).sum ≤ 8) (hdg : decode cc pc = .ok (.invokespecial index, 3)) (hf : cells + mc ≤ R.cells ∧ slots + ms ≤ R.slots) : va_Run p l e R s m args below meth c H locs cells slots mc ms (F0 m pc ls st0) rest (Qc (Value.ref b :: As).toArray) free :=
  va_runI S hM cw ⟨z_blind, fun U hU hW => ⟨rfl, hI.pre hU hW⟩⟩ rfl hn hsize hstack hW hdg hf
theorem z_xV {T : u_T} {N ci : Nat} {fs : List Value} (S : CallFix p m c cc nL s args Ts own) (hI : zI G B0 s H locs F) (he : F b = some (zO ci fs)) (hc : vwCl[ci]? = some (C, T, N)) (hM : vx_Met l y ws rm (va_Pc (.ref b :: As) (zPre G B0 F)) Qc XC mc ms free) (cw : CallW R s args own C index y bytes maxL ret ws rm mc ms n) (hn : As.length = n) (hsize : ls.size = nL) (hstack : st0 = As.reverse ++ .ref b :: rest) (hW : 2 * (F0 m pc ls st0).monitorRoom + (rest.map fun v => v.category).sum ≤ 8) (hdg : decode cc pc = .ok (.invokevirtual index, 3)) (hf : cells + mc ≤ R.cells ∧ slots + ms ≤ R.slots) : vx_Run p l e R s m args below meth c H locs cells slots mc ms (F0 m pc ls st0) rest (Qc (Value.ref b :: As).toArray) XC free :=
  vx_runV S hM cw ⟨z_blind, va_recv (q0 := 0) hI.1.1 (hI.P he) hc rfl, fun U hU hW => ⟨rfl, hI.pre hU hW⟩⟩ rfl hn hsize hstack hW hdg hf
theorem z_xS (S : CallFix p m c cc nL s args Ts own) (hI : zI G B0 s H locs F) (hM : vx_Met l y ws rm (va_Pc As (zPre G B0 F)) Qc XC mc ms free) (cw : CallB R s args own index y bytes maxL ret ws rm mc ms n ∧ (Cond.static y).before args s = true) (hn : As.length = n) (hsize : ls.size = nL) (hstack : st0 = As.reverse ++ rest) (hW : 2 * (F0 m pc ls st0).monitorRoom + (rest.map fun v => v.category).sum ≤ 8) (hdg : decode cc pc = .ok (.invokestatic index, 3)) (hf : cells + mc ≤ R.cells ∧ slots + ms ≤ R.slots) : vx_Run p l e R s m args below meth c H locs cells slots mc ms (F0 m pc ls st0) rest (Qc As.toArray) XC free :=
  vx_runS S hM cw ⟨z_blind, fun U hU hW => ⟨rfl, hI.pre hU hW⟩⟩ rfl hn hsize hstack hW hdg hf
variable {a : Array Value} {post : Option Value → zM → Prop}
theorem z_call (hI : zI G B0 s H locs F) (hr : va_Run p l e R s m args below meth c H locs cells slots mc ms (F0 m pc ls st0) rest (zQo G B0 post a) (zA B0))
    (kk : ∀ (v : Option Value) (F' : zM) (H1 : Heap) (locs1 : List Loc), post v F' → zI G B0 s H1 locs1 F' → H.size ≤ H1.size → W p l e R s m args below meth c H1 locs1 (cells + mc) (slots + ms) Q (F0 m (pc + 3) ls (v.toList ++ rest))) : W p l e R s m args below meth c H locs cells slots Q (F0 m pc ls st0) := by
  intro T hT X
  obtain ⟨v, st₀, t, T', L, h0, X', hL, e1, e2, ⟨⟨v', F', hv, hp, hq⟩, hz, hk⟩, st⟩ := hr T hT X
  cases hv
  rw [h0] at hz hk
  have hS := hI.2.1
  obtain ⟨t2, a1, b1⟩ := kk v F' T'.heap (locs ++ L) hp (hI.call e1.symm hq ⟨Nat.le_trans hS.1 (by rw [e1]; exact hz), fun q h1 h2 => by rw [e1, hk q (Nat.lt_of_lt_of_le h1 hS.1) h2]; exact hS.2.1 q h1 h2, fun q hq => by
      rcases List.mem_append.mp hq with h | h
      · exact hS.2.2 q h
      · exact hL q h⟩) (by rw [e1]; exact hz) T' rfl X'
  exact ⟨t2, st t2 a1, b1⟩
theorem z_calli {post : Int32 → zM → Prop} (hI : zI G B0 s H locs F) (hr : va_Run p l e R s m args below meth c H locs cells slots mc ms (F0 m pc ls st0) rest (zQi G B0 post a) (zA B0))
    (kk : ∀ (r : Int32) (F' : zM) (H1 : Heap) (locs1 : List Loc), post r F' → zI G B0 s H1 locs1 F' → W p l e R s m args below meth c H1 locs1 (cells + mc) (slots + ms) Q (F0 m (pc + 3) ls (.int r :: rest))) : W p l e R s m args below meth c H locs cells slots Q (F0 m pc ls st0) :=
  z_call hI hr (fun v F' H1 locs1 hp hI1 _ => by obtain ⟨r, rfl, hp⟩ := hp; exact kk r F' H1 locs1 hp hI1)
theorem z_callv {post : zM → Prop} (hI : zI G B0 s H locs F) (hr : va_Run p l e R s m args below meth c H locs cells slots mc ms (F0 m pc ls st0) rest (zQv G B0 post a) (zA B0))
    (kk : ∀ (F' : zM) (H1 : Heap) (locs1 : List Loc), post F' → zI G B0 s H1 locs1 F' → W p l e R s m args below meth c H1 locs1 (cells + mc) (slots + ms) Q (F0 m (pc + 3) ls rest)) : W p l e R s m args below meth c H locs cells slots Q (F0 m pc ls st0) :=
  z_call hI hr (fun v F' H1 locs1 hp hI1 _ => by obtain ⟨rfl, hp⟩ := hp; exact kk F' H1 locs1 hp hI1)
theorem z_callr {post : Nat → zM → Prop} (hI : zI G B0 s H locs F) (hr : va_Run p l e R s m args below meth c H locs cells slots mc ms (F0 m pc ls st0) rest (zQr G B0 post a) (zA B0))
    (kk : ∀ (r : Nat) (F' : zM) (H1 : Heap) (locs1 : List Loc), post r F' → zI G B0 s H1 locs1 F' → W p l e R s m args below meth c H1 locs1 (cells + mc) (slots + ms) Q (F0 m (pc + 3) ls (.ref r :: rest))) : W p l e R s m args below meth c H locs cells slots Q (F0 m pc ls st0) :=
  z_call hI hr (fun v F' H1 locs1 hp hI1 _ => by obtain ⟨r, rfl, hp⟩ := hp; exact kk r F' H1 locs1 hp hI1)
theorem z_calld {post : UInt64 → zM → Prop} (hI : zI G B0 s H locs F) (hr : va_Run p l e R s m args below meth c H locs cells slots mc ms (F0 m pc ls st0) rest (zQd G B0 post a) (zA B0))
    (kk : ∀ (r : UInt64) (F' : zM) (H1 : Heap) (locs1 : List Loc), post r F' → zI G B0 s H1 locs1 F' → W p l e R s m args below meth c H1 locs1 (cells + mc) (slots + ms) Q (F0 m (pc + 3) ls (.double r :: rest))) : W p l e R s m args below meth c H locs cells slots Q (F0 m pc ls st0) :=
  z_call hI hr (fun v F' H1 locs1 hp hI1 _ => by obtain ⟨r, rfl, hp⟩ := hp; exact kk r F' H1 locs1 hp hI1)
theorem z_callf {post : UInt32 → zM → Prop} (hI : zI G B0 s H locs F) (hr : va_Run p l e R s m args below meth c H locs cells slots mc ms (F0 m pc ls st0) rest (zQf G B0 post a) (zA B0))
    (kk : ∀ (r : UInt32) (F' : zM) (H1 : Heap) (locs1 : List Loc), post r F' → zI G B0 s H1 locs1 F' → W p l e R s m args below meth c H1 locs1 (cells + mc) (slots + ms) Q (F0 m (pc + 3) ls (.float r :: rest))) : W p l e R s m args below meth c H locs cells slots Q (F0 m pc ls st0) :=
  z_call hI hr (fun v F' H1 locs1 hp hI1 _ => by obtain ⟨r, rfl, hp⟩ := hp; exact kk r F' H1 locs1 hp hI1)
/-- a callee that may throw, called where nothing catches -/
theorem z_xcallG {PX : String → Prop} (hI : zI G B0 s H locs F) (hr : vx_Run p l e R s m args below meth c H locs cells slots mc ms (F0 m pc ls st0) rest (zQo G B0 post a) (zXC G B0 F PX) (zA B0))
    (kx : ∀ (E : String) (ce : Cell) (q9 : Addr) (H1 : Heap) (locs1 : List Loc), PX E → zI G B0 s H1 locs1 F → H1[q9]? = some ce → ce.vm = .none → s.vm.findClass E = some ce.cls → vx_W p l e R s m args below meth c H1 locs1 (cells + mc) (slots + ms) Q (F0 m pc ls rest) q9)
    (kk : ∀ (v : Option Value) (F' : zM) (H1 : Heap) (locs1 : List Loc), post v F' → zI G B0 s H1 locs1 F' → W p l e R s m args below meth c H1 locs1 (cells + mc) (slots + ms) Q (F0 m (pc + 3) ls (v.toList ++ rest))) : W p l e R s m args below meth c H locs cells slots Q (F0 m pc ls st0) := by
  intro T hT X
  rcases hr T hT X with ⟨v, st₀, t, T', L, h0, X', hL, e1, e2, ⟨⟨v', F', hv, hp, hq⟩, hF⟩, st⟩ | ⟨q, st₀, t, T', L, E, ce, h0, X', hL, e1, e2, ⟨u, -, ⟨hp, hq⟩, hF⟩, hce, hcv, hcl, st⟩
  · cases hv
    obtain ⟨k1, k2, k3⟩ := vx_keep (A0 := zA B0) h0 e1 hI.2.1 (fun q _ h => h) (fun q h => h) hL hF
    obtain ⟨t2, a1, b1⟩ := kk v F' T'.heap (locs ++ L) hp (hI.call e1.symm hq k3) T' rfl X'
    exact ⟨t2, st t2 a1, b1⟩
  · obtain ⟨k1, k2, k3⟩ := vx_keep (A0 := zA B0) h0 e1 hI.2.1 (fun q _ h => h) (fun q h => h) hL hF
    obtain ⟨t2, a1, b1⟩ := kx E ce q T'.heap (locs ++ L) hp (hI.call e1.symm hq k3) (by rw [e1]; exact hce) hcv hcl T' rfl X'
    exact ⟨t2, st.trans a1, b1⟩
end ZC
section ZE
variable {p : Program} {l : Launch} {e : Env} {R : Room} {s : State} {m : MethodId} {args : Array Value} {below : List Frame} {meth : Method} {c : Code} {H : Heap} {locs : List Loc} {cells slots : Nat} {Q : State → Prop}
variable {cc : ByteArray} {pc : Nat} {ls : Array Slot} {rest st0 : List Value} {G : zK} {B0 : Nat} {F F' : zM} {mc ms : Nat} {post : Option Value → zM → Prop} {PX : String → Prop}
theorem zI_Q (h : zI G B0 s H locs F) {t : State} (ht : t.heap = H) : zQ G B0 F t := ⟨by rw [ht]; exact h.2.2.1, h.2.2.2.1⟩
/-- the ends: what is answered, and the world behind -/
theorem z_ri {v : Int32} (hexec : p.tables.exec = Jvm.exec) (hb : c.code = cc) (hr : meth.sig.returnType = some .int) (hlocks : meth.locks = false) (hI : zI G B0 s H locs F') (hp : post (some (.int v)) F') (h1 : cells ≤ mc) (h2 : slots ≤ ms) (hdg : decode cc pc = .ok (.ireturn, 1)) : W p l e R s m args below meth c H locs cells slots (MQ below (zQo G B0 post) args s mc ms (zA B0)) (F0 m pc ls [.int v]) :=
  W.widen h1 h2 (W.iret hexec hb hr (fun t ht hW => ⟨⟨_, F', rfl, hp, zI_Q hI ht⟩, hI.2.1.F ht⟩) hI.2.1.2.2 hdg hlocks)
theorem z_rz {v : Int32} (hexec : p.tables.exec = Jvm.exec) (hb : c.code = cc) (hr : meth.sig.returnType = some .boolean) (hlocks : meth.locks = false) (hv : v = 0 ∨ v = 1) (hI : zI G B0 s H locs F') (hp : post (some (.int v)) F') (h1 : cells ≤ mc) (h2 : slots ≤ ms) (hdg : decode cc pc = .ok (.ireturn, 1)) : W p l e R s m args below meth c H locs cells slots (MQ below (zQo G B0 post) args s mc ms (zA B0)) (F0 m pc ls [.int v]) :=
  W.widen h1 h2 (W.zret hexec hb hr (by rcases hv with rfl | rfl <;> rfl) (fun t ht hW => ⟨⟨_, F', rfl, hp, zI_Q hI ht⟩, hI.2.1.F ht⟩) hI.2.1.2.2 hdg hlocks)
theorem z_rv (hexec : p.tables.exec = Jvm.exec) (hb : c.code = cc) (hr : meth.sig.returnType = none) (hlocks : meth.locks = false) (hI : zI G B0 s H locs F') (hp : post none F') (h1 : cells ≤ mc) (h2 : slots ≤ ms) (hdg : decode cc pc = .ok (.return_, 1)) : W p l e R s m args below meth c H locs cells slots (MQ below (zQo G B0 post) args s mc ms (zA B0)) (F0 m pc ls []) :=
  W.widen h1 h2 (W.vret hexec hb hr (fun t ht hW => ⟨⟨_, F', rfl, hp, zI_Q hI ht⟩, hI.2.1.F ht⟩) hI.2.1.2.2 hdg hlocks)
theorem z_rr {v : Nat} {rt : FieldType} (hrt : (∃ n, rt = .object n) ∨ ∃ t, rt = .array t) (hexec : p.tables.exec = Jvm.exec) (hb : c.code = cc) (hr : meth.sig.returnType = some rt) (hlocks : meth.locks = false) (hI : zI G B0 s H locs F') (hp : post (some (.ref v)) F') (h1 : cells ≤ mc) (h2 : slots ≤ ms) (hdg : decode cc pc = .ok (.areturn, 1)) : W p l e R s m args below meth c H locs cells slots (MQ below (zQo G B0 post) args s mc ms (zA B0)) (F0 m pc ls [.ref v]) :=
  W.widen h1 h2 (W.aret hexec hb hr hrt (Or.inr ⟨v, rfl⟩) (fun t ht hW => ⟨⟨_, F', rfl, hp, zI_Q hI ht⟩, hI.2.1.F ht⟩) hI.2.1.2.2 hdg hlocks)
theorem z_rd {v : UInt64} (hexec : p.tables.exec = Jvm.exec) (hb : c.code = cc) (hr : meth.sig.returnType = some .double) (hlocks : meth.locks = false) (hI : zI G B0 s H locs F') (hp : post (some (.double v)) F') (h1 : cells ≤ mc) (h2 : slots ≤ ms) (hdg : decode cc pc = .ok (.dreturn, 1)) : W p l e R s m args below meth c H locs cells slots (MQ below (zQo G B0 post) args s mc ms (zA B0)) (F0 m pc ls [.double v]) :=
  W.widen h1 h2 (W.dret hexec hb hr (fun t ht hW => ⟨⟨_, F', rfl, hp, zI_Q hI ht⟩, hI.2.1.F ht⟩) hI.2.1.2.2 hdg hlocks)
theorem z_rf {v : UInt32} (hexec : p.tables.exec = Jvm.exec) (hb : c.code = cc) (hr : meth.sig.returnType = some .float) (hlocks : meth.locks = false) (hI : zI G B0 s H locs F') (hp : post (some (.float v)) F') (h1 : cells ≤ mc) (h2 : slots ≤ ms) (hdg : decode cc pc = .ok (.freturn, 1)) : W p l e R s m args below meth c H locs cells slots (MQ below (zQo G B0 post) args s mc ms (zA B0)) (F0 m pc ls [.float v]) :=
  W.widen h1 h2 (W.fret hexec hb hr (fun t ht hW => ⟨⟨_, F', rfl, hp, zI_Q hI ht⟩, hI.2.1.F ht⟩) hI.2.1.2.2 hdg hlocks)
/-- what a callee threw goes on to the caller -/
theorem z_out {PX PX' : String → Prop} {Qc : Array Value → State → Outcome → State → Prop} (hout : ∀ x ∈ c.exceptionTable.toList, False) (hlocks : meth.locks = false) {F0' : zM} (hPX : ∀ E, PX E → PX' E) (h1 : cells ≤ mc) (h2 : slots ≤ ms) : ∀ (E : String) (ce : Cell) (q9 : Addr) (H1 : Heap) (locs1 : List Loc), PX E → zI G B0 s H1 locs1 F0' → H1[q9]? = some ce → ce.vm = .none → s.vm.findClass E = some ce.cls → vx_W p l e R s m args below meth c H1 locs1 cells slots (vx_MQ below Qc (zXC G B0 F0' PX') args s mc ms (zA B0)) (F0 m pc ls rest) q9 :=
  fun E ce q9 H1 locs1 hp hI hce hcv hcl => vx_out (fun x hx => (hout x hx).elim) hlocks hce hcv hcl (fun t ht _ => ⟨(), trivial, ⟨hPX E hp, zI_Q hI ht⟩, hI.2.1.F ht⟩) hI.2.1.2.2 h1 h2
theorem z_throw {Qc : Array Value → State → Outcome → State → Prop} {own cls text : String} {ik is ic : Nat} (hexec : p.tables.exec = Jvm.exec) (hb : c.code = cc) (hl : l.stackTraces = false) (hown : s.vm.findClass own = some m.cls) (hlocks : meth.locks = false) (hout : ∀ x ∈ c.exceptionTable.toList, False) (hts : ∀ w ∈ zW, w.before args s = true)
    (ha : ∀ w ∈ (vx_atS own ic cls zNames).filter goodWord, w ∈ zW) (hbb : ∀ w ∈ (vx_atS own ic cls zNames).filter (fun w => !goodWord w), w ∈ zBad cls)
    (hk : Cond.classLink own ik cls ∈ zW) (hini : Cond.initialized cls ∈ zW) (hstr : (own, is, text) ∈ zStr) (hcls : Bundle.fit cls = true) (hcs : cls ∈ zEx)
    (hI : zI G B0 s H locs F) (hsize : ls.size = c.maxLocals)
    (d0 : decode cc pc = .ok (.new ik, 3)) (d3 : decode cc (pc + 3) = .ok (.dup, 1)) (d4 : decode cc (pc + 4) = .ok (.ldc is, 2)) (d6 : decode cc (pc + 6) = .ok (.invokespecial ic, 3)) (d9 : decode cc (pc + 9) = .ok (.athrow, 1))
    (hR : 5 < R.frames ∧ (rest.map fun v => v.category).sum + 82 ≤ R.locals ∧ cells + 1 ≤ R.cells ∧ slots + 6 ≤ R.slots) (hp : PX cls) (h1 : cells + 1 ≤ mc) (h2 : slots + 6 ≤ ms) :
    W p l e R s m args below meth c H locs cells slots (vx_MQ below Qc (zXC G B0 F PX) args s mc ms (zA B0)) (F0 m pc ls rest) := by
  obtain ⟨sa, hsa⟩ := hI.1.2.2.1 _ hstr
  have hcast : (Cond.castable cls cls).before args s = true := zCs.use (hI.1.2.2.2.2.2.2.2.2 cls hcs)
  refine vx_throwS (names := zNames) hexec hb hl hown hcls (by decide +kernel) (hts _ hk) (hts _ hini) hsa (vx_hat (fun w hw => hts w (ha w hw)) hbb (vx_c hcast (vx_c (va_Nw.use rfl (hI.1.2.1 _ (List.mem_of_getElem? (i := 5) rfl))) (vx_c (va_Nw.use rfl (hI.1.2.1 _ (List.mem_of_getElem? (i := 6) rfl))) (vx_c (va_Nw.use rfl (hI.1.2.1 _ (List.mem_of_getElem? (i := 7) rfl))) vx_n))))) (fun w hw => ?_) hI.1.2.2.2.1 hI.1.2.2.2.2.1 hI.2.1 hsize d0 d3 d4 d6 d9 (fun x hx => (hout x hx).elim) hR.1 hR.2.1 hR.2.2.1 hR.2.2.2 hlocks (fun t hvm hz hk9 => ⟨(), trivial, ⟨hp, fun b e' hb' => (hI.2.2.1 b e' hb').kept (hk9 b (hI.lt hb')), hI.2.2.2.1⟩, Nat.le_trans hI.2.1.1 hz, fun q q1 q2 => (hk9 q (Nat.lt_of_lt_of_le q1 hI.2.1.1)).trans (hI.2.1.2.1 q q1 q2)⟩) hI.2.1.2.2 h1 h2
  have key : ∀ x : Cond, x ∈ zW → vx_ot x = true := fun x hx => by
    have h3 := (List.mem_filter.mp hx).2
    simp only [vx_ot, h3, Bool.or_true]
  rcases List.mem_cons.mp hw with rfl | hw
  · exact key _ hk
  · rcases List.mem_cons.mp hw with rfl | hw
    · exact key _ hini
    · by_cases g : goodWord w = true
      · simp only [vx_ot, g, Bool.or_true]
      · have h4 := hbb w (List.mem_filter.mpr ⟨hw, by simp [g]⟩)
        simp only [zBad, List.mem_cons, List.not_mem_nil, or_false] at h4
        rcases h4 with rfl | rfl | rfl | rfl <;> rfl
/-- the entry of a method -/
theorem z_of {y : MethodName} {maxL : Nat} {ret : Option FieldType} {rm : Room} {av : List Value} {own : String} (hy : plainName y.cls = true) (hown : y.cls = own) (hn : (lg_sl av).length ≤ maxL)
    (body : ∀ (p : Program) (e : Env) (s : State) (m : MethodId) (below : List Frame) (meth : Method) (c : Code) (ls : Array Slot), p.tables.exec = Jvm.exec → c.code = cc → meth.sig.returnType = ret → c.maxLocals = maxL → s.vm.findClass own = some m.cls → meth.locks = false → meth.name = y.name → (∀ w ∈ zW, w.before av.toArray s = true) → lv_has ls maxL (lv_args 0 av) → zI G B0 s s.heap [] F →
      W p l e rm s m av.toArray below meth c s.heap [] 0 0 (MQ below (zQo G B0 post) av.toArray s mc ms (zA B0)) (F0 m 0 ls [])) : Met l y (Cond.code y cc maxL ret :: zW) rm (va_Pc av (zPre G B0 F)) (zQo G B0 post) mc ms (zA B0) := by
  subst hown
  refine Met.ofW (cc := cc) (maxL := maxL) (ret := ret) hy rfl ?_
  intro p e s m args below meth c s₁ B hml hv
  obtain ⟨rfl, hI⟩ := hv
  have hts := atoms_spec (ws := Cond.code y cc maxL ret :: zW) B.pre
  have hl := lv_entry av (n := maxL) hn
  rw [lg_entry_eq]
  exact body p e s m below meth c _ B.exec B.bytes B.returns hml (findClass_of_methodNamed B.named) B.notSynchronized (name_of_methodNamed B.named B.method).1 (fun w hw => hts w (List.mem_cons_of_mem _ hw)) hl hI.I
theorem z_ofx {y : MethodName} {maxL : Nat} {ret : Option FieldType} {rm : Room} {av : List Value} {own : String} {XC : String → State → State → Prop} (hy : plainName y.cls = true) (hown : y.cls = own) (hn : (lg_sl av).length ≤ maxL)
    (body : ∀ (p : Program) (e : Env) (s : State) (m : MethodId) (below : List Frame) (meth : Method) (c : Code) (ls : Array Slot), p.tables.exec = Jvm.exec → c.code = cc → meth.sig.returnType = ret → c.maxLocals = maxL → s.vm.findClass own = some m.cls → meth.locks = false → (∀ x ∈ c.exceptionTable.toList, False) → (∀ w ∈ zW, w.before av.toArray s = true) → lv_has ls maxL (lv_args 0 av) → zI G B0 s s.heap [] F →
      W p l e rm s m av.toArray below meth c s.heap [] 0 0 (vx_MQ below (zQo G B0 post) XC av.toArray s mc ms (zA B0)) (F0 m 0 ls [])) : vx_Met l y (Cond.code y cc maxL ret :: zW) rm (va_Pc av (zPre G B0 F)) (zQo G B0 post) XC mc ms (zA B0) := by
  subst hown
  refine vx_ofW (cc := cc) (maxL := maxL) (ret := ret) hy rfl ?_
  intro p e s m args below meth c s₁ B hml hout hv
  obtain ⟨rfl, hI⟩ := hv
  have hts := atoms_spec (ws := Cond.code y cc maxL ret :: zW) B.pre
  have hl := lv_entry av (n := maxL) hn
  rw [lg_entry_eq]
  exact body p e s m below meth c _ B.exec B.bytes B.returns hml (findClass_of_methodNamed B.named) B.notSynchronized hout (fun w hw => hts w (List.mem_cons_of_mem _ hw)) hl hI.I
end ZE
end
section
section ZP
variable {p : Program} {l : Launch} {e : Env} {R : Room} {s : State} {m : MethodId} {args : Array Value} {below : List Frame} {meth : Method} {c : Code} {H : Heap} {locs : List Loc} {cells slots : Nat} {Q : State → Prop}
variable {cc : ByteArray} {pc : Nat} {ls : Array Slot} {rest st0 : List Value} {G : zK} {B0 : Nat} {F : zM}
/-- a loop by a measure; x: what changes in it -/
theorem z_loop {σ : Type} (lvf : σ → List (Nat × Value)) (I : σ → zM → Prop) (μ : σ → Nat) (x0 : σ) {nL : Nat} {st : List Value} (hI0 : I x0 F) (hl : lv_has ls nL (lvf x0)) (hI : zI G B0 s H locs F)
    (body : ∀ (x : σ) (F : zM) (ls : Array Slot) (H : Heap) (locs : List Loc), I x F → lv_has ls nL (lvf x) → zI G B0 s H locs F → (∀ (x' : σ) (F' : zM) (ls' : Array Slot) (H' : Heap) (locs' : List Loc), μ x' < μ x → I x' F' → lv_has ls' nL (lvf x') → zI G B0 s H' locs' F' → W p l e R s m args below meth c H' locs' cells slots Q (F0 m pc ls' st)) → W p l e R s m args below meth c H locs cells slots Q (F0 m pc ls st)) : W p l e R s m args below meth c H locs cells slots Q (F0 m pc ls st) := by
  have key : ∀ (d : Nat) (x : σ) (F : zM) (ls : Array Slot) (H : Heap) (locs : List Loc), μ x < d → I x F → lv_has ls nL (lvf x) → zI G B0 s H locs F → W p l e R s m args below meth c H locs cells slots Q (F0 m pc ls st) := by
    intro d
    induction d with
    | zero => intro x F ls H locs h; omega
    | succ d ih =>
      intro x F ls H locs h h1 h2 h3
      exact body x F ls H locs h1 h2 h3 (fun x' F' ls' H' locs' q1 q2 q3 q4 => ih x' F' ls' H' locs' (by omega) q2 q3 q4)
  exact key (μ x0 + 1) x0 F ls H locs (by omega) hI0 hl hI
/-- ways that meet again at pcJ -/
theorem z_join {σ : Type} (lvf : σ → List (Nat × Value)) (stf : σ → List Value) (I : σ → zM → Prop) (pcJ nL : Nat) {g : JFrame} (G : zK) (B0 : Nat)
    (kJ : ∀ (x : σ) (F : zM) (ls : Array Slot) (H : Heap) (locs : List Loc), I x F → lv_has ls nL (lvf x) → zI G B0 s H locs F → W p l e R s m args below meth c H locs cells slots Q (F0 m pcJ ls (stf x)))
    (body : (∀ (x : σ) (F : zM) (ls : Array Slot) (H : Heap) (locs : List Loc), I x F → lv_has ls nL (lvf x) → zI G B0 s H locs F → W p l e R s m args below meth c H locs cells slots Q (F0 m pcJ ls (stf x))) → W p l e R s m args below meth c H locs cells slots Q g) : W p l e R s m args below meth c H locs cells slots Q g := body kJ
section
theorem z_icmp_ge (hexec : p.tables.exec = Jvm.exec) (hb : c.code = cc) {a b : Nat} {off : Int} {tgt : Nat} (hdg : decode cc pc = .ok (.if_icmp .ge off, 3)) (ht : (pc : Int) + off = (tgt : Int)) (ha : a < 2 ^ 31 ∧ b < 2 ^ 31) (kt : b ≤ a → W p l e R s m args below meth c H locs cells slots Q (F0 m tgt ls rest)) (kf : a < b → W p l e R s m args below meth c H locs cells slots Q (F0 m (pc + 3) ls rest)) : W p l e R s m args below meth c H locs cells slots Q (F0 m pc ls (.int (nI b) :: .int (nI a) :: rest)) :=
  lv_icmp_ge hexec hb hdg ht (fun h => kt ((nI_leI ha.2 ha.1).mp h)) (fun h => kf (Nat.lt_of_not_le fun q => h ((nI_leI ha.2 ha.1).mpr q)))
theorem z_icmp_le (hexec : p.tables.exec = Jvm.exec) (hb : c.code = cc) {a b : Nat} {off : Int} {tgt : Nat} (hdg : decode cc pc = .ok (.if_icmp .le off, 3)) (ht : (pc : Int) + off = (tgt : Int)) (ha : a < 2 ^ 31 ∧ b < 2 ^ 31) (kt : a ≤ b → W p l e R s m args below meth c H locs cells slots Q (F0 m tgt ls rest)) (kf : b < a → W p l e R s m args below meth c H locs cells slots Q (F0 m (pc + 3) ls rest)) : W p l e R s m args below meth c H locs cells slots Q (F0 m pc ls (.int (nI b) :: .int (nI a) :: rest)) :=
  lv_icmp_le hexec hb hdg ht (fun h => kt ((nI_leI ha.1 ha.2).mp h)) (fun h => kf (Nat.lt_of_not_le fun q => h ((nI_leI ha.1 ha.2).mpr q)))
theorem z_icmp_lt (hexec : p.tables.exec = Jvm.exec) (hb : c.code = cc) {a b : Nat} {off : Int} {tgt : Nat} (hdg : decode cc pc = .ok (.if_icmp .lt off, 3)) (ht : (pc : Int) + off = (tgt : Int)) (ha : a < 2 ^ 31 ∧ b < 2 ^ 31) (kt : a < b → W p l e R s m args below meth c H locs cells slots Q (F0 m tgt ls rest)) (kf : b ≤ a → W p l e R s m args below meth c H locs cells slots Q (F0 m (pc + 3) ls rest)) : W p l e R s m args below meth c H locs cells slots Q (F0 m pc ls (.int (nI b) :: .int (nI a) :: rest)) :=
  lv_icmp_lt hexec hb hdg ht (fun h => kt ((nI_ltI ha.1 ha.2).mp h)) (fun h => kf (Nat.le_of_not_lt fun q => h ((nI_ltI ha.1 ha.2).mpr q)))
theorem z_icmp_gt (hexec : p.tables.exec = Jvm.exec) (hb : c.code = cc) {a b : Nat} {off : Int} {tgt : Nat} (hdg : decode cc pc = .ok (.if_icmp .gt off, 3)) (ht : (pc : Int) + off = (tgt : Int)) (ha : a < 2 ^ 31 ∧ b < 2 ^ 31) (kt : b < a → W p l e R s m args below meth c H locs cells slots Q (F0 m tgt ls rest)) (kf : a ≤ b → W p l e R s m args below meth c H locs cells slots Q (F0 m (pc + 3) ls rest)) : W p l e R s m args below meth c H locs cells slots Q (F0 m pc ls (.int (nI b) :: .int (nI a) :: rest)) :=
  lv_icmp_gt hexec hb hdg ht (fun h => kt ((nI_ltI ha.2 ha.1).mp h)) (fun h => kf (Nat.le_of_not_lt fun q => h ((nI_ltI ha.2 ha.1).mpr q)))
theorem z_icmp_eq (hexec : p.tables.exec = Jvm.exec) (hb : c.code = cc) {a b : Nat} {off : Int} {tgt : Nat} (hdg : decode cc pc = .ok (.if_icmp .eq off, 3)) (ht : (pc : Int) + off = (tgt : Int)) (ha : a < 2 ^ 31 ∧ b < 2 ^ 31) (kt : a = b → W p l e R s m args below meth c H locs cells slots Q (F0 m tgt ls rest)) (kf : a ≠ b → W p l e R s m args below meth c H locs cells slots Q (F0 m (pc + 3) ls rest)) : W p l e R s m args below meth c H locs cells slots Q (F0 m pc ls (.int (nI b) :: .int (nI a) :: rest)) :=
  lv_icmp_eq hexec hb hdg ht (fun h => kt ((nI_eq ha.1 ha.2).mp h)) (fun h => kf (fun q => h ((nI_eq ha.1 ha.2).mpr q)))
theorem z_icmp_ne (hexec : p.tables.exec = Jvm.exec) (hb : c.code = cc) {a b : Nat} {off : Int} {tgt : Nat} (hdg : decode cc pc = .ok (.if_icmp .ne off, 3)) (ht : (pc : Int) + off = (tgt : Int)) (ha : a < 2 ^ 31 ∧ b < 2 ^ 31) (kt : a ≠ b → W p l e R s m args below meth c H locs cells slots Q (F0 m tgt ls rest)) (kf : a = b → W p l e R s m args below meth c H locs cells slots Q (F0 m (pc + 3) ls rest)) : W p l e R s m args below meth c H locs cells slots Q (F0 m pc ls (.int (nI b) :: .int (nI a) :: rest)) :=
  lv_icmp_ne hexec hb hdg ht (fun h => kt (fun q => h ((nI_eq ha.1 ha.2).mpr q))) (fun h => kf ((nI_eq ha.1 ha.2).mp h))
theorem z_if_eq (hexec : p.tables.exec = Jvm.exec) (hb : c.code = cc) {a : Nat} {off : Int} {tgt : Nat} (hdg : decode cc pc = .ok (.ifCond .eq off, 3)) (ht : (pc : Int) + off = (tgt : Int)) (ha : a < 2 ^ 31) (kt : a = 0 → W p l e R s m args below meth c H locs cells slots Q (F0 m tgt ls rest)) (kf : 0 < a → W p l e R s m args below meth c H locs cells slots Q (F0 m (pc + 3) ls rest)) : W p l e R s m args below meth c H locs cells slots Q (F0 m pc ls (.int (nI a) :: rest)) :=
  lv_if_eq hexec hb hdg ht (fun h => kt ((nI_eq ha (by decide)).mp (h.trans nI_0.symm))) (fun h => kf (Nat.pos_of_ne_zero fun q => h (by rw [q]; exact nI_0)))
theorem z_if_ne (hexec : p.tables.exec = Jvm.exec) (hb : c.code = cc) {a : Nat} {off : Int} {tgt : Nat} (hdg : decode cc pc = .ok (.ifCond .ne off, 3)) (ht : (pc : Int) + off = (tgt : Int)) (ha : a < 2 ^ 31) (kt : 0 < a → W p l e R s m args below meth c H locs cells slots Q (F0 m tgt ls rest)) (kf : a = 0 → W p l e R s m args below meth c H locs cells slots Q (F0 m (pc + 3) ls rest)) : W p l e R s m args below meth c H locs cells slots Q (F0 m pc ls (.int (nI a) :: rest)) :=
  lv_if_ne hexec hb hdg ht (fun h => kt (Nat.pos_of_ne_zero fun q => h (by rw [q]; exact nI_0))) (fun h => kf ((nI_eq ha (by decide)).mp (h.trans nI_0.symm)))
theorem z_if_le (hexec : p.tables.exec = Jvm.exec) (hb : c.code = cc) {a : Nat} {off : Int} {tgt : Nat} (hdg : decode cc pc = .ok (.ifCond .le off, 3)) (ht : (pc : Int) + off = (tgt : Int)) (ha : a < 2 ^ 31) (kt : a = 0 → W p l e R s m args below meth c H locs cells slots Q (F0 m tgt ls rest)) (kf : 0 < a → W p l e R s m args below meth c H locs cells slots Q (F0 m (pc + 3) ls rest)) : W p l e R s m args below meth c H locs cells slots Q (F0 m pc ls (.int (nI a) :: rest)) :=
  lv_if_le hexec hb hdg ht (fun h => kt (by rw [← nI_0] at h; exact Nat.le_zero.mp ((nI_leI ha (by decide)).mp h))) (fun h => kf (Nat.pos_of_ne_zero fun q => h (by rw [q, nI_0]; decide)))
theorem z_if_gt (hexec : p.tables.exec = Jvm.exec) (hb : c.code = cc) {a : Nat} {off : Int} {tgt : Nat} (hdg : decode cc pc = .ok (.ifCond .gt off, 3)) (ht : (pc : Int) + off = (tgt : Int)) (ha : a < 2 ^ 31) (kt : 0 < a → W p l e R s m args below meth c H locs cells slots Q (F0 m tgt ls rest)) (kf : a = 0 → W p l e R s m args below meth c H locs cells slots Q (F0 m (pc + 3) ls rest)) : W p l e R s m args below meth c H locs cells slots Q (F0 m pc ls (.int (nI a) :: rest)) :=
  lv_if_gt hexec hb hdg ht (fun h => kt (by rw [← nI_0] at h; exact (nI_ltI (by decide) ha).mp h)) (fun h => kf (Nat.eq_zero_of_not_pos fun q => h (by rw [← nI_0]; exact (nI_ltI (by decide) ha).mpr q)))
theorem z_if_ge (hexec : p.tables.exec = Jvm.exec) (hb : c.code = cc) {a : Nat} {off : Int} {tgt : Nat} (hdg : decode cc pc = .ok (.ifCond .ge off, 3)) (ht : (pc : Int) + off = (tgt : Int)) (ha : a < 2 ^ 31) (kt : W p l e R s m args below meth c H locs cells slots Q (F0 m tgt ls rest)) : W p l e R s m args below meth c H locs cells slots Q (F0 m pc ls (.int (nI a) :: rest)) :=
  lv_if_ge hexec hb hdg ht (fun _ => kt) (fun h => absurd (nI_pos' ha) h)
theorem z_if_lt (hexec : p.tables.exec = Jvm.exec) (hb : c.code = cc) {a : Nat} {off : Int} {tgt : Nat} (hdg : decode cc pc = .ok (.ifCond .lt off, 3)) (ht : (pc : Int) + off = (tgt : Int)) (ha : a < 2 ^ 31) (kf : W p l e R s m args below meth c H locs cells slots Q (F0 m (pc + 3) ls rest)) : W p l e R s m args below meth c H locs cells slots Q (F0 m pc ls (.int (nI a) :: rest)) :=
  lv_if_lt hexec hb hdg ht (fun h => absurd h (nI_pos ha)) (fun _ => kf)
end
end ZP
end
section
abbrev zRm (fr lo mc ms : Nat) : Room := { frames := fr, cells := mc, slots := ms, locals := lo }
theorem vX0_init : zMI yX0_init cX0_init 3 2 := ⟨⟨q641, q13, by decide +kernel⟩, rfl, q640⟩
theorem vX0_of : zMS yX0_of cX0_of 2 (some (FieldType.object "WordConcordance$Copies")) 2 := ⟨⟨q633, q13, by decide +kernel⟩, q632⟩
theorem vX0_wordAt : zMV RX0 yX0_wordAt cX0_wordAt 2 (some FieldType.int) 1 := ⟨⟨q681, q13, by decide +kernel⟩, q679, q680⟩
theorem vX0_putAt : zMV RX0 yX0_putAt cX0_putAt 3 none 2 := ⟨⟨q653, q13, by decide +kernel⟩, q651, q652⟩
theorem vX0_append : zMV RX0 yX0_append cX0_append 2 none 1 := ⟨⟨q673, q13, by decide +kernel⟩, q671, q672⟩
theorem vX0_takeOut : zMV RX0 yX0_takeOut cX0_takeOut 2 none 1 := ⟨⟨q677, q13, by decide +kernel⟩, q675, q676⟩
theorem vX1_init : zMI yX1_init cX1_init 2 1 := ⟨⟨q28, q2, by decide +kernel⟩, rfl, q27⟩
theorem vX1_append : zMV RX1 yX1_append cX1_append 2 none 1 := ⟨⟨q171, q2, by decide +kernel⟩, q169, q170⟩
theorem vX1_appendAll : zMV RX1 yX1_appendAll cX1_appendAll 3 none 1 := ⟨⟨q384, q2, by decide +kernel⟩, q382, q383⟩
theorem vX1_become : zMV RX1 yX1_become cX1_become 2 none 1 := ⟨⟨q389, q2, by decide +kernel⟩, q387, q388⟩
theorem vX1_openUp : zMV RX1 yX1_openUp cX1_openUp 4 none 2 := ⟨⟨q228, q2, by decide +kernel⟩, q226, q227⟩
theorem vX1_closeUp : zMV RX1 yX1_closeUp cX1_closeUp 5 none 2 := ⟨⟨q250, q2, by decide +kernel⟩, q248, q249⟩
theorem vX1_exchange : zMV RX1 yX1_exchange cX1_exchange 4 none 2 := ⟨⟨q546, q2, by decide +kernel⟩, q544, q545⟩
theorem vX1_turnRound : zMV RX1 yX1_turnRound cX1_turnRound 5 none 2 := ⟨⟨q542, q2, by decide +kernel⟩, q540, q541⟩
theorem vX1_timesOf : zMV RX1 yX1_timesOf cX1_timesOf 4 (some FieldType.int) 1 := ⟨⟨q408, q2, by decide +kernel⟩, q406, q407⟩
theorem vX1_hasWord : zMV RX1 yX1_hasWord cX1_hasWord 2 (some FieldType.boolean) 1 := ⟨⟨q457, q2, by decide +kernel⟩, q455, q456⟩
theorem vX1_isFirstOfItsWord : zMV RX1 yX1_isFirstOfItsWord cX1_isFirstOfItsWord 3 (some FieldType.boolean) 1 := ⟨⟨q419, q2, by decide +kernel⟩, q417, q418⟩
theorem vX1_differencesFrom : zMV RX1 yX1_differencesFrom cX1_differencesFrom 4 (some FieldType.int) 1 := ⟨⟨q512, q2, by decide +kernel⟩, q510, q511⟩
theorem vX1_holds : zMV RX1 yX1_holds cX1_holds 4 (some FieldType.boolean) 2 := ⟨⟨q334, q2, by decide +kernel⟩, q332, q333⟩
theorem vX1_firstPlaceOf : zMV RX1 yX1_firstPlaceOf cX1_firstPlaceOf 5 (some FieldType.int) 3 := ⟨⟨q330, q2, by decide +kernel⟩, q328, q329⟩
theorem vX1_lastPlaceOf : zMV RX1 yX1_lastPlaceOf cX1_lastPlaceOf 3 (some FieldType.int) 1 := ⟨⟨q345, q2, by decide +kernel⟩, q343, q344⟩
theorem vX1_timesAnywhere : zMV RX1 yX1_timesAnywhere cX1_timesAnywhere 4 (some FieldType.int) 1 := ⟨⟨q367, q2, by decide +kernel⟩, q365, q366⟩
theorem vX1_timesApart : zMV RX1 yX1_timesApart cX1_timesApart 5 (some FieldType.int) 1 := ⟨⟨q363, q2, by decide +kernel⟩, q361, q362⟩
theorem vX2_init : zMI yX2_init cX2_init 2 0 := ⟨⟨q19, q1, by decide +kernel⟩, rfl, q18⟩
theorem vX2_add : zMV RX2 yX2_add cX2_add 4 (some FieldType.int) 2 := ⟨⟨q70, q1, by decide +kernel⟩, q68, q69⟩
theorem vX2_addMany : zMV RX2 yX2_addMany cX2_addMany 6 (some FieldType.int) 3 := ⟨⟨q179, q1, by decide +kernel⟩, q177, q178⟩
theorem vX2_scatter : zMV RX2 yX2_scatter cX2_scatter 9 (some FieldType.int) 4 := ⟨⟨q205, q1, by decide +kernel⟩, q203, q204⟩
theorem vX2_insert : zMV RX2 yX2_insert cX2_insert 5 (some FieldType.int) 3 := ⟨⟨q220, q1, by decide +kernel⟩, q218, q219⟩
theorem vX2_set : zMV RX2 yX2_set cX2_set 6 (some FieldType.int) 3 := ⟨⟨q235, q1, by decide +kernel⟩, q233, q234⟩
theorem vX2_remove : zMV RX2 yX2_remove cX2_remove 5 (some FieldType.int) 2 := ⟨⟨q246, q1, by decide +kernel⟩, q244, q245⟩
theorem vX2_cut : zMV RX2 yX2_cut cX2_cut 5 (some FieldType.int) 3 := ⟨⟨q257, q1, by decide +kernel⟩, q255, q256⟩
theorem vX2_size : zMV RX2 yX2_size cX2_size 2 (some FieldType.int) 1 := ⟨⟨q264, q1, by decide +kernel⟩, q262, q263⟩
theorem vX2_at : zMV RX2 yX2_at cX2_at 4 (some FieldType.int) 2 := ⟨⟨q271, q1, by decide +kernel⟩, q269, q270⟩
theorem vX2_digest : zMV RX2 yX2_digest cX2_digest 5 (some FieldType.int) 1 := ⟨⟨q278, q1, by decide +kernel⟩, q276, q277⟩
theorem vX2_setRank : zMV RX2 yX2_setRank cX2_setRank 4 (some FieldType.int) 2 := ⟨⟨q285, q1, by decide +kernel⟩, q283, q284⟩
theorem vX2_say : zMV RX2 yX2_say cX2_say 4 (some FieldType.int) 2 := ⟨⟨q292, q1, by decide +kernel⟩, q290, q291⟩
theorem vX2_quote : zMV RX2 yX2_quote cX2_quote 8 (some FieldType.int) 4 := ⟨⟨q304, q1, by decide +kernel⟩, q302, q303⟩
theorem vX2_hush : zMV RX2 yX2_hush cX2_hush 4 (some FieldType.int) 1 := ⟨⟨q312, q1, by decide +kernel⟩, q310, q311⟩
theorem vX2_wordOf : zMV RX2 yX2_wordOf cX2_wordOf 4 (some FieldType.int) 2 := ⟨⟨q319, q1, by decide +kernel⟩, q317, q318⟩
theorem vX2_find : zMV RX2 yX2_find cX2_find 3 (some FieldType.int) 1 := ⟨⟨q326, q1, by decide +kernel⟩, q324, q325⟩
theorem vX2_findLast : zMV RX2 yX2_findLast cX2_findLast 2 (some FieldType.int) 1 := ⟨⟨q341, q1, by decide +kernel⟩, q339, q340⟩
theorem vX2_findIn : zMV RX2 yX2_findIn cX2_findIn 5 (some FieldType.int) 3 := ⟨⟨q352, q1, by decide +kernel⟩, q350, q351⟩
theorem vX2_count : zMV RX2 yX2_count cX2_count 5 (some FieldType.int) 2 := ⟨⟨q359, q1, by decide +kernel⟩, q357, q358⟩
theorem vX2_replace : zMV RX2 yX2_replace cX2_replace 5 (some FieldType.int) 1 := ⟨⟨q374, q1, by decide +kernel⟩, q372, q373⟩
theorem vX2_draftReplaced : zMV RX2 yX2_draftReplaced cX2_draftReplaced 6 none 1 := ⟨⟨q379, q1, by decide +kernel⟩, q378, qp3⟩
theorem vX2_replaceWord : zMV RX2 yX2_replaceWord cX2_replaceWord 7 (some FieldType.boolean) 3 := ⟨⟨q397, q1, by decide +kernel⟩, q395, q396⟩
theorem vX2_frequency : zMV RX2 yX2_frequency cX2_frequency 4 (some FieldType.int) 2 := ⟨⟨q404, q1, by decide +kernel⟩, q402, q403⟩
theorem vX2_different : zMV RX2 yX2_different cX2_different 5 (some FieldType.int) 1 := ⟨⟨q415, q1, by decide +kernel⟩, q413, q414⟩
theorem vX2_most : zMV RX2 yX2_most cX2_most 8 (some FieldType.int) 1 := ⟨⟨q427, q1, by decide +kernel⟩, q425, q426⟩
theorem vX2_isApart : zMV RX2 yX2_isApart cX2_isApart 6 (some FieldType.boolean) 2 := ⟨⟨q453, q1, by decide +kernel⟩, q451, q452⟩
theorem vX2_alone : zMV RX2 yX2_alone cX2_alone 7 (some FieldType.int) 2 := ⟨⟨q465, q1, by decide +kernel⟩, q463, q464⟩
theorem vX2_greatest : zMV RX2 yX2_greatest cX2_greatest 6 (some FieldType.int) 2 := ⟨⟨q472, q1, by decide +kernel⟩, q470, q471⟩
theorem vX2_least : zMV RX2 yX2_least cX2_least 6 (some FieldType.int) 2 := ⟨⟨q490, q1, by decide +kernel⟩, q488, q489⟩
theorem vX2_sort : zMV RX2 yX2_sort cX2_sort 5 (some FieldType.int) 3 := ⟨⟨q500, q1, by decide +kernel⟩, q498, q499⟩
theorem vX2_isSorted : zMV RX2 yX2_isSorted cX2_isSorted 4 (some FieldType.boolean) 2 := ⟨⟨q519, q1, by decide +kernel⟩, q517, q518⟩
theorem vX2_search : zMV RX2 yX2_search cX2_search 8 (some FieldType.int) 3 := ⟨⟨q530, q1, by decide +kernel⟩, q528, q529⟩
theorem vX2_keyOf : zMV RX2 yX2_keyOf cX2_keyOf 3 (some FieldType.int) 2 := ⟨⟨q480, q1, by decide +kernel⟩, q479, qp4⟩
theorem vX2_isInOrder : zMV RX2 yX2_isInOrder cX2_isInOrder 4 (some FieldType.boolean) 2 := ⟨⟨q523, q1, by decide +kernel⟩, q522, qp7⟩
theorem vX2_putInOrder : zMV RX2 yX2_putInOrder cX2_putInOrder 7 none 3 := ⟨⟨q504, q1, by decide +kernel⟩, q503, qp5⟩
theorem vX2_mustPass : zMV RX2 yX2_mustPass cX2_mustPass 7 (some FieldType.boolean) 4 := ⟨⟨q508, q1, by decide +kernel⟩, q507, qp6⟩
theorem vX2_turn : zMV RX2 yX2_turn cX2_turn 5 (some FieldType.int) 3 := ⟨⟨q538, q1, by decide +kernel⟩, q536, q537⟩
theorem vX2_move : zMV RX2 yX2_move cX2_move 6 (some FieldType.int) 4 := ⟨⟨q553, q1, by decide +kernel⟩, q551, q552⟩
theorem vX2_moveRound : zMV RX2 yX2_moveRound cX2_moveRound 8 (some FieldType.int) 4 := ⟨⟨q557, q1, by decide +kernel⟩, q556, qp8⟩
theorem vX2_swap : zMV RX2 yX2_swap cX2_swap 5 (some FieldType.int) 3 := ⟨⟨q567, q1, by decide +kernel⟩, q565, q566⟩
theorem vX2_fill : zMV RX2 yX2_fill cX2_fill 8 (some FieldType.int) 4 := ⟨⟨q575, q1, by decide +kernel⟩, q573, q574⟩
theorem vX2_copy : zMV RX2 yX2_copy cX2_copy 6 (some FieldType.int) 2 := ⟨⟨q582, q1, by decide +kernel⟩, q580, q581⟩
theorem vX2_stands : zMV RX2 yX2_stands cX2_stands 7 (some FieldType.int) 2 := ⟨⟨q590, q1, by decide +kernel⟩, q588, q589⟩
theorem vX2_near : zMV RX2 yX2_near cX2_near 7 (some FieldType.int) 3 := ⟨⟨q598, q1, by decide +kernel⟩, q596, q597⟩
theorem vX2_common : zMV RX2 yX2_common cX2_common 11 (some FieldType.int) 3 := ⟨⟨q608, q1, by decide +kernel⟩, q606, q607⟩
theorem vX2_clearRuns : zMV RX2 yX2_clearRuns cX2_clearRuns 2 none 0 := ⟨⟨q612, q1, by decide +kernel⟩, q611, qp9⟩
theorem vX2_longestRunFrom : zMV RX2 yX2_longestRunFrom cX2_longestRunFrom 7 (some FieldType.int) 3 := ⟨⟨q616, q1, by decide +kernel⟩, q615, qp10⟩
theorem vX2_refuses : zMV RX2 yX2_refuses cX2_refuses 2 (some FieldType.boolean) 1 := ⟨⟨q623, q1, by decide +kernel⟩, q621, q622⟩
theorem vX2_isRefused : zMH yX2_isRefused cX2_isRefused 2 (some FieldType.boolean) [(0, 4, 7, 210), (0, 4, 28, 212), (0, 4, 40, 214)] 1 := ⟨q626, q1, by decide +kernel, q625⟩
theorem vX2_attempt : zMS yX2_attempt cX2_attempt 3 none 1 := ⟨⟨q630, q1, by decide +kernel⟩, q629⟩
theorem vX2_errors : zMV RX2 yX2_errors cX2_errors 4 (some FieldType.int) 1 := ⟨⟨q691, q1, by decide +kernel⟩, q689, q690⟩
theorem vX2_turnsBack : zMV RX2 yX2_turnsBack cX2_turnsBack 2 (some FieldType.boolean) 1 := ⟨⟨q695, q1, by decide +kernel⟩, q694, qp11⟩
theorem vX2_movesBack : zMV RX2 yX2_movesBack cX2_movesBack 2 (some FieldType.boolean) 1 := ⟨⟨q699, q1, by decide +kernel⟩, q698, qp12⟩
theorem vX2_sortsItsWords : zMV RX2 yX2_sortsItsWords cX2_sortsItsWords 3 (some FieldType.boolean) 1 := ⟨⟨q703, q1, by decide +kernel⟩, q702, qp13⟩
theorem vX2_findsWhatItCounts : zMV RX2 yX2_findsWhatItCounts cX2_findsWhatItCounts 6 (some FieldType.boolean) 1 := ⟨⟨q707, q1, by decide +kernel⟩, q706, qp14⟩
theorem vX2_findsInMirror : zMV RX2 yX2_findsInMirror cX2_findsInMirror 5 (some FieldType.boolean) 1 := ⟨⟨q711, q1, by decide +kernel⟩, q710, qp15⟩
theorem vX2_meanWord : zMV RX2 yX2_meanWord cX2_meanWord 5 (some FieldType.double) 1 := ⟨⟨q718, q1, by decide +kernel⟩, q716, q717⟩
theorem vX2_share : zMV RX2 yX2_share cX2_share 4 (some FieldType.float) 2 := ⟨⟨q725, q1, by decide +kernel⟩, q723, q724⟩
theorem vX2_textAt : zMV RX2 yX2_textAt cX2_textAt 2 (some (FieldType.object "WordConcordance$Row")) 1 := ⟨⟨q74, q1, by decide +kernel⟩, q73, qp0⟩
theorem vX2_phraseAt : zMV RX2 yX2_phraseAt cX2_phraseAt 2 (some (FieldType.object "WordConcordance$Row")) 1 := ⟨⟨q296, q1, by decide +kernel⟩, q295, qp2⟩
theorem vX2_requireWord : zMS yX2_requireWord cX2_requireWord 1 none 1 := ⟨⟨q147, q1, by decide +kernel⟩, q146⟩
theorem vX2_requirePlace : zMS yX2_requirePlace cX2_requirePlace 2 none 2 := ⟨⟨q238, q1, by decide +kernel⟩, q237⟩
theorem vX2_requirePart : zMS yX2_requirePart cX2_requirePart 3 none 3 := ⟨⟨q223, q1, by decide +kernel⟩, q222⟩
theorem vX2_requireWithin : zMS yX2_requireWithin cX2_requireWithin 3 none 3 := ⟨⟨q208, q1, by decide +kernel⟩, q207⟩
theorem vX2_requireNotNegative : zMS yX2_requireNotNegative cX2_requireNotNegative 1 none 1 := ⟨⟨q182, q1, by decide +kernel⟩, q181⟩
theorem vX2_requireOrder : zMS yX2_requireOrder cX2_requireOrder 1 none 1 := ⟨⟨q475, q1, by decide +kernel⟩, q474⟩
theorem vX2_requireRoom : zMS yX2_requireRoom cX2_requireRoom 2 none 2 := ⟨⟨q151, q1, by decide +kernel⟩, q150⟩
theorem vX2_requireNotEmpty : zMS yX2_requireNotEmpty cX2_requireNotEmpty 1 none 1 := ⟨⟨q430, q1, by decide +kernel⟩, q429⟩
theorem vX3_init : zMI yX3_init cX3_init 1 0 := ⟨⟨q741, q4, by decide +kernel⟩, rfl, q740⟩
theorem vX3_at : zMV RX3 yX3_at cX3_at 2 (some FieldType.int) 1 := ⟨⟨q832, q4, by decide +kernel⟩, q830, q831⟩
theorem vX3_add : zMV RX3 yX3_add cX3_add 2 none 1 := ⟨⟨q795, q4, by decide +kernel⟩, q793, q794⟩
theorem vX3_insert : zMV RX3 yX3_insert cX3_insert 4 none 2 := ⟨⟨q820, q4, by decide +kernel⟩, q818, q819⟩
theorem vX3_remove : zMV RX3 yX3_remove cX3_remove 4 (some FieldType.int) 1 := ⟨⟨q840, q4, by decide +kernel⟩, q838, q839⟩
theorem vX3_alike : zMV RX3 yX3_alike cX3_alike 5 (some FieldType.int) 3 := ⟨⟨q898, q4, by decide +kernel⟩, q896, q897⟩
theorem vX3_has : zMV RX3 yX3_has cX3_has 3 (some FieldType.boolean) 2 := ⟨⟨q894, q4, by decide +kernel⟩, q892, q893⟩
theorem vX3_find : zMV RX3 yX3_find cX3_find 4 (some FieldType.int) 2 := ⟨⟨q890, q4, by decide +kernel⟩, q888, q889⟩
theorem vX3_often : zMV RX3 yX3_often cX3_often 4 (some FieldType.int) 1 := ⟨⟨q934, q4, by decide +kernel⟩, q932, q933⟩
theorem vX3_count : zMV RX3 yX3_count cX3_count 5 (some FieldType.int) 2 := ⟨⟨q915, q4, by decide +kernel⟩, q913, q914⟩
theorem vX3_swap : zMV RX3 yX3_swap cX3_swap 4 none 2 := ⟨⟨q983, q4, by decide +kernel⟩, q981, q982⟩
theorem vX3_takes : zMV RX3 yX3_takes cX3_takes 3 none 1 := ⟨⟨q925, q4, by decide +kernel⟩, q923, q924⟩
theorem vX3_others : zMV RX3 yX3_others cX3_others 4 (some FieldType.int) 1 := ⟨⟨q987, q4, by decide +kernel⟩, q985, q986⟩
theorem vX4_thrown : zMV RX4 yX4_thrown cX4_thrown 1 (some FieldType.int) 0 := ⟨⟨q729, q3, by decide +kernel⟩, q727, q728⟩
theorem vX4_in : zMS yX4_in cX4_in 6 (some FieldType.boolean) 3 := ⟨⟨q778, q3, by decide +kernel⟩, q777⟩
theorem vX4_passes : zMV RX4 yX4_passes cX4_passes 4 (some FieldType.boolean) 3 := ⟨⟨q791, q3, by decide +kernel⟩, q790, qp17⟩
theorem vX4_isText : zMS yX4_isText cX4_isText 1 (some FieldType.boolean) 1 := ⟨⟨q774, q3, by decide +kernel⟩, q773⟩
theorem vX4_isWord : zMS yX4_isWord cX4_isWord 1 (some FieldType.boolean) 1 := ⟨⟨q781, q3, by decide +kernel⟩, q780⟩
theorem vX4_isPhrase : zMS yX4_isPhrase cX4_isPhrase 1 (some FieldType.boolean) 1 := ⟨⟨q869, q3, by decide +kernel⟩, q868⟩
theorem vX4_isOrder : zMS yX4_isOrder cX4_isOrder 1 (some FieldType.boolean) 1 := ⟨⟨q961, q3, by decide +kernel⟩, q960⟩
theorem vX4_init : zMI yX4_init cX4_init 1 0 := ⟨⟨q734, q3, by decide +kernel⟩, rfl, q733⟩
theorem vX4_isPlace : zMV RX4 yX4_isPlace cX4_isPlace 3 (some FieldType.boolean) 2 := ⟨⟨q828, q3, by decide +kernel⟩, q827, qp19⟩
theorem vX4_isPart : zMV RX4 yX4_isPart cX4_isPart 4 (some FieldType.boolean) 3 := ⟨⟨q816, q3, by decide +kernel⟩, q815, qp18⟩
theorem vX4_hasRoom : zMV RX4 yX4_hasRoom cX4_hasRoom 4 (some FieldType.boolean) 2 := ⟨⟨q786, q3, by decide +kernel⟩, q785, qp16⟩
theorem vX4_add : zMV RX4 yX4_add cX4_add 3 (some FieldType.int) 2 := ⟨⟨q771, q3, by decide +kernel⟩, q769, q770⟩
theorem vX4_addMany : zMV RX4 yX4_addMany cX4_addMany 5 (some FieldType.int) 3 := ⟨⟨q799, q3, by decide +kernel⟩, q797, q798⟩
theorem vX4_scatter : zMV RX4 yX4_scatter cX4_scatter 8 (some FieldType.int) 4 := ⟨⟨q803, q3, by decide +kernel⟩, q801, q802⟩
theorem vX4_insert : zMV RX4 yX4_insert cX4_insert 4 (some FieldType.int) 3 := ⟨⟨q812, q3, by decide +kernel⟩, q810, q811⟩
theorem vX4_set : zMV RX4 yX4_set cX4_set 5 (some FieldType.int) 3 := ⟨⟨q824, q3, by decide +kernel⟩, q822, q823⟩
theorem vX4_remove : zMV RX4 yX4_remove cX4_remove 3 (some FieldType.int) 2 := ⟨⟨q836, q3, by decide +kernel⟩, q834, q835⟩
theorem vX4_cut : zMV RX4 yX4_cut cX4_cut 6 (some FieldType.int) 3 := ⟨⟨q844, q3, by decide +kernel⟩, q842, q843⟩
theorem vX4_size : zMV RX4 yX4_size cX4_size 2 (some FieldType.int) 1 := ⟨⟨q848, q3, by decide +kernel⟩, q846, q847⟩
theorem vX4_at : zMV RX4 yX4_at cX4_at 3 (some FieldType.int) 2 := ⟨⟨q852, q3, by decide +kernel⟩, q850, q851⟩
theorem vX4_digest : zMV RX4 yX4_digest cX4_digest 4 (some FieldType.int) 1 := ⟨⟨q856, q3, by decide +kernel⟩, q854, q855⟩
theorem vX4_setRank : zMV RX4 yX4_setRank cX4_setRank 4 (some FieldType.int) 2 := ⟨⟨q860, q3, by decide +kernel⟩, q858, q859⟩
theorem vX4_say : zMV RX4 yX4_say cX4_say 4 (some FieldType.int) 2 := ⟨⟨q866, q3, by decide +kernel⟩, q864, q865⟩
theorem vX4_quote : zMV RX4 yX4_quote cX4_quote 6 (some FieldType.int) 4 := ⟨⟨q873, q3, by decide +kernel⟩, q871, q872⟩
theorem vX4_hush : zMV RX4 yX4_hush cX4_hush 3 (some FieldType.int) 1 := ⟨⟨q878, q3, by decide +kernel⟩, q876, q877⟩
theorem vX4_wordOf : zMV RX4 yX4_wordOf cX4_wordOf 4 (some FieldType.int) 2 := ⟨⟨q882, q3, by decide +kernel⟩, q880, q881⟩
theorem vX4_find : zMV RX4 yX4_find cX4_find 2 (some FieldType.int) 1 := ⟨⟨q886, q3, by decide +kernel⟩, q884, q885⟩
theorem vX4_findLast : zMV RX4 yX4_findLast cX4_findLast 4 (some FieldType.int) 1 := ⟨⟨q902, q3, by decide +kernel⟩, q900, q901⟩
theorem vX4_findIn : zMV RX4 yX4_findIn cX4_findIn 5 (some FieldType.int) 3 := ⟨⟨q907, q3, by decide +kernel⟩, q905, q906⟩
theorem vX4_count : zMV RX4 yX4_count cX4_count 3 (some FieldType.int) 2 := ⟨⟨q911, q3, by decide +kernel⟩, q909, q910⟩
theorem vX4_replace : zMV RX4 yX4_replace cX4_replace 9 (some FieldType.int) 1 := ⟨⟨q921, q3, by decide +kernel⟩, q919, q920⟩
theorem vX4_replaceWord : zMV RX4 yX4_replaceWord cX4_replaceWord 6 (some FieldType.boolean) 3 := ⟨⟨q930, q3, by decide +kernel⟩, q928, q929⟩
theorem vX4_frequency : zMV RX4 yX4_frequency cX4_frequency 3 (some FieldType.int) 2 := ⟨⟨q938, q3, by decide +kernel⟩, q936, q937⟩
theorem vX4_different : zMV RX4 yX4_different cX4_different 4 (some FieldType.int) 1 := ⟨⟨q942, q3, by decide +kernel⟩, q940, q941⟩
theorem vX4_most : zMV RX4 yX4_most cX4_most 4 (some FieldType.int) 1 := ⟨⟨q946, q3, by decide +kernel⟩, q944, q945⟩
theorem vX4_isApart : zMV RX4 yX4_isApart cX4_isApart 4 (some FieldType.boolean) 2 := ⟨⟨q950, q3, by decide +kernel⟩, q948, q949⟩
theorem vX4_alone : zMV RX4 yX4_alone cX4_alone 5 (some FieldType.int) 2 := ⟨⟨q954, q3, by decide +kernel⟩, q952, q953⟩
theorem vX4_valueOf : zMV RX4 yX4_valueOf cX4_valueOf 3 (some FieldType.int) 2 := ⟨⟨q969, q3, by decide +kernel⟩, q968, qp21⟩
theorem vX4_outermost : zMV RX4 yX4_outermost cX4_outermost 7 (some FieldType.int) 3 := ⟨⟨q965, q3, by decide +kernel⟩, q964, qp20⟩
theorem vX4_greatest : zMV RX4 yX4_greatest cX4_greatest 3 (some FieldType.int) 2 := ⟨⟨q958, q3, by decide +kernel⟩, q956, q957⟩
theorem vX4_least : zMV RX4 yX4_least cX4_least 3 (some FieldType.int) 2 := ⟨⟨q975, q3, by decide +kernel⟩, q973, q974⟩
theorem vX4_sort : zMV RX4 yX4_sort cX4_sort 7 (some FieldType.int) 3 := ⟨⟨q979, q3, by decide +kernel⟩, q977, q978⟩
theorem vX4_areInOrder : zMV RX4 yX4_areInOrder cX4_areInOrder 4 (some FieldType.boolean) 2 := ⟨⟨q995, q3, by decide +kernel⟩, q994, qp22⟩
theorem vX4_isSorted : zMV RX4 yX4_isSorted cX4_isSorted 3 (some FieldType.boolean) 2 := ⟨⟨q991, q3, by decide +kernel⟩, q989, q990⟩
theorem vX4_search : zMV RX4 yX4_search cX4_search 8 (some FieldType.int) 3 := ⟨⟨q999, q3, by decide +kernel⟩, q997, q998⟩
theorem vX4_turn : zMV RX4 yX4_turn cX4_turn 5 (some FieldType.int) 3 := ⟨⟨q1003, q3, by decide +kernel⟩, q1001, q1002⟩
theorem vX4_move : zMV RX4 yX4_move cX4_move 8 (some FieldType.int) 4 := ⟨⟨q1007, q3, by decide +kernel⟩, q1005, q1006⟩
theorem vX4_swap : zMV RX4 yX4_swap cX4_swap 4 (some FieldType.int) 3 := ⟨⟨q1011, q3, by decide +kernel⟩, q1009, q1010⟩
theorem vX4_fill : zMV RX4 yX4_fill cX4_fill 7 (some FieldType.int) 4 := ⟨⟨q1015, q3, by decide +kernel⟩, q1013, q1014⟩
theorem vX4_copy : zMV RX4 yX4_copy cX4_copy 5 (some FieldType.int) 2 := ⟨⟨q1019, q3, by decide +kernel⟩, q1017, q1018⟩
theorem vX4_stands : zMV RX4 yX4_stands cX4_stands 7 (some FieldType.int) 2 := ⟨⟨q1023, q3, by decide +kernel⟩, q1021, q1022⟩
theorem vX4_near : zMV RX4 yX4_near cX4_near 7 (some FieldType.int) 3 := ⟨⟨q1027, q3, by decide +kernel⟩, q1025, q1026⟩
theorem vX4_common : zMV RX4 yX4_common cX4_common 8 (some FieldType.int) 3 := ⟨⟨q1032, q3, by decide +kernel⟩, q1030, q1031⟩
theorem vX4_refuses : zMV RX4 yX4_refuses cX4_refuses 2 (some FieldType.boolean) 1 := ⟨⟨q1038, q3, by decide +kernel⟩, q1036, q1037⟩
theorem vX4_turned : zMS yX4_turned cX4_turned 3 (some (FieldType.object "WordConcordanceModel$Row")) 1 := ⟨⟨q1046, q3, by decide +kernel⟩, q1045⟩
theorem vX4_errors : zMV RX4 yX4_errors cX4_errors 10 (some FieldType.int) 1 := ⟨⟨q1043, q3, by decide +kernel⟩, q1041, q1042⟩
theorem vX4_meanWord : zMV RX4 yX4_meanWord cX4_meanWord 4 (some FieldType.double) 1 := ⟨⟨q1050, q3, by decide +kernel⟩, q1048, q1049⟩
theorem vX4_share : zMV RX4 yX4_share cX4_share 4 (some FieldType.float) 2 := ⟨⟨q1054, q3, by decide +kernel⟩, q1052, q1053⟩
theorem vJ9_floorMod_7cf53 : zMS yJ9_floorMod_7cf53 cJ9_floorMod_7cf53 3 (some FieldType.int) 2 := ⟨⟨q560, q11, by decide +kernel⟩, q559⟩
theorem vJ9_abs_0f7a4 : zMS yJ9_abs_0f7a4 cJ9_abs_0f7a4 1 (some FieldType.int) 1 := ⟨⟨q601, q11, by decide +kernel⟩, q600⟩
theorem vJ9_max_7cf53 : zMS yJ9_max_7cf53 cJ9_max_7cf53 2 (some FieldType.int) 2 := ⟨⟨q483, q11, by decide +kernel⟩, q482⟩
theorem vJ9_min_7cf53 : zMS yJ9_min_7cf53 cJ9_min_7cf53 2 (some FieldType.int) 2 := ⟨⟨q493, q11, by decide +kernel⟩, q492⟩
theorem vL_add : zMH yL_add cL_add 5 (some FieldType.int) [(0, 10, 13, 13), (0, 10, 17, 15)] 4 := ⟨q64, q0, by decide +kernel, q63⟩
theorem vL_addMany : zMH yL_addMany cL_addMany 6 (some FieldType.int) [(0, 12, 15, 13), (0, 12, 19, 21), (0, 12, 23, 15)] 5 := ⟨q174, q0, by decide +kernel, q173⟩
theorem vL_scatter : zMH yL_scatter cL_scatter 7 (some FieldType.int) [(0, 14, 17, 13), (0, 14, 21, 21), (0, 14, 25, 15)] 6 := ⟨q201, q0, by decide +kernel, q200⟩
theorem vL_insert : zMH yL_insert cL_insert 6 (some FieldType.int) [(0, 12, 15, 13), (0, 12, 19, 15)] 5 := ⟨q216, q0, by decide +kernel, q215⟩
theorem vL_set : zMH yL_set cL_set 6 (some FieldType.int) [(0, 12, 15, 13)] 5 := ⟨q231, q0, by decide +kernel, q230⟩
theorem vL_remove : zMH yL_remove cL_remove 5 (some FieldType.int) [(0, 10, 13, 13)] 4 := ⟨q242, q0, by decide +kernel, q241⟩
theorem vL_cut : zMH yL_cut cL_cut 6 (some FieldType.int) [(0, 12, 15, 13)] 5 := ⟨q253, q0, by decide +kernel, q252⟩
theorem vL_size : zMH yL_size cL_size 4 (some FieldType.int) [(0, 9, 12, 13)] 3 := ⟨q260, q0, by decide +kernel, q259⟩
theorem vL_at : zMH yL_at cL_at 5 (some FieldType.int) [(0, 10, 13, 13)] 4 := ⟨q267, q0, by decide +kernel, q266⟩
theorem vL_digest : zMH yL_digest cL_digest 4 (some FieldType.int) [(0, 9, 12, 13)] 3 := ⟨q274, q0, by decide +kernel, q273⟩
theorem vL_setRank : zMH yL_setRank cL_setRank 5 (some FieldType.int) [(0, 10, 13, 13), (0, 10, 17, 21)] 4 := ⟨q281, q0, by decide +kernel, q280⟩
theorem vL_say : zMH yL_say cL_say 5 (some FieldType.int) [(0, 10, 13, 13), (0, 10, 17, 15)] 4 := ⟨q288, q0, by decide +kernel, q287⟩
theorem vL_quote : zMH yL_quote cL_quote 7 (some FieldType.int) [(0, 14, 17, 13), (0, 14, 21, 15)] 6 := ⟨q300, q0, by decide +kernel, q299⟩
theorem vL_hush : zMH yL_hush cL_hush 4 (some FieldType.int) [(0, 9, 12, 13)] 3 := ⟨q308, q0, by decide +kernel, q307⟩
theorem vL_wordOf : zMH yL_wordOf cL_wordOf 5 (some FieldType.int) [(0, 10, 13, 13)] 4 := ⟨q315, q0, by decide +kernel, q314⟩
theorem vL_find : zMH yL_find cL_find 4 (some FieldType.int) [(0, 9, 12, 13)] 3 := ⟨q322, q0, by decide +kernel, q321⟩
theorem vL_findLast : zMH yL_findLast cL_findLast 4 (some FieldType.int) [(0, 9, 12, 13)] 3 := ⟨q337, q0, by decide +kernel, q336⟩
theorem vL_findIn : zMH yL_findIn cL_findIn 6 (some FieldType.int) [(0, 12, 15, 13)] 5 := ⟨q348, q0, by decide +kernel, q347⟩
theorem vL_count : zMH yL_count cL_count 5 (some FieldType.int) [(0, 10, 13, 13)] 4 := ⟨q355, q0, by decide +kernel, q354⟩
theorem vL_replace : zMH yL_replace cL_replace 4 (some FieldType.int) [(0, 9, 12, 13), (0, 9, 15, 15)] 3 := ⟨q370, q0, by decide +kernel, q369⟩
theorem vL_replaceWord : zMH yL_replaceWord cL_replaceWord 6 (some FieldType.int) [(0, 19, 22, 13)] 5 := ⟨q393, q0, by decide +kernel, q392⟩
theorem vL_frequency : zMH yL_frequency cL_frequency 5 (some FieldType.int) [(0, 10, 13, 13)] 4 := ⟨q400, q0, by decide +kernel, q399⟩
theorem vL_different : zMH yL_different cL_different 4 (some FieldType.int) [(0, 9, 12, 13)] 3 := ⟨q411, q0, by decide +kernel, q410⟩
theorem vL_most : zMH yL_most cL_most 4 (some FieldType.int) [(0, 9, 12, 13), (0, 9, 15, 93)] 3 := ⟨q422, q0, by decide +kernel, q421⟩
theorem vL_isApart : zMH yL_isApart cL_isApart 5 (some FieldType.int) [(0, 17, 20, 13)] 4 := ⟨q449, q0, by decide +kernel, q448⟩
theorem vL_alone : zMH yL_alone cL_alone 5 (some FieldType.int) [(0, 10, 13, 13)] 4 := ⟨q461, q0, by decide +kernel, q460⟩
theorem vL_greatest : zMH yL_greatest cL_greatest 5 (some FieldType.int) [(0, 10, 13, 13), (0, 10, 17, 21), (0, 10, 21, 93)] 4 := ⟨q468, q0, by decide +kernel, q467⟩
theorem vL_least : zMH yL_least cL_least 5 (some FieldType.int) [(0, 10, 13, 13), (0, 10, 17, 21), (0, 10, 21, 93)] 4 := ⟨q486, q0, by decide +kernel, q485⟩
theorem vL_sort : zMH yL_sort cL_sort 6 (some FieldType.int) [(0, 12, 15, 13), (0, 12, 19, 21)] 5 := ⟨q496, q0, by decide +kernel, q495⟩
theorem vL_isSorted : zMH yL_isSorted cL_isSorted 5 (some FieldType.int) [(0, 17, 20, 13), (0, 17, 24, 21)] 4 := ⟨q515, q0, by decide +kernel, q514⟩
theorem vL_search : zMH yL_search cL_search 6 (some FieldType.int) [(0, 12, 15, 13), (0, 12, 19, 21), (0, 12, 23, 15)] 5 := ⟨q526, q0, by decide +kernel, q525⟩
theorem vL_turn : zMH yL_turn cL_turn 6 (some FieldType.int) [(0, 12, 15, 13)] 5 := ⟨q534, q0, by decide +kernel, q533⟩
theorem vL_move : zMH yL_move cL_move 7 (some FieldType.int) [(0, 14, 17, 13)] 6 := ⟨q549, q0, by decide +kernel, q548⟩
theorem vL_swap : zMH yL_swap cL_swap 6 (some FieldType.int) [(0, 12, 15, 13)] 5 := ⟨q563, q0, by decide +kernel, q562⟩
theorem vL_fill : zMH yL_fill cL_fill 7 (some FieldType.int) [(0, 14, 17, 13)] 6 := ⟨q571, q0, by decide +kernel, q570⟩
theorem vL_copy : zMH yL_copy cL_copy 5 (some FieldType.int) [(0, 10, 13, 13), (0, 10, 17, 15)] 4 := ⟨q578, q0, by decide +kernel, q577⟩
theorem vL_stands : zMH yL_stands cL_stands 5 (some FieldType.int) [(0, 10, 13, 13), (0, 10, 17, 93)] 4 := ⟨q586, q0, by decide +kernel, q585⟩
theorem vL_near : zMH yL_near cL_near 6 (some FieldType.int) [(0, 12, 15, 13)] 5 := ⟨q594, q0, by decide +kernel, q593⟩
theorem vL_common : zMH yL_common cL_common 6 (some FieldType.int) [(0, 12, 15, 13), (0, 12, 19, 21)] 5 := ⟨q604, q0, by decide +kernel, q603⟩
theorem vL_refuses : zMH yL_refuses cL_refuses 4 (some FieldType.int) [(0, 16, 19, 21)] 3 := ⟨q619, q0, by decide +kernel, q618⟩
theorem vL_errors : zMH yL_errors cL_errors 4 (some FieldType.int) [(0, 9, 12, 13)] 3 := ⟨q687, q0, by decide +kernel, q686⟩
theorem vL_meanWord : zMH yL_meanWord cL_meanWord 4 (some FieldType.int) [(0, 8, 11, 13)] 3 := ⟨q714, q0, by decide +kernel, q713⟩
theorem vL_share : zMH yL_share cL_share 5 (some FieldType.int) [(0, 10, 13, 13)] 4 := ⟨q721, q0, by decide +kernel, q720⟩
end
section
/-! rows of words, as the class and the reference keep them: n words t 0, t 1 .. in an array of cap places -/
def RA (G : zK) (ci : Nat) (F : zM) (r w cap n : Nat) (t : Nat → Int32) : Prop := n ≤ cap ∧ F r = some (zO ci [.ref w, .int (nI n)]) ∧ ∃ f : Nat → Int32, F w = some (zAI G cap f) ∧ ∀ j, j < n → f j = t j
def zSm (F F' : zM) (a b : Nat) : Prop := ∀ q, q ≠ a → q ≠ b → F' q = F q
theorem zne {F : zM} {a b : Nat} {e1 e2 : va_E} (h1 : F a = some e1) (h2 : F b = some e2) (h : e1 ≠ e2) : a ≠ b := fun q => h (by subst q; exact Option.some.inj (h1.symm.trans h2))
theorem zSm.rf {F : zM} {a b : Nat} : zSm F F a b := fun _ _ _ => rfl
theorem zSm.tr {F F1 F2 : zM} {a b : Nat} (h1 : zSm F F1 a b) (h2 : zSm F1 F2 a b) : zSm F F2 a b := fun q x y => (h2 q x y).trans (h1 q x y)
theorem zSm.l {F F1 : zM} {a b : Nat} (h : ∀ q, q ≠ a → F1 q = F q) : zSm F F1 a b := fun q x _ => h q x
theorem zSm.r {F F1 : zM} {a b : Nat} (h : ∀ q, q ≠ b → F1 q = F q) : zSm F F1 a b := fun q _ y => h q y
theorem RA.go {G : zK} {ci : Nat} {F F' : zM} {r w cap n : Nat} {t : Nat → Int32} (h : RA G ci F r w cap n t) (h1 : F' r = F r) (h2 : F' w = F w) : RA G ci F' r w cap n t := by
  obtain ⟨a, b, f, c, d⟩ := h
  exact ⟨a, h1.trans b, f, h2.trans c, d⟩
theorem RA.cg {G : zK} {ci : Nat} {F : zM} {r w cap n : Nat} {t t' : Nat → Int32} (h : RA G ci F r w cap n t) (e : ∀ j, j < n → t j = t' j) : RA G ci F r w cap n t' := by
  obtain ⟨a, b, f, c, d⟩ := h
  exact ⟨a, b, f, c, fun j hj => (d j hj).trans (e j hj)⟩
theorem RA.ne {G : zK} {ci : Nat} {F : zM} {r w cap n : Nat} {t : Nat → Int32} (h : RA G ci F r w cap n t) : r ≠ w := by
  obtain ⟨a, b, f, c, d⟩ := h
  exact zne b c (fun q => by cases q)
theorem RA.ne2 {G : zK} {ci ci' : Nat} {F : zM} {r w cap n r' w' cap' n' : Nat} {t t' : Nat → Int32} (h : RA G ci F r w cap n t) (h' : RA G ci' F r' w' cap' n' t') : r ≠ w' := by
  obtain ⟨a, b, f, c, d⟩ := h
  obtain ⟨a', b', f', c', d'⟩ := h'
  exact zne b c' (fun q => by cases q)
def bI (P : Prop) [Decidable P] : Int32 := if P then nI 1 else nI 0
theorem bI_t {P : Prop} [Decidable P] (h : P) : nI 1 = bI P := (if_pos h).symm
theorem bI_f {P : Prop} [Decidable P] (h : ¬ P) : nI 0 = bI P := (if_neg h).symm
theorem bI_or {P : Prop} [Decidable P] : bI P = 0 ∨ bI P = 1 := by
  by_cases h : P
  · exact Or.inr (if_pos h)
  · exact Or.inl (if_neg h)
theorem bI_eq0 {P : Prop} [Decidable P] : bI P = 0 ↔ ¬ P := by
  by_cases h : P
  · simp only [bI, if_pos h, h, not_true_eq_false, iff_false]; decide
  · simp only [bI, if_neg h, h, not_false_eq_true, iff_true]; rfl
/-- how often x stands among the first k words -/
def cnt (t : Nat → Int32) (x : Int32) : Nat → Nat
  | 0 => 0
  | k + 1 => cnt t x k + (if t k = x then 1 else 0)
theorem cnt_le (t : Nat → Int32) (x : Int32) : ∀ k, cnt t x k ≤ k
  | 0 => Nat.le_refl _
  | k + 1 => by
    have h := cnt_le t x k
    simp only [cnt]
    split <;> omega
/-- how many of the first k words differ -/
def dif (t q : Nat → Int32) : Nat → Nat
  | 0 => 0
  | k + 1 => dif t q k + (if t k = q k then 0 else 1)
theorem dif_le (t q : Nat → Int32) : ∀ k, dif t q k ≤ k
  | 0 => Nat.le_refl _
  | k + 1 => by
    have h := dif_le t q k
    simp only [dif]
    split <;> omega
theorem dif_0 {t q : Nat → Int32} : ∀ {k : Nat}, (∀ j, j < k → t j = q j) → dif t q k = 0
  | 0, _ => rfl
  | k + 1, h => by
    simp only [dif, if_pos (h k (Nat.lt_succ_self k)), dif_0 (fun j hj => h j (Nat.lt_succ_of_lt hj))]
theorem dif_cg {t q t' q' : Nat → Int32} : ∀ {k : Nat}, (∀ j, j < k → t j = t' j) → (∀ j, j < k → q j = q' j) → dif t q k = dif t' q' k
  | 0, _, _ => rfl
  | k + 1, h, h' => by
    simp only [dif, h k (Nat.lt_succ_self k), h' k (Nat.lt_succ_self k), dif_cg (fun j hj => h j (Nat.lt_succ_of_lt hj)) (fun j hj => h' j (Nat.lt_succ_of_lt hj))]
/-- the phrase q of m words stands in t (n words) at p -/
def hld (t : Nat → Int32) (n : Nat) (q : Nat → Int32) (m p : Nat) : Prop := p + m ≤ n ∧ ∀ i, i < m → t (p + i) = q i
noncomputable def hldD (t : Nat → Int32) (n : Nat) (q : Nat → Int32) (m p : Nat) : Decidable (hld t n q m p) := Classical.propDecidable _
def catt (t : Nat → Int32) (n : Nat) (q : Nat → Int32) : Nat → Int32 := fun j => if j < n then t j else q (j - n)
def inst (t : Nat → Int32) (p : Nat) (x : Int32) : Nat → Int32 := fun j => if j < p then t j else if j = p then x else t (j - 1)
def clot (t : Nat → Int32) (a b : Nat) : Nat → Int32 := fun j => if j < a then t j else t (j + (b - a))
def swpt (t : Nat → Int32) (a b : Nat) : Nat → Int32 := fun j => if j = b then t a else if j = a then t b else t j
def revt (t : Nat → Int32) (a b : Nat) : Nat → Int32 := fun j => if a ≤ j ∧ j < b then t (a + b - 1 - j) else t j
def revk (t : Nat → Int32) (a b i : Nat) : Nat → Int32 := fun j => if (a ≤ j ∧ j < a + i) ∨ (b - i ≤ j ∧ j < b) then t (a + b - 1 - j) else t j
theorem z_le_sub {k n m : Nat} (hk : k < 2 ^ 20) (hn : n < 2 ^ 20) (hm : m < 2 ^ 20) : nI k ≤ nI n - nI m ↔ k + m ≤ n := by
  rw [Int32.le_iff_toInt_le, pk_sub_toInt (by omega) (by omega), nI_toInt (by omega)]
  omega
theorem z_lt_sub {k n m : Nat} (hk : k < 2 ^ 20) (hn : n < 2 ^ 20) (hm : m < 2 ^ 20) : nI n - nI m < nI k ↔ n < k + m := by
  rw [Int32.lt_iff_toInt_lt, pk_sub_toInt (by omega) (by omega), nI_toInt (by omega)]
  omega
/-- the first k from a on, c of them looked at, with P -/
noncomputable def zfst (P : Nat → Prop) : Nat → Nat → Option Nat
  | _, 0 => none
  | a, c + 1 => (Classical.propDecidable (P a)).casesOn (fun _ => zfst P (a + 1) c) (fun _ => some a)
theorem zfst_t {P : Nat → Prop} {a c : Nat} (h : P a) : zfst P a (c + 1) = some a := by
  simp only [zfst]
  cases Classical.propDecidable (P a) with
  | isTrue _ => rfl
  | isFalse q => exact absurd h q
theorem zfst_f {P : Nat → Prop} {a c : Nat} (h : ¬ P a) : zfst P a (c + 1) = zfst P (a + 1) c := by
  simp only [zfst]
  cases Classical.propDecidable (P a) with
  | isTrue q => exact absurd q h
  | isFalse _ => rfl
def rI : Option Nat → Int32
  | none => -1
  | some k => nI k
/-- the last k under c with P -/
noncomputable def zlst (P : Nat → Prop) : Nat → Option Nat
  | 0 => none
  | c + 1 => (Classical.propDecidable (P c)).casesOn (fun _ => zlst P c) (fun _ => some c)
theorem zlst_t {P : Nat → Prop} {c : Nat} (h : P c) : zlst P (c + 1) = some c := by
  simp only [zlst]
  cases Classical.propDecidable (P c) with
  | isTrue _ => rfl
  | isFalse q => exact absurd h q
theorem zlst_f {P : Nat → Prop} {c : Nat} (h : ¬ P c) : zlst P (c + 1) = zlst P c := by
  simp only [zlst]
  cases Classical.propDecidable (P c) with
  | isTrue q => exact absurd q h
  | isFalse _ => rfl
/-- how many k under c have P -/
noncomputable def zct (P : Nat → Prop) : Nat → Nat
  | 0 => 0
  | c + 1 => zct P c + (Classical.propDecidable (P c)).casesOn (fun _ => 0) (fun _ => 1)
theorem zct_t {P : Nat → Prop} {c : Nat} (h : P c) : zct P (c + 1) = zct P c + 1 := by
  simp only [zct]
  cases Classical.propDecidable (P c) with
  | isTrue _ => rfl
  | isFalse q => exact absurd h q
theorem zct_f {P : Nat → Prop} {c : Nat} (h : ¬ P c) : zct P (c + 1) = zct P c := by
  simp only [zct]
  cases Classical.propDecidable (P c) with
  | isTrue q => exact absurd q h
  | isFalse _ => rfl
theorem zct_le (P : Nat → Prop) : ∀ c, zct P c ≤ c
  | 0 => Nat.le_refl _
  | c + 1 => by
    have h := zct_le P c
    by_cases q : P c
    · rw [zct_t q]; omega
    · rw [zct_f q]; omega
/-- apart: (how many, where the next one may begin) of the places under c, for phrases of m words -/
noncomputable def zap (P : Nat → Prop) (m : Nat) : Nat → Nat × Nat
  | 0 => (0, 0)
  | c + 1 => (Classical.propDecidable ((zap P m c).2 ≤ c ∧ P c)).casesOn (fun _ => zap P m c) (fun _ => ((zap P m c).1 + 1, c + m))
theorem zap_t {P : Nat → Prop} {m c : Nat} (h : (zap P m c).2 ≤ c ∧ P c) : zap P m (c + 1) = ((zap P m c).1 + 1, c + m) := by
  simp only [zap]
  cases Classical.propDecidable ((zap P m c).2 ≤ c ∧ P c) with
  | isTrue _ => rfl
  | isFalse q => exact absurd h q
theorem zap_f {P : Nat → Prop} {m c : Nat} (h : ¬ ((zap P m c).2 ≤ c ∧ P c)) : zap P m (c + 1) = zap P m c := by
  simp only [zap]
  cases Classical.propDecidable ((zap P m c).2 ≤ c ∧ P c) with
  | isTrue q => exact absurd q h
  | isFalse _ => rfl
theorem zap_le (P : Nat → Prop) (m : Nat) : ∀ c, (zap P m c).1 ≤ c ∧ (zap P m c).2 ≤ c + m
  | 0 => ⟨Nat.le_refl _, Nat.zero_le _⟩
  | c + 1 => by
    have h := zap_le P m c
    by_cases q : (zap P m c).2 ≤ c ∧ P c
    · rw [zap_t q]; exact ⟨by show (zap P m c).1 + 1 ≤ c + 1; omega, by show c + m ≤ c + 1 + m; omega⟩
    · rw [zap_f q]; exact ⟨by omega, by omega⟩
noncomputable def pI (P : Prop) : Int32 := @bI P (Classical.propDecidable P)
theorem pI_t {P : Prop} (h : P) : nI 1 = pI P := @bI_t P (Classical.propDecidable P) h
theorem pI_f {P : Prop} (h : ¬ P) : nI 0 = pI P := @bI_f P (Classical.propDecidable P) h
theorem pI_or {P : Prop} : pI P = 0 ∨ pI P = 1 := @bI_or P (Classical.propDecidable P)
theorem pI_eq0 {P : Prop} : pI P = 0 ↔ ¬ P := @bI_eq0 P (Classical.propDecidable P)
theorem pI_cg {P P' : Prop} (h : P ↔ P') : pI P = pI P' := by rw [propext h]
theorem pI_n (P : Prop) : ∃ k : Nat, k < 2 ∧ pI P = nI k := by
  by_cases h : P
  · exact ⟨1, by decide, (pI_t h).symm⟩
  · exact ⟨0, by decide, (pI_f h).symm⟩
section
variable {p : Program} {l : Launch} {e : Env} {R : Room} {s : State} {m : MethodId} {args : Array Value} {below : List Frame} {meth : Method} {c : Code} {H : Heap} {locs : List Loc} {cells slots : Nat} {Q : State → Prop}
variable {cc : ByteArray} {pc : Nat} {ls : Array Slot} {rest : List Value}
theorem z_ifp_eq (hexec : p.tables.exec = Jvm.exec) (hb : c.code = cc) {P : Prop} {off : Int} {tgt : Nat} (hdg : decode cc pc = .ok (.ifCond .eq off, 3)) (ht : (pc : Int) + off = (tgt : Int)) (kt : ¬ P → W p l e R s m args below meth c H locs cells slots Q (F0 m tgt ls rest)) (kf : P → W p l e R s m args below meth c H locs cells slots Q (F0 m (pc + 3) ls rest)) : W p l e R s m args below meth c H locs cells slots Q (F0 m pc ls (.int (pI P) :: rest)) :=
  lv_if_eq hexec hb hdg ht (fun h => kt (pI_eq0.mp h)) (fun h => kf (Classical.byContradiction fun q => h (pI_eq0.mpr q)))
theorem z_ifp_ne (hexec : p.tables.exec = Jvm.exec) (hb : c.code = cc) {P : Prop} {off : Int} {tgt : Nat} (hdg : decode cc pc = .ok (.ifCond .ne off, 3)) (ht : (pc : Int) + off = (tgt : Int)) (kt : P → W p l e R s m args below meth c H locs cells slots Q (F0 m tgt ls rest)) (kf : ¬ P → W p l e R s m args below meth c H locs cells slots Q (F0 m (pc + 3) ls rest)) : W p l e R s m args below meth c H locs cells slots Q (F0 m pc ls (.int (pI P) :: rest)) :=
  lv_if_ne hexec hb hdg ht (fun h => kt (Classical.byContradiction fun q => h (pI_eq0.mpr q))) (fun h => kf (pI_eq0.mp h))
end
theorem cnt_pos {t : Nat → Int32} {x : Int32} : ∀ {n k : Nat}, k < n → t k = x → 0 < cnt t x n
  | 0, k, h, _ => absurd h (Nat.not_lt_zero _)
  | n + 1, k, h, e => by
    simp only [cnt]
    by_cases q : k = n
    · subst q; rw [if_pos e]; omega
    · have := cnt_pos (n := n) (show k < n by omega) e
      omega
theorem revk_s {t : Nat → Int32} {a b i : Nat} (hi : i < (b - a) / 2) (j : Nat) : swpt (revk t a b i) (a + i) (b - 1 - i) j = revk t a b (i + 1) j := by
  simp only [swpt, revk]
  by_cases h1 : j = b - 1 - i
  · subst h1
    rw [if_pos rfl, if_neg (by omega), if_pos (by omega)]
    congr 1; omega
  · rw [if_neg h1]
    by_cases h2 : j = a + i
    · subst h2
      rw [if_pos rfl, if_neg (by omega), if_pos (by omega)]
      congr 1; omega
    · rw [if_neg h2]
      by_cases h3 : (a ≤ j ∧ j < a + i) ∨ (b - i ≤ j ∧ j < b)
      · rw [if_pos h3, if_pos (by omega)]
      · rw [if_neg h3, if_neg (by omega)]
theorem revk_0 {t : Nat → Int32} {a b : Nat} (j : Nat) : t j = revk t a b 0 j := by
  simp only [revk]
  rw [if_neg (by omega)]
theorem revk_e {t : Nat → Int32} {a b : Nat} (hab : a ≤ b) (j : Nat) : revk t a b ((b - a) / 2) j = revt t a b j := by
  simp only [revk, revt]
  by_cases h3 : (a ≤ j ∧ j < a + (b - a) / 2) ∨ (b - (b - a) / 2 ≤ j ∧ j < b)
  · rw [if_pos h3, if_pos (by omega)]
  · rw [if_neg h3]
    by_cases h4 : a ≤ j ∧ j < b
    · rw [if_pos h4]; congr 1; omega
    · rw [if_neg h4]
/-- how many words from p on are those of q from i on -/
def lcp (t : Nat → Int32) (n p : Nat) (q : Nat → Int32) (m i : Nat) (k : Nat) : Prop := p + k ≤ n ∧ i + k ≤ m ∧ (∀ j, j < k → t (p + j) = q (i + j)) ∧ ¬ (p + k < n ∧ i + k < m ∧ t (p + k) = q (i + k))
theorem catt_lo {t q : Nat → Int32} {n j : Nat} (h : j < n) : catt t n q j = t j := if_pos h
theorem catt_hi {t q : Nat → Int32} {n k : Nat} : catt t n q (n + k) = q k := by
  simp only [catt]
  rw [if_neg (by omega)]
  congr 1; omega
theorem catt_0 {t q : Nat → Int32} (j : Nat) : catt t 0 q j = q j := by
  simp only [catt]
  rw [if_neg (by omega)]
  congr 1
theorem zfst_some {P : Nat → Prop} : ∀ {c a k : Nat}, zfst P a c = some k → a ≤ k ∧ k < a + c ∧ P k ∧ ∀ j, a ≤ j → j < k → ¬ P j
  | 0, a, k, h => by simp [zfst] at h
  | c + 1, a, k, h => by
    by_cases q : P a
    · rw [zfst_t q] at h
      cases h
      exact ⟨Nat.le_refl _, by omega, q, fun j h1 h2 => absurd h1 (by omega)⟩
    · rw [zfst_f q] at h
      obtain ⟨h1, h2, h3, h4⟩ := zfst_some h
      refine ⟨by omega, by omega, h3, fun j j1 j2 => ?_⟩
      by_cases e : j = a
      · subst e; exact q
      · exact h4 j (by omega) j2
theorem zfst_none {P : Nat → Prop} : ∀ {c a : Nat}, zfst P a c = none → ∀ j, a ≤ j → j < a + c → ¬ P j
  | 0, a, _, j, h1, h2 => absurd h1 (by omega)
  | c + 1, a, h, j, h1, h2 => by
    by_cases q : P a
    · rw [zfst_t q] at h
      cases h
    · rw [zfst_f q] at h
      by_cases e : j = a
      · subst e; exact q
      · exact zfst_none h j (by omega) (by omega)
theorem zct_run {P : Nat → Prop} {i : Nat} : ∀ {k : Nat}, i ≤ k → (∀ j, i ≤ j → j < k → ¬ P j) → zct P k = zct P i
  | 0, h, _ => by rw [show i = 0 by omega]
  | k + 1, h, q => by
    by_cases e : i = k + 1
    · rw [e]
    · rw [zct_f (q k (by omega) (by omega)), zct_run (k := k) (by omega) (fun j a b => q j a (by omega))]
theorem zap_run {P : Nat → Prop} {m i : Nat} : ∀ {k : Nat}, i ≤ k → (∀ j, i ≤ j → j < k → ¬ ((zap P m i).2 ≤ j ∧ P j)) → zap P m k = zap P m i
  | 0, h, _ => by rw [show i = 0 by omega]
  | k + 1, h, q => by
    by_cases e : i = k + 1
    · rw [e]
    · have h1 := zap_run (k := k) (by omega) (fun j a b => q j a (by omega))
      rw [zap_f (by rw [h1]; exact q k (by omega) (by omega)), h1]
theorem nI_m1 {k : Nat} (h : k < 2 ^ 31) : nI k ≠ -1 := fun q => absurd (nI_pos' h) (by rw [q]; decide)
/-- the entry of a method of java.lang.Math: by the table of natives, which has no row for it -/
theorem z_ofF {l : Launch} {G : zK} {B0 : Nat} {F : zM} {mc ms : Nat} {post : Option Value → zM → Prop} {cc : ByteArray} {y : MethodName} {maxL : Nat} {ret : Option FieldType} {rm : Room} {av : List Value} {own : String} (hy : plainFor y = true) (hown : y.cls = own) (hn : (lg_sl av).length ≤ maxL)
    (body : ∀ (p : Program) (e : Env) (s : State) (m : MethodId) (below : List Frame) (meth : Method) (c : Code) (ls : Array Slot), p.tables.exec = Jvm.exec → c.code = cc → meth.sig.returnType = ret → c.maxLocals = maxL → s.vm.findClass own = some m.cls → meth.locks = false → meth.name = y.name → (∀ w ∈ zW, w.before av.toArray s = true) → lv_has ls maxL (lv_args 0 av) → zI G B0 s s.heap [] F →
      W p l e rm s m av.toArray below meth c s.heap [] 0 0 (MQ below (zQo G B0 post) av.toArray s mc ms (zA B0)) (F0 m 0 ls [])) : Met l y (Cond.code y cc maxL ret :: zW) rm (va_Pc av (zPre G B0 F)) (zQo G B0 post) mc ms (zA B0) := by
  subst hown
  refine MetFree.of_bodySF (code := cc) (maxLocals := maxL) (ret := ret) hy ?_ ?_
  · intro args s m h hn
    obtain ⟨meth, c, h1, h2, h3, h4, h5, h6, -, -⟩ := Cond.code_spec hn (atoms_spec (ws := Cond.code y cc maxL ret :: zW) h _ List.mem_cons_self)
    exact ⟨meth, c, h1, h2, h3, h4, h5, h6⟩
  · intro p e s m args below meth c s₁ B hml hP _
    obtain ⟨rfl, hI⟩ := hP
    have hh0 : s₁.heap = s.heap := by rw [B.state]; rfl
    have hts := atoms_spec (ws := Cond.code y cc maxL ret :: zW) B.pre
    have hl := lv_entry av (n := maxL) hn
    have hb := body p e s m below meth c _ B.exec B.bytes B.returns hml (findClass_of_methodNamed B.named) B.notSynchronized (name_of_methodNamed B.named B.method).1 (fun w hw => hts w (List.mem_cons_of_mem _ hw)) hl hI.I
    rw [← lg_entry_eq] at hb
    obtain ⟨t, a1, o, b1, b2, b3⟩ := hb s₁ hh0 (Stand.of_body B)
    exact ⟨t, o, a1, b1, b2, ⟨b3.1, b3.2⟩⟩
end
section
set_option maxHeartbeats 4000000 in
set_option maxRecDepth 100000 in
theorem c_X1_append (l : Launch) (G : zK) (B0 : Nat) (F : zM) (r w cap n : Nat) (t : Nat → Int32) (x : Int32) (h : RA G 1 F r w cap n t) (hlt : n < cap) (hcap : cap ≤ 100) : Met l yX1_append (Cond.code yX1_append cX1_append 2 none :: zW) (zRm 0 0 0 0) (va_Pc [.ref r, .int x] (zPre G B0 F)) (zQv G B0 (fun F' => RA G 1 F' r w cap (n + 1) (upd t n x) ∧ zSm F F' r w)) 0 0 (zA B0) := by
  refine z_of (own := RX1) (by decide) rfl (Nat.le_of_ble_eq_true rfl) ?_
  intro p e s m below meth c ls hx hb hr hml hown hlocks hnm hts hl hI
  have hl : lv_has ls 2 [(0, .ref r), (1, .int x)] := hl
  obtain ⟨xn, xr, f, xw, xf⟩ := id h
  refine lv_aload_n hx hb dX1_append_0 rfl (lv_at hl 0 rfl) ?_
  refine z_get hx hb hts hown zlX1 rfl 0 (by decide) (hts _ q30) rfl hI xr rfl dX1_append_1 ?_
  refine lv_aload_n hx hb dX1_append_4 rfl (lv_at hl 0 rfl) ?_
  refine z_get hx hb hts hown zlX1 rfl 1 (by decide) (hts _ q32) rfl hI xr rfl dX1_append_5 ?_
  refine lv_iload_n hx hb dX1_append_8 rfl (lv_at hl 1 rfl) ?_
  refine z_ist (k := n) hx hb hI xw (by omega) (by omega) dX1_append_9 (fun H locs F1 hw2 ho3 hI => ?_)
  have hc4 : F1 r = some (zO 1 [.ref w, .int (nI n)]) := (ho3 _ (zne xr xw (fun q => by cases q))).trans xr
  refine lv_aload_n hx hb dX1_append_10 rfl (lv_at hl 0 rfl) ?_
  refine lv_dup hx hb dX1_append_11 rfl ?_
  refine z_get hx hb hts hown zlX1 rfl 1 (by decide) (hts _ q32) rfl hI hc4 rfl dX1_append_12 ?_
  refine lv_iconst (v := nI 1) hx hb dX1_append_15 (by decide) ?_
  refine lv_iadd hx hb dX1_append_16 ?_
  refine z_topi (nI_add n 1) ?_
  refine z_put hx hb hts hown zlX1 tyX1 tyX1_ok nmX1 rfl 1 (by decide) (hts _ q32) rfl hI hc4 rfl rfl rfl rfl (Nat.le_of_ble_eq_true rfl) dX1_append_17 (fun H locs F5 hw6 ho7 hI => ?_)
  have hw6 : F5 r = some (zO 1 [.ref w, .int (nI (n + 1))]) := hw6
  have hc8 : F5 w = some (zAI G cap (upd f n x)) := (ho7 _ (zne hw2 hc4 (fun q => by cases q))).trans hw2
  refine z_rv hx hb hr hlocks hI ?_ (Nat.le_of_ble_eq_true rfl) (Nat.le_of_ble_eq_true rfl) dX1_append_20
  refine ⟨rfl, ⟨by omega, hw6, _, hc8, fun j hj => ?_⟩, (zSm.tr (zSm.r ho3) (zSm.l ho7))⟩
  by_cases q : j = n
  · subst q; rw [pk_us, pk_us]
  · rw [pk_un q, pk_un q]; exact xf j (by omega)

set_option maxHeartbeats 4000000 in
set_option maxRecDepth 100000 in
theorem c_X3_add (l : Launch) (G : zK) (B0 : Nat) (F : zM) (r w cap n : Nat) (t : Nat → Int32) (x : Int32) (h : RA G 3 F r w cap n t) (hlt : n < cap) (hcap : cap ≤ 100) : Met l yX3_add (Cond.code yX3_add cX3_add 2 none :: zW) (zRm 0 0 0 0) (va_Pc [.ref r, .int x] (zPre G B0 F)) (zQv G B0 (fun F' => RA G 3 F' r w cap (n + 1) (upd t n x) ∧ zSm F F' r w)) 0 0 (zA B0) := by
  refine z_of (own := RX3) (by decide) rfl (Nat.le_of_ble_eq_true rfl) ?_
  intro p e s m below meth c ls hx hb hr hml hown hlocks hnm hts hl hI
  have hl : lv_has ls 2 [(0, .ref r), (1, .int x)] := hl
  obtain ⟨xn, xr, f, xw, xf⟩ := id h
  refine lv_aload_n hx hb dX3_add_0 rfl (lv_at hl 0 rfl) ?_
  refine z_get hx hb hts hown zlX3 rfl 0 (by decide) (hts _ q743) rfl hI xr rfl dX3_add_1 ?_
  refine lv_aload_n hx hb dX3_add_4 rfl (lv_at hl 0 rfl) ?_
  refine z_get hx hb hts hown zlX3 rfl 1 (by decide) (hts _ q745) rfl hI xr rfl dX3_add_5 ?_
  refine lv_iload_n hx hb dX3_add_8 rfl (lv_at hl 1 rfl) ?_
  refine z_ist (k := n) hx hb hI xw (by omega) (by omega) dX3_add_9 (fun H locs F1 hw2 ho3 hI => ?_)
  have hc4 : F1 r = some (zO 3 [.ref w, .int (nI n)]) := (ho3 _ (zne xr xw (fun q => by cases q))).trans xr
  refine lv_aload_n hx hb dX3_add_10 rfl (lv_at hl 0 rfl) ?_
  refine lv_dup hx hb dX3_add_11 rfl ?_
  refine z_get hx hb hts hown zlX3 rfl 1 (by decide) (hts _ q745) rfl hI hc4 rfl dX3_add_12 ?_
  refine lv_iconst (v := nI 1) hx hb dX3_add_15 (by decide) ?_
  refine lv_iadd hx hb dX3_add_16 ?_
  refine z_topi (nI_add n 1) ?_
  refine z_put hx hb hts hown zlX3 tyX3 tyX3_ok nmX3 rfl 1 (by decide) (hts _ q745) rfl hI hc4 rfl rfl rfl rfl (Nat.le_of_ble_eq_true rfl) dX3_add_17 (fun H locs F5 hw6 ho7 hI => ?_)
  have hw6 : F5 r = some (zO 3 [.ref w, .int (nI (n + 1))]) := hw6
  have hc8 : F5 w = some (zAI G cap (upd f n x)) := (ho7 _ (zne hw2 hc4 (fun q => by cases q))).trans hw2
  refine z_rv hx hb hr hlocks hI ?_ (Nat.le_of_ble_eq_true rfl) (Nat.le_of_ble_eq_true rfl) dX3_add_20
  refine ⟨rfl, ⟨by omega, hw6, _, hc8, fun j hj => ?_⟩, (zSm.tr (zSm.r ho3) (zSm.l ho7))⟩
  by_cases q : j = n
  · subst q; rw [pk_us, pk_us]
  · rw [pk_un q, pk_un q]; exact xf j (by omega)

set_option maxHeartbeats 4000000 in
set_option maxRecDepth 100000 in
theorem c_X1_timesOf (l : Launch) (G : zK) (B0 : Nat) (F : zM) (r w cap n : Nat) (t : Nat → Int32) (x : Int32) (h : RA G 1 F r w cap n t) (hcap : cap ≤ 100) : Met l yX1_timesOf (Cond.code yX1_timesOf cX1_timesOf 4 (some FieldType.int) :: zW) (zRm 0 0 0 0) (va_Pc [.ref r, .int x] (zPre G B0 F)) (zQi G B0 (fun r F' => F = F' ∧ r = nI (cnt t x n))) 0 0 (zA B0) := by
  refine z_of (own := RX1) (by decide) rfl (Nat.le_of_ble_eq_true rfl) ?_
  intro p e s m below meth c ls hx hb hr hml hown hlocks hnm hts hl hI
  have hl : lv_has ls 4 [(0, .ref r), (1, .int x)] := hl
  obtain ⟨xn, xr, f, xw, xf⟩ := id h
  refine lv_iconst (v := nI 0) hx hb dX1_timesOf_0 (by decide) ?_
  refine lv_istore_n (lv' := [(2, .int (nI 0)), (0, .ref r), (1, .int x)]) hx hb dX1_timesOf_1 rfl hl (by decide) rfl (fun ls hl => ?_)
  refine lv_iconst (v := nI 0) hx hb dX1_timesOf_2 (by decide) ?_
  refine lv_istore_n (lv' := [(3, .int (nI 0)), (2, .int (nI 0)), (0, .ref r), (1, .int x)]) hx hb dX1_timesOf_3 rfl hl (by decide) rfl (fun ls hl => ?_)
  refine z_loop (σ := Nat × Nat) (fun xx : Nat × Nat => match xx with | (k, a) => [(0, .ref r), (1, .int x), (3, .int (nI k)), (2, .int (nI a))]) (fun (xx : Nat × Nat) (Fx : zM) => match xx with | (k, a) => F = Fx ∧ k ≤ n ∧ a = cnt t x k) (fun xx : Nat × Nat => match xx with | (k, a) => n - k) (0, 0) (nL := 4) (st := []) ?_ (lv_sub hl [2, 3, 0, 1] rfl) hI ?_
  · exact ⟨rfl, Nat.zero_le _, rfl⟩
  · intro xx F1 ls H locs hi hl hI ih
    obtain ⟨k, a⟩ := xx
    have hl : lv_has ls 4 [(0, .ref r), (1, .int x), (3, .int (nI k)), (2, .int (nI a))] := hl
    obtain ⟨hF, hk, ha⟩ := hi
    subst hF
    have hcn := cnt_le t x k
    refine lv_iload_n hx hb dX1_timesOf_4 rfl (lv_at hl 2 rfl) ?_
    refine lv_aload_n hx hb dX1_timesOf_5 rfl (lv_at hl 0 rfl) ?_
    refine z_get hx hb hts hown zlX1 rfl 1 (by decide) (hts _ q32) rfl hI xr rfl dX1_timesOf_6 ?_
    refine z_icmp_ge (tgt := 31) (a := k) (b := n) hx hb dX1_timesOf_9 (by decide) (by omega) (fun hq2 => ?_) (fun hq2 => ?_)
    · refine lv_iload_n hx hb dX1_timesOf_31 rfl (lv_at hl 3 rfl) ?_
      refine z_ri hx hb hr hlocks hI ?_ (Nat.le_of_ble_eq_true rfl) (Nat.le_of_ble_eq_true rfl) dX1_timesOf_32
      have hkn : k = n := by omega
      subst hkn
      exact ⟨_, rfl, rfl, by rw [ha]⟩
    · refine lv_aload_n hx hb dX1_timesOf_12 rfl (lv_at hl 0 rfl) ?_
      refine z_get hx hb hts hown zlX1 rfl 0 (by decide) (hts _ q30) rfl hI xr rfl dX1_timesOf_13 ?_
      refine lv_iload_n hx hb dX1_timesOf_16 rfl (lv_at hl 2 rfl) ?_
      refine z_ild (k := k) (v := t k) hx hb hI xw (by omega) (by omega) (xf k (by omega)) dX1_timesOf_17 ?_
      refine lv_iload_n hx hb dX1_timesOf_18 rfl (lv_at hl 1 rfl) ?_
      refine lv_icmp_ne (tgt := 25) hx hb dX1_timesOf_19 (by decide) (fun hq3 => ?_) (fun hq3 => ?_)
      · refine lv_iinc (k := 2) (v := nI (k + 1)) (lv' := [(3, .int (nI (k + 1))), (0, .ref r), (1, .int x), (2, .int (nI a))]) hx hb dX1_timesOf_25 hl rfl (nI_add k 1) (by decide) rfl (fun ls hl => ?_)
        refine lv_goto (tgt := 4) hx hb dX1_timesOf_28 (by decide) ?_
        refine ih (k + 1, a) _ ls H locs (by first | omega | (dsimp only; omega)) ?_ (lv_sub hl [1, 2, 0, 3] rfl) hI
        exact ⟨rfl, by omega, by simp [cnt, ha, hq3]⟩
      · refine lv_iinc (k := 3) (v := nI (a + 1)) (lv' := [(2, .int (nI (a + 1))), (0, .ref r), (1, .int x), (3, .int (nI k))]) hx hb dX1_timesOf_22 hl rfl (nI_add a 1) (by decide) rfl (fun ls hl => ?_)
        refine lv_iinc (k := 3) (v := nI (k + 1)) (lv' := [(3, .int (nI (k + 1))), (2, .int (nI (a + 1))), (0, .ref r), (1, .int x)]) hx hb dX1_timesOf_25 hl rfl (nI_add k 1) (by decide) rfl (fun ls hl => ?_)
        refine lv_goto (tgt := 4) hx hb dX1_timesOf_28 (by decide) ?_
        refine ih (k + 1, a + 1) _ ls H locs (by first | omega | (dsimp only; omega)) ?_ (lv_sub hl [2, 3, 0, 1] rfl) hI
        exact ⟨rfl, by omega, by simp [cnt, ha, hq3]⟩

set_option maxHeartbeats 4000000 in
set_option maxRecDepth 100000 in
theorem c_X3_often (l : Launch) (G : zK) (B0 : Nat) (F : zM) (r w cap n : Nat) (t : Nat → Int32) (x : Int32) (h : RA G 3 F r w cap n t) (hcap : cap ≤ 100) : Met l yX3_often (Cond.code yX3_often cX3_often 4 (some FieldType.int) :: zW) (zRm 0 0 0 0) (va_Pc [.ref r, .int x] (zPre G B0 F)) (zQi G B0 (fun r F' => F = F' ∧ r = nI (cnt t x n))) 0 0 (zA B0) := by
  refine z_of (own := RX3) (by decide) rfl (Nat.le_of_ble_eq_true rfl) ?_
  intro p e s m below meth c ls hx hb hr hml hown hlocks hnm hts hl hI
  have hl : lv_has ls 4 [(0, .ref r), (1, .int x)] := hl
  obtain ⟨xn, xr, f, xw, xf⟩ := id h
  refine lv_iconst (v := nI 0) hx hb dX3_often_0 (by decide) ?_
  refine lv_istore_n (lv' := [(2, .int (nI 0)), (0, .ref r), (1, .int x)]) hx hb dX3_often_1 rfl hl (by decide) rfl (fun ls hl => ?_)
  refine lv_iconst (v := nI 0) hx hb dX3_often_2 (by decide) ?_
  refine lv_istore_n (lv' := [(3, .int (nI 0)), (2, .int (nI 0)), (0, .ref r), (1, .int x)]) hx hb dX3_often_3 rfl hl (by decide) rfl (fun ls hl => ?_)
  refine z_loop (σ := Nat × Nat) (fun xx : Nat × Nat => match xx with | (k, a) => [(0, .ref r), (1, .int x), (3, .int (nI k)), (2, .int (nI a))]) (fun (xx : Nat × Nat) (Fx : zM) => match xx with | (k, a) => F = Fx ∧ k ≤ n ∧ a = cnt t x k) (fun xx : Nat × Nat => match xx with | (k, a) => n - k) (0, 0) (nL := 4) (st := []) ?_ (lv_sub hl [2, 3, 0, 1] rfl) hI ?_
  · exact ⟨rfl, Nat.zero_le _, rfl⟩
  · intro xx F1 ls H locs hi hl hI ih
    obtain ⟨k, a⟩ := xx
    have hl : lv_has ls 4 [(0, .ref r), (1, .int x), (3, .int (nI k)), (2, .int (nI a))] := hl
    obtain ⟨hF, hk, ha⟩ := hi
    subst hF
    have hcn := cnt_le t x k
    refine lv_iload_n hx hb dX3_often_4 rfl (lv_at hl 2 rfl) ?_
    refine lv_aload_n hx hb dX3_often_5 rfl (lv_at hl 0 rfl) ?_
    refine z_get hx hb hts hown zlX3 rfl 1 (by decide) (hts _ q745) rfl hI xr rfl dX3_often_6 ?_
    refine z_icmp_ge (tgt := 36) (a := k) (b := n) hx hb dX3_often_9 (by decide) (by omega) (fun hq2 => ?_) (fun hq2 => ?_)
    · refine lv_iload_n hx hb dX3_often_36 rfl (lv_at hl 3 rfl) ?_
      refine z_ri hx hb hr hlocks hI ?_ (Nat.le_of_ble_eq_true rfl) (Nat.le_of_ble_eq_true rfl) dX3_often_37
      have hkn : k = n := by omega
      subst hkn
      exact ⟨_, rfl, rfl, by rw [ha]⟩
    · refine lv_iload_n hx hb dX3_often_12 rfl (lv_at hl 3 rfl) ?_
      refine lv_aload_n hx hb dX3_often_13 rfl (lv_at hl 0 rfl) ?_
      refine z_get hx hb hts hown zlX3 rfl 0 (by decide) (hts _ q743) rfl hI xr rfl dX3_often_14 ?_
      refine lv_iload_n hx hb dX3_often_17 rfl (lv_at hl 2 rfl) ?_
      refine z_ild (k := k) (v := t k) hx hb hI xw (by omega) (by omega) (xf k (by omega)) dX3_often_18 ?_
      refine lv_iload_n hx hb dX3_often_19 rfl (lv_at hl 1 rfl) ?_
      refine lv_icmp_ne (tgt := 27) hx hb dX3_often_20 (by decide) (fun hq3 => ?_) (fun hq3 => ?_)
      · refine lv_iconst (v := nI 0) hx hb dX3_often_27 (by decide) ?_
        refine lv_iadd hx hb dX3_often_28 ?_
        refine z_topi (nI_add a 0) ?_
        refine lv_istore_n (lv' := [(2, .int (nI (a + 0))), (0, .ref r), (1, .int x), (3, .int (nI k))]) hx hb dX3_often_29 rfl hl (by decide) rfl (fun ls hl => ?_)
        refine lv_iinc (k := 3) (v := nI (k + 1)) (lv' := [(3, .int (nI (k + 1))), (2, .int (nI (a + 0))), (0, .ref r), (1, .int x)]) hx hb dX3_often_30 hl rfl (nI_add k 1) (by decide) rfl (fun ls hl => ?_)
        refine lv_goto (tgt := 4) hx hb dX3_often_33 (by decide) ?_
        refine ih (k + 1, a + 0) _ ls H locs (by first | omega | (dsimp only; omega)) ?_ (lv_sub hl [2, 3, 0, 1] rfl) hI
        exact ⟨rfl, by omega, by simp [cnt, ha, hq3]⟩
      · refine lv_iconst (v := nI 1) hx hb dX3_often_23 (by decide) ?_
        refine lv_goto (tgt := 28) hx hb dX3_often_24 (by decide) ?_
        refine lv_iadd hx hb dX3_often_28 ?_
        refine z_topi (nI_add a 1) ?_
        refine lv_istore_n (lv' := [(2, .int (nI (a + 1))), (0, .ref r), (1, .int x), (3, .int (nI k))]) hx hb dX3_often_29 rfl hl (by decide) rfl (fun ls hl => ?_)
        refine lv_iinc (k := 3) (v := nI (k + 1)) (lv' := [(3, .int (nI (k + 1))), (2, .int (nI (a + 1))), (0, .ref r), (1, .int x)]) hx hb dX3_often_30 hl rfl (nI_add k 1) (by decide) rfl (fun ls hl => ?_)
        refine lv_goto (tgt := 4) hx hb dX3_often_33 (by decide) ?_
        refine ih (k + 1, a + 1) _ ls H locs (by first | omega | (dsimp only; omega)) ?_ (lv_sub hl [2, 3, 0, 1] rfl) hI
        exact ⟨rfl, by omega, by simp [cnt, ha, hq3]⟩

set_option maxHeartbeats 4000000 in
set_option maxRecDepth 100000 in
theorem c_X1_appendAll (l : Launch) (G : zK) (B0 : Nat) (F : zM) (r w cap n : Nat) (t : Nat → Int32) (r2 w2 cap2 n2 : Nat) (t2 : Nat → Int32) (h : RA G 1 F r w cap n t) (hcap : cap ≤ 100) (h2 : RA G 1 F r2 w2 cap2 n2 t2) (hcap2 : cap2 ≤ 100) (ner : r ≠ r2) (nww : w ≠ w2) (hcat : n + n2 ≤ cap) : Met l yX1_appendAll (Cond.code yX1_appendAll cX1_appendAll 3 none :: zW) (zRm 1 21 0 0) (va_Pc [.ref r, .ref r2] (zPre G B0 F)) (zQv G B0 (fun F' => RA G 1 F' r w cap (n + n2) (catt t n t2) ∧ zSm F F' r w)) 0 0 (zA B0) := by
  refine z_of (own := RX1) (by decide) rfl (Nat.le_of_ble_eq_true rfl) ?_
  intro p e s m below meth c ls hx hb hr hml hown hlocks hnm hts hl hI
  have hl : lv_has ls 3 [(0, .ref r), (1, .ref r2)] := hl
  obtain ⟨xn, xr, f, xw, xf⟩ := id h
  obtain ⟨xn2, xr2, f2, xw2, xf2⟩ := id h2
  refine lv_iconst (v := nI 0) hx hb dX1_appendAll_0 (by decide) ?_
  refine lv_istore_n (lv' := [(2, .int (nI 0)), (0, .ref r), (1, .ref r2)]) hx hb dX1_appendAll_1 rfl hl (by decide) rfl (fun ls hl => ?_)
  refine z_loop (σ := Nat) (fun k : Nat => [(0, .ref r), (1, .ref r2), (2, .int (nI k))]) (fun (k : Nat) (Fx : zM) => RA G 1 Fx r w cap (n + k) (catt t n t2) ∧ zSm F Fx r w ∧ k ≤ n2) (fun k : Nat => n2 - k) 0 (nL := 3) (st := []) ?_ (lv_sub hl [1, 2, 0] rfl) hI ?_
  · exact ⟨RA.cg h (fun j hj => (catt_lo (by omega)).symm), zSm.rf, Nat.zero_le _⟩
  · intro k F1 ls H locs hi hl hI ih
    have hl : lv_has ls 3 [(0, .ref r), (1, .ref r2), (2, .int (nI k))] := hl
    obtain ⟨ha0, hs0, hk⟩ := hi
    obtain ⟨xn_, xr_, f_, xw_, xf_⟩ := id ha0
    have h2x : RA G 1 F1 r2 w2 cap2 n2 t2 := h2.go (hs0 _ (Ne.symm ner) (RA.ne2 h2 h)) (hs0 _ (fun q => RA.ne2 h h2 q.symm) (Ne.symm nww))
    obtain ⟨xn2, xr2, f2, xw2, xf2⟩ := id h2x
    refine lv_iload_n hx hb dX1_appendAll_2 rfl (lv_at hl 2 rfl) ?_
    refine lv_aload_n hx hb dX1_appendAll_3 rfl (lv_at hl 1 rfl) ?_
    refine z_get hx hb hts hown zlX1 rfl 1 (by decide) (hts _ q32) rfl hI xr2 rfl dX1_appendAll_4 ?_
    refine z_icmp_ge (tgt := 26) (a := k) (b := n2) hx hb dX1_appendAll_7 (by decide) (by omega) (fun hq2 => ?_) (fun hq2 => ?_)
    · refine z_rv hx hb hr hlocks hI ?_ (Nat.le_of_ble_eq_true rfl) (Nat.le_of_ble_eq_true rfl) dX1_appendAll_26
      have hkn : k = n2 := by omega
      subst hkn
      exact ⟨rfl, ha0, hs0⟩
    · refine lv_aload_n hx hb dX1_appendAll_10 rfl (lv_at hl 0 rfl) ?_
      refine lv_aload_n hx hb dX1_appendAll_11 rfl (lv_at hl 1 rfl) ?_
      refine z_get hx hb hts hown zlX1 rfl 0 (by decide) (hts _ q30) rfl hI xr2 rfl dX1_appendAll_12 ?_
      refine lv_iload_n hx hb dX1_appendAll_15 rfl (lv_at hl 2 rfl) ?_
      refine z_ild (k := k) (v := t2 k) hx hb hI xw2 (by omega) (by omega) (xf2 k (by omega)) dX1_appendAll_16 ?_
      refine z_callv hI (z_V (As := [.int (t2 k)]) (rest := []) ⟨hx, hb, hml, hown, hts⟩ hI xr_ rfl (c_X1_append l G B0 F1 r w cap (n + k) (catt t n t2) (t2 k) ⟨xn_, xr_, f_, xw_, xf_⟩ (by omega) (by omega)) (z_cwV vX1_append hts q385 ⟨Nat.le_of_ble_eq_true rfl, Nat.le_of_ble_eq_true rfl⟩) rfl hl.1 rfl (lv_room (Nat.le_of_ble_eq_true rfl)) dX1_appendAll_17 ⟨Nat.le_of_ble_eq_true rfl, Nat.le_of_ble_eq_true rfl⟩) (fun F3 H locs hp5 hI => ?_)
      obtain ⟨ha6, hs6⟩ := hp5
      have hc7 : F3 r2 = some (zO 1 [.ref w2, .int (nI n2)]) := (hs6 _ (Ne.symm ner) (zne xr2 xw_ (fun q => by cases q))).trans xr2
      have hc8 : F3 w2 = some (zAI G cap2 f2) := (hs6 _ (zne xw2 xr_ (fun q => by cases q)) (Ne.symm nww)).trans xw2
      obtain ⟨xn_6, xr_6, f_6, xw_6, xf_6⟩ := id ha6
      refine lv_iinc (k := 2) (v := nI (k + 1)) (lv' := [(2, .int (nI (k + 1))), (0, .ref r), (1, .ref r2)]) hx hb dX1_appendAll_20 hl rfl (nI_add k 1) (by decide) rfl (fun ls hl => ?_)
      refine lv_goto (tgt := 2) hx hb dX1_appendAll_23 (by decide) ?_
      refine ih (k + 1) _ ls H locs (by first | omega | (dsimp only; omega)) ?_ (lv_sub hl [1, 2, 0] rfl) hI
      refine ⟨RA.cg ha6 (fun j hj => ?_), (zSm.tr hs0 hs6), by omega⟩
      by_cases q : j = n + k
      · subst q; rw [pk_us, catt_hi]
      · rw [pk_un q]

set_option maxHeartbeats 4000000 in
set_option maxRecDepth 100000 in
theorem c_X1_become (l : Launch) (G : zK) (B0 : Nat) (F : zM) (r w cap n : Nat) (t : Nat → Int32) (r2 w2 cap2 n2 : Nat) (t2 : Nat → Int32) (h : RA G 1 F r w cap n t) (hcap : cap ≤ 100) (h2 : RA G 1 F r2 w2 cap2 n2 t2) (hcap2 : cap2 ≤ 100) (ner : r ≠ r2) (nww : w ≠ w2) (hcat : n2 ≤ cap) : Met l yX1_become (Cond.code yX1_become cX1_become 2 none :: zW) (zRm 2 43 0 0) (va_Pc [.ref r, .ref r2] (zPre G B0 F)) (zQv G B0 (fun F' => RA G 1 F' r w cap n2 t2 ∧ zSm F F' r w)) 0 0 (zA B0) := by
  refine z_of (own := RX1) (by decide) rfl (Nat.le_of_ble_eq_true rfl) ?_
  intro p e s m below meth c ls hx hb hr hml hown hlocks hnm hts hl hI
  have hl : lv_has ls 2 [(0, .ref r), (1, .ref r2)] := hl
  obtain ⟨xn, xr, f, xw, xf⟩ := id h
  obtain ⟨xn2, xr2, f2, xw2, xf2⟩ := id h2
  refine lv_aload_n hx hb dX1_become_0 rfl (lv_at hl 0 rfl) ?_
  refine lv_iconst (v := nI 0) hx hb dX1_become_1 (by decide) ?_
  refine z_put hx hb hts hown zlX1 tyX1 tyX1_ok nmX1 rfl 1 (by decide) (hts _ q32) rfl hI xr rfl rfl rfl rfl (Nat.le_of_ble_eq_true rfl) dX1_become_2 (fun H locs F1 hw2 ho3 hI => ?_)
  have hw2 : F1 r = some (zO 1 [.ref w, .int (nI 0)]) := hw2
  have hc4 : F1 w = some (zAI G cap f) := (ho3 _ (zne xw xr (fun q => by cases q))).trans xw
  have hc5 : F1 r2 = some (zO 1 [.ref w2, .int (nI n2)]) := (ho3 _ (Ne.symm ner)).trans xr2
  have hc6 : F1 w2 = some (zAI G cap2 f2) := (ho3 _ (zne xw2 xr (fun q => by cases q))).trans xw2
  refine lv_aload_n hx hb dX1_become_5 rfl (lv_at hl 0 rfl) ?_
  refine lv_aload_n hx hb dX1_become_6 rfl (lv_at hl 1 rfl) ?_
  refine z_callv hI (z_V (As := [.ref r2]) (rest := []) ⟨hx, hb, hml, hown, hts⟩ hI hw2 rfl (c_X1_appendAll l G B0 F1 r w cap 0 t r2 w2 cap2 n2 t2 ⟨(Nat.zero_le _), hw2, f, hc4, (fun j hj => absurd hj (Nat.not_lt_zero _))⟩ (by omega) ⟨xn2, hc5, f2, hc6, xf2⟩ (by omega) ner nww (by omega)) (z_cwV vX1_appendAll hts q390 ⟨Nat.le_of_ble_eq_true rfl, Nat.le_of_ble_eq_true rfl⟩) rfl hl.1 rfl (lv_room (Nat.le_of_ble_eq_true rfl)) dX1_become_7 ⟨Nat.le_of_ble_eq_true rfl, Nat.le_of_ble_eq_true rfl⟩) (fun F7 H locs hp9 hI => ?_)
  obtain ⟨ha10, hs10⟩ := hp9
  have hc11 : F7 r2 = some (zO 1 [.ref w2, .int (nI n2)]) := (hs10 _ (Ne.symm ner) (zne hc5 hc4 (fun q => by cases q))).trans hc5
  have hc12 : F7 w2 = some (zAI G cap2 f2) := (hs10 _ (zne hc6 hw2 (fun q => by cases q)) (Ne.symm nww)).trans hc6
  obtain ⟨xn_10, xr_10, f_10, xw_10, xf_10⟩ := id ha10
  refine z_rv hx hb hr hlocks hI ?_ (Nat.le_of_ble_eq_true rfl) (Nat.le_of_ble_eq_true rfl) dX1_become_10
  rw [Nat.zero_add] at ha10
  exact ⟨rfl, RA.cg ha10 (fun j hj => catt_0 j), (zSm.tr (zSm.l ho3) hs10)⟩

set_option maxHeartbeats 4000000 in
set_option maxRecDepth 100000 in
theorem c_X3_takes (l : Launch) (G : zK) (B0 : Nat) (F : zM) (r w cap n : Nat) (t : Nat → Int32) (r2 w2 cap2 n2 : Nat) (t2 : Nat → Int32) (h : RA G 3 F r w cap n t) (hcap : cap ≤ 100) (h2 : RA G 3 F r2 w2 cap2 n2 t2) (hcap2 : cap2 ≤ 100) (ner : r ≠ r2) (nww : w ≠ w2) (hcat : n2 ≤ cap) : Met l yX3_takes (Cond.code yX3_takes cX3_takes 3 none :: zW) (zRm 1 21 0 0) (va_Pc [.ref r, .ref r2] (zPre G B0 F)) (zQv G B0 (fun F' => RA G 3 F' r w cap n2 t2 ∧ zSm F F' r w)) 0 0 (zA B0) := by
  refine z_of (own := RX3) (by decide) rfl (Nat.le_of_ble_eq_true rfl) ?_
  intro p e s m below meth c ls hx hb hr hml hown hlocks hnm hts hl hI
  have hl : lv_has ls 3 [(0, .ref r), (1, .ref r2)] := hl
  obtain ⟨xn, xr, f, xw, xf⟩ := id h
  obtain ⟨xn2, xr2, f2, xw2, xf2⟩ := id h2
  refine lv_aload_n hx hb dX3_takes_0 rfl (lv_at hl 0 rfl) ?_
  refine lv_iconst (v := nI 0) hx hb dX3_takes_1 (by decide) ?_
  refine z_put hx hb hts hown zlX3 tyX3 tyX3_ok nmX3 rfl 1 (by decide) (hts _ q745) rfl hI xr rfl rfl rfl rfl (Nat.le_of_ble_eq_true rfl) dX3_takes_2 (fun H locs F1 hw2 ho3 hI => ?_)
  have hw2 : F1 r = some (zO 3 [.ref w, .int (nI 0)]) := hw2
  have hc4 : F1 w = some (zAI G cap f) := (ho3 _ (zne xw xr (fun q => by cases q))).trans xw
  have hc5 : F1 r2 = some (zO 3 [.ref w2, .int (nI n2)]) := (ho3 _ (Ne.symm ner)).trans xr2
  have hc6 : F1 w2 = some (zAI G cap2 f2) := (ho3 _ (zne xw2 xr (fun q => by cases q))).trans xw2
  refine lv_iconst (v := nI 0) hx hb dX3_takes_5 (by decide) ?_
  refine lv_istore_n (lv' := [(2, .int (nI 0)), (0, .ref r), (1, .ref r2)]) hx hb dX3_takes_6 rfl hl (by decide) rfl (fun ls hl => ?_)
  refine z_loop (σ := Nat) (fun k : Nat => [(0, .ref r), (1, .ref r2), (2, .int (nI k))]) (fun (k : Nat) (Fx : zM) => RA G 3 Fx r w cap k t2 ∧ zSm F Fx r w ∧ k ≤ n2) (fun k : Nat => n2 - k) 0 (nL := 3) (st := []) ?_ (lv_sub hl [1, 2, 0] rfl) hI ?_
  · exact ⟨⟨Nat.zero_le _, hw2, _, hc4, fun j hj => absurd hj (Nat.not_lt_zero _)⟩, (zSm.l ho3), Nat.zero_le _⟩
  · intro k F7 ls H locs hi hl hI ih
    have hl : lv_has ls 3 [(0, .ref r), (1, .ref r2), (2, .int (nI k))] := hl
    obtain ⟨ha0, hs0, hk⟩ := hi
    obtain ⟨xn_, xr_, f_, xw_, xf_⟩ := id ha0
    have h2x : RA G 3 F7 r2 w2 cap2 n2 t2 := h2.go (hs0 _ (Ne.symm ner) (RA.ne2 h2 h)) (hs0 _ (fun q => RA.ne2 h h2 q.symm) (Ne.symm nww))
    obtain ⟨xn2, xr2, f2, xw2, xf2⟩ := id h2x
    refine lv_iload_n hx hb dX3_takes_7 rfl (lv_at hl 2 rfl) ?_
    refine lv_aload_n hx hb dX3_takes_8 rfl (lv_at hl 1 rfl) ?_
    refine z_get hx hb hts hown zlX3 rfl 1 (by decide) (hts _ q745) rfl hI xr2 rfl dX3_takes_9 ?_
    refine z_icmp_ge (tgt := 31) (a := k) (b := n2) hx hb dX3_takes_12 (by decide) (by omega) (fun hq8 => ?_) (fun hq8 => ?_)
    · refine z_rv hx hb hr hlocks hI ?_ (Nat.le_of_ble_eq_true rfl) (Nat.le_of_ble_eq_true rfl) dX3_takes_31
      have hkn : k = n2 := by omega
      subst hkn
      exact ⟨rfl, ha0, hs0⟩
    · refine lv_aload_n hx hb dX3_takes_15 rfl (lv_at hl 0 rfl) ?_
      refine lv_aload_n hx hb dX3_takes_16 rfl (lv_at hl 1 rfl) ?_
      refine z_get hx hb hts hown zlX3 rfl 0 (by decide) (hts _ q743) rfl hI xr2 rfl dX3_takes_17 ?_
      refine lv_iload_n hx hb dX3_takes_20 rfl (lv_at hl 2 rfl) ?_
      refine z_ild (k := k) (v := t2 k) hx hb hI xw2 (by omega) (by omega) (xf2 k (by omega)) dX3_takes_21 ?_
      refine z_callv hI (z_V (As := [.int (t2 k)]) (rest := []) ⟨hx, hb, hml, hown, hts⟩ hI xr_ rfl (c_X3_add l G B0 F7 r w cap k t2 (t2 k) ⟨xn_, xr_, f_, xw_, xf_⟩ (by omega) (by omega)) (z_cwV vX3_add hts q926 ⟨Nat.le_of_ble_eq_true rfl, Nat.le_of_ble_eq_true rfl⟩) rfl hl.1 rfl (lv_room (Nat.le_of_ble_eq_true rfl)) dX3_takes_22 ⟨Nat.le_of_ble_eq_true rfl, Nat.le_of_ble_eq_true rfl⟩) (fun F9 H locs hp11 hI => ?_)
      obtain ⟨ha12, hs12⟩ := hp11
      have hc13 : F9 r2 = some (zO 3 [.ref w2, .int (nI n2)]) := (hs12 _ (Ne.symm ner) (zne xr2 xw_ (fun q => by cases q))).trans xr2
      have hc14 : F9 w2 = some (zAI G cap2 f2) := (hs12 _ (zne xw2 xr_ (fun q => by cases q)) (Ne.symm nww)).trans xw2
      obtain ⟨xn_12, xr_12, f_12, xw_12, xf_12⟩ := id ha12
      refine lv_iinc (k := 2) (v := nI (k + 1)) (lv' := [(2, .int (nI (k + 1))), (0, .ref r), (1, .ref r2)]) hx hb dX3_takes_25 hl rfl (nI_add k 1) (by decide) rfl (fun ls hl => ?_)
      refine lv_goto (tgt := 7) hx hb dX3_takes_28 (by decide) ?_
      refine ih (k + 1) _ ls H locs (by first | omega | (dsimp only; omega)) ?_ (lv_sub hl [1, 2, 0] rfl) hI
      refine ⟨RA.cg ha12 (fun j hj => ?_), (zSm.tr hs0 hs12), by omega⟩
      by_cases q : j = k
      · subst q; rw [pk_us]
      · rw [pk_un q]

set_option maxHeartbeats 4000000 in
set_option maxRecDepth 100000 in
theorem c_X1_openUp (l : Launch) (G : zK) (B0 : Nat) (F : zM) (r w cap n : Nat) (t : Nat → Int32) (pl : Nat) (x : Int32) (h : RA G 1 F r w cap n t) (hcap : cap ≤ 100) (hpl : pl ≤ n) (hlt : n < cap) : Met l yX1_openUp (Cond.code yX1_openUp cX1_openUp 4 none :: zW) (zRm 0 0 0 0) (va_Pc [.ref r, .int (nI pl), .int x] (zPre G B0 F)) (zQv G B0 (fun F' => RA G 1 F' r w cap (n + 1) (inst t pl x) ∧ zSm F F' r w)) 0 0 (zA B0) := by
  refine z_of (own := RX1) (by decide) rfl (Nat.le_of_ble_eq_true rfl) ?_
  intro p e s m below meth c ls hx hb hr hml hown hlocks hnm hts hl hI
  have hl : lv_has ls 4 [(0, .ref r), (1, .int (nI pl)), (2, .int x)] := hl
  obtain ⟨xn, xr, f, xw, xf⟩ := id h
  refine lv_aload_n hx hb dX1_openUp_0 rfl (lv_at hl 0 rfl) ?_
  refine z_get hx hb hts hown zlX1 rfl 1 (by decide) (hts _ q32) rfl hI xr rfl dX1_openUp_1 ?_
  refine lv_istore_n (lv' := [(3, .int (nI n)), (0, .ref r), (1, .int (nI pl)), (2, .int x)]) hx hb dX1_openUp_4 rfl hl (by decide) rfl (fun ls hl => ?_)
  refine z_loop (σ := Nat) (fun i : Nat => [(0, .ref r), (1, .int (nI pl)), (2, .int x), (3, .int (nI i))]) (fun (i : Nat) (Fx : zM) => Fx r = some (zO 1 [.ref w, .int (nI n)]) ∧ zSm F Fx r w ∧ pl ≤ i ∧ i ≤ n ∧ ∃ f, Fx w = some (zAI G cap f) ∧ (∀ j, j < i → f j = t j) ∧ (∀ j, i < j → j ≤ n → f j = t (j - 1))) (fun i : Nat => i) n (nL := 4) (st := []) ?_ (lv_sub hl [1, 2, 3, 0] rfl) hI ?_
  · exact ⟨xr, zSm.rf, hpl, Nat.le_refl _, f, xw, fun j hj => xf j hj, fun j hj hj2 => absurd hj (by omega)⟩
  · intro i F1 ls H locs hi hl hI ih
    have hl : lv_has ls 4 [(0, .ref r), (1, .int (nI pl)), (2, .int x), (3, .int (nI i))] := hl
    obtain ⟨xr_, hs0, hpi, hin2, f_, xw_, hlo, hhi⟩ := hi
    refine lv_iload_n hx hb dX1_openUp_5 rfl (lv_at hl 3 rfl) ?_
    refine lv_iload_n hx hb dX1_openUp_6 rfl (lv_at hl 1 rfl) ?_
    refine z_icmp_le (tgt := 30) (a := i) (b := pl) hx hb dX1_openUp_7 (by decide) (by omega) (fun hq2 => ?_) (fun hq2 => ?_)
    · refine lv_aload_n hx hb dX1_openUp_30 rfl (lv_at hl 0 rfl) ?_
      refine z_get hx hb hts hown zlX1 rfl 0 (by decide) (hts _ q30) rfl hI xr_ rfl dX1_openUp_31 ?_
      refine lv_iload_n hx hb dX1_openUp_34 rfl (lv_at hl 1 rfl) ?_
      refine lv_iload_n hx hb dX1_openUp_35 rfl (lv_at hl 2 rfl) ?_
      refine z_ist (k := pl) hx hb hI xw_ (by omega) (by omega) dX1_openUp_36 (fun H locs F3 hw4 ho5 hI => ?_)
      have hc6 : F3 r = some (zO 1 [.ref w, .int (nI n)]) := (ho5 _ (zne xr_ xw_ (fun q => by cases q))).trans xr_
      refine lv_aload_n hx hb dX1_openUp_37 rfl (lv_at hl 0 rfl) ?_
      refine lv_dup hx hb dX1_openUp_38 rfl ?_
      refine z_get hx hb hts hown zlX1 rfl 1 (by decide) (hts _ q32) rfl hI hc6 rfl dX1_openUp_39 ?_
      refine lv_iconst (v := nI 1) hx hb dX1_openUp_42 (by decide) ?_
      refine lv_iadd hx hb dX1_openUp_43 ?_
      refine z_topi (nI_add n 1) ?_
      refine z_put hx hb hts hown zlX1 tyX1 tyX1_ok nmX1 rfl 1 (by decide) (hts _ q32) rfl hI hc6 rfl rfl rfl rfl (Nat.le_of_ble_eq_true rfl) dX1_openUp_44 (fun H locs F7 hw8 ho9 hI => ?_)
      have hw8 : F7 r = some (zO 1 [.ref w, .int (nI (n + 1))]) := hw8
      have hc10 : F7 w = some (zAI G cap (upd f_ pl x)) := (ho9 _ (zne hw4 hc6 (fun q => by cases q))).trans hw4
      refine z_rv hx hb hr hlocks hI ?_ (Nat.le_of_ble_eq_true rfl) (Nat.le_of_ble_eq_true rfl) dX1_openUp_47
      have hipl : i = pl := by omega
      subst hipl
      refine ⟨rfl, ⟨by omega, hw8, _, hc10, fun j hj => ?_⟩, (zSm.tr (zSm.tr hs0 (zSm.r ho5)) (zSm.l ho9))⟩
      simp only [inst]
      by_cases q : j = i
      · subst q; rw [pk_us, if_neg (Nat.lt_irrefl _), if_pos rfl]
      · rw [pk_un q]
        by_cases q2 : j < i
        · rw [if_pos q2]; exact hlo j q2
        · rw [if_neg q2, if_neg q]; exact hhi j (by omega) (by omega)
    · refine lv_aload_n hx hb dX1_openUp_10 rfl (lv_at hl 0 rfl) ?_
      refine z_get hx hb hts hown zlX1 rfl 0 (by decide) (hts _ q30) rfl hI xr_ rfl dX1_openUp_11 ?_
      refine lv_iload_n hx hb dX1_openUp_14 rfl (lv_at hl 3 rfl) ?_
      refine lv_aload_n hx hb dX1_openUp_15 rfl (lv_at hl 0 rfl) ?_
      refine z_get hx hb hts hown zlX1 rfl 0 (by decide) (hts _ q30) rfl hI xr_ rfl dX1_openUp_16 ?_
      refine lv_iload_n hx hb dX1_openUp_19 rfl (lv_at hl 3 rfl) ?_
      refine lv_iconst (v := nI 1) hx hb dX1_openUp_20 (by decide) ?_
      refine lv_isub hx hb dX1_openUp_21 ?_
      refine z_topi (pk_sub (a := i) (b := 1) (by omega)) ?_
      refine z_ild (k := i - 1) (v := t (i - 1)) hx hb hI xw_ (by omega) (by omega) (hlo (i - 1) (by omega)) dX1_openUp_22 ?_
      refine z_ist (k := i) hx hb hI xw_ (by omega) (by omega) dX1_openUp_23 (fun H locs F11 hw12 ho13 hI => ?_)
      have hc14 : F11 r = some (zO 1 [.ref w, .int (nI n)]) := (ho13 _ (zne xr_ xw_ (fun q => by cases q))).trans xr_
      refine lv_iinc (k := 3) (v := nI (i - 1)) (lv' := [(3, .int (nI (i - 1))), (0, .ref r), (1, .int (nI pl)), (2, .int x)]) hx hb dX1_openUp_24 hl rfl (sb_m1 (p := i) (by omega)) (by decide) rfl (fun ls hl => ?_)
      refine lv_goto (tgt := 5) hx hb dX1_openUp_27 (by decide) ?_
      refine ih (i - 1) _ ls H locs (by first | omega | (dsimp only; omega)) ?_ (lv_sub hl [1, 2, 3, 0] rfl) hI
      refine ⟨hc14, (zSm.tr hs0 (zSm.r ho13)), by omega, by omega, _, hw12, fun j hj => ?_, fun j hj hj2 => ?_⟩
      · rw [pk_un (by omega)]; exact hlo j (by omega)
      · by_cases q : j = i
        · subst q; rw [pk_us]
        · rw [pk_un q]; exact hhi j (by omega) hj2

set_option maxHeartbeats 4000000 in
set_option maxRecDepth 100000 in
theorem c_X3_insert (l : Launch) (G : zK) (B0 : Nat) (F : zM) (r w cap n : Nat) (t : Nat → Int32) (pl : Nat) (x : Int32) (h : RA G 3 F r w cap n t) (hcap : cap ≤ 100) (hpl : pl ≤ n) (hlt : n < cap) : Met l yX3_insert (Cond.code yX3_insert cX3_insert 4 none :: zW) (zRm 0 0 0 0) (va_Pc [.ref r, .int (nI pl), .int x] (zPre G B0 F)) (zQv G B0 (fun F' => RA G 3 F' r w cap (n + 1) (inst t pl x) ∧ zSm F F' r w)) 0 0 (zA B0) := by
  refine z_of (own := RX3) (by decide) rfl (Nat.le_of_ble_eq_true rfl) ?_
  intro p e s m below meth c ls hx hb hr hml hown hlocks hnm hts hl hI
  have hl : lv_has ls 4 [(0, .ref r), (1, .int (nI pl)), (2, .int x)] := hl
  obtain ⟨xn, xr, f, xw, xf⟩ := id h
  refine lv_aload_n hx hb dX3_insert_0 rfl (lv_at hl 0 rfl) ?_
  refine z_get hx hb hts hown zlX3 rfl 1 (by decide) (hts _ q745) rfl hI xr rfl dX3_insert_1 ?_
  refine lv_istore_n (lv' := [(3, .int (nI n)), (0, .ref r), (1, .int (nI pl)), (2, .int x)]) hx hb dX3_insert_4 rfl hl (by decide) rfl (fun ls hl => ?_)
  refine z_loop (σ := Nat) (fun i : Nat => [(0, .ref r), (1, .int (nI pl)), (2, .int x), (3, .int (nI i))]) (fun (i : Nat) (Fx : zM) => Fx r = some (zO 3 [.ref w, .int (nI n)]) ∧ zSm F Fx r w ∧ pl ≤ i ∧ i ≤ n ∧ ∃ f, Fx w = some (zAI G cap f) ∧ (∀ j, j < i → f j = t j) ∧ (∀ j, i < j → j ≤ n → f j = t (j - 1))) (fun i : Nat => i) n (nL := 4) (st := []) ?_ (lv_sub hl [1, 2, 3, 0] rfl) hI ?_
  · exact ⟨xr, zSm.rf, hpl, Nat.le_refl _, f, xw, fun j hj => xf j hj, fun j hj hj2 => absurd hj (by omega)⟩
  · intro i F1 ls H locs hi hl hI ih
    have hl : lv_has ls 4 [(0, .ref r), (1, .int (nI pl)), (2, .int x), (3, .int (nI i))] := hl
    obtain ⟨xr_, hs0, hpi, hin2, f_, xw_, hlo, hhi⟩ := hi
    refine lv_iload_n hx hb dX3_insert_5 rfl (lv_at hl 3 rfl) ?_
    refine lv_iload_n hx hb dX3_insert_6 rfl (lv_at hl 1 rfl) ?_
    refine z_icmp_le (tgt := 30) (a := i) (b := pl) hx hb dX3_insert_7 (by decide) (by omega) (fun hq2 => ?_) (fun hq2 => ?_)
    · refine lv_aload_n hx hb dX3_insert_30 rfl (lv_at hl 0 rfl) ?_
      refine z_get hx hb hts hown zlX3 rfl 0 (by decide) (hts _ q743) rfl hI xr_ rfl dX3_insert_31 ?_
      refine lv_iload_n hx hb dX3_insert_34 rfl (lv_at hl 1 rfl) ?_
      refine lv_iload_n hx hb dX3_insert_35 rfl (lv_at hl 2 rfl) ?_
      refine z_ist (k := pl) hx hb hI xw_ (by omega) (by omega) dX3_insert_36 (fun H locs F3 hw4 ho5 hI => ?_)
      have hc6 : F3 r = some (zO 3 [.ref w, .int (nI n)]) := (ho5 _ (zne xr_ xw_ (fun q => by cases q))).trans xr_
      refine lv_aload_n hx hb dX3_insert_37 rfl (lv_at hl 0 rfl) ?_
      refine lv_dup hx hb dX3_insert_38 rfl ?_
      refine z_get hx hb hts hown zlX3 rfl 1 (by decide) (hts _ q745) rfl hI hc6 rfl dX3_insert_39 ?_
      refine lv_iconst (v := nI 1) hx hb dX3_insert_42 (by decide) ?_
      refine lv_iadd hx hb dX3_insert_43 ?_
      refine z_topi (nI_add n 1) ?_
      refine z_put hx hb hts hown zlX3 tyX3 tyX3_ok nmX3 rfl 1 (by decide) (hts _ q745) rfl hI hc6 rfl rfl rfl rfl (Nat.le_of_ble_eq_true rfl) dX3_insert_44 (fun H locs F7 hw8 ho9 hI => ?_)
      have hw8 : F7 r = some (zO 3 [.ref w, .int (nI (n + 1))]) := hw8
      have hc10 : F7 w = some (zAI G cap (upd f_ pl x)) := (ho9 _ (zne hw4 hc6 (fun q => by cases q))).trans hw4
      refine z_rv hx hb hr hlocks hI ?_ (Nat.le_of_ble_eq_true rfl) (Nat.le_of_ble_eq_true rfl) dX3_insert_47
      have hipl : i = pl := by omega
      subst hipl
      refine ⟨rfl, ⟨by omega, hw8, _, hc10, fun j hj => ?_⟩, (zSm.tr (zSm.tr hs0 (zSm.r ho5)) (zSm.l ho9))⟩
      simp only [inst]
      by_cases q : j = i
      · subst q; rw [pk_us, if_neg (Nat.lt_irrefl _), if_pos rfl]
      · rw [pk_un q]
        by_cases q2 : j < i
        · rw [if_pos q2]; exact hlo j q2
        · rw [if_neg q2, if_neg q]; exact hhi j (by omega) (by omega)
    · refine lv_aload_n hx hb dX3_insert_10 rfl (lv_at hl 0 rfl) ?_
      refine z_get hx hb hts hown zlX3 rfl 0 (by decide) (hts _ q743) rfl hI xr_ rfl dX3_insert_11 ?_
      refine lv_iload_n hx hb dX3_insert_14 rfl (lv_at hl 3 rfl) ?_
      refine lv_aload_n hx hb dX3_insert_15 rfl (lv_at hl 0 rfl) ?_
      refine z_get hx hb hts hown zlX3 rfl 0 (by decide) (hts _ q743) rfl hI xr_ rfl dX3_insert_16 ?_
      refine lv_iload_n hx hb dX3_insert_19 rfl (lv_at hl 3 rfl) ?_
      refine lv_iconst (v := nI 1) hx hb dX3_insert_20 (by decide) ?_
      refine lv_isub hx hb dX3_insert_21 ?_
      refine z_topi (pk_sub (a := i) (b := 1) (by omega)) ?_
      refine z_ild (k := i - 1) (v := t (i - 1)) hx hb hI xw_ (by omega) (by omega) (hlo (i - 1) (by omega)) dX3_insert_22 ?_
      refine z_ist (k := i) hx hb hI xw_ (by omega) (by omega) dX3_insert_23 (fun H locs F11 hw12 ho13 hI => ?_)
      have hc14 : F11 r = some (zO 3 [.ref w, .int (nI n)]) := (ho13 _ (zne xr_ xw_ (fun q => by cases q))).trans xr_
      refine lv_iinc (k := 3) (v := nI (i - 1)) (lv' := [(3, .int (nI (i - 1))), (0, .ref r), (1, .int (nI pl)), (2, .int x)]) hx hb dX3_insert_24 hl rfl (sb_m1 (p := i) (by omega)) (by decide) rfl (fun ls hl => ?_)
      refine lv_goto (tgt := 5) hx hb dX3_insert_27 (by decide) ?_
      refine ih (i - 1) _ ls H locs (by first | omega | (dsimp only; omega)) ?_ (lv_sub hl [1, 2, 3, 0] rfl) hI
      refine ⟨hc14, (zSm.tr hs0 (zSm.r ho13)), by omega, by omega, _, hw12, fun j hj => ?_, fun j hj hj2 => ?_⟩
      · rw [pk_un (by omega)]; exact hlo j (by omega)
      · by_cases q : j = i
        · subst q; rw [pk_us]
        · rw [pk_un q]; exact hhi j (by omega) hj2

set_option maxHeartbeats 4000000 in
set_option maxRecDepth 100000 in
theorem c_X1_closeUp (l : Launch) (G : zK) (B0 : Nat) (F : zM) (r w cap n : Nat) (t : Nat → Int32) (a b : Nat) (h : RA G 1 F r w cap n t) (hcap : cap ≤ 100) (hab : a ≤ b) (hbn : b ≤ n) : Met l yX1_closeUp (Cond.code yX1_closeUp cX1_closeUp 5 none :: zW) (zRm 0 0 0 0) (va_Pc [.ref r, .int (nI a), .int (nI b)] (zPre G B0 F)) (zQv G B0 (fun F' => RA G 1 F' r w cap (n - (b - a)) (clot t a b) ∧ zSm F F' r w)) 0 0 (zA B0) := by
  refine z_of (own := RX1) (by decide) rfl (Nat.le_of_ble_eq_true rfl) ?_
  intro p e s m below meth c ls hx hb hr hml hown hlocks hnm hts hl hI
  have hl : lv_has ls 5 [(0, .ref r), (1, .int (nI a)), (2, .int (nI b))] := hl
  obtain ⟨xn, xr, f, xw, xf⟩ := id h
  refine lv_iload_n hx hb dX1_closeUp_0 rfl (lv_at hl 2 rfl) ?_
  refine lv_iload_n hx hb dX1_closeUp_1 rfl (lv_at hl 1 rfl) ?_
  refine lv_isub hx hb dX1_closeUp_2 ?_
  refine z_topi (pk_sub (a := b) (b := a) (by omega)) ?_
  refine lv_istore_n (lv' := [(3, .int (nI (b - a))), (0, .ref r), (1, .int (nI a)), (2, .int (nI b))]) hx hb dX1_closeUp_3 rfl hl (by decide) rfl (fun ls hl => ?_)
  refine lv_iload_n hx hb dX1_closeUp_4 rfl (lv_at hl 3 rfl) ?_
  refine lv_istore (lv' := [(4, .int (nI b)), (3, .int (nI (b - a))), (0, .ref r), (1, .int (nI a)), (2, .int (nI b))]) hx hb dX1_closeUp_5 hl (by decide) rfl (fun ls hl => ?_)
  refine z_loop (σ := Nat) (fun i : Nat => [(0, .ref r), (1, .int (nI a)), (2, .int (nI b)), (3, .int (nI (b - a))), (4, .int (nI i))]) (fun (i : Nat) (Fx : zM) => Fx r = some (zO 1 [.ref w, .int (nI n)]) ∧ zSm F Fx r w ∧ b ≤ i ∧ i ≤ n ∧ ∃ f, Fx w = some (zAI G cap f) ∧ (∀ j, j < a → f j = t j) ∧ (∀ j, a ≤ j → j + (b - a) < i → f j = t (j + (b - a))) ∧ (∀ j, i ≤ j + (b - a) → j < n → f j = t j)) (fun i : Nat => n - i) b (nL := 5) (st := []) ?_ (lv_sub hl [2, 3, 4, 1, 0] rfl) hI ?_
  · exact ⟨xr, zSm.rf, Nat.le_refl _, hbn, f, xw, fun j hj => xf j (by omega), fun j hj hj2 => absurd hj2 (by omega), fun j hj hj2 => xf j hj2⟩
  · intro i F1 ls H locs hi hl hI ih
    have hl : lv_has ls 5 [(0, .ref r), (1, .int (nI a)), (2, .int (nI b)), (3, .int (nI (b - a))), (4, .int (nI i))] := hl
    obtain ⟨xr_, hs0, hbi, hin2, f_, xw_, hlo, hmi, hhi⟩ := hi
    refine lv_iload hx hb dX1_closeUp_7 (lv_at hl 4 rfl) ?_
    refine lv_aload_n hx hb dX1_closeUp_9 rfl (lv_at hl 0 rfl) ?_
    refine z_get hx hb hts hown zlX1 rfl 1 (by decide) (hts _ q32) rfl hI xr_ rfl dX1_closeUp_10 ?_
    refine z_icmp_ge (tgt := 38) (a := i) (b := n) hx hb dX1_closeUp_13 (by decide) (by omega) (fun hq2 => ?_) (fun hq2 => ?_)
    · refine lv_aload_n hx hb dX1_closeUp_38 rfl (lv_at hl 0 rfl) ?_
      refine lv_dup hx hb dX1_closeUp_39 rfl ?_
      refine z_get hx hb hts hown zlX1 rfl 1 (by decide) (hts _ q32) rfl hI xr_ rfl dX1_closeUp_40 ?_
      refine lv_iload_n hx hb dX1_closeUp_43 rfl (lv_at hl 3 rfl) ?_
      refine lv_isub hx hb dX1_closeUp_44 ?_
      refine z_topi (pk_sub (a := n) (b := b - a) (by omega)) ?_
      refine z_put hx hb hts hown zlX1 tyX1 tyX1_ok nmX1 rfl 1 (by decide) (hts _ q32) rfl hI xr_ rfl rfl rfl rfl (Nat.le_of_ble_eq_true rfl) dX1_closeUp_45 (fun H locs F3 hw4 ho5 hI => ?_)
      have hw4 : F3 r = some (zO 1 [.ref w, .int (nI (n - (b - a)))]) := hw4
      have hc6 : F3 w = some (zAI G cap f_) := (ho5 _ (zne xw_ xr_ (fun q => by cases q))).trans xw_
      refine z_rv hx hb hr hlocks hI ?_ (Nat.le_of_ble_eq_true rfl) (Nat.le_of_ble_eq_true rfl) dX1_closeUp_48
      have hipl : i = n := by omega
      subst hipl
      refine ⟨rfl, ⟨by omega, hw4, _, hc6, fun j hj => ?_⟩, (zSm.tr hs0 (zSm.l ho5))⟩
      simp only [clot]
      by_cases q : j < a
      · rw [if_pos q]; exact hlo j q
      · rw [if_neg q]; exact hmi j (by omega) (by omega)
    · refine lv_aload_n hx hb dX1_closeUp_16 rfl (lv_at hl 0 rfl) ?_
      refine z_get hx hb hts hown zlX1 rfl 0 (by decide) (hts _ q30) rfl hI xr_ rfl dX1_closeUp_17 ?_
      refine lv_iload hx hb dX1_closeUp_20 (lv_at hl 4 rfl) ?_
      refine lv_iload_n hx hb dX1_closeUp_22 rfl (lv_at hl 3 rfl) ?_
      refine lv_isub hx hb dX1_closeUp_23 ?_
      refine z_topi (pk_sub (a := i) (b := b - a) (by omega)) ?_
      refine lv_aload_n hx hb dX1_closeUp_24 rfl (lv_at hl 0 rfl) ?_
      refine z_get hx hb hts hown zlX1 rfl 0 (by decide) (hts _ q30) rfl hI xr_ rfl dX1_closeUp_25 ?_
      refine lv_iload hx hb dX1_closeUp_28 (lv_at hl 4 rfl) ?_
      refine z_ild (k := i) (v := t i) hx hb hI xw_ (by omega) (by omega) (hhi i (by omega) (by omega)) dX1_closeUp_30 ?_
      refine z_ist (k := i - (b - a)) hx hb hI xw_ (by omega) (by omega) dX1_closeUp_31 (fun H locs F7 hw8 ho9 hI => ?_)
      have hc10 : F7 r = some (zO 1 [.ref w, .int (nI n)]) := (ho9 _ (zne xr_ xw_ (fun q => by cases q))).trans xr_
      refine lv_iinc (k := 4) (v := nI (i + 1)) (lv' := [(4, .int (nI (i + 1))), (0, .ref r), (1, .int (nI a)), (2, .int (nI b)), (3, .int (nI (b - a)))]) hx hb dX1_closeUp_32 hl rfl (nI_add i 1) (by decide) rfl (fun ls hl => ?_)
      refine lv_goto (tgt := 7) hx hb dX1_closeUp_35 (by decide) ?_
      refine ih (i + 1) _ ls H locs (by first | omega | (dsimp only; omega)) ?_ (lv_sub hl [1, 2, 3, 4, 0] rfl) hI
      refine ⟨hc10, (zSm.tr hs0 (zSm.r ho9)), by omega, by omega, _, hw8, fun j hj => ?_, fun j hj hj2 => ?_, fun j hj hj2 => ?_⟩
      · rw [pk_un (by omega)]; exact hlo j hj
      · by_cases q : j = i - (b - a)
        · subst q; rw [pk_us]; congr 1; omega
        · rw [pk_un q]; exact hmi j hj (by omega)
      · rw [pk_un (by omega)]; exact hhi j (by omega) hj2

set_option maxHeartbeats 4000000 in
set_option maxRecDepth 100000 in
theorem c_X3_remove (l : Launch) (G : zK) (B0 : Nat) (F : zM) (r w cap n : Nat) (t : Nat → Int32) (pl : Nat) (h : RA G 3 F r w cap n t) (hcap : cap ≤ 100) (hpl : pl < n) : Met l yX3_remove (Cond.code yX3_remove cX3_remove 4 (some FieldType.int) :: zW) (zRm 0 0 0 0) (va_Pc [.ref r, .int (nI pl)] (zPre G B0 F)) (zQi G B0 (fun r' F' => r' = t pl ∧ RA G 3 F' r w cap (n - 1) (clot t pl (pl + 1)) ∧ zSm F F' r w)) 0 0 (zA B0) := by
  refine z_of (own := RX3) (by decide) rfl (Nat.le_of_ble_eq_true rfl) ?_
  intro p e s m below meth c ls hx hb hr hml hown hlocks hnm hts hl hI
  have hl : lv_has ls 4 [(0, .ref r), (1, .int (nI pl))] := hl
  obtain ⟨xn, xr, f, xw, xf⟩ := id h
  refine lv_aload_n hx hb dX3_remove_0 rfl (lv_at hl 0 rfl) ?_
  refine z_get hx hb hts hown zlX3 rfl 0 (by decide) (hts _ q743) rfl hI xr rfl dX3_remove_1 ?_
  refine lv_iload_n hx hb dX3_remove_4 rfl (lv_at hl 1 rfl) ?_
  refine z_ild (k := pl) (v := t pl) hx hb hI xw (by omega) (by omega) (xf pl (by omega)) dX3_remove_5 ?_
  refine lv_istore_n (lv' := [(2, .int (t pl)), (0, .ref r), (1, .int (nI pl))]) hx hb dX3_remove_6 rfl hl (by decide) rfl (fun ls hl => ?_)
  refine lv_aload_n hx hb dX3_remove_7 rfl (lv_at hl 1 rfl) ?_
  refine lv_dup hx hb dX3_remove_8 rfl ?_
  refine z_get hx hb hts hown zlX3 rfl 1 (by decide) (hts _ q745) rfl hI xr rfl dX3_remove_9 ?_
  refine lv_iconst (v := nI 1) hx hb dX3_remove_12 (by decide) ?_
  refine lv_isub hx hb dX3_remove_13 ?_
  refine z_topi (pk_sub (a := n) (b := 1) (by omega)) ?_
  refine z_put hx hb hts hown zlX3 tyX3 tyX3_ok nmX3 rfl 1 (by decide) (hts _ q745) rfl hI xr rfl rfl rfl rfl (Nat.le_of_ble_eq_true rfl) dX3_remove_14 (fun H locs F1 hw2 ho3 hI => ?_)
  have hw2 : F1 r = some (zO 3 [.ref w, .int (nI (n - 1))]) := hw2
  have hc4 : F1 w = some (zAI G cap f) := (ho3 _ (zne xw xr (fun q => by cases q))).trans xw
  refine lv_iload_n hx hb dX3_remove_17 rfl (lv_at hl 2 rfl) ?_
  refine lv_istore_n (lv' := [(3, .int (nI pl)), (2, .int (t pl)), (0, .ref r), (1, .int (nI pl))]) hx hb dX3_remove_18 rfl hl (by decide) rfl (fun ls hl => ?_)
  refine z_loop (σ := Nat) (fun i : Nat => [(0, .ref r), (1, .int (nI pl)), (2, .int (t pl)), (3, .int (nI i))]) (fun (i : Nat) (Fx : zM) => Fx r = some (zO 3 [.ref w, .int (nI (n - 1))]) ∧ zSm F Fx r w ∧ pl ≤ i ∧ i ≤ n - 1 ∧ ∃ f, Fx w = some (zAI G cap f) ∧ (∀ j, j < i → f j = clot t pl (pl + 1) j) ∧ (∀ j, i ≤ j → j < n → f j = t j)) (fun i : Nat => n - 1 - i) pl (nL := 4) (st := []) ?_ (lv_sub hl [2, 3, 1, 0] rfl) hI ?_
  · exact ⟨hw2, (zSm.l ho3), Nat.le_refl _, by omega, f, hc4, fun j hj => by simp only [clot]; rw [if_pos hj]; exact xf j (by omega), fun j hj hj2 => xf j hj2⟩
  · intro i F5 ls H locs hi hl hI ih
    have hl : lv_has ls 4 [(0, .ref r), (1, .int (nI pl)), (2, .int (t pl)), (3, .int (nI i))] := hl
    obtain ⟨xr_, hs0, hbi, hin2, f_, xw_, hlo, hhi⟩ := hi
    refine lv_iload_n hx hb dX3_remove_19 rfl (lv_at hl 3 rfl) ?_
    refine lv_aload_n hx hb dX3_remove_20 rfl (lv_at hl 0 rfl) ?_
    refine z_get hx hb hts hown zlX3 rfl 1 (by decide) (hts _ q745) rfl hI xr_ rfl dX3_remove_21 ?_
    refine z_icmp_ge (tgt := 47) (a := i) (b := n - 1) hx hb dX3_remove_24 (by decide) (by omega) (fun hq6 => ?_) (fun hq6 => ?_)
    · refine lv_iload_n hx hb dX3_remove_47 rfl (lv_at hl 2 rfl) ?_
      refine z_ri hx hb hr hlocks hI ?_ (Nat.le_of_ble_eq_true rfl) (Nat.le_of_ble_eq_true rfl) dX3_remove_48
      have hipl : i = n - 1 := by omega
      subst hipl
      exact ⟨_, rfl, rfl, ⟨by omega, xr_, _, xw_, hlo⟩, hs0⟩
    · refine lv_aload_n hx hb dX3_remove_27 rfl (lv_at hl 0 rfl) ?_
      refine z_get hx hb hts hown zlX3 rfl 0 (by decide) (hts _ q743) rfl hI xr_ rfl dX3_remove_28 ?_
      refine lv_iload_n hx hb dX3_remove_31 rfl (lv_at hl 3 rfl) ?_
      refine lv_aload_n hx hb dX3_remove_32 rfl (lv_at hl 0 rfl) ?_
      refine z_get hx hb hts hown zlX3 rfl 0 (by decide) (hts _ q743) rfl hI xr_ rfl dX3_remove_33 ?_
      refine lv_iload_n hx hb dX3_remove_36 rfl (lv_at hl 3 rfl) ?_
      refine lv_iconst (v := nI 1) hx hb dX3_remove_37 (by decide) ?_
      refine lv_iadd hx hb dX3_remove_38 ?_
      refine z_topi (nI_add i 1) ?_
      refine z_ild (k := i + 1) (v := t (i + 1)) hx hb hI xw_ (by omega) (by omega) (hhi (i + 1) (by omega) (by omega)) dX3_remove_39 ?_
      refine z_ist (k := i) hx hb hI xw_ (by omega) (by omega) dX3_remove_40 (fun H locs F7 hw8 ho9 hI => ?_)
      have hc10 : F7 r = some (zO 3 [.ref w, .int (nI (n - 1))]) := (ho9 _ (zne xr_ xw_ (fun q => by cases q))).trans xr_
      refine lv_iinc (k := 3) (v := nI (i + 1)) (lv' := [(3, .int (nI (i + 1))), (0, .ref r), (1, .int (nI pl)), (2, .int (t pl))]) hx hb dX3_remove_41 hl rfl (nI_add i 1) (by decide) rfl (fun ls hl => ?_)
      refine lv_goto (tgt := 19) hx hb dX3_remove_44 (by decide) ?_
      refine ih (i + 1) _ ls H locs (by first | omega | (dsimp only; omega)) ?_ (lv_sub hl [1, 2, 3, 0] rfl) hI
      refine ⟨hc10, (zSm.tr hs0 (zSm.r ho9)), by omega, by omega, _, hw8, fun j hj => ?_, fun j hj hj2 => ?_⟩
      · by_cases q : j = i
        · subst q; rw [pk_us]; simp only [clot]; rw [if_neg (by omega)]; congr 1; omega
        · rw [pk_un q]; exact hlo j (by omega)
      · rw [pk_un (by omega)]; exact hhi j (by omega) hj2

set_option maxHeartbeats 4000000 in
set_option maxRecDepth 100000 in
theorem c_X1_exchange (l : Launch) (G : zK) (B0 : Nat) (F : zM) (r w cap n : Nat) (t : Nat → Int32) (i1 i2 : Nat) (h : RA G 1 F r w cap n t) (hcap : cap ≤ 100) (hi1 : i1 < n) (hi2 : i2 < n) : Met l yX1_exchange (Cond.code yX1_exchange cX1_exchange 4 none :: zW) (zRm 0 0 0 0) (va_Pc [.ref r, .int (nI i1), .int (nI i2)] (zPre G B0 F)) (zQv G B0 (fun F' => RA G 1 F' r w cap n (swpt t i1 i2) ∧ zSm F F' r w)) 0 0 (zA B0) := by
  refine z_of (own := RX1) (by decide) rfl (Nat.le_of_ble_eq_true rfl) ?_
  intro p e s m below meth c ls hx hb hr hml hown hlocks hnm hts hl hI
  have hl : lv_has ls 4 [(0, .ref r), (1, .int (nI i1)), (2, .int (nI i2))] := hl
  obtain ⟨xn, xr, f, xw, xf⟩ := id h
  refine lv_aload_n hx hb dX1_exchange_0 rfl (lv_at hl 0 rfl) ?_
  refine z_get hx hb hts hown zlX1 rfl 0 (by decide) (hts _ q30) rfl hI xr rfl dX1_exchange_1 ?_
  refine lv_iload_n hx hb dX1_exchange_4 rfl (lv_at hl 1 rfl) ?_
  refine z_ild (k := i1) (v := t i1) hx hb hI xw (by omega) (by omega) (xf i1 (by omega)) dX1_exchange_5 ?_
  refine lv_istore_n (lv' := [(3, .int (t i1)), (0, .ref r), (1, .int (nI i1)), (2, .int (nI i2))]) hx hb dX1_exchange_6 rfl hl (by decide) rfl (fun ls hl => ?_)
  refine lv_aload_n hx hb dX1_exchange_7 rfl (lv_at hl 1 rfl) ?_
  refine z_get hx hb hts hown zlX1 rfl 0 (by decide) (hts _ q30) rfl hI xr rfl dX1_exchange_8 ?_
  refine lv_iload_n hx hb dX1_exchange_11 rfl (lv_at hl 2 rfl) ?_
  refine lv_aload_n hx hb dX1_exchange_12 rfl (lv_at hl 1 rfl) ?_
  refine z_get hx hb hts hown zlX1 rfl 0 (by decide) (hts _ q30) rfl hI xr rfl dX1_exchange_13 ?_
  refine lv_iload_n hx hb dX1_exchange_16 rfl (lv_at hl 3 rfl) ?_
  refine z_ild (k := i2) (v := t i2) hx hb hI xw (by omega) (by omega) (xf i2 (by omega)) dX1_exchange_17 ?_
  refine z_ist (k := i1) hx hb hI xw (by omega) (by omega) dX1_exchange_18 (fun H locs F1 hw2 ho3 hI => ?_)
  have hc4 : F1 r = some (zO 1 [.ref w, .int (nI n)]) := (ho3 _ (zne xr xw (fun q => by cases q))).trans xr
  refine lv_aload_n hx hb dX1_exchange_19 rfl (lv_at hl 1 rfl) ?_
  refine z_get hx hb hts hown zlX1 rfl 0 (by decide) (hts _ q30) rfl hI hc4 rfl dX1_exchange_20 ?_
  refine lv_iload_n hx hb dX1_exchange_23 rfl (lv_at hl 3 rfl) ?_
  refine lv_iload_n hx hb dX1_exchange_24 rfl (lv_at hl 0 rfl) ?_
  refine z_ist (k := i2) hx hb hI hw2 (by omega) (by omega) dX1_exchange_25 (fun H locs F5 hw6 ho7 hI => ?_)
  have hc8 : F5 r = some (zO 1 [.ref w, .int (nI n)]) := (ho7 _ (zne hc4 hw2 (fun q => by cases q))).trans hc4
  refine z_rv hx hb hr hlocks hI ?_ (Nat.le_of_ble_eq_true rfl) (Nat.le_of_ble_eq_true rfl) dX1_exchange_26
  refine ⟨rfl, ⟨by omega, hc8, _, hw6, fun j hj => ?_⟩, (zSm.tr (zSm.r ho3) (zSm.r ho7))⟩
  simp only [swpt]
  by_cases q : j = i2
  · subst q; rw [pk_us, if_pos rfl]
  · rw [pk_un q, if_neg q]
    by_cases q2 : j = i1
    · subst q2; rw [pk_us, if_pos rfl]
    · rw [pk_un q2, if_neg q2]; exact xf j hj

set_option maxHeartbeats 4000000 in
set_option maxRecDepth 100000 in
theorem c_X3_swap (l : Launch) (G : zK) (B0 : Nat) (F : zM) (r w cap n : Nat) (t : Nat → Int32) (i1 i2 : Nat) (h : RA G 3 F r w cap n t) (hcap : cap ≤ 100) (hi1 : i1 < n) (hi2 : i2 < n) : Met l yX3_swap (Cond.code yX3_swap cX3_swap 4 none :: zW) (zRm 0 0 0 0) (va_Pc [.ref r, .int (nI i1), .int (nI i2)] (zPre G B0 F)) (zQv G B0 (fun F' => RA G 3 F' r w cap n (swpt t i1 i2) ∧ zSm F F' r w)) 0 0 (zA B0) := by
  refine z_of (own := RX3) (by decide) rfl (Nat.le_of_ble_eq_true rfl) ?_
  intro p e s m below meth c ls hx hb hr hml hown hlocks hnm hts hl hI
  have hl : lv_has ls 4 [(0, .ref r), (1, .int (nI i1)), (2, .int (nI i2))] := hl
  obtain ⟨xn, xr, f, xw, xf⟩ := id h
  refine lv_aload_n hx hb dX3_swap_0 rfl (lv_at hl 0 rfl) ?_
  refine z_get hx hb hts hown zlX3 rfl 0 (by decide) (hts _ q743) rfl hI xr rfl dX3_swap_1 ?_
  refine lv_iload_n hx hb dX3_swap_4 rfl (lv_at hl 1 rfl) ?_
  refine z_ild (k := i1) (v := t i1) hx hb hI xw (by omega) (by omega) (xf i1 (by omega)) dX3_swap_5 ?_
  refine lv_istore_n (lv' := [(3, .int (t i1)), (0, .ref r), (1, .int (nI i1)), (2, .int (nI i2))]) hx hb dX3_swap_6 rfl hl (by decide) rfl (fun ls hl => ?_)
  refine lv_aload_n hx hb dX3_swap_7 rfl (lv_at hl 1 rfl) ?_
  refine z_get hx hb hts hown zlX3 rfl 0 (by decide) (hts _ q743) rfl hI xr rfl dX3_swap_8 ?_
  refine lv_iload_n hx hb dX3_swap_11 rfl (lv_at hl 2 rfl) ?_
  refine lv_aload_n hx hb dX3_swap_12 rfl (lv_at hl 1 rfl) ?_
  refine z_get hx hb hts hown zlX3 rfl 0 (by decide) (hts _ q743) rfl hI xr rfl dX3_swap_13 ?_
  refine lv_iload_n hx hb dX3_swap_16 rfl (lv_at hl 3 rfl) ?_
  refine z_ild (k := i2) (v := t i2) hx hb hI xw (by omega) (by omega) (xf i2 (by omega)) dX3_swap_17 ?_
  refine z_ist (k := i1) hx hb hI xw (by omega) (by omega) dX3_swap_18 (fun H locs F1 hw2 ho3 hI => ?_)
  have hc4 : F1 r = some (zO 3 [.ref w, .int (nI n)]) := (ho3 _ (zne xr xw (fun q => by cases q))).trans xr
  refine lv_aload_n hx hb dX3_swap_19 rfl (lv_at hl 1 rfl) ?_
  refine z_get hx hb hts hown zlX3 rfl 0 (by decide) (hts _ q743) rfl hI hc4 rfl dX3_swap_20 ?_
  refine lv_iload_n hx hb dX3_swap_23 rfl (lv_at hl 3 rfl) ?_
  refine lv_iload_n hx hb dX3_swap_24 rfl (lv_at hl 0 rfl) ?_
  refine z_ist (k := i2) hx hb hI hw2 (by omega) (by omega) dX3_swap_25 (fun H locs F5 hw6 ho7 hI => ?_)
  have hc8 : F5 r = some (zO 3 [.ref w, .int (nI n)]) := (ho7 _ (zne hc4 hw2 (fun q => by cases q))).trans hc4
  refine z_rv hx hb hr hlocks hI ?_ (Nat.le_of_ble_eq_true rfl) (Nat.le_of_ble_eq_true rfl) dX3_swap_26
  refine ⟨rfl, ⟨by omega, hc8, _, hw6, fun j hj => ?_⟩, (zSm.tr (zSm.r ho3) (zSm.r ho7))⟩
  simp only [swpt]
  by_cases q : j = i2
  · subst q; rw [pk_us, if_pos rfl]
  · rw [pk_un q, if_neg q]
    by_cases q2 : j = i1
    · subst q2; rw [pk_us, if_pos rfl]
    · rw [pk_un q2, if_neg q2]; exact xf j hj

set_option maxHeartbeats 4000000 in
set_option maxRecDepth 100000 in
theorem c_X1_turnRound (l : Launch) (G : zK) (B0 : Nat) (F : zM) (r w cap n : Nat) (t : Nat → Int32) (a b : Nat) (h : RA G 1 F r w cap n t) (hcap : cap ≤ 100) (hab : a ≤ b) (hbn : b ≤ n) : Met l yX1_turnRound (Cond.code yX1_turnRound cX1_turnRound 5 none :: zW) (zRm 1 23 0 0) (va_Pc [.ref r, .int (nI a), .int (nI b)] (zPre G B0 F)) (zQv G B0 (fun F' => RA G 1 F' r w cap n (revt t a b) ∧ zSm F F' r w)) 0 0 (zA B0) := by
  refine z_of (own := RX1) (by decide) rfl (Nat.le_of_ble_eq_true rfl) ?_
  intro p e s m below meth c ls hx hb hr hml hown hlocks hnm hts hl hI
  have hl : lv_has ls 5 [(0, .ref r), (1, .int (nI a)), (2, .int (nI b))] := hl
  obtain ⟨xn, xr, f, xw, xf⟩ := id h
  refine lv_iload_n hx hb dX1_turnRound_0 rfl (lv_at hl 2 rfl) ?_
  refine lv_iload_n hx hb dX1_turnRound_1 rfl (lv_at hl 1 rfl) ?_
  refine lv_isub hx hb dX1_turnRound_2 ?_
  refine z_topi (pk_sub (a := b) (b := a) (by omega)) ?_
  refine lv_iconst (v := nI 2) hx hb dX1_turnRound_3 (by decide) ?_
  refine lv_idiv hx hb dX1_turnRound_4 (nI_ne0 (by omega) (by omega)) ?_
  refine z_topi (pk_div (a := b - a) (d := 2) (by omega) (by omega) (by omega)) ?_
  refine lv_istore_n (lv' := [(3, .int (nI ((b - a) / 2))), (0, .ref r), (1, .int (nI a)), (2, .int (nI b))]) hx hb dX1_turnRound_5 rfl hl (by decide) rfl (fun ls hl => ?_)
  refine lv_iconst (v := nI 0) hx hb dX1_turnRound_6 (by decide) ?_
  refine lv_istore (lv' := [(4, .int (nI 0)), (3, .int (nI ((b - a) / 2))), (0, .ref r), (1, .int (nI a)), (2, .int (nI b))]) hx hb dX1_turnRound_7 hl (by decide) rfl (fun ls hl => ?_)
  refine z_loop (σ := Nat) (fun i : Nat => [(0, .ref r), (1, .int (nI a)), (2, .int (nI b)), (3, .int (nI ((b - a) / 2))), (4, .int (nI i))]) (fun (i : Nat) (Fx : zM) => RA G 1 Fx r w cap n (revk t a b i) ∧ zSm F Fx r w ∧ i ≤ (b - a) / 2) (fun i : Nat => (b - a) / 2 - i) 0 (nL := 5) (st := []) ?_ (lv_sub hl [2, 3, 4, 1, 0] rfl) hI ?_
  · exact ⟨RA.cg h (fun j hj => revk_0 j), zSm.rf, Nat.zero_le _⟩
  · intro i F1 ls H locs hi hl hI ih
    have hl : lv_has ls 5 [(0, .ref r), (1, .int (nI a)), (2, .int (nI b)), (3, .int (nI ((b - a) / 2))), (4, .int (nI i))] := hl
    obtain ⟨ha0, hs0, hk⟩ := hi
    obtain ⟨xn_, xr_, f_, xw_, xf_⟩ := id ha0
    refine lv_iload hx hb dX1_turnRound_9 (lv_at hl 4 rfl) ?_
    refine lv_iload_n hx hb dX1_turnRound_11 rfl (lv_at hl 3 rfl) ?_
    refine z_icmp_ge (tgt := 35) (a := i) (b := (b - a) / 2) hx hb dX1_turnRound_12 (by decide) (by omega) (fun hq2 => ?_) (fun hq2 => ?_)
    · refine z_rv hx hb hr hlocks hI ?_ (Nat.le_of_ble_eq_true rfl) (Nat.le_of_ble_eq_true rfl) dX1_turnRound_35
      have hipl : i = (b - a) / 2 := by omega
      subst hipl
      exact ⟨rfl, RA.cg ha0 (fun j hj => revk_e hab j), hs0⟩
    · refine lv_aload_n hx hb dX1_turnRound_15 rfl (lv_at hl 0 rfl) ?_
      refine lv_iload_n hx hb dX1_turnRound_16 rfl (lv_at hl 1 rfl) ?_
      refine lv_iload hx hb dX1_turnRound_17 (lv_at hl 4 rfl) ?_
      refine lv_iadd hx hb dX1_turnRound_19 ?_
      refine z_topi (nI_add a i) ?_
      refine lv_iload_n hx hb dX1_turnRound_20 rfl (lv_at hl 2 rfl) ?_
      refine lv_iconst (v := nI 1) hx hb dX1_turnRound_21 (by decide) ?_
      refine lv_isub hx hb dX1_turnRound_22 ?_
      refine z_topi (pk_sub (a := b) (b := 1) (by omega)) ?_
      refine lv_iload hx hb dX1_turnRound_23 (lv_at hl 4 rfl) ?_
      refine lv_isub hx hb dX1_turnRound_25 ?_
      refine z_topi (pk_sub (a := b - 1) (b := i) (by omega)) ?_
      refine z_callv hI (z_V (As := [.int (nI (a + i)), .int (nI (b - 1 - i))]) (rest := []) ⟨hx, hb, hml, hown, hts⟩ hI xr_ rfl (c_X1_exchange l G B0 F1 r w cap n (revk t a b i) (a + i) (b - 1 - i) ⟨xn_, xr_, f_, xw_, xf_⟩ (by omega) (by omega) (by omega)) (z_cwV vX1_exchange hts q543 ⟨Nat.le_of_ble_eq_true rfl, Nat.le_of_ble_eq_true rfl⟩) rfl hl.1 rfl (lv_room (Nat.le_of_ble_eq_true rfl)) dX1_turnRound_26 ⟨Nat.le_of_ble_eq_true rfl, Nat.le_of_ble_eq_true rfl⟩) (fun F3 H locs hp5 hI => ?_)
      obtain ⟨ha6, hs6⟩ := hp5
      obtain ⟨xn_6, xr_6, f_6, xw_6, xf_6⟩ := id ha6
      refine lv_iinc (k := 4) (v := nI (i + 1)) (lv' := [(4, .int (nI (i + 1))), (0, .ref r), (1, .int (nI a)), (2, .int (nI b)), (3, .int (nI ((b - a) / 2)))]) hx hb dX1_turnRound_29 hl rfl (nI_add i 1) (by decide) rfl (fun ls hl => ?_)
      refine lv_goto (tgt := 9) hx hb dX1_turnRound_32 (by decide) ?_
      refine ih (i + 1) _ ls H locs (by first | omega | (dsimp only; omega)) ?_ (lv_sub hl [1, 2, 3, 4, 0] rfl) hI
      exact ⟨RA.cg ha6 (fun j hj => revk_s (by omega) j), (zSm.tr hs0 hs6), by omega⟩

set_option maxHeartbeats 4000000 in
set_option maxRecDepth 100000 in
theorem c_X1_hasWord (l : Launch) (G : zK) (B0 : Nat) (F : zM) (r w cap n : Nat) (t : Nat → Int32) (x : Int32) (h : RA G 1 F r w cap n t) (hcap : cap ≤ 100) : Met l yX1_hasWord (Cond.code yX1_hasWord cX1_hasWord 2 (some FieldType.boolean) :: zW) (zRm 1 23 0 0) (va_Pc [.ref r, .int x] (zPre G B0 F)) (zQi G B0 (fun r F' => F = F' ∧ r = pI (0 < cnt t x n))) 0 0 (zA B0) := by
  refine z_of (own := RX1) (by decide) rfl (Nat.le_of_ble_eq_true rfl) ?_
  intro p e s m below meth c ls hx hb hr hml hown hlocks hnm hts hl hI
  have hl : lv_has ls 2 [(0, .ref r), (1, .int x)] := hl
  obtain ⟨xn, xr, f, xw, xf⟩ := id h
  refine lv_aload_n hx hb dX1_hasWord_0 rfl (lv_at hl 0 rfl) ?_
  refine lv_iload_n hx hb dX1_hasWord_1 rfl (lv_at hl 1 rfl) ?_
  refine z_calli hI (z_V (As := [.int x]) (rest := []) ⟨hx, hb, hml, hown, hts⟩ hI xr rfl (c_X1_timesOf l G B0 F r w cap n t x ⟨xn, xr, f, xw, xf⟩ (by omega)) (z_cwV vX1_timesOf hts q458 ⟨Nat.le_of_ble_eq_true rfl, Nat.le_of_ble_eq_true rfl⟩) rfl hl.1 rfl (lv_room (Nat.le_of_ble_eq_true rfl)) dX1_hasWord_2 ⟨Nat.le_of_ble_eq_true rfl, Nat.le_of_ble_eq_true rfl⟩) (fun r2 F1 H locs hp3 hI => ?_)
  obtain ⟨rfl, rfl⟩ := hp3
  have hcn := cnt_le t x n
  refine z_if_le (tgt := 12) (a := cnt t x n) hx hb dX1_hasWord_5 (by decide) (by omega) (fun hq4 => ?_) (fun hq4 => ?_)
  · refine lv_iconst (v := nI 0) hx hb dX1_hasWord_12 (by decide) ?_
    refine z_rz hx hb hr hlocks (Or.inl rfl) hI ?_ (Nat.le_of_ble_eq_true rfl) (Nat.le_of_ble_eq_true rfl) dX1_hasWord_13
    exact ⟨_, rfl, rfl, pI_f (by omega)⟩
  · refine lv_iconst (v := nI 1) hx hb dX1_hasWord_8 (by decide) ?_
    refine lv_goto (tgt := 13) hx hb dX1_hasWord_9 (by decide) ?_
    refine z_rz hx hb hr hlocks (Or.inr rfl) hI ?_ (Nat.le_of_ble_eq_true rfl) (Nat.le_of_ble_eq_true rfl) dX1_hasWord_13
    exact ⟨_, rfl, rfl, pI_t hq4⟩

set_option maxHeartbeats 4000000 in
set_option maxRecDepth 100000 in
theorem c_X1_isFirstOfItsWord (l : Launch) (G : zK) (B0 : Nat) (F : zM) (r w cap n : Nat) (t : Nat → Int32) (pl : Nat) (h : RA G 1 F r w cap n t) (hcap : cap ≤ 100) (hpl : pl < n) : Met l yX1_isFirstOfItsWord (Cond.code yX1_isFirstOfItsWord cX1_isFirstOfItsWord 3 (some FieldType.boolean) :: zW) (zRm 0 0 0 0) (va_Pc [.ref r, .int (nI pl)] (zPre G B0 F)) (zQi G B0 (fun r F' => F = F' ∧ r = pI (cnt t (t pl) pl = 0))) 0 0 (zA B0) := by
  refine z_of (own := RX1) (by decide) rfl (Nat.le_of_ble_eq_true rfl) ?_
  intro p e s m below meth c ls hx hb hr hml hown hlocks hnm hts hl hI
  have hl : lv_has ls 3 [(0, .ref r), (1, .int (nI pl))] := hl
  obtain ⟨xn, xr, f, xw, xf⟩ := id h
  refine lv_iconst (v := nI 0) hx hb dX1_isFirstOfItsWord_0 (by decide) ?_
  refine lv_istore_n (lv' := [(2, .int (nI 0)), (0, .ref r), (1, .int (nI pl))]) hx hb dX1_isFirstOfItsWord_1 rfl hl (by decide) rfl (fun ls hl => ?_)
  refine z_loop (σ := Nat) (fun k : Nat => [(0, .ref r), (1, .int (nI pl)), (2, .int (nI k))]) (fun (k : Nat) (Fx : zM) => F = Fx ∧ k ≤ pl ∧ cnt t (t pl) k = 0) (fun k : Nat => pl - k) 0 (nL := 3) (st := []) ?_ (lv_sub hl [1, 2, 0] rfl) hI ?_
  · exact ⟨rfl, Nat.zero_le _, rfl⟩
  · intro k F1 ls H locs hi hl hI ih
    have hl : lv_has ls 3 [(0, .ref r), (1, .int (nI pl)), (2, .int (nI k))] := hl
    obtain ⟨hF, hk, hc⟩ := hi
    subst hF
    refine lv_iload_n hx hb dX1_isFirstOfItsWord_2 rfl (lv_at hl 2 rfl) ?_
    refine lv_iload_n hx hb dX1_isFirstOfItsWord_3 rfl (lv_at hl 1 rfl) ?_
    refine z_icmp_ge (tgt := 30) (a := k) (b := pl) hx hb dX1_isFirstOfItsWord_4 (by decide) (by omega) (fun hq2 => ?_) (fun hq2 => ?_)
    · refine lv_iconst (v := nI 1) hx hb dX1_isFirstOfItsWord_30 (by decide) ?_
      refine z_rz hx hb hr hlocks (Or.inr rfl) hI ?_ (Nat.le_of_ble_eq_true rfl) (Nat.le_of_ble_eq_true rfl) dX1_isFirstOfItsWord_31
      have hkn : k = pl := by omega
      subst hkn
      exact ⟨_, rfl, rfl, pI_t hc⟩
    · refine lv_aload_n hx hb dX1_isFirstOfItsWord_7 rfl (lv_at hl 0 rfl) ?_
      refine z_get hx hb hts hown zlX1 rfl 0 (by decide) (hts _ q30) rfl hI xr rfl dX1_isFirstOfItsWord_8 ?_
      refine lv_iload_n hx hb dX1_isFirstOfItsWord_11 rfl (lv_at hl 2 rfl) ?_
      refine z_ild (k := k) (v := t k) hx hb hI xw (by omega) (by omega) (xf k (by omega)) dX1_isFirstOfItsWord_12 ?_
      refine lv_aload_n hx hb dX1_isFirstOfItsWord_13 rfl (lv_at hl 0 rfl) ?_
      refine z_get hx hb hts hown zlX1 rfl 0 (by decide) (hts _ q30) rfl hI xr rfl dX1_isFirstOfItsWord_14 ?_
      refine lv_iload_n hx hb dX1_isFirstOfItsWord_17 rfl (lv_at hl 1 rfl) ?_
      refine z_ild (k := pl) (v := t pl) hx hb hI xw (by omega) (by omega) (xf pl (by omega)) dX1_isFirstOfItsWord_18 ?_
      refine lv_icmp_ne (tgt := 24) hx hb dX1_isFirstOfItsWord_19 (by decide) (fun hq3 => ?_) (fun hq3 => ?_)
      · refine lv_iinc (k := 2) (v := nI (k + 1)) (lv' := [(2, .int (nI (k + 1))), (0, .ref r), (1, .int (nI pl))]) hx hb dX1_isFirstOfItsWord_24 hl rfl (nI_add k 1) (by decide) rfl (fun ls hl => ?_)
        refine lv_goto (tgt := 2) hx hb dX1_isFirstOfItsWord_27 (by decide) ?_
        refine ih (k + 1) _ ls H locs (by first | omega | (dsimp only; omega)) ?_ (lv_sub hl [1, 2, 0] rfl) hI
        exact ⟨rfl, by omega, by simp [cnt, hc, hq3]⟩
      · refine lv_iconst (v := nI 0) hx hb dX1_isFirstOfItsWord_22 (by decide) ?_
        refine z_rz hx hb hr hlocks (Or.inl rfl) hI ?_ (Nat.le_of_ble_eq_true rfl) (Nat.le_of_ble_eq_true rfl) dX1_isFirstOfItsWord_23
        exact ⟨_, rfl, rfl, pI_f (Nat.pos_iff_ne_zero.mp (cnt_pos (by omega) hq3))⟩

set_option maxHeartbeats 4000000 in
set_option maxRecDepth 100000 in
theorem c_X1_differencesFrom (l : Launch) (G : zK) (B0 : Nat) (F : zM) (r w cap n : Nat) (t : Nat → Int32) (r2 w2 cap2 : Nat) (t2 : Nat → Int32) (h : RA G 1 F r w cap n t) (hcap : cap ≤ 100) (h2 : RA G 1 F r2 w2 cap2 n t2) (hcap2 : cap2 ≤ 100) : Met l yX1_differencesFrom (Cond.code yX1_differencesFrom cX1_differencesFrom 4 (some FieldType.int) :: zW) (zRm 0 0 0 0) (va_Pc [.ref r, .ref r2] (zPre G B0 F)) (zQi G B0 (fun r F' => F = F' ∧ r = nI (dif t t2 n))) 0 0 (zA B0) := by
  refine z_of (own := RX1) (by decide) rfl (Nat.le_of_ble_eq_true rfl) ?_
  intro p e s m below meth c ls hx hb hr hml hown hlocks hnm hts hl hI
  have hl : lv_has ls 4 [(0, .ref r), (1, .ref r2)] := hl
  obtain ⟨xn, xr, f, xw, xf⟩ := id h
  obtain ⟨xn2, xr2, f2, xw2, xf2⟩ := id h2
  refine lv_iconst (v := nI 0) hx hb dX1_differencesFrom_0 (by decide) ?_
  refine lv_istore_n (lv' := [(2, .int (nI 0)), (0, .ref r), (1, .ref r2)]) hx hb dX1_differencesFrom_1 rfl hl (by decide) rfl (fun ls hl => ?_)
  refine lv_iconst (v := nI 0) hx hb dX1_differencesFrom_2 (by decide) ?_
  refine lv_istore_n (lv' := [(3, .int (nI 0)), (2, .int (nI 0)), (0, .ref r), (1, .ref r2)]) hx hb dX1_differencesFrom_3 rfl hl (by decide) rfl (fun ls hl => ?_)
  refine z_loop (σ := Nat × Nat) (fun xx : Nat × Nat => match xx with | (k, a) => [(0, .ref r), (1, .ref r2), (3, .int (nI k)), (2, .int (nI a))]) (fun (xx : Nat × Nat) (Fx : zM) => match xx with | (k, a) => F = Fx ∧ k ≤ n ∧ a = dif t t2 k) (fun xx : Nat × Nat => match xx with | (k, a) => n - k) (0, 0) (nL := 4) (st := []) ?_ (lv_sub hl [2, 3, 0, 1] rfl) hI ?_
  · exact ⟨rfl, Nat.zero_le _, rfl⟩
  · intro xx F1 ls H locs hi hl hI ih
    obtain ⟨k, a⟩ := xx
    have hl : lv_has ls 4 [(0, .ref r), (1, .ref r2), (3, .int (nI k)), (2, .int (nI a))] := hl
    obtain ⟨hF, hk, ha⟩ := hi
    subst hF
    have hcn := dif_le t t2 k
    refine lv_iload_n hx hb dX1_differencesFrom_4 rfl (lv_at hl 2 rfl) ?_
    refine lv_aload_n hx hb dX1_differencesFrom_5 rfl (lv_at hl 0 rfl) ?_
    refine z_get hx hb hts hown zlX1 rfl 1 (by decide) (hts _ q32) rfl hI xr rfl dX1_differencesFrom_6 ?_
    refine z_icmp_ge (tgt := 44) (a := k) (b := n) hx hb dX1_differencesFrom_9 (by decide) (by omega) (fun hq2 => ?_) (fun hq2 => ?_)
    · refine lv_iload_n hx hb dX1_differencesFrom_44 rfl (lv_at hl 3 rfl) ?_
      refine z_ri hx hb hr hlocks hI ?_ (Nat.le_of_ble_eq_true rfl) (Nat.le_of_ble_eq_true rfl) dX1_differencesFrom_45
      have hkn : k = n := by omega
      subst hkn
      exact ⟨_, rfl, rfl, by rw [ha]⟩
    · refine lv_iload_n hx hb dX1_differencesFrom_12 rfl (lv_at hl 2 rfl) ?_
      refine lv_aload_n hx hb dX1_differencesFrom_13 rfl (lv_at hl 1 rfl) ?_
      refine z_get hx hb hts hown zlX1 rfl 1 (by decide) (hts _ q32) rfl hI xr2 rfl dX1_differencesFrom_14 ?_
      refine z_icmp_ge (tgt := 44) (a := k) (b := n) hx hb dX1_differencesFrom_17 (by decide) (by omega) (fun hq3 => ?_) (fun hq3 => ?_)
      · refine lv_iload_n hx hb dX1_differencesFrom_44 rfl (lv_at hl 3 rfl) ?_
        refine z_ri hx hb hr hlocks hI ?_ (Nat.le_of_ble_eq_true rfl) (Nat.le_of_ble_eq_true rfl) dX1_differencesFrom_45
        have hkn : k = n := by omega
        subst hkn
        exact ⟨_, rfl, rfl, by rw [ha]⟩
      · refine lv_aload_n hx hb dX1_differencesFrom_20 rfl (lv_at hl 0 rfl) ?_
        refine z_get hx hb hts hown zlX1 rfl 0 (by decide) (hts _ q30) rfl hI xr rfl dX1_differencesFrom_21 ?_
        refine lv_iload_n hx hb dX1_differencesFrom_24 rfl (lv_at hl 2 rfl) ?_
        refine z_ild (k := k) (v := t k) hx hb hI xw (by omega) (by omega) (xf k (by omega)) dX1_differencesFrom_25 ?_
        refine lv_aload_n hx hb dX1_differencesFrom_26 rfl (lv_at hl 1 rfl) ?_
        refine z_get hx hb hts hown zlX1 rfl 0 (by decide) (hts _ q30) rfl hI xr2 rfl dX1_differencesFrom_27 ?_
        refine lv_iload_n hx hb dX1_differencesFrom_30 rfl (lv_at hl 2 rfl) ?_
        refine z_ild (k := k) (v := t2 k) hx hb hI xw2 (by omega) (by omega) (xf2 k (by omega)) dX1_differencesFrom_31 ?_
        refine lv_icmp_eq (tgt := 38) hx hb dX1_differencesFrom_32 (by decide) (fun hq4 => ?_) (fun hq4 => ?_)
        · refine lv_iinc (k := 2) (v := nI (k + 1)) (lv' := [(3, .int (nI (k + 1))), (0, .ref r), (1, .ref r2), (2, .int (nI a))]) hx hb dX1_differencesFrom_38 hl rfl (nI_add k 1) (by decide) rfl (fun ls hl => ?_)
          refine lv_goto (tgt := 4) hx hb dX1_differencesFrom_41 (by decide) ?_
          refine ih (k + 1, a) _ ls H locs (by first | omega | (dsimp only; omega)) ?_ (lv_sub hl [1, 2, 0, 3] rfl) hI
          exact ⟨rfl, by omega, by simp [dif, ha, hq4]⟩
        · refine lv_iinc (k := 3) (v := nI (a + 1)) (lv' := [(2, .int (nI (a + 1))), (0, .ref r), (1, .ref r2), (3, .int (nI k))]) hx hb dX1_differencesFrom_35 hl rfl (nI_add a 1) (by decide) rfl (fun ls hl => ?_)
          refine lv_iinc (k := 3) (v := nI (k + 1)) (lv' := [(3, .int (nI (k + 1))), (2, .int (nI (a + 1))), (0, .ref r), (1, .ref r2)]) hx hb dX1_differencesFrom_38 hl rfl (nI_add k 1) (by decide) rfl (fun ls hl => ?_)
          refine lv_goto (tgt := 4) hx hb dX1_differencesFrom_41 (by decide) ?_
          refine ih (k + 1, a + 1) _ ls H locs (by first | omega | (dsimp only; omega)) ?_ (lv_sub hl [2, 3, 0, 1] rfl) hI
          exact ⟨rfl, by omega, by simp [dif, ha, hq4]⟩

set_option maxHeartbeats 4000000 in
set_option maxRecDepth 100000 in
theorem c_X3_others (l : Launch) (G : zK) (B0 : Nat) (F : zM) (r w cap n : Nat) (t : Nat → Int32) (r2 w2 cap2 : Nat) (t2 : Nat → Int32) (h : RA G 3 F r w cap n t) (hcap : cap ≤ 100) (h2 : RA G 3 F r2 w2 cap2 n t2) (hcap2 : cap2 ≤ 100) : Met l yX3_others (Cond.code yX3_others cX3_others 4 (some FieldType.int) :: zW) (zRm 0 0 0 0) (va_Pc [.ref r, .ref r2] (zPre G B0 F)) (zQi G B0 (fun r F' => F = F' ∧ r = nI (dif t t2 n))) 0 0 (zA B0) := by
  refine z_of (own := RX3) (by decide) rfl (Nat.le_of_ble_eq_true rfl) ?_
  intro p e s m below meth c ls hx hb hr hml hown hlocks hnm hts hl hI
  have hl : lv_has ls 4 [(0, .ref r), (1, .ref r2)] := hl
  obtain ⟨xn, xr, f, xw, xf⟩ := id h
  obtain ⟨xn2, xr2, f2, xw2, xf2⟩ := id h2
  refine lv_iconst (v := nI 0) hx hb dX3_others_0 (by decide) ?_
  refine lv_istore_n (lv' := [(2, .int (nI 0)), (0, .ref r), (1, .ref r2)]) hx hb dX3_others_1 rfl hl (by decide) rfl (fun ls hl => ?_)
  refine lv_iconst (v := nI 0) hx hb dX3_others_2 (by decide) ?_
  refine lv_istore_n (lv' := [(3, .int (nI 0)), (2, .int (nI 0)), (0, .ref r), (1, .ref r2)]) hx hb dX3_others_3 rfl hl (by decide) rfl (fun ls hl => ?_)
  refine z_loop (σ := Nat × Nat) (fun xx : Nat × Nat => match xx with | (k, a) => [(0, .ref r), (1, .ref r2), (3, .int (nI k)), (2, .int (nI a))]) (fun (xx : Nat × Nat) (Fx : zM) => match xx with | (k, a) => F = Fx ∧ k ≤ n ∧ a = dif t t2 k) (fun xx : Nat × Nat => match xx with | (k, a) => n - k) (0, 0) (nL := 4) (st := []) ?_ (lv_sub hl [2, 3, 0, 1] rfl) hI ?_
  · exact ⟨rfl, Nat.zero_le _, rfl⟩
  · intro xx F1 ls H locs hi hl hI ih
    obtain ⟨k, a⟩ := xx
    have hl : lv_has ls 4 [(0, .ref r), (1, .ref r2), (3, .int (nI k)), (2, .int (nI a))] := hl
    obtain ⟨hF, hk, ha⟩ := hi
    subst hF
    have hcn := dif_le t t2 k
    refine lv_iload_n hx hb dX3_others_4 rfl (lv_at hl 2 rfl) ?_
    refine lv_aload_n hx hb dX3_others_5 rfl (lv_at hl 0 rfl) ?_
    refine z_get hx hb hts hown zlX3 rfl 1 (by decide) (hts _ q745) rfl hI xr rfl dX3_others_6 ?_
    refine z_icmp_ge (tgt := 41) (a := k) (b := n) hx hb dX3_others_9 (by decide) (by omega) (fun hq2 => ?_) (fun hq2 => ?_)
    · refine lv_iload_n hx hb dX3_others_41 rfl (lv_at hl 3 rfl) ?_
      refine z_ri hx hb hr hlocks hI ?_ (Nat.le_of_ble_eq_true rfl) (Nat.le_of_ble_eq_true rfl) dX3_others_42
      have hkn : k = n := by omega
      subst hkn
      exact ⟨_, rfl, rfl, by rw [ha]⟩
    · refine lv_iload_n hx hb dX3_others_12 rfl (lv_at hl 3 rfl) ?_
      refine lv_aload_n hx hb dX3_others_13 rfl (lv_at hl 0 rfl) ?_
      refine z_get hx hb hts hown zlX3 rfl 0 (by decide) (hts _ q743) rfl hI xr rfl dX3_others_14 ?_
      refine lv_iload_n hx hb dX3_others_17 rfl (lv_at hl 2 rfl) ?_
      refine z_ild (k := k) (v := t k) hx hb hI xw (by omega) (by omega) (xf k (by omega)) dX3_others_18 ?_
      refine lv_aload_n hx hb dX3_others_19 rfl (lv_at hl 1 rfl) ?_
      refine z_get hx hb hts hown zlX3 rfl 0 (by decide) (hts _ q743) rfl hI xr2 rfl dX3_others_20 ?_
      refine lv_iload_n hx hb dX3_others_23 rfl (lv_at hl 2 rfl) ?_
      refine z_ild (k := k) (v := t2 k) hx hb hI xw2 (by omega) (by omega) (xf2 k (by omega)) dX3_others_24 ?_
      refine lv_icmp_ne (tgt := 32) hx hb dX3_others_25 (by decide) (fun hq3 => ?_) (fun hq3 => ?_)
      · refine lv_iconst (v := nI 1) hx hb dX3_others_32 (by decide) ?_
        refine lv_iadd hx hb dX3_others_33 ?_
        refine z_topi (nI_add a 1) ?_
        refine lv_istore_n (lv' := [(2, .int (nI (a + 1))), (0, .ref r), (1, .ref r2), (3, .int (nI k))]) hx hb dX3_others_34 rfl hl (by decide) rfl (fun ls hl => ?_)
        refine lv_iinc (k := 3) (v := nI (k + 1)) (lv' := [(3, .int (nI (k + 1))), (2, .int (nI (a + 1))), (0, .ref r), (1, .ref r2)]) hx hb dX3_others_35 hl rfl (nI_add k 1) (by decide) rfl (fun ls hl => ?_)
        refine lv_goto (tgt := 4) hx hb dX3_others_38 (by decide) ?_
        refine ih (k + 1, a + 1) _ ls H locs (by first | omega | (dsimp only; omega)) ?_ (lv_sub hl [2, 3, 0, 1] rfl) hI
        exact ⟨rfl, by omega, by simp [dif, ha, hq3]⟩
      · refine lv_iconst (v := nI 0) hx hb dX3_others_28 (by decide) ?_
        refine lv_goto (tgt := 33) hx hb dX3_others_29 (by decide) ?_
        refine lv_iadd hx hb dX3_others_33 ?_
        refine z_topi (nI_add a 0) ?_
        refine lv_istore_n (lv' := [(2, .int (nI (a + 0))), (0, .ref r), (1, .ref r2), (3, .int (nI k))]) hx hb dX3_others_34 rfl hl (by decide) rfl (fun ls hl => ?_)
        refine lv_iinc (k := 3) (v := nI (k + 1)) (lv' := [(3, .int (nI (k + 1))), (2, .int (nI (a + 0))), (0, .ref r), (1, .ref r2)]) hx hb dX3_others_35 hl rfl (nI_add k 1) (by decide) rfl (fun ls hl => ?_)
        refine lv_goto (tgt := 4) hx hb dX3_others_38 (by decide) ?_
        refine ih (k + 1, a + 0) _ ls H locs (by first | omega | (dsimp only; omega)) ?_ (lv_sub hl [2, 3, 0, 1] rfl) hI
        exact ⟨rfl, by omega, by simp [dif, ha, hq3]⟩
end
section
def zmax (x y : Int32) : Int32 := if x < y then y else x
def zmin (x y : Int32) : Int32 := if y < x then y else x
def zabs (x : Int32) : Int32 := if 0 ≤ x then x else -x
theorem zmax_N {a b : Nat} (ha : a < 2 ^ 31) (hb : b < 2 ^ 31) : zmax (nI a) (nI b) = nI (max a b) := by
  unfold zmax
  by_cases h : a < b
  · rw [if_pos ((nI_ltI ha hb).mpr h), Nat.max_eq_right (by omega)]
  · rw [if_neg (fun q => h ((nI_ltI ha hb).mp q)), Nat.max_eq_left (by omega)]
theorem zmin_N {a b : Nat} (ha : a < 2 ^ 31) (hb : b < 2 ^ 31) : zmin (nI a) (nI b) = nI (min a b) := by
  unfold zmin
  by_cases h : b < a
  · rw [if_pos ((nI_ltI hb ha).mpr h), Nat.min_eq_right (by omega)]
  · rw [if_neg (fun q => h ((nI_ltI hb ha).mp q)), Nat.min_eq_left (by omega)]

set_option maxHeartbeats 4000000 in
set_option maxRecDepth 100000 in
theorem c_J9_max_7cf53 (l : Launch) (G : zK) (B0 : Nat) (F : zM) (x y : Int32) : Met l yJ9_max_7cf53 (Cond.code yJ9_max_7cf53 cJ9_max_7cf53 2 (some FieldType.int) :: zW) (zRm 0 0 0 0) (va_Pc [.int x, .int y] (zPre G B0 F)) (zQi G B0 (fun r F' => F = F' ∧ r = zmax x y)) 0 0 (zA B0) := by
  refine z_ofF (own := RJ9) (by decide +kernel) rfl (Nat.le_of_ble_eq_true rfl) ?_
  intro p e s m below meth c ls hx hb hr hml hown hlocks hnm hts hl hI
  have hl : lv_has ls 2 [(0, .int x), (1, .int y)] := hl
  refine lv_iload_n hx hb dJ9_max_7cf53_0 rfl (lv_at hl 0 rfl) ?_
  refine lv_iload_n hx hb dJ9_max_7cf53_1 rfl (lv_at hl 1 rfl) ?_
  refine lv_icmp_lt (tgt := 9) hx hb dJ9_max_7cf53_2 (by decide) (fun hq1 => ?_) (fun hq1 => ?_)
  · refine lv_iload_n hx hb dJ9_max_7cf53_9 rfl (lv_at hl 1 rfl) ?_
    refine z_ri hx hb hr hlocks hI ?_ (Nat.le_of_ble_eq_true rfl) (Nat.le_of_ble_eq_true rfl) dJ9_max_7cf53_10
    exact ⟨_, rfl, rfl, by unfold zmax; split <;> first | rfl | contradiction⟩
  · refine lv_iload_n hx hb dJ9_max_7cf53_5 rfl (lv_at hl 0 rfl) ?_
    refine lv_goto (tgt := 10) hx hb dJ9_max_7cf53_6 (by decide) ?_
    refine z_ri hx hb hr hlocks hI ?_ (Nat.le_of_ble_eq_true rfl) (Nat.le_of_ble_eq_true rfl) dJ9_max_7cf53_10
    exact ⟨_, rfl, rfl, by unfold zmax; split <;> first | rfl | contradiction⟩

set_option maxHeartbeats 4000000 in
set_option maxRecDepth 100000 in
theorem c_J9_min_7cf53 (l : Launch) (G : zK) (B0 : Nat) (F : zM) (x y : Int32) : Met l yJ9_min_7cf53 (Cond.code yJ9_min_7cf53 cJ9_min_7cf53 2 (some FieldType.int) :: zW) (zRm 0 0 0 0) (va_Pc [.int x, .int y] (zPre G B0 F)) (zQi G B0 (fun r F' => F = F' ∧ r = zmin x y)) 0 0 (zA B0) := by
  refine z_ofF (own := RJ9) (by decide +kernel) rfl (Nat.le_of_ble_eq_true rfl) ?_
  intro p e s m below meth c ls hx hb hr hml hown hlocks hnm hts hl hI
  have hl : lv_has ls 2 [(0, .int x), (1, .int y)] := hl
  refine lv_iload_n hx hb dJ9_min_7cf53_0 rfl (lv_at hl 0 rfl) ?_
  refine lv_iload_n hx hb dJ9_min_7cf53_1 rfl (lv_at hl 1 rfl) ?_
  refine lv_icmp_gt (tgt := 9) hx hb dJ9_min_7cf53_2 (by decide) (fun hq1 => ?_) (fun hq1 => ?_)
  · refine lv_iload_n hx hb dJ9_min_7cf53_9 rfl (lv_at hl 1 rfl) ?_
    refine z_ri hx hb hr hlocks hI ?_ (Nat.le_of_ble_eq_true rfl) (Nat.le_of_ble_eq_true rfl) dJ9_min_7cf53_10
    exact ⟨_, rfl, rfl, by unfold zmin; split <;> first | rfl | contradiction⟩
  · refine lv_iload_n hx hb dJ9_min_7cf53_5 rfl (lv_at hl 0 rfl) ?_
    refine lv_goto (tgt := 10) hx hb dJ9_min_7cf53_6 (by decide) ?_
    refine z_ri hx hb hr hlocks hI ?_ (Nat.le_of_ble_eq_true rfl) (Nat.le_of_ble_eq_true rfl) dJ9_min_7cf53_10
    exact ⟨_, rfl, rfl, by unfold zmin; split <;> first | rfl | contradiction⟩

set_option maxHeartbeats 4000000 in
set_option maxRecDepth 100000 in
theorem c_J9_abs_0f7a4 (l : Launch) (G : zK) (B0 : Nat) (F : zM) (x : Int32) : Met l yJ9_abs_0f7a4 (Cond.code yJ9_abs_0f7a4 cJ9_abs_0f7a4 1 (some FieldType.int) :: zW) (zRm 0 0 0 0) (va_Pc [.int x] (zPre G B0 F)) (zQi G B0 (fun r F' => F = F' ∧ r = zabs x)) 0 0 (zA B0) := by
  refine z_ofF (own := RJ9) (by decide +kernel) rfl (Nat.le_of_ble_eq_true rfl) ?_
  intro p e s m below meth c ls hx hb hr hml hown hlocks hnm hts hl hI
  have hl : lv_has ls 1 [(0, .int x)] := hl
  refine lv_iload_n hx hb dJ9_abs_0f7a4_0 rfl (lv_at hl 0 rfl) ?_
  refine lv_if_ge (tgt := 9) hx hb dJ9_abs_0f7a4_1 (by decide) (fun hq1 => ?_) (fun hq1 => ?_)
  · refine lv_iload_n hx hb dJ9_abs_0f7a4_9 rfl (lv_at hl 0 rfl) ?_
    refine z_ri hx hb hr hlocks hI ?_ (Nat.le_of_ble_eq_true rfl) (Nat.le_of_ble_eq_true rfl) dJ9_abs_0f7a4_10
    exact ⟨_, rfl, rfl, by unfold zabs; split <;> first | rfl | contradiction⟩
  · refine lv_iload_n hx hb dJ9_abs_0f7a4_4 rfl (lv_at hl 0 rfl) ?_
    refine lv_ineg hx hb dJ9_abs_0f7a4_5 ?_
    refine lv_goto (tgt := 10) hx hb dJ9_abs_0f7a4_6 (by decide) ?_
    refine z_ri hx hb hr hlocks hI ?_ (Nat.le_of_ble_eq_true rfl) (Nat.le_of_ble_eq_true rfl) dJ9_abs_0f7a4_10
    exact ⟨_, rfl, rfl, by unfold zabs; split <;> first | rfl | contradiction⟩

def fmd (x : Int32) (k : Nat) : Nat := (x.toInt % (k : Int)).toNat
theorem fmd_lt (x : Int32) {k : Nat} (h : 0 < k) : fmd x k < k := by
  have h1 := Int.emod_nonneg x.toInt (show (k : Int) ≠ 0 by omega)
  have h2 := Int.emod_lt_of_pos x.toInt (show (0 : Int) < k by omega)
  unfold fmd
  omega
theorem xor_neg (x : Int32) {k : Nat} (hk : k < 2 ^ 31) : 0 ≤ x ^^^ nI k ↔ 0 ≤ x := by
  rw [Int32.le_iff_toInt_le, Int32.le_iff_toInt_le]
  have h1 : ∀ y : Int32, (0 : Int32).toInt ≤ y.toInt ↔ y.toBitVec.msb = false := fun y => by
    rw [BitVec.msb_eq_toInt]
    show (0 : Int) ≤ y.toBitVec.toInt ↔ _
    simp
  rw [h1, h1, Int32.toBitVec_xor, BitVec.msb_xor, (h1 (nI k)).mp (by rw [nI_toInt hk]; show (0 : Int) ≤ _; omega)]
  simp
theorem fmd_nn {x z : Int32} {k : Nat} (hk : 0 < k) (hk2 : k ≤ 100) (hz : z.toInt = x.toInt.tmod k) (hx : 0 ≤ x ∨ z = 0) : z = nI (fmd x k) := by
  have hl := fmd_lt x hk
  refine Int32.toInt_inj.mp ?_
  rw [nI_toInt (by omega), hz]
  unfold fmd
  rw [Int.toNat_of_nonneg (Int.emod_nonneg _ (by omega))]
  rcases hx with hx | hx
  · exact Int.tmod_eq_emod_of_nonneg (Int32.le_iff_toInt_le.mp hx)
  · rw [hx] at hz
    have h0 : x.toInt.tmod k = 0 := hz.symm
    have h1 := Int.tmod_eq_emod (a := x.toInt) (b := (k : Int))
    have h2 := Int.dvd_of_tmod_eq_zero h0
    rw [h0, Int.emod_eq_zero_of_dvd h2]
theorem fmd_neg {x z : Int32} {k : Nat} (hk : 0 < k) (hk2 : k ≤ 100) (hz : z.toInt = x.toInt.tmod k) (hx : ¬ 0 ≤ x) (h0 : ¬ z = 0) : z + nI k = nI (fmd x k) := by
  have hl := fmd_lt x hk
  have hxi : x.toInt < 0 := by
    rw [Int32.le_iff_toInt_le] at hx
    have : ((0 : Int32).toInt) = 0 := rfl
    omega
  have hzi : z.toInt ≠ 0 := fun q => h0 (Int32.toInt_inj.mp q)
  have h3 := Int.emod_nonneg x.toInt (show (k : Int) ≠ 0 by omega)
  have h4 := Int.emod_lt_of_pos x.toInt (show (0 : Int) < k by omega)
  have h5 := Int.emod_add_mul_ediv x.toInt k
  have h6 := Int.tmod_add_mul_tdiv x.toInt k
  have h7 := Int.lt_tmod_of_pos x.toInt (show (0 : Int) < k by omega)
  have h8 : x.toInt.tmod k ≤ 0 := by
    have e := Int.neg_tmod (-x.toInt) k
    rw [Int.neg_neg] at e
    have e3 := Int.tmod_nonneg (k : Int) (show 0 ≤ -x.toInt by omega)
    omega
  have key : x.toInt % k = x.toInt.tmod k + k := by
    have e1 : (x.toInt % k - x.toInt.tmod k) = k * (x.toInt.tdiv k - x.toInt / k) := by rw [Int.mul_sub]; omega
    rw [hz] at hzi
    have h9 : 0 < x.toInt % k - x.toInt.tmod k := by omega
    have h10 : x.toInt % k - x.toInt.tmod k < k * 2 := by omega
    rw [e1] at h9 h10
    have h11 : 0 < x.toInt.tdiv k - x.toInt / k := Int.pos_of_mul_pos_right h9 (by omega)
    have h12 : x.toInt.tdiv k - x.toInt / k < 2 := Int.lt_of_mul_lt_mul_left h10 (by omega)
    have h13 : x.toInt.tdiv k - x.toInt / k = 1 := by omega
    rw [h13] at e1
    omega
  refine Int32.toInt_inj.mp ?_
  rw [nI_toInt (by omega), Int32.toInt_add, nI_toInt (by omega), hz]
  have e2 : x.toInt.tmod k + (k : Int) = (fmd x k : Nat) := by
    unfold fmd
    rw [Int.toNat_of_nonneg h3]
    omega
  rw [e2, Int.bmod_eq_of_le] <;> omega


set_option maxHeartbeats 4000000 in
set_option maxRecDepth 100000 in
theorem c_J9_floorMod_7cf53 (l : Launch) (G : zK) (B0 : Nat) (F : zM) (x : Int32) (k : Nat) (hk0 : 0 < k) (hk : k ≤ 100) : Met l yJ9_floorMod_7cf53 (Cond.code yJ9_floorMod_7cf53 cJ9_floorMod_7cf53 3 (some FieldType.int) :: zW) (zRm 0 0 0 0) (va_Pc [.int x, .int (nI k)] (zPre G B0 F)) (zQi G B0 (fun r F' => F = F' ∧ r = nI (fmd x k))) 0 0 (zA B0) := by
  refine z_ofF (own := RJ9) (by decide +kernel) rfl (Nat.le_of_ble_eq_true rfl) ?_
  intro p e s m below meth c ls hx hb hr hml hown hlocks hnm hts hl hI
  have hl : lv_has ls 3 [(0, .int x), (1, .int (nI k))] := hl
  refine lv_iload_n hx hb dJ9_floorMod_7cf53_0 rfl (lv_at hl 0 rfl) ?_
  refine lv_iload_n hx hb dJ9_floorMod_7cf53_1 rfl (lv_at hl 1 rfl) ?_
  refine lv_irem hx hb dJ9_floorMod_7cf53_2 (nI_ne0 (by omega) (by omega)) ?_
  refine lv_istore_n (lv' := [(2, .int (x - x / (nI k) * (nI k))), (0, .int x), (1, .int (nI k))]) hx hb dJ9_floorMod_7cf53_3 rfl hl (by decide) rfl (fun ls hl => ?_)
  refine lv_iload_n hx hb dJ9_floorMod_7cf53_4 rfl (lv_at hl 1 rfl) ?_
  refine lv_iload_n hx hb dJ9_floorMod_7cf53_5 rfl (lv_at hl 2 rfl) ?_
  refine lv_ixor hx hb dJ9_floorMod_7cf53_6 ?_
  refine lv_if_ge (tgt := 18) hx hb dJ9_floorMod_7cf53_7 (by decide) (fun hq1 => ?_) (fun hq1 => ?_)
  · refine lv_iload_n hx hb dJ9_floorMod_7cf53_18 rfl (lv_at hl 0 rfl) ?_
    refine z_ri hx hb hr hlocks hI ?_ (Nat.le_of_ble_eq_true rfl) (Nat.le_of_ble_eq_true rfl) dJ9_floorMod_7cf53_19
    have hz : (x - x / nI k * nI k).toInt = x.toInt.tmod k := by rw [rem_toInt, nI_toInt (by omega)]
    exact ⟨_, rfl, rfl, fmd_nn hk0 hk hz (Or.inl ((xor_neg x (by omega)).mp hq1))⟩
  · refine lv_iload_n hx hb dJ9_floorMod_7cf53_10 rfl (lv_at hl 0 rfl) ?_
    refine lv_if_eq (tgt := 18) hx hb dJ9_floorMod_7cf53_11 (by decide) (fun hq2 => ?_) (fun hq2 => ?_)
    · refine lv_iload_n hx hb dJ9_floorMod_7cf53_18 rfl (lv_at hl 0 rfl) ?_
      refine z_ri hx hb hr hlocks hI ?_ (Nat.le_of_ble_eq_true rfl) (Nat.le_of_ble_eq_true rfl) dJ9_floorMod_7cf53_19
      have hz : (x - x / nI k * nI k).toInt = x.toInt.tmod k := by rw [rem_toInt, nI_toInt (by omega)]
      exact ⟨_, rfl, rfl, fmd_nn hk0 hk hz (Or.inr hq2)⟩
    · refine lv_iload_n hx hb dJ9_floorMod_7cf53_14 rfl (lv_at hl 0 rfl) ?_
      refine lv_iload_n hx hb dJ9_floorMod_7cf53_15 rfl (lv_at hl 2 rfl) ?_
      refine lv_iadd hx hb dJ9_floorMod_7cf53_16 ?_
      refine z_ri hx hb hr hlocks hI ?_ (Nat.le_of_ble_eq_true rfl) (Nat.le_of_ble_eq_true rfl) dJ9_floorMod_7cf53_17
      have hz : (x - x / nI k * nI k).toInt = x.toInt.tmod k := by rw [rem_toInt, nI_toInt (by omega)]
      exact ⟨_, rfl, rfl, fmd_neg hk0 hk hz (fun q => hq1 ((xor_neg x (by omega)).mpr q)) hq2⟩
end
section
set_option maxHeartbeats 4000000 in
set_option maxRecDepth 100000 in
theorem c_X1_holds (l : Launch) (G : zK) (B0 : Nat) (F : zM) (r w cap n : Nat) (t : Nat → Int32) (r2 w2 cap2 n2 : Nat) (t2 : Nat → Int32) (pl : Nat) (h : RA G 1 F r w cap n t) (hcap : cap ≤ 100) (h2 : RA G 1 F r2 w2 cap2 n2 t2) (hcap2 : cap2 ≤ 100) (hpl : pl ≤ 300) : Met l yX1_holds (Cond.code yX1_holds cX1_holds 4 (some FieldType.boolean) :: zW) (zRm 0 0 0 0) (va_Pc [.ref r, .ref r2, .int (nI pl)] (zPre G B0 F)) (zQi G B0 (fun r F' => F = F' ∧ r = pI (hld t n t2 n2 pl))) 0 0 (zA B0) := by
  refine z_of (own := RX1) (by decide) rfl (Nat.le_of_ble_eq_true rfl) ?_
  intro p e s m below meth c ls hx hb hr hml hown hlocks hnm hts hl hI
  have hl : lv_has ls 4 [(0, .ref r), (1, .ref r2), (2, .int (nI pl))] := hl
  obtain ⟨xn, xr, f, xw, xf⟩ := id h
  obtain ⟨xn2, xr2, f2, xw2, xf2⟩ := id h2
  refine lv_iload_n hx hb dX1_holds_0 rfl (lv_at hl 2 rfl) ?_
  refine lv_aload_n hx hb dX1_holds_1 rfl (lv_at hl 0 rfl) ?_
  refine z_get hx hb hts hown zlX1 rfl 1 (by decide) (hts _ q32) rfl hI xr rfl dX1_holds_2 ?_
  refine lv_aload_n hx hb dX1_holds_5 rfl (lv_at hl 1 rfl) ?_
  refine z_get hx hb hts hown zlX1 rfl 1 (by decide) (hts _ q32) rfl hI xr2 rfl dX1_holds_6 ?_
  refine lv_isub hx hb dX1_holds_9 ?_
  refine lv_icmp_le (tgt := 15) hx hb dX1_holds_10 (by decide) (fun hq1 => ?_) (fun hq1 => ?_)
  · have hle := (z_le_sub (by omega) (by omega) (by omega)).mp hq1
    refine lv_iconst (v := nI 0) hx hb dX1_holds_15 (by decide) ?_
    refine lv_istore_n (lv' := [(3, .int (nI 0)), (0, .ref r), (1, .ref r2), (2, .int (nI pl))]) hx hb dX1_holds_16 rfl hl (by decide) rfl (fun ls hl => ?_)
    refine z_loop (σ := Nat) (fun k : Nat => [(0, .ref r), (1, .ref r2), (2, .int (nI pl)), (3, .int (nI k))]) (fun (k : Nat) (Fx : zM) => F = Fx ∧ k ≤ n2 ∧ ∀ i, i < k → t (pl + i) = t2 i) (fun k : Nat => n2 - k) 0 (nL := 4) (st := []) ?_ (lv_sub hl [1, 2, 3, 0] rfl) hI ?_
    · exact ⟨rfl, Nat.zero_le _, fun i hi => absurd hi (Nat.not_lt_zero _)⟩
    · intro k F2 ls H locs hi hl hI ih
      have hl : lv_has ls 4 [(0, .ref r), (1, .ref r2), (2, .int (nI pl)), (3, .int (nI k))] := hl
      obtain ⟨hF, hk, hall⟩ := hi
      subst hF
      refine lv_iload_n hx hb dX1_holds_17 rfl (lv_at hl 3 rfl) ?_
      refine lv_aload_n hx hb dX1_holds_18 rfl (lv_at hl 1 rfl) ?_
      refine z_get hx hb hts hown zlX1 rfl 1 (by decide) (hts _ q32) rfl hI xr2 rfl dX1_holds_19 ?_
      refine z_icmp_ge (tgt := 50) (a := k) (b := n2) hx hb dX1_holds_22 (by decide) (by omega) (fun hq3 => ?_) (fun hq3 => ?_)
      · refine lv_iconst (v := nI 1) hx hb dX1_holds_50 (by decide) ?_
        refine z_rz hx hb hr hlocks (Or.inr rfl) hI ?_ (Nat.le_of_ble_eq_true rfl) (Nat.le_of_ble_eq_true rfl) dX1_holds_51
        have hkn : k = n2 := by omega
        subst hkn
        exact ⟨_, rfl, rfl, pI_t ⟨hle, hall⟩⟩
      · refine lv_aload_n hx hb dX1_holds_25 rfl (lv_at hl 0 rfl) ?_
        refine z_get hx hb hts hown zlX1 rfl 0 (by decide) (hts _ q30) rfl hI xr rfl dX1_holds_26 ?_
        refine lv_iload_n hx hb dX1_holds_29 rfl (lv_at hl 2 rfl) ?_
        refine lv_iload_n hx hb dX1_holds_30 rfl (lv_at hl 3 rfl) ?_
        refine lv_iadd hx hb dX1_holds_31 ?_
        refine z_topi (nI_add pl k) ?_
        refine z_ild (k := pl + k) (v := t (pl + k)) hx hb hI xw (by omega) (by omega) (xf (pl + k) (by omega)) dX1_holds_32 ?_
        refine lv_aload_n hx hb dX1_holds_33 rfl (lv_at hl 1 rfl) ?_
        refine z_get hx hb hts hown zlX1 rfl 0 (by decide) (hts _ q30) rfl hI xr2 rfl dX1_holds_34 ?_
        refine lv_iload_n hx hb dX1_holds_37 rfl (lv_at hl 3 rfl) ?_
        refine z_ild (k := k) (v := t2 k) hx hb hI xw2 (by omega) (by omega) (xf2 k (by omega)) dX1_holds_38 ?_
        refine lv_icmp_eq (tgt := 44) hx hb dX1_holds_39 (by decide) (fun hq4 => ?_) (fun hq4 => ?_)
        · refine lv_iinc (k := 3) (v := nI (k + 1)) (lv' := [(3, .int (nI (k + 1))), (0, .ref r), (1, .ref r2), (2, .int (nI pl))]) hx hb dX1_holds_44 hl rfl (nI_add k 1) (by decide) rfl (fun ls hl => ?_)
          refine lv_goto (tgt := 17) hx hb dX1_holds_47 (by decide) ?_
          refine ih (k + 1) _ ls H locs (by first | omega | (dsimp only; omega)) ?_ (lv_sub hl [1, 2, 3, 0] rfl) hI
          refine ⟨rfl, by omega, fun i hi => ?_⟩
          by_cases q : i = k
          · subst q; exact hq4
          · exact hall i (by omega)
        · refine lv_iconst (v := nI 0) hx hb dX1_holds_42 (by decide) ?_
          refine z_rz hx hb hr hlocks (Or.inl rfl) hI ?_ (Nat.le_of_ble_eq_true rfl) (Nat.le_of_ble_eq_true rfl) dX1_holds_43
          exact ⟨_, rfl, rfl, pI_f (fun q => hq4 (q.2 k (by omega)))⟩
  · have hnl : ¬ pl + n2 ≤ n := fun q => hq1 ((z_le_sub (by omega) (by omega) (by omega)).mpr q)
    refine lv_iconst (v := nI 0) hx hb dX1_holds_13 (by decide) ?_
    refine z_rz hx hb hr hlocks (Or.inl rfl) hI ?_ (Nat.le_of_ble_eq_true rfl) (Nat.le_of_ble_eq_true rfl) dX1_holds_14
    exact ⟨_, rfl, rfl, pI_f (fun q => hnl q.1)⟩

set_option maxHeartbeats 4000000 in
set_option maxRecDepth 100000 in
theorem c_X1_firstPlaceOf (l : Launch) (G : zK) (B0 : Nat) (F : zM) (r w cap n : Nat) (t : Nat → Int32) (r2 w2 cap2 n2 : Nat) (t2 : Nat → Int32) (a b : Nat) (h : RA G 1 F r w cap n t) (hcap : cap ≤ 100) (h2 : RA G 1 F r2 w2 cap2 n2 t2) (hcap2 : cap2 ≤ 100) (hab : a ≤ 100) (hbn : b ≤ n) : Met l yX1_firstPlaceOf (Cond.code yX1_firstPlaceOf cX1_firstPlaceOf 5 (some FieldType.int) :: zW) (zRm 1 23 0 0) (va_Pc [.ref r, .ref r2, .int (nI a), .int (nI b)] (zPre G B0 F)) (zQi G B0 (fun r F' => F = F' ∧ r = rI (zfst (hld t n t2 n2) a (b + 1 - n2 - a)))) 0 0 (zA B0) := by
  refine z_of (own := RX1) (by decide) rfl (Nat.le_of_ble_eq_true rfl) ?_
  intro p e s m below meth c ls hx hb hr hml hown hlocks hnm hts hl hI
  have hl : lv_has ls 5 [(0, .ref r), (1, .ref r2), (2, .int (nI a)), (3, .int (nI b))] := hl
  obtain ⟨xn, xr, f, xw, xf⟩ := id h
  obtain ⟨xn2, xr2, f2, xw2, xf2⟩ := id h2
  refine lv_iload_n hx hb dX1_firstPlaceOf_0 rfl (lv_at hl 2 rfl) ?_
  refine lv_istore (lv' := [(4, .int (nI a)), (0, .ref r), (1, .ref r2), (2, .int (nI a)), (3, .int (nI b))]) hx hb dX1_firstPlaceOf_1 hl (by decide) rfl (fun ls hl => ?_)
  refine z_loop (σ := Nat) (fun k : Nat => [(0, .ref r), (1, .ref r2), (2, .int (nI a)), (3, .int (nI b)), (4, .int (nI k))]) (fun (k : Nat) (Fx : zM) => F = Fx ∧ k ≤ 200 ∧ zfst (hld t n t2 n2) a (b + 1 - n2 - a) = zfst (hld t n t2 n2) k (b + 1 - n2 - k)) (fun k : Nat => b + 1 - k) a (nL := 5) (st := []) ?_ (lv_sub hl [1, 2, 3, 4, 0] rfl) hI ?_
  · exact ⟨rfl, by omega, rfl⟩
  · intro k F1 ls H locs hi hl hI ih
    have hl : lv_has ls 5 [(0, .ref r), (1, .ref r2), (2, .int (nI a)), (3, .int (nI b)), (4, .int (nI k))] := hl
    obtain ⟨hF, hk, hz⟩ := hi
    subst hF
    refine lv_iload hx hb dX1_firstPlaceOf_3 (lv_at hl 4 rfl) ?_
    refine lv_iload_n hx hb dX1_firstPlaceOf_5 rfl (lv_at hl 3 rfl) ?_
    refine lv_aload_n hx hb dX1_firstPlaceOf_6 rfl (lv_at hl 1 rfl) ?_
    refine z_get hx hb hts hown zlX1 rfl 1 (by decide) (hts _ q32) rfl hI xr2 rfl dX1_firstPlaceOf_7 ?_
    refine lv_isub hx hb dX1_firstPlaceOf_10 ?_
    refine lv_icmp_gt (tgt := 33) hx hb dX1_firstPlaceOf_11 (by decide) (fun hq2 => ?_) (fun hq2 => ?_)
    · have hgt := (z_lt_sub (by omega) (by omega) (by omega)).mp hq2
      refine lv_iconst (v := -1) hx hb dX1_firstPlaceOf_33 (by decide) ?_
      refine z_ri hx hb hr hlocks hI ?_ (Nat.le_of_ble_eq_true rfl) (Nat.le_of_ble_eq_true rfl) dX1_firstPlaceOf_34
      rw [show b + 1 - n2 - k = 0 by omega] at hz
      exact ⟨_, rfl, rfl, by rw [hz]; rfl⟩
    · have hle : k + n2 ≤ b := Nat.le_of_not_lt fun q => hq2 ((z_lt_sub (by omega) (by omega) (by omega)).mpr q)
      obtain ⟨cc, hcc⟩ : ∃ cc, b + 1 - n2 - k = cc + 1 := ⟨b - n2 - k, by omega⟩
      refine lv_aload_n hx hb dX1_firstPlaceOf_14 rfl (lv_at hl 0 rfl) ?_
      refine lv_aload_n hx hb dX1_firstPlaceOf_15 rfl (lv_at hl 1 rfl) ?_
      refine lv_iload hx hb dX1_firstPlaceOf_16 (lv_at hl 4 rfl) ?_
      refine z_calli hI (z_V (As := [.ref r2, .int (nI k)]) (rest := []) ⟨hx, hb, hml, hown, hts⟩ hI xr rfl (c_X1_holds l G B0 F r w cap n t r2 w2 cap2 n2 t2 k ⟨xn, xr, f, xw, xf⟩ (by omega) ⟨xn2, xr2, f2, xw2, xf2⟩ (by omega) (by omega)) (z_cwV vX1_holds hts q331 ⟨Nat.le_of_ble_eq_true rfl, Nat.le_of_ble_eq_true rfl⟩) rfl hl.1 rfl (lv_room (Nat.le_of_ble_eq_true rfl)) dX1_firstPlaceOf_18 ⟨Nat.le_of_ble_eq_true rfl, Nat.le_of_ble_eq_true rfl⟩) (fun r4 F3 H locs hp5 hI => ?_)
      obtain ⟨rfl, rfl⟩ := hp5
      refine z_ifp_eq (tgt := 27) hx hb dX1_firstPlaceOf_21 (by decide) (fun hq6 => ?_) (fun hq6 => ?_)
      · refine lv_iinc (k := 4) (v := nI (k + 1)) (lv' := [(4, .int (nI (k + 1))), (0, .ref r), (1, .ref r2), (2, .int (nI a)), (3, .int (nI b))]) hx hb dX1_firstPlaceOf_27 hl rfl (nI_add k 1) (by decide) rfl (fun ls hl => ?_)
        refine lv_goto (tgt := 3) hx hb dX1_firstPlaceOf_30 (by decide) ?_
        refine ih (k + 1) _ ls H locs (by first | omega | (dsimp only; omega)) ?_ (lv_sub hl [1, 2, 3, 4, 0] rfl) hI
        refine ⟨rfl, by omega, ?_⟩
        rw [hz, hcc, zfst_f hq6]
        congr 1; omega
      · refine lv_iload hx hb dX1_firstPlaceOf_24 (lv_at hl 4 rfl) ?_
        refine z_ri hx hb hr hlocks hI ?_ (Nat.le_of_ble_eq_true rfl) (Nat.le_of_ble_eq_true rfl) dX1_firstPlaceOf_26
        exact ⟨_, rfl, rfl, by rw [hz, hcc, zfst_t hq6]; rfl⟩

set_option maxHeartbeats 4000000 in
set_option maxRecDepth 100000 in
theorem c_X1_timesAnywhere (l : Launch) (G : zK) (B0 : Nat) (F : zM) (r w cap n : Nat) (t : Nat → Int32) (r2 w2 cap2 n2 : Nat) (t2 : Nat → Int32) (h : RA G 1 F r w cap n t) (hcap : cap ≤ 100) (h2 : RA G 1 F r2 w2 cap2 n2 t2) (hcap2 : cap2 ≤ 100) : Met l yX1_timesAnywhere (Cond.code yX1_timesAnywhere cX1_timesAnywhere 4 (some FieldType.int) :: zW) (zRm 1 23 0 0) (va_Pc [.ref r, .ref r2] (zPre G B0 F)) (zQi G B0 (fun r F' => F = F' ∧ r = nI (zct (hld t n t2 n2) (n + 1 - n2)))) 0 0 (zA B0) := by
  refine z_of (own := RX1) (by decide) rfl (Nat.le_of_ble_eq_true rfl) ?_
  intro p e s m below meth c ls hx hb hr hml hown hlocks hnm hts hl hI
  have hl : lv_has ls 4 [(0, .ref r), (1, .ref r2)] := hl
  obtain ⟨xn, xr, f, xw, xf⟩ := id h
  obtain ⟨xn2, xr2, f2, xw2, xf2⟩ := id h2
  refine lv_iconst (v := nI 0) hx hb dX1_timesAnywhere_0 (by decide) ?_
  refine lv_istore_n (lv' := [(2, .int (nI 0)), (0, .ref r), (1, .ref r2)]) hx hb dX1_timesAnywhere_1 rfl hl (by decide) rfl (fun ls hl => ?_)
  refine lv_iconst (v := nI 0) hx hb dX1_timesAnywhere_2 (by decide) ?_
  refine lv_istore_n (lv' := [(3, .int (nI 0)), (2, .int (nI 0)), (0, .ref r), (1, .ref r2)]) hx hb dX1_timesAnywhere_3 rfl hl (by decide) rfl (fun ls hl => ?_)
  refine z_loop (σ := Nat × Nat) (fun xx : Nat × Nat => match xx with | (k, a) => [(0, .ref r), (1, .ref r2), (3, .int (nI k)), (2, .int (nI a))]) (fun (xx : Nat × Nat) (Fx : zM) => match xx with | (k, a) => F = Fx ∧ k ≤ n + 1 - n2 ∧ a = zct (hld t n t2 n2) k) (fun xx : Nat × Nat => match xx with | (k, a) => n + 1 - k) (0, 0) (nL := 4) (st := []) ?_ (lv_sub hl [2, 3, 0, 1] rfl) hI ?_
  · exact ⟨rfl, Nat.zero_le _, rfl⟩
  · intro xx F1 ls H locs hi hl hI ih
    obtain ⟨k, a⟩ := xx
    have hl : lv_has ls 4 [(0, .ref r), (1, .ref r2), (3, .int (nI k)), (2, .int (nI a))] := hl
    obtain ⟨hF, hk, ha⟩ := hi
    subst hF
    have hcn := zct_le (hld t n t2 n2) k
    refine lv_iload_n hx hb dX1_timesAnywhere_4 rfl (lv_at hl 2 rfl) ?_
    refine lv_aload_n hx hb dX1_timesAnywhere_5 rfl (lv_at hl 0 rfl) ?_
    refine z_get hx hb hts hown zlX1 rfl 1 (by decide) (hts _ q32) rfl hI xr rfl dX1_timesAnywhere_6 ?_
    refine lv_aload_n hx hb dX1_timesAnywhere_9 rfl (lv_at hl 1 rfl) ?_
    refine z_get hx hb hts hown zlX1 rfl 1 (by decide) (hts _ q32) rfl hI xr2 rfl dX1_timesAnywhere_10 ?_
    refine lv_isub hx hb dX1_timesAnywhere_13 ?_
    refine lv_icmp_gt (tgt := 35) hx hb dX1_timesAnywhere_14 (by decide) (fun hq2 => ?_) (fun hq2 => ?_)
    · have hgt := (z_lt_sub (by omega) (by omega) (by omega)).mp hq2
      refine lv_iload_n hx hb dX1_timesAnywhere_35 rfl (lv_at hl 3 rfl) ?_
      refine z_ri hx hb hr hlocks hI ?_ (Nat.le_of_ble_eq_true rfl) (Nat.le_of_ble_eq_true rfl) dX1_timesAnywhere_36
      have hkn : k = n + 1 - n2 := by omega
      subst hkn
      exact ⟨_, rfl, rfl, by rw [ha]⟩
    · have hle : k + n2 ≤ n := Nat.le_of_not_lt fun q => hq2 ((z_lt_sub (by omega) (by omega) (by omega)).mpr q)
      refine lv_aload_n hx hb dX1_timesAnywhere_17 rfl (lv_at hl 0 rfl) ?_
      refine lv_aload_n hx hb dX1_timesAnywhere_18 rfl (lv_at hl 1 rfl) ?_
      refine lv_iload_n hx hb dX1_timesAnywhere_19 rfl (lv_at hl 2 rfl) ?_
      refine z_calli hI (z_V (As := [.ref r2, .int (nI k)]) (rest := []) ⟨hx, hb, hml, hown, hts⟩ hI xr rfl (c_X1_holds l G B0 F r w cap n t r2 w2 cap2 n2 t2 k ⟨xn, xr, f, xw, xf⟩ (by omega) ⟨xn2, xr2, f2, xw2, xf2⟩ (by omega) (by omega)) (z_cwV vX1_holds hts q331 ⟨Nat.le_of_ble_eq_true rfl, Nat.le_of_ble_eq_true rfl⟩) rfl hl.1 rfl (lv_room (Nat.le_of_ble_eq_true rfl)) dX1_timesAnywhere_20 ⟨Nat.le_of_ble_eq_true rfl, Nat.le_of_ble_eq_true rfl⟩) (fun r4 F3 H locs hp5 hI => ?_)
      obtain ⟨rfl, rfl⟩ := hp5
      refine z_ifp_eq (tgt := 29) hx hb dX1_timesAnywhere_23 (by decide) (fun hq6 => ?_) (fun hq6 => ?_)
      · refine lv_iinc (k := 2) (v := nI (k + 1)) (lv' := [(3, .int (nI (k + 1))), (0, .ref r), (1, .ref r2), (2, .int (nI a))]) hx hb dX1_timesAnywhere_29 hl rfl (nI_add k 1) (by decide) rfl (fun ls hl => ?_)
        refine lv_goto (tgt := 4) hx hb dX1_timesAnywhere_32 (by decide) ?_
        refine ih (k + 1, a) _ ls H locs (by first | omega | (dsimp only; omega)) ?_ (lv_sub hl [1, 2, 0, 3] rfl) hI
        exact ⟨rfl, by omega, by first | (rw [zct_t hq6, ha]) | (rw [zct_f hq6, ha])⟩
      · refine lv_iinc (k := 3) (v := nI (a + 1)) (lv' := [(2, .int (nI (a + 1))), (0, .ref r), (1, .ref r2), (3, .int (nI k))]) hx hb dX1_timesAnywhere_26 hl rfl (nI_add a 1) (by decide) rfl (fun ls hl => ?_)
        refine lv_iinc (k := 3) (v := nI (k + 1)) (lv' := [(3, .int (nI (k + 1))), (2, .int (nI (a + 1))), (0, .ref r), (1, .ref r2)]) hx hb dX1_timesAnywhere_29 hl rfl (nI_add k 1) (by decide) rfl (fun ls hl => ?_)
        refine lv_goto (tgt := 4) hx hb dX1_timesAnywhere_32 (by decide) ?_
        refine ih (k + 1, a + 1) _ ls H locs (by first | omega | (dsimp only; omega)) ?_ (lv_sub hl [2, 3, 0, 1] rfl) hI
        exact ⟨rfl, by omega, by first | (rw [zct_t hq6, ha]) | (rw [zct_f hq6, ha])⟩

set_option maxHeartbeats 4000000 in
set_option maxRecDepth 100000 in
theorem c_X1_timesApart (l : Launch) (G : zK) (B0 : Nat) (F : zM) (r w cap n : Nat) (t : Nat → Int32) (r2 w2 cap2 n2 : Nat) (t2 : Nat → Int32) (h : RA G 1 F r w cap n t) (hcap : cap ≤ 100) (h2 : RA G 1 F r2 w2 cap2 n2 t2) (hcap2 : cap2 ≤ 100) : Met l yX1_timesApart (Cond.code yX1_timesApart cX1_timesApart 5 (some FieldType.int) :: zW) (zRm 1 23 0 0) (va_Pc [.ref r, .ref r2] (zPre G B0 F)) (zQi G B0 (fun r F' => F = F' ∧ r = nI (zap (hld t n t2 n2) n2 (n + 1 - n2)).1)) 0 0 (zA B0) := by
  refine z_of (own := RX1) (by decide) rfl (Nat.le_of_ble_eq_true rfl) ?_
  intro p e s m below meth c ls hx hb hr hml hown hlocks hnm hts hl hI
  have hl : lv_has ls 5 [(0, .ref r), (1, .ref r2)] := hl
  obtain ⟨xn, xr, f, xw, xf⟩ := id h
  obtain ⟨xn2, xr2, f2, xw2, xf2⟩ := id h2
  refine lv_iconst (v := nI 0) hx hb dX1_timesApart_0 (by decide) ?_
  refine lv_istore_n (lv' := [(2, .int (nI 0)), (0, .ref r), (1, .ref r2)]) hx hb dX1_timesApart_1 rfl hl (by decide) rfl (fun ls hl => ?_)
  refine lv_iconst (v := nI 0) hx hb dX1_timesApart_2 (by decide) ?_
  refine lv_istore_n (lv' := [(3, .int (nI 0)), (2, .int (nI 0)), (0, .ref r), (1, .ref r2)]) hx hb dX1_timesApart_3 rfl hl (by decide) rfl (fun ls hl => ?_)
  refine lv_iconst (v := nI 0) hx hb dX1_timesApart_4 (by decide) ?_
  refine lv_istore (lv' := [(4, .int (nI 0)), (3, .int (nI 0)), (2, .int (nI 0)), (0, .ref r), (1, .ref r2)]) hx hb dX1_timesApart_5 hl (by decide) rfl (fun ls hl => ?_)
  refine z_loop (σ := Nat × Nat × Nat) (fun xx : Nat × Nat × Nat => match xx with | (k, a, b) => [(0, .ref r), (1, .ref r2), (4, .int (nI k)), (2, .int (nI a)), (3, .int (nI b))]) (fun (xx : Nat × Nat × Nat) (Fx : zM) => match xx with | (k, a, b) => F = Fx ∧ k ≤ n + 1 - n2 ∧ a = (zap (hld t n t2 n2) n2 k).1 ∧ b = (zap (hld t n t2 n2) n2 k).2) (fun xx : Nat × Nat × Nat => match xx with | (k, a, b) => n + 1 - k) (0, 0, 0) (nL := 5) (st := []) ?_ (lv_sub hl [3, 4, 0, 2, 1] rfl) hI ?_
  · exact ⟨rfl, Nat.zero_le _, rfl, rfl⟩
  · intro xx F1 ls H locs hi hl hI ih
    obtain ⟨k, a, b⟩ := xx
    have hl : lv_has ls 5 [(0, .ref r), (1, .ref r2), (4, .int (nI k)), (2, .int (nI a)), (3, .int (nI b))] := hl
    obtain ⟨hF, hk, ha, hb2⟩ := hi
    subst hF
    have hcn := zap_le (hld t n t2 n2) n2 k
    refine lv_iload hx hb dX1_timesApart_7 (lv_at hl 2 rfl) ?_
    refine lv_aload_n hx hb dX1_timesApart_9 rfl (lv_at hl 0 rfl) ?_
    refine z_get hx hb hts hown zlX1 rfl 1 (by decide) (hts _ q32) rfl hI xr rfl dX1_timesApart_10 ?_
    refine lv_aload_n hx hb dX1_timesApart_13 rfl (lv_at hl 1 rfl) ?_
    refine z_get hx hb hts hown zlX1 rfl 1 (by decide) (hts _ q32) rfl hI xr2 rfl dX1_timesApart_14 ?_
    refine lv_isub hx hb dX1_timesApart_17 ?_
    refine lv_icmp_gt (tgt := 54) hx hb dX1_timesApart_18 (by decide) (fun hq2 => ?_) (fun hq2 => ?_)
    · have hgt := (z_lt_sub (by omega) (by omega) (by omega)).mp hq2
      refine lv_iload_n hx hb dX1_timesApart_54 rfl (lv_at hl 3 rfl) ?_
      refine z_ri hx hb hr hlocks hI ?_ (Nat.le_of_ble_eq_true rfl) (Nat.le_of_ble_eq_true rfl) dX1_timesApart_55
      have hkn : k = n + 1 - n2 := by omega
      subst hkn
      exact ⟨_, rfl, rfl, by rw [ha]⟩
    · have hle : k + n2 ≤ n := Nat.le_of_not_lt fun q => hq2 ((z_lt_sub (by omega) (by omega) (by omega)).mpr q)
      refine lv_iload hx hb dX1_timesApart_21 (lv_at hl 2 rfl) ?_
      refine lv_iload_n hx hb dX1_timesApart_23 rfl (lv_at hl 4 rfl) ?_
      refine z_icmp_lt (tgt := 48) (a := k) (b := b) hx hb dX1_timesApart_24 (by decide) (by omega) (fun hq3 => ?_) (fun hq3 => ?_)
      · refine lv_iinc (k := 2) (v := nI (k + 1)) (lv' := [(4, .int (nI (k + 1))), (0, .ref r), (1, .ref r2), (2, .int (nI a)), (3, .int (nI b))]) hx hb dX1_timesApart_48 hl rfl (nI_add k 1) (by decide) rfl (fun ls hl => ?_)
        refine lv_goto (tgt := 7) hx hb dX1_timesApart_51 (by decide) ?_
        refine ih (k + 1, a, b) _ ls H locs (by first | omega | (dsimp only; omega)) ?_ (lv_sub hl [1, 2, 0, 3, 4] rfl) hI
        refine ⟨rfl, by omega, ?_, ?_⟩
        · rw [zap_f (fun q => absurd q.1 (by omega))]; exact ha
        · rw [zap_f (fun q => absurd q.1 (by omega))]; exact hb2
      · refine lv_aload_n hx hb dX1_timesApart_27 rfl (lv_at hl 0 rfl) ?_
        refine lv_aload_n hx hb dX1_timesApart_28 rfl (lv_at hl 1 rfl) ?_
        refine lv_iload hx hb dX1_timesApart_29 (lv_at hl 2 rfl) ?_
        refine z_calli hI (z_V (As := [.ref r2, .int (nI k)]) (rest := []) ⟨hx, hb, hml, hown, hts⟩ hI xr rfl (c_X1_holds l G B0 F r w cap n t r2 w2 cap2 n2 t2 k ⟨xn, xr, f, xw, xf⟩ (by omega) ⟨xn2, xr2, f2, xw2, xf2⟩ (by omega) (by omega)) (z_cwV vX1_holds hts q331 ⟨Nat.le_of_ble_eq_true rfl, Nat.le_of_ble_eq_true rfl⟩) rfl hl.1 rfl (lv_room (Nat.le_of_ble_eq_true rfl)) dX1_timesApart_31 ⟨Nat.le_of_ble_eq_true rfl, Nat.le_of_ble_eq_true rfl⟩) (fun r5 F4 H locs hp6 hI => ?_)
        obtain ⟨rfl, rfl⟩ := hp6
        refine z_ifp_eq (tgt := 48) hx hb dX1_timesApart_34 (by decide) (fun hq7 => ?_) (fun hq7 => ?_)
        · refine lv_iinc (k := 2) (v := nI (k + 1)) (lv' := [(4, .int (nI (k + 1))), (0, .ref r), (1, .ref r2), (2, .int (nI a)), (3, .int (nI b))]) hx hb dX1_timesApart_48 hl rfl (nI_add k 1) (by decide) rfl (fun ls hl => ?_)
          refine lv_goto (tgt := 7) hx hb dX1_timesApart_51 (by decide) ?_
          refine ih (k + 1, a, b) _ ls H locs (by first | omega | (dsimp only; omega)) ?_ (lv_sub hl [1, 2, 0, 3, 4] rfl) hI
          refine ⟨rfl, by omega, ?_, ?_⟩
          · rw [zap_f (fun q => hq7 q.2)]; exact ha
          · rw [zap_f (fun q => hq7 q.2)]; exact hb2
        · refine lv_iinc (k := 3) (v := nI (a + 1)) (lv' := [(2, .int (nI (a + 1))), (0, .ref r), (1, .ref r2), (4, .int (nI k)), (3, .int (nI b))]) hx hb dX1_timesApart_37 hl rfl (nI_add a 1) (by decide) rfl (fun ls hl => ?_)
          refine lv_iload hx hb dX1_timesApart_40 (lv_at hl 3 rfl) ?_
          refine lv_aload_n hx hb dX1_timesApart_42 rfl (lv_at hl 2 rfl) ?_
          refine z_get hx hb hts hown zlX1 rfl 1 (by decide) (hts _ q32) rfl hI xr2 rfl dX1_timesApart_43 ?_
          refine lv_iadd hx hb dX1_timesApart_46 ?_
          refine z_topi (nI_add k n2) ?_
          refine lv_istore_n (lv' := [(3, .int (nI (k + n2))), (2, .int (nI (a + 1))), (0, .ref r), (1, .ref r2), (4, .int (nI k))]) hx hb dX1_timesApart_47 rfl hl (by decide) rfl (fun ls hl => ?_)
          refine lv_iinc (k := 4) (v := nI (k + 1)) (lv' := [(4, .int (nI (k + 1))), (3, .int (nI (k + n2))), (2, .int (nI (a + 1))), (0, .ref r), (1, .ref r2)]) hx hb dX1_timesApart_48 hl rfl (nI_add k 1) (by decide) rfl (fun ls hl => ?_)
          refine lv_goto (tgt := 7) hx hb dX1_timesApart_51 (by decide) ?_
          refine ih (k + 1, a + 1, k + n2) _ ls H locs (by first | omega | (dsimp only; omega)) ?_ (lv_sub hl [3, 4, 0, 2, 1] rfl) hI
          refine ⟨rfl, by omega, ?_, ?_⟩
          · rw [zap_t ⟨by omega, hq7⟩]; show a + 1 = _; rw [ha]
          · rw [zap_t ⟨by omega, hq7⟩]

set_option maxHeartbeats 4000000 in
set_option maxRecDepth 100000 in
theorem c_X3_at (l : Launch) (G : zK) (B0 : Nat) (F : zM) (r w cap n : Nat) (t : Nat → Int32) (pl : Nat) (h : RA G 3 F r w cap n t) (hcap : cap ≤ 100) (hpl : pl < n) : Met l yX3_at (Cond.code yX3_at cX3_at 2 (some FieldType.int) :: zW) (zRm 0 0 0 0) (va_Pc [.ref r, .int (nI pl)] (zPre G B0 F)) (zQi G B0 (fun r F' => F = F' ∧ r = t pl)) 0 0 (zA B0) := by
  refine z_of (own := RX3) (by decide) rfl (Nat.le_of_ble_eq_true rfl) ?_
  intro p e s m below meth c ls hx hb hr hml hown hlocks hnm hts hl hI
  have hl : lv_has ls 2 [(0, .ref r), (1, .int (nI pl))] := hl
  obtain ⟨xn, xr, f, xw, xf⟩ := id h
  refine lv_aload_n hx hb dX3_at_0 rfl (lv_at hl 0 rfl) ?_
  refine z_get hx hb hts hown zlX3 rfl 0 (by decide) (hts _ q743) rfl hI xr rfl dX3_at_1 ?_
  refine lv_iload_n hx hb dX3_at_4 rfl (lv_at hl 1 rfl) ?_
  refine z_ild (k := pl) (v := t pl) hx hb hI xw (by omega) (by omega) (xf pl (by omega)) dX3_at_5 ?_
  refine z_ri hx hb hr hlocks hI ?_ (Nat.le_of_ble_eq_true rfl) (Nat.le_of_ble_eq_true rfl) dX3_at_6
  exact ⟨_, rfl, rfl, rfl⟩

set_option maxHeartbeats 4000000 in
set_option maxRecDepth 100000 in
theorem c_X3_alike (l : Launch) (G : zK) (B0 : Nat) (F : zM) (r w cap n : Nat) (t : Nat → Int32) (r2 w2 cap2 n2 : Nat) (t2 : Nat → Int32) (pl fr : Nat) (h : RA G 3 F r w cap n t) (hcap : cap ≤ 100) (h2 : RA G 3 F r2 w2 cap2 n2 t2) (hcap2 : cap2 ≤ 100) (hpl : pl ≤ n) (hfr : fr ≤ n2) : Met l yX3_alike (Cond.code yX3_alike cX3_alike 5 (some FieldType.int) :: zW) (zRm 0 0 0 0) (va_Pc [.ref r, .int (nI pl), .ref r2, .int (nI fr)] (zPre G B0 F)) (zQi G B0 (fun r' F' => F = F' ∧ ∃ k, r' = nI k ∧ lcp t n pl t2 n2 fr k)) 0 0 (zA B0) := by
  refine z_of (own := RX3) (by decide) rfl (Nat.le_of_ble_eq_true rfl) ?_
  intro p e s m below meth c ls hx hb hr hml hown hlocks hnm hts hl hI
  have hl : lv_has ls 5 [(0, .ref r), (1, .int (nI pl)), (2, .ref r2), (3, .int (nI fr))] := hl
  obtain ⟨xn, xr, f, xw, xf⟩ := id h
  obtain ⟨xn2, xr2, f2, xw2, xf2⟩ := id h2
  refine lv_iconst (v := nI 0) hx hb dX3_alike_0 (by decide) ?_
  refine lv_istore (lv' := [(4, .int (nI 0)), (0, .ref r), (1, .int (nI pl)), (2, .ref r2), (3, .int (nI fr))]) hx hb dX3_alike_1 hl (by decide) rfl (fun ls hl => ?_)
  refine z_loop (σ := Nat) (fun k : Nat => [(0, .ref r), (1, .int (nI pl)), (2, .ref r2), (3, .int (nI fr)), (4, .int (nI k))]) (fun (k : Nat) (Fx : zM) => F = Fx ∧ pl + k ≤ n ∧ fr + k ≤ n2 ∧ ∀ j, j < k → t (pl + j) = t2 (fr + j)) (fun k : Nat => n - k) 0 (nL := 5) (st := []) ?_ (lv_sub hl [1, 2, 3, 4, 0] rfl) hI ?_
  · exact ⟨rfl, hpl, hfr, fun i hi => absurd hi (Nat.not_lt_zero _)⟩
  · intro k F1 ls H locs hi hl hI ih
    have hl : lv_has ls 5 [(0, .ref r), (1, .int (nI pl)), (2, .ref r2), (3, .int (nI fr)), (4, .int (nI k))] := hl
    obtain ⟨hF, hk, hk2, hall⟩ := hi
    subst hF
    refine lv_iload_n hx hb dX3_alike_3 rfl (lv_at hl 1 rfl) ?_
    refine lv_iload hx hb dX3_alike_4 (lv_at hl 4 rfl) ?_
    refine lv_iadd hx hb dX3_alike_6 ?_
    refine z_topi (nI_add pl k) ?_
    refine lv_aload_n hx hb dX3_alike_7 rfl (lv_at hl 0 rfl) ?_
    refine z_get hx hb hts hown zlX3 rfl 1 (by decide) (hts _ q745) rfl hI xr rfl dX3_alike_8 ?_
    refine z_icmp_ge (tgt := 52) (a := pl + k) (b := n) hx hb dX3_alike_11 (by decide) (by omega) (fun hq2 => ?_) (fun hq2 => ?_)
    · refine lv_iload hx hb dX3_alike_52 (lv_at hl 4 rfl) ?_
      refine z_ri hx hb hr hlocks hI ?_ (Nat.le_of_ble_eq_true rfl) (Nat.le_of_ble_eq_true rfl) dX3_alike_54
      refine ⟨_, rfl, rfl, k, rfl, by omega, by omega, hall, fun q => ?_⟩
      first | (exact absurd q.1 (by omega)) | (exact absurd q.2.1 (by omega)) | exact hk q.2.2
    · refine lv_iload_n hx hb dX3_alike_14 rfl (lv_at hl 3 rfl) ?_
      refine lv_iload hx hb dX3_alike_15 (lv_at hl 4 rfl) ?_
      refine lv_iadd hx hb dX3_alike_17 ?_
      refine z_topi (nI_add fr k) ?_
      refine lv_aload_n hx hb dX3_alike_18 rfl (lv_at hl 2 rfl) ?_
      refine z_get hx hb hts hown zlX3 rfl 1 (by decide) (hts _ q745) rfl hI xr2 rfl dX3_alike_19 ?_
      refine z_icmp_ge (tgt := 52) (a := fr + k) (b := n2) hx hb dX3_alike_22 (by decide) (by omega) (fun hq3 => ?_) (fun hq3 => ?_)
      · refine lv_iload hx hb dX3_alike_52 (lv_at hl 4 rfl) ?_
        refine z_ri hx hb hr hlocks hI ?_ (Nat.le_of_ble_eq_true rfl) (Nat.le_of_ble_eq_true rfl) dX3_alike_54
        refine ⟨_, rfl, rfl, k, rfl, by omega, by omega, hall, fun q => ?_⟩
        first | (exact absurd q.1 (by omega)) | (exact absurd q.2.1 (by omega)) | exact hk q.2.2
      · refine lv_aload_n hx hb dX3_alike_25 rfl (lv_at hl 0 rfl) ?_
        refine z_get hx hb hts hown zlX3 rfl 0 (by decide) (hts _ q743) rfl hI xr rfl dX3_alike_26 ?_
        refine lv_iload_n hx hb dX3_alike_29 rfl (lv_at hl 1 rfl) ?_
        refine lv_iload hx hb dX3_alike_30 (lv_at hl 4 rfl) ?_
        refine lv_iadd hx hb dX3_alike_32 ?_
        refine z_topi (nI_add pl k) ?_
        refine z_ild (k := pl + k) (v := t (pl + k)) hx hb hI xw (by omega) (by omega) (xf (pl + k) (by omega)) dX3_alike_33 ?_
        refine lv_aload_n hx hb dX3_alike_34 rfl (lv_at hl 2 rfl) ?_
        refine z_get hx hb hts hown zlX3 rfl 0 (by decide) (hts _ q743) rfl hI xr2 rfl dX3_alike_35 ?_
        refine lv_iload_n hx hb dX3_alike_38 rfl (lv_at hl 3 rfl) ?_
        refine lv_iload hx hb dX3_alike_39 (lv_at hl 4 rfl) ?_
        refine lv_iadd hx hb dX3_alike_41 ?_
        refine z_topi (nI_add fr k) ?_
        refine z_ild (k := fr + k) (v := t2 (fr + k)) hx hb hI xw2 (by omega) (by omega) (xf2 (fr + k) (by omega)) dX3_alike_42 ?_
        refine lv_icmp_ne (tgt := 52) hx hb dX3_alike_43 (by decide) (fun hq4 => ?_) (fun hq4 => ?_)
        · refine lv_iload hx hb dX3_alike_52 (lv_at hl 4 rfl) ?_
          refine z_ri hx hb hr hlocks hI ?_ (Nat.le_of_ble_eq_true rfl) (Nat.le_of_ble_eq_true rfl) dX3_alike_54
          refine ⟨_, rfl, rfl, k, rfl, by omega, by omega, hall, fun q => ?_⟩
          first | (exact absurd q.1 (by omega)) | (exact absurd q.2.1 (by omega)) | exact hq4 q.2.2
        · refine lv_iinc (k := 4) (v := nI (k + 1)) (lv' := [(4, .int (nI (k + 1))), (0, .ref r), (1, .int (nI pl)), (2, .ref r2), (3, .int (nI fr))]) hx hb dX3_alike_46 hl rfl (nI_add k 1) (by decide) rfl (fun ls hl => ?_)
          refine lv_goto (tgt := 3) hx hb dX3_alike_49 (by decide) ?_
          refine ih (k + 1) _ ls H locs (by first | omega | (dsimp only; omega)) ?_ (lv_sub hl [1, 2, 3, 4, 0] rfl) hI
          refine ⟨rfl, by omega, by omega, fun i hi => ?_⟩
          by_cases q : i = k
          · subst q; exact hq4
          · exact hall i (by omega)

set_option maxHeartbeats 4000000 in
set_option maxRecDepth 100000 in
theorem c_X3_has (l : Launch) (G : zK) (B0 : Nat) (F : zM) (r w cap n : Nat) (t : Nat → Int32) (r2 w2 cap2 n2 : Nat) (t2 : Nat → Int32) (pl : Nat) (h : RA G 3 F r w cap n t) (hcap : cap ≤ 100) (h2 : RA G 3 F r2 w2 cap2 n2 t2) (hcap2 : cap2 ≤ 100) (hpl : pl ≤ 300) : Met l yX3_has (Cond.code yX3_has cX3_has 3 (some FieldType.boolean) :: zW) (zRm 1 24 0 0) (va_Pc [.ref r, .ref r2, .int (nI pl)] (zPre G B0 F)) (zQi G B0 (fun r F' => F = F' ∧ r = pI (hld t n t2 n2 pl))) 0 0 (zA B0) := by
  refine z_of (own := RX3) (by decide) rfl (Nat.le_of_ble_eq_true rfl) ?_
  intro p e s m below meth c ls hx hb hr hml hown hlocks hnm hts hl hI
  have hl : lv_has ls 3 [(0, .ref r), (1, .ref r2), (2, .int (nI pl))] := hl
  obtain ⟨xn, xr, f, xw, xf⟩ := id h
  obtain ⟨xn2, xr2, f2, xw2, xf2⟩ := id h2
  refine lv_iload_n hx hb dX3_has_0 rfl (lv_at hl 2 rfl) ?_
  refine lv_aload_n hx hb dX3_has_1 rfl (lv_at hl 1 rfl) ?_
  refine z_get hx hb hts hown zlX3 rfl 1 (by decide) (hts _ q745) rfl hI xr2 rfl dX3_has_2 ?_
  refine lv_iadd hx hb dX3_has_5 ?_
  refine z_topi (nI_add pl n2) ?_
  refine lv_aload_n hx hb dX3_has_6 rfl (lv_at hl 0 rfl) ?_
  refine z_get hx hb hts hown zlX3 rfl 1 (by decide) (hts _ q745) rfl hI xr rfl dX3_has_7 ?_
  refine z_icmp_gt (tgt := 31) (a := pl + n2) (b := n) hx hb dX3_has_10 (by decide) (by omega) (fun hq1 => ?_) (fun hq1 => ?_)
  · refine lv_iconst (v := nI 0) hx hb dX3_has_31 (by decide) ?_
    refine z_rz hx hb hr hlocks (Or.inl rfl) hI ?_ (Nat.le_of_ble_eq_true rfl) (Nat.le_of_ble_eq_true rfl) dX3_has_32
    exact ⟨_, rfl, rfl, pI_f (fun q => absurd q.1 (by omega))⟩
  · refine lv_aload_n hx hb dX3_has_13 rfl (lv_at hl 0 rfl) ?_
    refine lv_iload_n hx hb dX3_has_14 rfl (lv_at hl 2 rfl) ?_
    refine lv_aload_n hx hb dX3_has_15 rfl (lv_at hl 1 rfl) ?_
    refine lv_iconst (v := nI 0) hx hb dX3_has_16 (by decide) ?_
    refine z_calli hI (z_V (As := [.int (nI pl), .ref r2, .int (nI 0)]) (rest := []) ⟨hx, hb, hml, hown, hts⟩ hI xr rfl (c_X3_alike l G B0 F r w cap n t r2 w2 cap2 n2 t2 pl 0 ⟨xn, xr, f, xw, xf⟩ (by omega) ⟨xn2, xr2, f2, xw2, xf2⟩ (by omega) (by omega) (by omega)) (z_cwV vX3_alike hts q895 ⟨Nat.le_of_ble_eq_true rfl, Nat.le_of_ble_eq_true rfl⟩) rfl hl.1 rfl (lv_room (Nat.le_of_ble_eq_true rfl)) dX3_has_17 ⟨Nat.le_of_ble_eq_true rfl, Nat.le_of_ble_eq_true rfl⟩) (fun r3 F2 H locs hp4 hI => ?_)
    obtain ⟨rfl, k5, rfl, hp4⟩ := hp4
    have hkb := hp4.1
    refine lv_aload_n hx hb dX3_has_20 rfl (lv_at hl 1 rfl) ?_
    refine z_get hx hb hts hown zlX3 rfl 1 (by decide) (hts _ q745) rfl hI xr2 rfl dX3_has_21 ?_
    refine z_icmp_ne (tgt := 31) (a := k5) (b := n2) hx hb dX3_has_24 (by decide) (by omega) (fun hq6 => ?_) (fun hq6 => ?_)
    · refine lv_iconst (v := nI 0) hx hb dX3_has_31 (by decide) ?_
      refine z_rz hx hb hr hlocks (Or.inl rfl) hI ?_ (Nat.le_of_ble_eq_true rfl) (Nat.le_of_ble_eq_true rfl) dX3_has_32
      refine ⟨_, rfl, rfl, pI_f (fun q => hp4.2.2.2 ⟨?_, ?_, ?_⟩)⟩
      · have := hp4.2.1; have := q.1; omega
      · have := hp4.2.1; omega
      · rw [Nat.zero_add]; exact q.2 _ (by have := hp4.2.1; omega)
    · refine lv_iconst (v := nI 1) hx hb dX3_has_27 (by decide) ?_
      refine lv_goto (tgt := 32) hx hb dX3_has_28 (by decide) ?_
      refine z_rz hx hb hr hlocks (Or.inr rfl) hI ?_ (Nat.le_of_ble_eq_true rfl) (Nat.le_of_ble_eq_true rfl) dX3_has_32
      refine ⟨_, rfl, rfl, pI_t ⟨by omega, fun i hi => ?_⟩⟩
      have h9 := hp4.2.2.1 i (by omega)
      rw [Nat.zero_add] at h9
      exact h9

set_option maxHeartbeats 4000000 in
set_option maxRecDepth 100000 in
theorem c_X3_find (l : Launch) (G : zK) (B0 : Nat) (F : zM) (r w cap n : Nat) (t : Nat → Int32) (r2 w2 cap2 n2 : Nat) (t2 : Nat → Int32) (a : Nat) (h : RA G 3 F r w cap n t) (hcap : cap ≤ 100) (h2 : RA G 3 F r2 w2 cap2 n2 t2) (hcap2 : cap2 ≤ 100) (hab : a ≤ 200) : Met l yX3_find (Cond.code yX3_find cX3_find 4 (some FieldType.int) :: zW) (zRm 2 46 0 0) (va_Pc [.ref r, .ref r2, .int (nI a)] (zPre G B0 F)) (zQi G B0 (fun r F' => F = F' ∧ r = rI (zfst (hld t n t2 n2) a (n + 1 - n2 - a)))) 0 0 (zA B0) := by
  refine z_of (own := RX3) (by decide) rfl (Nat.le_of_ble_eq_true rfl) ?_
  intro p e s m below meth c ls hx hb hr hml hown hlocks hnm hts hl hI
  have hl : lv_has ls 4 [(0, .ref r), (1, .ref r2), (2, .int (nI a))] := hl
  obtain ⟨xn, xr, f, xw, xf⟩ := id h
  obtain ⟨xn2, xr2, f2, xw2, xf2⟩ := id h2
  refine lv_iload_n hx hb dX3_find_0 rfl (lv_at hl 2 rfl) ?_
  refine lv_istore_n (lv' := [(3, .int (nI a)), (0, .ref r), (1, .ref r2), (2, .int (nI a))]) hx hb dX3_find_1 rfl hl (by decide) rfl (fun ls hl => ?_)
  refine z_loop (σ := Nat) (fun k : Nat => [(0, .ref r), (1, .ref r2), (2, .int (nI a)), (3, .int (nI k))]) (fun (k : Nat) (Fx : zM) => F = Fx ∧ k ≤ 200 ∧ zfst (hld t n t2 n2) a (n + 1 - n2 - a) = zfst (hld t n t2 n2) k (n + 1 - n2 - k)) (fun k : Nat => n + 1 - k) a (nL := 4) (st := []) ?_ (lv_sub hl [1, 2, 3, 0] rfl) hI ?_
  · exact ⟨rfl, by omega, rfl⟩
  · intro k F1 ls H locs hi hl hI ih
    have hl : lv_has ls 4 [(0, .ref r), (1, .ref r2), (2, .int (nI a)), (3, .int (nI k))] := hl
    obtain ⟨hF, hk, hz⟩ := hi
    subst hF
    refine lv_iload_n hx hb dX3_find_2 rfl (lv_at hl 3 rfl) ?_
    refine lv_aload_n hx hb dX3_find_3 rfl (lv_at hl 1 rfl) ?_
    refine z_get hx hb hts hown zlX3 rfl 1 (by decide) (hts _ q745) rfl hI xr2 rfl dX3_find_4 ?_
    refine lv_iadd hx hb dX3_find_7 ?_
    refine z_topi (nI_add k n2) ?_
    refine lv_aload_n hx hb dX3_find_8 rfl (lv_at hl 0 rfl) ?_
    refine z_get hx hb hts hown zlX3 rfl 1 (by decide) (hts _ q745) rfl hI xr rfl dX3_find_9 ?_
    refine z_icmp_gt (tgt := 32) (a := k + n2) (b := n) hx hb dX3_find_12 (by decide) (by omega) (fun hq2 => ?_) (fun hq2 => ?_)
    · refine lv_iconst (v := -1) hx hb dX3_find_32 (by decide) ?_
      refine z_ri hx hb hr hlocks hI ?_ (Nat.le_of_ble_eq_true rfl) (Nat.le_of_ble_eq_true rfl) dX3_find_33
      rw [show n + 1 - n2 - k = 0 by omega] at hz
      exact ⟨_, rfl, rfl, by rw [hz]; rfl⟩
    · obtain ⟨cc, hcc⟩ : ∃ cc, n + 1 - n2 - k = cc + 1 := ⟨n - n2 - k, by omega⟩
      refine lv_aload_n hx hb dX3_find_15 rfl (lv_at hl 0 rfl) ?_
      refine lv_aload_n hx hb dX3_find_16 rfl (lv_at hl 1 rfl) ?_
      refine lv_iload_n hx hb dX3_find_17 rfl (lv_at hl 3 rfl) ?_
      refine z_calli hI (z_V (As := [.ref r2, .int (nI k)]) (rest := []) ⟨hx, hb, hml, hown, hts⟩ hI xr rfl (c_X3_has l G B0 F r w cap n t r2 w2 cap2 n2 t2 k ⟨xn, xr, f, xw, xf⟩ (by omega) ⟨xn2, xr2, f2, xw2, xf2⟩ (by omega) (by omega)) (z_cwV vX3_has hts q891 ⟨Nat.le_of_ble_eq_true rfl, Nat.le_of_ble_eq_true rfl⟩) rfl hl.1 rfl (lv_room (Nat.le_of_ble_eq_true rfl)) dX3_find_18 ⟨Nat.le_of_ble_eq_true rfl, Nat.le_of_ble_eq_true rfl⟩) (fun r4 F3 H locs hp5 hI => ?_)
      obtain ⟨rfl, rfl⟩ := hp5
      refine z_ifp_eq (tgt := 26) hx hb dX3_find_21 (by decide) (fun hq6 => ?_) (fun hq6 => ?_)
      · refine lv_iinc (k := 3) (v := nI (k + 1)) (lv' := [(3, .int (nI (k + 1))), (0, .ref r), (1, .ref r2), (2, .int (nI a))]) hx hb dX3_find_26 hl rfl (nI_add k 1) (by decide) rfl (fun ls hl => ?_)
        refine lv_goto (tgt := 2) hx hb dX3_find_29 (by decide) ?_
        refine ih (k + 1) _ ls H locs (by first | omega | (dsimp only; omega)) ?_ (lv_sub hl [1, 2, 3, 0] rfl) hI
        refine ⟨rfl, by omega, ?_⟩
        rw [hz, hcc, zfst_f hq6]
        congr 1; omega
      · refine lv_iload_n hx hb dX3_find_24 rfl (lv_at hl 3 rfl) ?_
        refine z_ri hx hb hr hlocks hI ?_ (Nat.le_of_ble_eq_true rfl) (Nat.le_of_ble_eq_true rfl) dX3_find_25
        exact ⟨_, rfl, rfl, by rw [hz, hcc, zfst_t hq6]; rfl⟩
end
section
set_option maxHeartbeats 4000000 in
set_option maxRecDepth 100000 in
theorem c_X1_lastPlaceOf (l : Launch) (G : zK) (B0 : Nat) (F : zM) (r w cap n : Nat) (t : Nat → Int32) (r2 w2 cap2 n2 : Nat) (t2 : Nat → Int32) (h : RA G 1 F r w cap n t) (hcap : cap ≤ 100) (h2 : RA G 1 F r2 w2 cap2 n2 t2) (hcap2 : cap2 ≤ 100) : Met l yX1_lastPlaceOf (Cond.code yX1_lastPlaceOf cX1_lastPlaceOf 3 (some FieldType.int) :: zW) (zRm 1 23 0 0) (va_Pc [.ref r, .ref r2] (zPre G B0 F)) (zQi G B0 (fun r F' => F = F' ∧ r = rI (zlst (hld t n t2 n2) (n + 1 - n2)))) 0 0 (zA B0) := by
  refine z_of (own := RX1) (by decide) rfl (Nat.le_of_ble_eq_true rfl) ?_
  intro p e s m below meth c ls hx hb hr hml hown hlocks hnm hts hl hI
  have hl : lv_has ls 3 [(0, .ref r), (1, .ref r2)] := hl
  obtain ⟨xn, xr, f, xw, xf⟩ := id h
  obtain ⟨xn2, xr2, f2, xw2, xf2⟩ := id h2
  refine lv_aload_n hx hb dX1_lastPlaceOf_0 rfl (lv_at hl 0 rfl) ?_
  refine z_get hx hb hts hown zlX1 rfl 1 (by decide) (hts _ q32) rfl hI xr rfl dX1_lastPlaceOf_1 ?_
  refine lv_aload_n hx hb dX1_lastPlaceOf_4 rfl (lv_at hl 1 rfl) ?_
  refine z_get hx hb hts hown zlX1 rfl 1 (by decide) (hts _ q32) rfl hI xr2 rfl dX1_lastPlaceOf_5 ?_
  refine lv_isub hx hb dX1_lastPlaceOf_8 ?_
  refine lv_istore_n (lv' := [(2, .int ((nI n) - (nI n2))), (0, .ref r), (1, .ref r2)]) hx hb dX1_lastPlaceOf_9 rfl hl (by decide) rfl (fun ls hl => ?_)
  refine z_loop (σ := Nat × Int32) (fun xx : Nat × Int32 => match xx with | (cq, z) => [(0, .ref r), (1, .ref r2), (2, .int z)]) (fun (xx : Nat × Int32) (Fx : zM) => match xx with | (cq, z) => F = Fx ∧ cq ≤ n + 1 - n2 ∧ zlst (hld t n t2 n2) (n + 1 - n2) = zlst (hld t n t2 n2) cq ∧ ((cq = 0 ∧ z < 0) ∨ ∃ c1, cq = c1 + 1 ∧ z = nI c1)) (fun xx : Nat × Int32 => match xx with | (cq, z) => cq) (n + 1 - n2, (nI n) - (nI n2)) (nL := 3) (st := []) ?_ (lv_sub hl [1, 2, 0] rfl) hI ?_
  · refine ⟨rfl, Nat.le_refl _, rfl, ?_⟩
    by_cases hmn : n2 ≤ n
    · exact Or.inr ⟨n - n2, by omega, pk_sub hmn⟩
    · exact Or.inl ⟨by omega, pk_sneg (by omega) (by omega)⟩
  · intro xx F1 ls H locs hi hl hI ih
    obtain ⟨cq, z⟩ := xx
    have hl : lv_has ls 3 [(0, .ref r), (1, .ref r2), (2, .int z)] := hl
    obtain ⟨hF, hc, hz, hd⟩ := hi
    subst hF
    rcases hd with ⟨hc0, hz0⟩ | ⟨c1, hc1, hz1⟩
    · refine lv_iload_n hx hb dX1_lastPlaceOf_10 rfl (lv_at hl 2 rfl) ?_
      refine lv_if_lt (tgt := 31) hx hb dX1_lastPlaceOf_11 (by decide) (fun hq2 => ?_) (fun hq2 => ?_)
      · refine lv_iconst (v := -1) hx hb dX1_lastPlaceOf_31 (by decide) ?_
        refine z_ri hx hb hr hlocks hI ?_ (Nat.le_of_ble_eq_true rfl) (Nat.le_of_ble_eq_true rfl) dX1_lastPlaceOf_32
        subst hc0
        exact ⟨_, rfl, rfl, by rw [hz]; rfl⟩
      · exact absurd hz0 hq2
    · subst hc1
      subst hz1
      have hl : lv_has ls 3 [(0, .ref r), (1, .ref r2), (2, .int (nI c1))] := hl
      refine lv_iload_n hx hb dX1_lastPlaceOf_10 rfl (lv_at hl 2 rfl) ?_
      refine z_if_lt (tgt := 31) (a := c1) hx hb dX1_lastPlaceOf_11 (by decide) (by omega) ?_
      refine lv_aload_n hx hb dX1_lastPlaceOf_14 rfl (lv_at hl 0 rfl) ?_
      refine lv_aload_n hx hb dX1_lastPlaceOf_15 rfl (lv_at hl 1 rfl) ?_
      refine lv_iload_n hx hb dX1_lastPlaceOf_16 rfl (lv_at hl 2 rfl) ?_
      refine z_calli hI (z_V (As := [.ref r2, .int (nI c1)]) (rest := []) ⟨hx, hb, hml, hown, hts⟩ hI xr rfl (c_X1_holds l G B0 F r w cap n t r2 w2 cap2 n2 t2 c1 ⟨xn, xr, f, xw, xf⟩ (by omega) ⟨xn2, xr2, f2, xw2, xf2⟩ (by omega) (by omega)) (z_cwV vX1_holds hts q331 ⟨Nat.le_of_ble_eq_true rfl, Nat.le_of_ble_eq_true rfl⟩) rfl hl.1 rfl (lv_room (Nat.le_of_ble_eq_true rfl)) dX1_lastPlaceOf_17 ⟨Nat.le_of_ble_eq_true rfl, Nat.le_of_ble_eq_true rfl⟩) (fun r5 F4 H locs hp6 hI => ?_)
      obtain ⟨rfl, rfl⟩ := hp6
      refine z_ifp_eq (tgt := 25) hx hb dX1_lastPlaceOf_20 (by decide) (fun hq7 => ?_) (fun hq7 => ?_)
      · refine lv_iinc (k := 2) (v := nI c1 + (-1)) (lv' := [(2, .int (nI c1 + (-1))), (0, .ref r), (1, .ref r2)]) hx hb dX1_lastPlaceOf_25 hl rfl rfl (by decide) rfl (fun ls hl => ?_)
        refine lv_goto (tgt := 10) hx hb dX1_lastPlaceOf_28 (by decide) ?_
        refine ih (c1, nI c1 + (-1)) _ ls H locs (by first | omega | (dsimp only; omega)) ?_ (lv_sub hl [1, 2, 0] rfl) hI
        refine ⟨rfl, by omega, ?_, ?_⟩
        · rw [hz, zlst_f hq7]
        · cases c1 with
          | zero => exact Or.inl ⟨rfl, by decide⟩
          | succ c2 => exact Or.inr ⟨c2, rfl, pk_m1 c2⟩
      · refine lv_iload_n hx hb dX1_lastPlaceOf_23 rfl (lv_at hl 2 rfl) ?_
        refine z_ri hx hb hr hlocks hI ?_ (Nat.le_of_ble_eq_true rfl) (Nat.le_of_ble_eq_true rfl) dX1_lastPlaceOf_24
        exact ⟨_, rfl, rfl, by rw [hz, zlst_t hq7]; rfl⟩

set_option maxHeartbeats 4000000 in
set_option maxRecDepth 100000 in
theorem c_X3_count (l : Launch) (G : zK) (B0 : Nat) (F : zM) (r w cap n : Nat) (t : Nat → Int32) (r2 w2 cap2 n2 : Nat) (t2 : Nat → Int32) (ap : Nat) (h : RA G 3 F r w cap n t) (hcap : cap ≤ 100) (h2 : RA G 3 F r2 w2 cap2 n2 t2) (hcap2 : cap2 ≤ 100) (hap : ap ≤ 1) : Met l yX3_count (Cond.code yX3_count cX3_count 5 (some FieldType.int) :: zW) (zRm 3 69 0 0) (va_Pc [.ref r, .ref r2, .int (nI ap)] (zPre G B0 F)) (zQi G B0 (fun r' F' => F = F' ∧ (ap = 0 → r' = nI (zct (hld t n t2 n2) (n + 1 - n2))) ∧ (ap = 1 → r' = nI (zap (hld t n t2 n2) n2 (n + 1 - n2)).1))) 0 0 (zA B0) := by
  refine z_of (own := RX3) (by decide) rfl (Nat.le_of_ble_eq_true rfl) ?_
  intro p e s m below meth c ls hx hb hr hml hown hlocks hnm hts hl hI
  have hl : lv_has ls 5 [(0, .ref r), (1, .ref r2), (2, .int (nI ap))] := hl
  obtain ⟨xn, xr, f, xw, xf⟩ := id h
  obtain ⟨xn2, xr2, f2, xw2, xf2⟩ := id h2
  refine lv_iconst (v := nI 0) hx hb dX3_count_0 (by decide) ?_
  refine lv_istore_n (lv' := [(3, .int (nI 0)), (0, .ref r), (1, .ref r2), (2, .int (nI ap))]) hx hb dX3_count_1 rfl hl (by decide) rfl (fun ls hl => ?_)
  refine lv_aload_n hx hb dX3_count_2 rfl (lv_at hl 1 rfl) ?_
  refine lv_aload_n hx hb dX3_count_3 rfl (lv_at hl 2 rfl) ?_
  refine lv_iconst (v := nI 0) hx hb dX3_count_4 (by decide) ?_
  refine z_calli hI (z_V (As := [.ref r2, .int (nI 0)]) (rest := []) ⟨hx, hb, hml, hown, hts⟩ hI xr rfl (c_X3_find l G B0 F r w cap n t r2 w2 cap2 n2 t2 0 ⟨xn, xr, f, xw, xf⟩ (by omega) ⟨xn2, xr2, f2, xw2, xf2⟩ (by omega) (by omega)) (z_cwV vX3_find hts q916 ⟨Nat.le_of_ble_eq_true rfl, Nat.le_of_ble_eq_true rfl⟩) rfl hl.1 rfl (lv_room (Nat.le_of_ble_eq_true rfl)) dX3_count_5 ⟨Nat.le_of_ble_eq_true rfl, Nat.le_of_ble_eq_true rfl⟩) (fun r2 F1 H locs hp3 hI => ?_)
  obtain ⟨rfl, rfl⟩ := hp3
  refine lv_istore (lv' := [(4, .int (rI (zfst (hld t n t2 n2) 0 (n + 1 - n2 - 0)))), (3, .int (nI 0)), (0, .ref r), (1, .ref r2), (2, .int (nI ap))]) hx hb dX3_count_8 hl (by decide) rfl (fun ls hl => ?_)
  refine z_loop (σ := Nat × Int32 × Nat) (fun xx : Nat × Int32 × Nat => match xx with | (a, z, st) => [(0, .ref r), (1, .ref r2), (2, .int (nI ap)), (3, .int (nI a)), (4, .int z)]) (fun (xx : Nat × Int32 × Nat) (Fx : zM) => match xx with | (a, z, st) => F = Fx ∧ st ≤ 101 ∧ a ≤ st ∧ z = rI (zfst (hld t n t2 n2) st (n + 1 - n2 - st)) ∧ (ap = 0 → a = zct (hld t n t2 n2) st) ∧ (ap = 1 → a = (zap (hld t n t2 n2) n2 st).1 ∧ (zap (hld t n t2 n2) n2 st).2 ≤ st)) (fun xx : Nat × Int32 × Nat => match xx with | (a, z, st) => 102 - st) (0, rI (zfst (hld t n t2 n2) 0 (n + 1 - n2 - 0)), 0) (nL := 5) (st := []) ?_ (lv_sub hl [2, 3, 4, 1, 0] rfl) hI ?_
  · exact ⟨rfl, by omega, Nat.le_refl _, rfl, fun _ => rfl, fun _ => ⟨rfl, Nat.le_refl _⟩⟩
  · intro xx F4 ls H locs hi hl hI ih
    obtain ⟨a, z, st⟩ := xx
    have hl : lv_has ls 5 [(0, .ref r), (1, .ref r2), (2, .int (nI ap)), (3, .int (nI a)), (4, .int z)] := hl
    obtain ⟨hF, hst, ha, hz, hc0, hc1⟩ := hi
    subst hF
    rcases ho : zfst (hld t n t2 n2) st (n + 1 - n2 - st) with _ | k
    · rw [ho] at hz
      have hz : z = -1 := hz
      subst hz
      have hl : lv_has ls 5 [(0, .ref r), (1, .ref r2), (2, .int (nI ap)), (3, .int (nI a)), (4, .int (-1))] := hl
      refine lv_iload hx hb dX3_count_10 (lv_at hl 4 rfl) ?_
      refine lv_iconst (v := -1) hx hb dX3_count_12 (by decide) ?_
      refine lv_icmp_eq (tgt := 48) hx hb dX3_count_13 (by decide) (fun hq5 => ?_) (fun hq5 => ?_)
      · refine lv_iload_n hx hb dX3_count_48 rfl (lv_at hl 3 rfl) ?_
        refine z_ri hx hb hr hlocks hI ?_ (Nat.le_of_ble_eq_true rfl) (Nat.le_of_ble_eq_true rfl) dX3_count_49
        refine ⟨_, rfl, rfl, fun q => ?_, fun q => ?_⟩
        · rw [hc0 q]
          by_cases hcs : st ≤ n + 1 - n2
          · rw [zct_run hcs (fun j h1 h2 => zfst_none ho j h1 (by omega))]
          · rw [zct_run (i := n + 1 - n2) (k := st) (by omega) (fun j h1 h2 h3 => by have := h3.1; omega)]
        · obtain ⟨e1, e2⟩ := hc1 q
          rw [e1]
          by_cases hcs : st ≤ n + 1 - n2
          · rw [zap_run (i := st) (k := n + 1 - n2) hcs (fun j h1 h2 h3 => zfst_none ho j h1 (by omega) h3.2)]
          · rw [zap_run (i := n + 1 - n2) (k := st) (by omega) (fun j h1 h2 h3 => by have := h3.2.1; omega)]
      · exact absurd rfl hq5
    · rw [ho] at hz
      have hz : z = nI k := hz
      subst hz
      obtain ⟨hk1, hk2, hk3, hk4⟩ := zfst_some ho
      have hk5 := hk3.1
      have hl : lv_has ls 5 [(0, .ref r), (1, .ref r2), (2, .int (nI ap)), (3, .int (nI a)), (4, .int (nI k))] := hl
      refine lv_iload hx hb dX3_count_10 (lv_at hl 4 rfl) ?_
      refine lv_iconst (v := -1) hx hb dX3_count_12 (by decide) ?_
      refine lv_icmp_eq (tgt := 48) hx hb dX3_count_13 (by decide) (fun hq6 => ?_) (fun hq6 => ?_)
      · exact absurd hq6 (nI_m1 (by omega))
      · refine lv_iinc (k := 3) (v := nI (a + 1)) (lv' := [(3, .int (nI (a + 1))), (0, .ref r), (1, .ref r2), (2, .int (nI ap)), (4, .int (nI k))]) hx hb dX3_count_16 hl rfl (nI_add a 1) (by decide) rfl (fun ls hl => ?_)
        refine lv_aload_n hx hb dX3_count_19 rfl (lv_at hl 1 rfl) ?_
        refine lv_aload_n hx hb dX3_count_20 rfl (lv_at hl 2 rfl) ?_
        refine lv_iload hx hb dX3_count_21 (lv_at hl 4 rfl) ?_
        refine lv_iload_n hx hb dX3_count_23 rfl (lv_at hl 3 rfl) ?_
        refine z_if_eq (tgt := 38) (a := ap) hx hb dX3_count_24 (by decide) (by omega) (fun hq7 => ?_) (fun hq7 => ?_)
        · refine lv_iconst (v := nI 1) hx hb dX3_count_38 (by decide) ?_
          refine lv_iadd hx hb dX3_count_39 ?_
          refine z_topi (nI_add k 1) ?_
          refine z_calli hI (z_V (As := [.ref r2, .int (nI (k + 1))]) (rest := []) ⟨hx, hb, hml, hown, hts⟩ hI xr rfl (c_X3_find l G B0 F r w cap n t r2 w2 cap2 n2 t2 (k + 1) ⟨xn, xr, f, xw, xf⟩ (by omega) ⟨xn2, xr2, f2, xw2, xf2⟩ (by omega) (by omega)) (z_cwV vX3_find hts q916 ⟨Nat.le_of_ble_eq_true rfl, Nat.le_of_ble_eq_true rfl⟩) rfl hl.1 rfl (lv_room (Nat.le_of_ble_eq_true rfl)) dX3_count_40 ⟨Nat.le_of_ble_eq_true rfl, Nat.le_of_ble_eq_true rfl⟩) (fun r9 F8 H locs hp10 hI => ?_)
          obtain ⟨rfl, rfl⟩ := hp10
          refine lv_istore (lv' := [(4, .int (rI (zfst (hld t n t2 n2) (k + 1) (n + 1 - n2 - (k + 1))))), (3, .int (nI (a + 1))), (0, .ref r), (1, .ref r2), (2, .int (nI ap))]) hx hb dX3_count_43 hl (by decide) rfl (fun ls hl => ?_)
          refine lv_goto (tgt := 10) hx hb dX3_count_45 (by decide) ?_
          refine ih (a + 1, rI (zfst (hld t n t2 n2) (k + 1) (n + 1 - n2 - (k + 1))), k + 1) _ ls H locs (by first | omega | (dsimp only; omega)) ?_ (lv_sub hl [2, 3, 4, 1, 0] rfl) hI
          refine ⟨rfl, by omega, by omega, rfl, fun _ => ?_, fun q => absurd q (by omega)⟩
          rw [zct_t hk3, zct_run hk1 hk4, hc0 hq7]
        · refine lv_iconst (v := nI 1) hx hb dX3_count_27 (by decide) ?_
          refine lv_aload_n hx hb dX3_count_28 rfl (lv_at hl 2 rfl) ?_
          refine z_get hx hb hts hown zlX3 rfl 1 (by decide) (hts _ q745) rfl hI xr2 rfl dX3_count_29 ?_
          refine z_calli hI (z_S (As := [.int (nI 1), .int (nI n2)]) (rest := [.int (nI k), .ref r2, .ref r]) ⟨hx, hb, hml, hown, hts⟩ hI (c_J9_max_7cf53 l G B0 F (nI 1) (nI n2)) (z_cwS vJ9_max_7cf53 hts q917 ⟨Nat.le_of_ble_eq_true rfl, Nat.le_of_ble_eq_true rfl⟩) rfl hl.1 rfl (lv_room (Nat.le_of_ble_eq_true rfl)) dX3_count_32 ⟨Nat.le_of_ble_eq_true rfl, Nat.le_of_ble_eq_true rfl⟩) (fun r12 F11 H locs hp13 hI => ?_)
          obtain ⟨rfl, rfl⟩ := hp13
          refine z_topi (zmax_N (a := 1) (b := n2) (by omega) (by omega)) ?_
          refine lv_goto (tgt := 39) hx hb dX3_count_35 (by decide) ?_
          refine lv_iadd hx hb dX3_count_39 ?_
          refine z_topi (nI_add k (max 1 n2)) ?_
          refine z_calli hI (z_V (As := [.ref r2, .int (nI (k + (max 1 n2)))]) (rest := []) ⟨hx, hb, hml, hown, hts⟩ hI xr rfl (c_X3_find l G B0 F r w cap n t r2 w2 cap2 n2 t2 (k + (max 1 n2)) ⟨xn, xr, f, xw, xf⟩ (by omega) ⟨xn2, xr2, f2, xw2, xf2⟩ (by omega) (by omega)) (z_cwV vX3_find hts q916 ⟨Nat.le_of_ble_eq_true rfl, Nat.le_of_ble_eq_true rfl⟩) rfl hl.1 rfl (lv_room (Nat.le_of_ble_eq_true rfl)) dX3_count_40 ⟨Nat.le_of_ble_eq_true rfl, Nat.le_of_ble_eq_true rfl⟩) (fun r15 F14 H locs hp16 hI => ?_)
          obtain ⟨rfl, rfl⟩ := hp16
          refine lv_istore (lv' := [(4, .int (rI (zfst (hld t n t2 n2) (k + (max 1 n2)) (n + 1 - n2 - (k + (max 1 n2)))))), (3, .int (nI (a + 1))), (0, .ref r), (1, .ref r2), (2, .int (nI ap))]) hx hb dX3_count_43 hl (by decide) rfl (fun ls hl => ?_)
          refine lv_goto (tgt := 10) hx hb dX3_count_45 (by decide) ?_
          refine ih (a + 1, rI (zfst (hld t n t2 n2) (k + (max 1 n2)) (n + 1 - n2 - (k + (max 1 n2)))), k + max 1 n2) _ ls H locs (by first | omega | (dsimp only; omega)) ?_ (lv_sub hl [2, 3, 4, 1, 0] rfl) hI
          obtain ⟨e1, e2⟩ := hc1 (by omega)
          have e3 : zap (hld t n t2 n2) n2 k = zap (hld t n t2 n2) n2 st := zap_run hk1 (fun j h1 h2 q => hk4 j h1 h2 q.2)
          have e4 : zap (hld t n t2 n2) n2 (k + 1) = ((zap (hld t n t2 n2) n2 k).1 + 1, k + n2) := zap_t ⟨by rw [e3]; omega, hk3⟩
          have e5 : zap (hld t n t2 n2) n2 (k + max 1 n2) = zap (hld t n t2 n2) n2 (k + 1) := zap_run (by omega) (fun j h1 h2 q => by have h3 := q.1; rw [e4] at h3; have h3 : k + n2 ≤ j := h3; omega)
          refine ⟨rfl, by omega, by omega, rfl, fun q => absurd q (by omega), fun _ => ?_⟩
          rw [e5, e4, e3, ← e1]
          exact ⟨rfl, by show k + n2 ≤ k + max 1 n2; omega⟩
end
