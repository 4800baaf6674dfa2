/-! rows of words, as the class and the reference keep them: n words t 0, t 1 .. in an array of cap places -/
def RA (G : zK) (ci : Nat) (F : zM) (r w cap n : Nat) (t : Nat → Int32) : Prop := n ≤ cap ∧ F r = some (zO ci [.ref w, .int (nI n)]) ∧ ∃ f : Nat → Int32, F w = some (zAI G cap f) ∧ ∀ j, j < n → f j = t j
def zSm (F F' : zM) (a b : Nat) : Prop := ∀ q, q ≠ a → q ≠ b → F' q = F q
theorem zne {F : zM} {a b : Nat} {e1 e2 : va_E} (h1 : F a = some e1) (h2 : F b = some e2) (h : e1 ≠ e2) : a ≠ b := fun q => h (by subst q; exact Option.some.inj (h1.symm.trans h2))
theorem zSm.rf {F : zM} {a b : Nat} : zSm F F a b := fun _ _ _ => rfl
theorem zSm.tr {F F1 F2 : zM} {a b : Nat} (h1 : zSm F F1 a b) (h2 : zSm F1 F2 a b) : zSm F F2 a b := fun q x y => (h2 q x y).trans (h1 q x y)
theorem zSm.l {F F1 : zM} {a b : Nat} (h : ∀ q, q ≠ a → F1 q = F q) : zSm F F1 a b := fun q x _ => h q x
theorem zSm.r {F F1 : zM} {a b : Nat} (h : ∀ q, q ≠ b → F1 q = F q) : zSm F F1 a b := fun q _ y => h q y
theorem RA.go {G : zK} {ci : Nat} {F F' : zM} {r w cap n : Nat} {t : Nat → Int32} (h : RA G ci F r w cap n t) (h1 : F' r = F r) (h2 : F' w = F w) : RA G ci F' r w cap n t := by
  obtain ⟨a, b, f, c, d⟩ := h
  exact ⟨a, h1.trans b, f, h2.trans c, d⟩
theorem RA.cg {G : zK} {ci : Nat} {F : zM} {r w cap n : Nat} {t t' : Nat → Int32} (h : RA G ci F r w cap n t) (e : ∀ j, j < n → t j = t' j) : RA G ci F r w cap n t' := by
  obtain ⟨a, b, f, c, d⟩ := h
  exact ⟨a, b, f, c, fun j hj => (d j hj).trans (e j hj)⟩
theorem RA.ne {G : zK} {ci : Nat} {F : zM} {r w cap n : Nat} {t : Nat → Int32} (h : RA G ci F r w cap n t) : r ≠ w := by
  obtain ⟨a, b, f, c, d⟩ := h
  exact zne b c (fun q => by cases q)
theorem RA.ne2 {G : zK} {ci ci' : Nat} {F : zM} {r w cap n r' w' cap' n' : Nat} {t t' : Nat → Int32} (h : RA G ci F r w cap n t) (h' : RA G ci' F r' w' cap' n' t') : r ≠ w' := by
  obtain ⟨a, b, f, c, d⟩ := h
  obtain ⟨a', b', f', c', d'⟩ := h'
  exact zne b c' (fun q => by cases q)
def bI (P : Prop) [Decidable P] : Int32 := if P then nI 1 else nI 0
theorem bI_t {P : Prop} [Decidable P] (h : P) : nI 1 = bI P := (if_pos h).symm
theorem bI_f {P : Prop} [Decidable P] (h : ¬ P) : nI 0 = bI P := (if_neg h).symm
theorem bI_or {P : Prop} [Decidable P] : bI P = 0 ∨ bI P = 1 := by
  by_cases h : P
  · exact Or.inr (if_pos h)
  · exact Or.inl (if_neg h)
theorem bI_eq0 {P : Prop} [Decidable P] : bI P = 0 ↔ ¬ P := by
  by_cases h : P
  · simp only [bI, if_pos h, h, not_true_eq_false, iff_false]; decide
  · simp only [bI, if_neg h, h, not_false_eq_true, iff_true]; rfl
/-- how often x stands among the first k words -/
def cnt (t : Nat → Int32) (x : Int32) : Nat → Nat
  | 0 => 0
  | k + 1 => cnt t x k + (if t k = x then 1 else 0)
theorem cnt_le (t : Nat → Int32) (x : Int32) : ∀ k, cnt t x k ≤ k
  | 0 => Nat.le_refl _
  | k + 1 => by
    have h := cnt_le t x k
    simp only [cnt]
    split <;> omega
/-- how many of the first k words differ -/
def dif (t q : Nat → Int32) : Nat → Nat
  | 0 => 0
  | k + 1 => dif t q k + (if t k = q k then 0 else 1)
theorem dif_le (t q : Nat → Int32) : ∀ k, dif t q k ≤ k
  | 0 => Nat.le_refl _
  | k + 1 => by
    have h := dif_le t q k
    simp only [dif]
    split <;> omega
theorem dif_0 {t q : Nat → Int32} : ∀ {k : Nat}, (∀ j, j < k → t j = q j) → dif t q k = 0
  | 0, _ => rfl
  | k + 1, h => by
    simp only [dif, if_pos (h k (Nat.lt_succ_self k)), dif_0 (fun j hj => h j (Nat.lt_succ_of_lt hj))]
theorem dif_cg {t q t' q' : Nat → Int32} : ∀ {k : Nat}, (∀ j, j < k → t j = t' j) → (∀ j, j < k → q j = q' j) → dif t q k = dif t' q' k
  | 0, _, _ => rfl
  | k + 1, h, h' => by
    simp only [dif, h k (Nat.lt_succ_self k), h' k (Nat.lt_succ_self k), dif_cg (fun j hj => h j (Nat.lt_succ_of_lt hj)) (fun j hj => h' j (Nat.lt_succ_of_lt hj))]
/-- the phrase q of m words stands in t (n words) at p -/
def hld (t : Nat → Int32) (n : Nat) (q : Nat → Int32) (m p : Nat) : Prop := p + m ≤ n ∧ ∀ i, i < m → t (p + i) = q i
noncomputable def hldD (t : Nat → Int32) (n : Nat) (q : Nat → Int32) (m p : Nat) : Decidable (hld t n q m p) := Classical.propDecidable _
def catt (t : Nat → Int32) (n : Nat) (q : Nat → Int32) : Nat → Int32 := fun j => if j < n then t j else q (j - n)
def inst (t : Nat → Int32) (p : Nat) (x : Int32) : Nat → Int32 := fun j => if j < p then t j else if j = p then x else t (j - 1)
def clot (t : Nat → Int32) (a b : Nat) : Nat → Int32 := fun j => if j < a then t j else t (j + (b - a))
def swpt (t : Nat → Int32) (a b : Nat) : Nat → Int32 := fun j => if j = b then t a else if j = a then t b else t j
def revt (t : Nat → Int32) (a b : Nat) : Nat → Int32 := fun j => if a ≤ j ∧ j < b then t (a + b - 1 - j) else t j
def revk (t : Nat → Int32) (a b i : Nat) : Nat → Int32 := fun j => if (a ≤ j ∧ j < a + i) ∨ (b - i ≤ j ∧ j < b) then t (a + b - 1 - j) else t j
theorem z_le_sub {k n m : Nat} (hk : k < 2 ^ 20) (hn : n < 2 ^ 20) (hm : m < 2 ^ 20) : nI k ≤ nI n - nI m ↔ k + m ≤ n := by
  rw [Int32.le_iff_toInt_le, pk_sub_toInt (by omega) (by omega), nI_toInt (by omega)]
  omega
theorem z_lt_sub {k n m : Nat} (hk : k < 2 ^ 20) (hn : n < 2 ^ 20) (hm : m < 2 ^ 20) : nI n - nI m < nI k ↔ n < k + m := by
  rw [Int32.lt_iff_toInt_lt, pk_sub_toInt (by omega) (by omega), nI_toInt (by omega)]
  omega
/-- the first k from a on, c of them looked at, with P -/
noncomputable def zfst (P : Nat → Prop) : Nat → Nat → Option Nat
  | _, 0 => none
  | a, c + 1 => (Classical.propDecidable (P a)).casesOn (fun _ => zfst P (a + 1) c) (fun _ => some a)
theorem zfst_t {P : Nat → Prop} {a c : Nat} (h : P a) : zfst P a (c + 1) = some a := by
  simp only [zfst]
  cases Classical.propDecidable (P a) with
  | isTrue _ => rfl
  | isFalse q => exact absurd h q
theorem zfst_f {P : Nat → Prop} {a c : Nat} (h : ¬ P a) : zfst P a (c + 1) = zfst P (a + 1) c := by
  simp only [zfst]
  cases Classical.propDecidable (P a) with
  | isTrue q => exact absurd q h
  | isFalse _ => rfl
def rI : Option Nat → Int32
  | none => -1
  | some k => nI k
/-- the last k under c with P -/
noncomputable def zlst (P : Nat → Prop) : Nat → Option Nat
  | 0 => none
  | c + 1 => (Classical.propDecidable (P c)).casesOn (fun _ => zlst P c) (fun _ => some c)
theorem zlst_t {P : Nat → Prop} {c : Nat} (h : P c) : zlst P (c + 1) = some c := by
  simp only [zlst]
  cases Classical.propDecidable (P c) with
  | isTrue _ => rfl
  | isFalse q => exact absurd h q
theorem zlst_f {P : Nat → Prop} {c : Nat} (h : ¬ P c) : zlst P (c + 1) = zlst P c := by
  simp only [zlst]
  cases Classical.propDecidable (P c) with
  | isTrue q => exact absurd q h
  | isFalse _ => rfl
/-- how many k under c have P -/
noncomputable def zct (P : Nat → Prop) : Nat → Nat
  | 0 => 0
  | c + 1 => zct P c + (Classical.propDecidable (P c)).casesOn (fun _ => 0) (fun _ => 1)
theorem zct_t {P : Nat → Prop} {c : Nat} (h : P c) : zct P (c + 1) = zct P c + 1 := by
  simp only [zct]
  cases Classical.propDecidable (P c) with
  | isTrue _ => rfl
  | isFalse q => exact absurd h q
theorem zct_f {P : Nat → Prop} {c : Nat} (h : ¬ P c) : zct P (c + 1) = zct P c := by
  simp only [zct]
  cases Classical.propDecidable (P c) with
  | isTrue q => exact absurd q h
  | isFalse _ => rfl
theorem zct_le (P : Nat → Prop) : ∀ c, zct P c ≤ c
  | 0 => Nat.le_refl _
  | c + 1 => by
    have h := zct_le P c
    by_cases q : P c
    · rw [zct_t q]; omega
    · rw [zct_f q]; omega
/-- apart: (how many, where the next one may begin) of the places under c, for phrases of m words -/
noncomputable def zap (P : Nat → Prop) (m : Nat) : Nat → Nat × Nat
  | 0 => (0, 0)
  | c + 1 => (Classical.propDecidable ((zap P m c).2 ≤ c ∧ P c)).casesOn (fun _ => zap P m c) (fun _ => ((zap P m c).1 + 1, c + m))
theorem zap_t {P : Nat → Prop} {m c : Nat} (h : (zap P m c).2 ≤ c ∧ P c) : zap P m (c + 1) = ((zap P m c).1 + 1, c + m) := by
  simp only [zap]
  cases Classical.propDecidable ((zap P m c).2 ≤ c ∧ P c) with
  | isTrue _ => rfl
  | isFalse q => exact absurd h q
theorem zap_f {P : Nat → Prop} {m c : Nat} (h : ¬ ((zap P m c).2 ≤ c ∧ P c)) : zap P m (c + 1) = zap P m c := by
  simp only [zap]
  cases Classical.propDecidable ((zap P m c).2 ≤ c ∧ P c) with
  | isTrue q => exact absurd q h
  | isFalse _ => rfl
theorem zap_le (P : Nat → Prop) (m : Nat) : ∀ c, (zap P m c).1 ≤ c ∧ (zap P m c).2 ≤ c + m
  | 0 => ⟨Nat.le_refl _, Nat.zero_le _⟩
  | c + 1 => by
    have h := zap_le P m c
    by_cases q : (zap P m c).2 ≤ c ∧ P c
    · rw [zap_t q]; exact ⟨by show (zap P m c).1 + 1 ≤ c + 1; omega, by show c + m ≤ c + 1 + m; omega⟩
    · rw [zap_f q]; exact ⟨by omega, by omega⟩
noncomputable def pI (P : Prop) : Int32 := @bI P (Classical.propDecidable P)
theorem pI_t {P : Prop} (h : P) : nI 1 = pI P := @bI_t P (Classical.propDecidable P) h
theorem pI_f {P : Prop} (h : ¬ P) : nI 0 = pI P := @bI_f P (Classical.propDecidable P) h
theorem pI_or {P : Prop} : pI P = 0 ∨ pI P = 1 := @bI_or P (Classical.propDecidable P)
theorem pI_eq0 {P : Prop} : pI P = 0 ↔ ¬ P := @bI_eq0 P (Classical.propDecidable P)
theorem pI_cg {P P' : Prop} (h : P ↔ P') : pI P = pI P' := by rw [propext h]
theorem pI_n (P : Prop) : ∃ k : Nat, k < 2 ∧ pI P = nI k := by
  by_cases h : P
  · exact ⟨1, by decide, (pI_t h).symm⟩
  · exact ⟨0, by decide, (pI_f h).symm⟩
section
variable {p : Program} {l : Launch} {e : Env} {R : Room} {s : State} {m : MethodId} {args : Array Value} {below : List Frame} {meth : Method} {c : Code} {H : Heap} {locs : List Loc} {cells slots : Nat} {Q : State → Prop}
variable {cc : ByteArray} {pc : Nat} {ls : Array Slot} {rest : List Value}
theorem z_ifp_eq (hexec : p.tables.exec = Jvm.exec) (hb : c.code = cc) {P : Prop} {off : Int} {tgt : Nat} (hdg : decode cc pc = .ok (.ifCond .eq off, 3)) (ht : (pc : Int) + off = (tgt : Int)) (kt : ¬ P → W p l e R s m args below meth c H locs cells slots Q (F0 m tgt ls rest)) (kf : P → W p l e R s m args below meth c H locs cells slots Q (F0 m (pc + 3) ls rest)) : W p l e R s m args below meth c H locs cells slots Q (F0 m pc ls (.int (pI P) :: rest)) :=
  lv_if_eq hexec hb hdg ht (fun h => kt (pI_eq0.mp h)) (fun h => kf (Classical.byContradiction fun q => h (pI_eq0.mpr q)))
theorem z_ifp_ne (hexec : p.tables.exec = Jvm.exec) (hb : c.code = cc) {P : Prop} {off : Int} {tgt : Nat} (hdg : decode cc pc = .ok (.ifCond .ne off, 3)) (ht : (pc : Int) + off = (tgt : Int)) (kt : P → W p l e R s m args below meth c H locs cells slots Q (F0 m tgt ls rest)) (kf : ¬ P → W p l e R s m args below meth c H locs cells slots Q (F0 m (pc + 3) ls rest)) : W p l e R s m args below meth c H locs cells slots Q (F0 m pc ls (.int (pI P) :: rest)) :=
  lv_if_ne hexec hb hdg ht (fun h => kt (Classical.byContradiction fun q => h (pI_eq0.mpr q))) (fun h => kf (pI_eq0.mp h))
end
theorem cnt_pos {t : Nat → Int32} {x : Int32} : ∀ {n k : Nat}, k < n → t k = x → 0 < cnt t x n
  | 0, k, h, _ => absurd h (Nat.not_lt_zero _)
  | n + 1, k, h, e => by
    simp only [cnt]
    by_cases q : k = n
    · subst q; rw [if_pos e]; omega
    · have := cnt_pos (n := n) (show k < n by omega) e
      omega
theorem revk_s {t : Nat → Int32} {a b i : Nat} (hi : i < (b - a) / 2) (j : Nat) : swpt (revk t a b i) (a + i) (b - 1 - i) j = revk t a b (i + 1) j := by
  simp only [swpt, revk]
  by_cases h1 : j = b - 1 - i
  · subst h1
    rw [if_pos rfl, if_neg (by omega), if_pos (by omega)]
    congr 1; omega
  · rw [if_neg h1]
    by_cases h2 : j = a + i
    · subst h2
      rw [if_pos rfl, if_neg (by omega), if_pos (by omega)]
      congr 1; omega
    · rw [if_neg h2]
      by_cases h3 : (a ≤ j ∧ j < a + i) ∨ (b - i ≤ j ∧ j < b)
      · rw [if_pos h3, if_pos (by omega)]
      · rw [if_neg h3, if_neg (by omega)]
theorem revk_0 {t : Nat → Int32} {a b : Nat} (j : Nat) : t j = revk t a b 0 j := by
  simp only [revk]
  rw [if_neg (by omega)]
theorem revk_e {t : Nat → Int32} {a b : Nat} (hab : a ≤ b) (j : Nat) : revk t a b ((b - a) / 2) j = revt t a b j := by
  simp only [revk, revt]
  by_cases h3 : (a ≤ j ∧ j < a + (b - a) / 2) ∨ (b - (b - a) / 2 ≤ j ∧ j < b)
  · rw [if_pos h3, if_pos (by omega)]
  · rw [if_neg h3]
    by_cases h4 : a ≤ j ∧ j < b
    · rw [if_pos h4]; congr 1; omega
    · rw [if_neg h4]
/-- how many words from p on are those of q from i on -/
def lcp (t : Nat → Int32) (n p : Nat) (q : Nat → Int32) (m i : Nat) (k : Nat) : Prop := p + k ≤ n ∧ i + k ≤ m ∧ (∀ j, j < k → t (p + j) = q (i + j)) ∧ ¬ (p + k < n ∧ i + k < m ∧ t (p + k) = q (i + k))
theorem catt_lo {t q : Nat → Int32} {n j : Nat} (h : j < n) : catt t n q j = t j := if_pos h
theorem catt_hi {t q : Nat → Int32} {n k : Nat} : catt t n q (n + k) = q k := by
  simp only [catt]
  rw [if_neg (by omega)]
  congr 1; omega
theorem catt_0 {t q : Nat → Int32} (j : Nat) : catt t 0 q j = q j := by
  simp only [catt]
  rw [if_neg (by omega)]
  congr 1
theorem zfst_some {P : Nat → Prop} : ∀ {c a k : Nat}, zfst P a c = some k → a ≤ k ∧ k < a + c ∧ P k ∧ ∀ j, a ≤ j → j < k → ¬ P j
  | 0, a, k, h => by simp [zfst] at h
  | c + 1, a, k, h => by
    by_cases q : P a
    · rw [zfst_t q] at h
      cases h
      exact ⟨Nat.le_refl _, by omega, q, fun j h1 h2 => absurd h1 (by omega)⟩
    · rw [zfst_f q] at h
      obtain ⟨h1, h2, h3, h4⟩ := zfst_some h
      refine ⟨by omega, by omega, h3, fun j j1 j2 => ?_⟩
      by_cases e : j = a
      · subst e; exact q
      · exact h4 j (by omega) j2
theorem zfst_none {P : Nat → Prop} : ∀ {c a : Nat}, zfst P a c = none → ∀ j, a ≤ j → j < a + c → ¬ P j
  | 0, a, _, j, h1, h2 => absurd h1 (by omega)
  | c + 1, a, h, j, h1, h2 => by
    by_cases q : P a
    · rw [zfst_t q] at h
      cases h
    · rw [zfst_f q] at h
      by_cases e : j = a
      · subst e; exact q
      · exact zfst_none h j (by omega) (by omega)
theorem zct_run {P : Nat → Prop} {i : Nat} : ∀ {k : Nat}, i ≤ k → (∀ j, i ≤ j → j < k → ¬ P j) → zct P k = zct P i
  | 0, h, _ => by rw [show i = 0 by omega]
  | k + 1, h, q => by
    by_cases e : i = k + 1
    · rw [e]
    · rw [zct_f (q k (by omega) (by omega)), zct_run (k := k) (by omega) (fun j a b => q j a (by omega))]
theorem zap_run {P : Nat → Prop} {m i : Nat} : ∀ {k : Nat}, i ≤ k → (∀ j, i ≤ j → j < k → ¬ ((zap P m i).2 ≤ j ∧ P j)) → zap P m k = zap P m i
  | 0, h, _ => by rw [show i = 0 by omega]
  | k + 1, h, q => by
    by_cases e : i = k + 1
    · rw [e]
    · have h1 := zap_run (k := k) (by omega) (fun j a b => q j a (by omega))
      rw [zap_f (by rw [h1]; exact q k (by omega) (by omega)), h1]
theorem nI_m1 {k : Nat} (h : k < 2 ^ 31) : nI k ≠ -1 := fun q => absurd (nI_pos' h) (by rw [q]; decide)
/-- the entry of a method of java.lang.Math: by the table of natives, which has no row for it -/
theorem z_ofF {l : Launch} {G : zK} {B0 : Nat} {F : zM} {mc ms : Nat} {post : Option Value → zM → Prop} {cc : ByteArray} {y : MethodName} {maxL : Nat} {ret : Option FieldType} {rm : Room} {av : List Value} {own : String} (hy : plainFor y = true) (hown : y.cls = own) (hn : (lg_sl av).length ≤ maxL)
    (body : ∀ (p : Program) (e : Env) (s : State) (m : MethodId) (below : List Frame) (meth : Method) (c : Code) (ls : Array Slot), p.tables.exec = Jvm.exec → c.code = cc → meth.sig.returnType = ret → c.maxLocals = maxL → s.vm.findClass own = some m.cls → meth.locks = false → meth.name = y.name → (∀ w ∈ zW, w.before av.toArray s = true) → lv_has ls maxL (lv_args 0 av) → zI G B0 s s.heap [] F →
      W p l e rm s m av.toArray below meth c s.heap [] 0 0 (MQ below (zQo G B0 post) av.toArray s mc ms (zA B0)) (F0 m 0 ls [])) : Met l y (Cond.code y cc maxL ret :: zW) rm (va_Pc av (zPre G B0 F)) (zQo G B0 post) mc ms (zA B0) := by
  subst hown
  refine MetFree.of_bodySF (code := cc) (maxLocals := maxL) (ret := ret) hy ?_ ?_
  · intro args s m h hn
    obtain ⟨meth, c, h1, h2, h3, h4, h5, h6, -, -⟩ := Cond.code_spec hn (atoms_spec (ws := Cond.code y cc maxL ret :: zW) h _ List.mem_cons_self)
    exact ⟨meth, c, h1, h2, h3, h4, h5, h6⟩
  · intro p e s m args below meth c s₁ B hml hP _
    obtain ⟨rfl, hI⟩ := hP
    have hh0 : s₁.heap = s.heap := by rw [B.state]; rfl
    have hts := atoms_spec (ws := Cond.code y cc maxL ret :: zW) B.pre
    have hl := lv_entry av (n := maxL) hn
    have hb := body p e s m below meth c _ B.exec B.bytes B.returns hml (findClass_of_methodNamed B.named) B.notSynchronized (name_of_methodNamed B.named B.method).1 (fun w hw => hts w (List.mem_cons_of_mem _ hw)) hl hI.I
    rw [← lg_entry_eq] at hb
    obtain ⟨t, a1, o, b1, b2, b3⟩ := hb s₁ hh0 (Stand.of_body B)
    exact ⟨t, o, a1, b1, b2, ⟨b3.1, b3.2⟩⟩
