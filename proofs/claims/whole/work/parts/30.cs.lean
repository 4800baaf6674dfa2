/-! what a state of the system IS, for the class and for the reference: texts (how many words, which), phrases, ranks -/
abbrev Sg : Type := (Nat → Nat) × (Nat → Nat → Int32) × (Nat → Nat) × (Nat → Nat → Int32) × (Nat → Int32)
def sn (σ : Sg) (i : Nat) : Nat := σ.1 i
def st (σ : Sg) (i : Nat) : Nat → Int32 := σ.2.1 i
def pn (σ : Sg) (i : Nat) : Nat := σ.2.2.1 i
def pt (σ : Sg) (i : Nat) : Nat → Int32 := σ.2.2.2.1 i
def rk (σ : Sg) : Nat → Int32 := σ.2.2.2.2
def sT (σ : Sg) (i n : Nat) (t : Nat → Int32) : Sg := (fun j => if j = i then n else σ.1 j, fun j => if j = i then t else σ.2.1 j, σ.2.2.1, σ.2.2.2.1, σ.2.2.2.2)
def sP (σ : Sg) (i n : Nat) (t : Nat → Int32) : Sg := (σ.1, σ.2.1, fun j => if j = i then n else σ.2.2.1 j, fun j => if j = i then t else σ.2.2.2.1 j, σ.2.2.2.2)
def sR (σ : Sg) (k : Nat) (v : Int32) : Sg := (σ.1, σ.2.1, σ.2.2.1, σ.2.2.2.1, upd σ.2.2.2.2 k v)
theorem sT_n {σ : Sg} {i n : Nat} {t : Nat → Int32} : sn (sT σ i n t) i = n := if_pos rfl
theorem sT_t {σ : Sg} {i n : Nat} {t : Nat → Int32} : st (sT σ i n t) i = t := if_pos rfl
theorem sT_no {σ : Sg} {i j n : Nat} {t : Nat → Int32} (h : j ≠ i) : sn (sT σ i n t) j = sn σ j := if_neg h
theorem sT_to {σ : Sg} {i j n : Nat} {t : Nat → Int32} (h : j ≠ i) : st (sT σ i n t) j = st σ j := if_neg h
theorem sP_n {σ : Sg} {i n : Nat} {t : Nat → Int32} : pn (sP σ i n t) i = n := if_pos rfl
theorem sP_t {σ : Sg} {i n : Nat} {t : Nat → Int32} : pt (sP σ i n t) i = t := if_pos rfl
theorem sP_no {σ : Sg} {i j n : Nat} {t : Nat → Int32} (h : j ≠ i) : pn (sP σ i n t) j = pn σ j := if_neg h
theorem sP_to {σ : Sg} {i j n : Nat} {t : Nat → Int32} (h : j ≠ i) : pt (sP σ i n t) j = pt σ j := if_neg h
/-- words are 0 to 99, in all -/
def SgOk (σ : Sg) : Prop := (∀ i, i < 4 → sn σ i ≤ 60 ∧ ∀ j, j < sn σ i → ∃ k, k < 100 ∧ st σ i j = nI k) ∧ ∀ i, i < 2 → pn σ i ≤ 12
def okT (p : Int32) : Prop := ∃ i, i < 4 ∧ p = nI i
def okW (p : Int32) : Prop := ∃ i, i < 100 ∧ p = nI i
def okB (p : Int32) : Prop := ∃ i, i < 2 ∧ p = nI i
def okL (n : Nat) (p : Int32) : Prop := ∃ i, i < n ∧ p = nI i
def okR (n : Nat) (p q : Int32) : Prop := ∃ i j, i ≤ j ∧ j ≤ n ∧ p = nI i ∧ q = nI j
def ix (p : Int32) : Nat := p.toNatClampNeg
theorem ix_nI {k : Nat} (h : k < 2 ^ 31) : ix (nI k) = k := nI_clamp h
def zPX (e1 e2 e3 : String) (o1 o2 o3 : Prop) (E : String) : Prop := (E = e1 ∧ ¬ o1) ∨ (E = e2 ∧ o1 ∧ ¬ o2) ∨ (E = e3 ∧ o1 ∧ o2 ∧ ¬ o3)
def zTh (o1 o2 o3 : Prop) (k : Int32) : Prop := (k = nI 0 ∧ o1 ∧ o2 ∧ o3) ∨ (k = nI 1 ∧ ¬ o1) ∨ (k = nI 2 ∧ o1 ∧ ¬ o2) ∨ (k = nI 3 ∧ o1 ∧ o2 ∧ ¬ o3)
theorem zTh_eq {o1 o2 o3 : Prop} {k k' : Int32} (h : zTh o1 o2 o3 k) (h' : zTh o1 o2 o3 k') : k = k' := by
  rcases h with ⟨a, b, c, d⟩ | ⟨a, b⟩ | ⟨a, b, c⟩ | ⟨a, b, c, d⟩ <;> rcases h' with ⟨a', b', c', d'⟩ | ⟨a', b'⟩ | ⟨a', b', c'⟩ | ⟨a', b', c', d'⟩ <;> first | contradiction | (rw [a, a'])
/-- the class's cells, from B0 on -/
def CS (G : zK) (B0 : Nat) (F : zM) (σ : Sg) : Prop :=
  F B0 = some (zO 2 [.ref (B0 + 1), .ref (B0 + 2), .ref (B0 + 3), .ref (B0 + 4), .ref (B0 + 6), .ref (B0 + 8), .ref (B0 + 10)]) ∧
  (∃ f, F (B0 + 1) = some (zA1 G 4 f) ∧ ∀ i, i < 4 → f i = some (B0 + 11 + 2 * i)) ∧
  (∃ f, F (B0 + 2) = some (zA1 G 2 f) ∧ ∀ i, i < 2 → f i = some (B0 + 19 + 2 * i)) ∧
  (∃ f, F (B0 + 3) = some (zAI G 100 f) ∧ ∀ k, k < 100 → f k = rk σ k) ∧
  (∃ n t, RA G 1 F (B0 + 4) (B0 + 5) 60 n t) ∧ (∃ n t, RA G 1 F (B0 + 6) (B0 + 7) 60 n t) ∧ (∃ n t, RA G 1 F (B0 + 8) (B0 + 9) 12 n t) ∧
  (∃ f, F (B0 + 10) = some (zAI G 61 f)) ∧
  (∀ i, i < 4 → RA G 1 F (B0 + 11 + 2 * i) (B0 + 12 + 2 * i) 60 (sn σ i) (st σ i)) ∧ ∀ i, i < 2 → RA G 1 F (B0 + 19 + 2 * i) (B0 + 20 + 2 * i) 12 (pn σ i) (pt σ i)
/-- what is not the class's stays -/
def zCf (B0 : Nat) (F F' : zM) : Prop := ∀ q, B0 + 23 ≤ q → F' q = F q
theorem zCf.rf {B0 : Nat} {F : zM} : zCf B0 F F := fun _ _ => rfl
theorem zCf.tr {B0 : Nat} {F F1 F2 : zM} (h1 : zCf B0 F F1) (h2 : zCf B0 F1 F2) : zCf B0 F F2 := fun q x => (h2 q x).trans (h1 q x)
theorem zCf.sm {B0 a b : Nat} {F F1 : zM} (h : zSm F F1 a b) (ha : a < B0 + 23) (hb : b < B0 + 23) : zCf B0 F F1 := fun q x => h q (by omega) (by omega)
theorem CS.setT {G : zK} {B0 : Nat} {F F' : zM} {σ : Sg} {i n : Nat} {t : Nat → Int32} (h : CS G B0 F σ) (hi : i < 4) (hs : zSm F F' (B0 + 11 + 2 * i) (B0 + 12 + 2 * i)) (hr : RA G 1 F' (B0 + 11 + 2 * i) (B0 + 12 + 2 * i) 60 n t) : CS G B0 F' (sT σ i n t) := by
  obtain ⟨z0, ⟨f1, z1, e1⟩, ⟨f2, z2, e2⟩, ⟨f3, z3, e3⟩, ⟨n4, t4, z4⟩, ⟨n6, t6, z6⟩, ⟨n8, t8, z8⟩, ⟨f10, z10⟩, zT, zP⟩ := h
  refine ⟨(hs _ (by omega) (by omega)).trans z0, ⟨f1, (hs _ (by omega) (by omega)).trans z1, e1⟩, ⟨f2, (hs _ (by omega) (by omega)).trans z2, e2⟩, ⟨f3, (hs _ (by omega) (by omega)).trans z3, e3⟩, ⟨n4, t4, z4.go (hs _ (by omega) (by omega)) (hs _ (by omega) (by omega))⟩, ⟨n6, t6, z6.go (hs _ (by omega) (by omega)) (hs _ (by omega) (by omega))⟩, ⟨n8, t8, z8.go (hs _ (by omega) (by omega)) (hs _ (by omega) (by omega))⟩, ⟨f10, (hs _ (by omega) (by omega)).trans z10⟩, fun j hj => ?_, fun j hj => (zP j hj).go (hs _ (by omega) (by omega)) (hs _ (by omega) (by omega))⟩
  by_cases q : j = i
  · subst q; rw [sT_n, sT_t]; exact hr
  · rw [sT_no q, sT_to q]; exact (zT j hj).go (hs _ (by omega) (by omega)) (hs _ (by omega) (by omega))
theorem CS.setP {G : zK} {B0 : Nat} {F F' : zM} {σ : Sg} {i n : Nat} {t : Nat → Int32} (h : CS G B0 F σ) (hi : i < 2) (hs : zSm F F' (B0 + 19 + 2 * i) (B0 + 20 + 2 * i)) (hr : RA G 1 F' (B0 + 19 + 2 * i) (B0 + 20 + 2 * i) 12 n t) : CS G B0 F' (sP σ i n t) := by
  obtain ⟨z0, ⟨f1, z1, e1⟩, ⟨f2, z2, e2⟩, ⟨f3, z3, e3⟩, ⟨n4, t4, z4⟩, ⟨n6, t6, z6⟩, ⟨n8, t8, z8⟩, ⟨f10, z10⟩, zT, zP⟩ := h
  refine ⟨(hs _ (by omega) (by omega)).trans z0, ⟨f1, (hs _ (by omega) (by omega)).trans z1, e1⟩, ⟨f2, (hs _ (by omega) (by omega)).trans z2, e2⟩, ⟨f3, (hs _ (by omega) (by omega)).trans z3, e3⟩, ⟨n4, t4, z4.go (hs _ (by omega) (by omega)) (hs _ (by omega) (by omega))⟩, ⟨n6, t6, z6.go (hs _ (by omega) (by omega)) (hs _ (by omega) (by omega))⟩, ⟨n8, t8, z8.go (hs _ (by omega) (by omega)) (hs _ (by omega) (by omega))⟩, ⟨f10, (hs _ (by omega) (by omega)).trans z10⟩, fun j hj => (zT j hj).go (hs _ (by omega) (by omega)) (hs _ (by omega) (by omega)), fun j hj => ?_⟩
  by_cases q : j = i
  · subst q; rw [sP_n, sP_t]; exact hr
  · rw [sP_no q, sP_to q]; exact (zP j hj).go (hs _ (by omega) (by omega)) (hs _ (by omega) (by omega))
theorem CS.setW {G : zK} {B0 : Nat} {F F' : zM} {σ : Sg} {a b cap n : Nat} {t : Nat → Int32} (h : CS G B0 F σ) (hi : (a = B0 + 4 ∧ b = B0 + 5 ∧ cap = 60) ∨ (a = B0 + 6 ∧ b = B0 + 7 ∧ cap = 60) ∨ (a = B0 + 8 ∧ b = B0 + 9 ∧ cap = 12)) (hs : zSm F F' a b) (hr : RA G 1 F' a b cap n t) : CS G B0 F' σ := by
  obtain ⟨z0, ⟨f1, z1, e1⟩, ⟨f2, z2, e2⟩, ⟨f3, z3, e3⟩, ⟨n4, t4, z4⟩, ⟨n6, t6, z6⟩, ⟨n8, t8, z8⟩, ⟨f10, z10⟩, zT, zP⟩ := h
  refine ⟨(hs _ (by omega) (by omega)).trans z0, ⟨f1, (hs _ (by omega) (by omega)).trans z1, e1⟩, ⟨f2, (hs _ (by omega) (by omega)).trans z2, e2⟩, ⟨f3, (hs _ (by omega) (by omega)).trans z3, e3⟩, ?_, ?_, ?_, ⟨f10, (hs _ (by omega) (by omega)).trans z10⟩, fun j hj => (zT j hj).go (hs _ (by omega) (by omega)) (hs _ (by omega) (by omega)), fun j hj => (zP j hj).go (hs _ (by omega) (by omega)) (hs _ (by omega) (by omega))⟩
  · rcases hi with ⟨rfl, rfl, rfl⟩ | ⟨rfl, rfl, rfl⟩ | ⟨rfl, rfl, rfl⟩
    · exact ⟨n, t, hr⟩
    · exact ⟨n4, t4, z4.go (hs _ (by omega) (by omega)) (hs _ (by omega) (by omega))⟩
    · exact ⟨n4, t4, z4.go (hs _ (by omega) (by omega)) (hs _ (by omega) (by omega))⟩
  · rcases hi with ⟨rfl, rfl, rfl⟩ | ⟨rfl, rfl, rfl⟩ | ⟨rfl, rfl, rfl⟩
    · exact ⟨n6, t6, z6.go (hs _ (by omega) (by omega)) (hs _ (by omega) (by omega))⟩
    · exact ⟨n, t, hr⟩
    · exact ⟨n6, t6, z6.go (hs _ (by omega) (by omega)) (hs _ (by omega) (by omega))⟩
  · rcases hi with ⟨rfl, rfl, rfl⟩ | ⟨rfl, rfl, rfl⟩ | ⟨rfl, rfl, rfl⟩
    · exact ⟨n8, t8, z8.go (hs _ (by omega) (by omega)) (hs _ (by omega) (by omega))⟩
    · exact ⟨n8, t8, z8.go (hs _ (by omega) (by omega)) (hs _ (by omega) (by omega))⟩
    · exact ⟨n, t, hr⟩
theorem CS.setR {G : zK} {B0 : Nat} {F F' : zM} {σ : Sg} {k : Nat} {v : Int32} {f : Nat → Int32} (h : CS G B0 F σ) (ho : ∀ q, q ≠ B0 + 3 → F' q = F q) (hw : F' (B0 + 3) = some (zAI G 100 f)) (hf : ∀ j, j < 100 → f j = upd (rk σ) k v j) : CS G B0 F' (sR σ k v) := by
  obtain ⟨z0, ⟨f1, z1, e1⟩, ⟨f2, z2, e2⟩, ⟨f3, z3, e3⟩, ⟨n4, t4, z4⟩, ⟨n6, t6, z6⟩, ⟨n8, t8, z8⟩, ⟨f10, z10⟩, zT, zP⟩ := h
  exact ⟨(ho _ (by omega)).trans z0, ⟨f1, (ho _ (by omega)).trans z1, e1⟩, ⟨f2, (ho _ (by omega)).trans z2, e2⟩, ⟨f, hw, hf⟩, ⟨n4, t4, z4.go (ho _ (by omega)) (ho _ (by omega))⟩, ⟨n6, t6, z6.go (ho _ (by omega)) (ho _ (by omega))⟩, ⟨n8, t8, z8.go (ho _ (by omega)) (ho _ (by omega))⟩, ⟨f10, (ho _ (by omega)).trans z10⟩, fun j hj => (zT j hj).go (ho _ (by omega)) (ho _ (by omega)), fun j hj => (zP j hj).go (ho _ (by omega)) (ho _ (by omega))⟩
theorem CS.setN {G : zK} {B0 : Nat} {F F' : zM} {σ : Sg} {f : Nat → Int32} (h : CS G B0 F σ) (ho : ∀ q, q ≠ B0 + 10 → F' q = F q) (hw : F' (B0 + 10) = some (zAI G 61 f)) : CS G B0 F' σ := by
  obtain ⟨z0, ⟨f1, z1, e1⟩, ⟨f2, z2, e2⟩, ⟨f3, z3, e3⟩, ⟨n4, t4, z4⟩, ⟨n6, t6, z6⟩, ⟨n8, t8, z8⟩, ⟨f10, z10⟩, zT, zP⟩ := h
  exact ⟨(ho _ (by omega)).trans z0, ⟨f1, (ho _ (by omega)).trans z1, e1⟩, ⟨f2, (ho _ (by omega)).trans z2, e2⟩, ⟨f3, (ho _ (by omega)).trans z3, e3⟩, ⟨n4, t4, z4.go (ho _ (by omega)) (ho _ (by omega))⟩, ⟨n6, t6, z6.go (ho _ (by omega)) (ho _ (by omega))⟩, ⟨n8, t8, z8.go (ho _ (by omega)) (ho _ (by omega))⟩, ⟨f, hw⟩, fun j hj => (zT j hj).go (ho _ (by omega)) (ho _ (by omega)), fun j hj => (zP j hj).go (ho _ (by omega)) (ho _ (by omega))⟩
/-- the reference's cells, behind the class's; th: its field 'thrown' -/
def MS (G : zK) (B0 : Nat) (F : zM) (σ : Sg) (th : Int32) : Prop :=
  F (B0 + 23) = some (zO 4 [.int th, .ref (B0 + 24), .ref (B0 + 33), .ref (B0 + 38), .ref (B0 + 40)]) ∧
  (∃ f, F (B0 + 24) = some (zA3 G 4 f) ∧ ∀ i, i < 4 → f i = some (B0 + 25 + 2 * i)) ∧
  (∃ f, F (B0 + 33) = some (zA3 G 2 f) ∧ ∀ i, i < 2 → f i = some (B0 + 34 + 2 * i)) ∧
  (∃ f, F (B0 + 40) = some (zAI G 100 f) ∧ ∀ k, k < 100 → f k = rk σ k) ∧
  (∃ n t, RA G 3 F (B0 + 38) (B0 + 39) 60 n t) ∧
  (∀ i, i < 4 → RA G 3 F (B0 + 25 + 2 * i) (B0 + 26 + 2 * i) 60 (sn σ i) (st σ i)) ∧ ∀ i, i < 2 → RA G 3 F (B0 + 34 + 2 * i) (B0 + 35 + 2 * i) 60 (pn σ i) (pt σ i)
def zMf (B0 : Nat) (F F' : zM) : Prop := ∀ q, q < B0 + 23 ∨ B0 + 41 ≤ q → F' q = F q
theorem zMf.rf {B0 : Nat} {F : zM} : zMf B0 F F := fun _ _ => rfl
theorem zMf.tr {B0 : Nat} {F F1 F2 : zM} (h1 : zMf B0 F F1) (h2 : zMf B0 F1 F2) : zMf B0 F F2 := fun q x => (h2 q x).trans (h1 q x)
theorem zMf.sm {B0 a b : Nat} {F F1 : zM} (h : zSm F F1 a b) (ha : B0 + 23 ≤ a ∧ a < B0 + 41) (hb : B0 + 23 ≤ b ∧ b < B0 + 41) : zMf B0 F F1 := fun q x => h q (by omega) (by omega)
theorem MS.setT {G : zK} {B0 : Nat} {F F' : zM} {σ : Sg} {th : Int32} {i n : Nat} {t : Nat → Int32} (h : MS G B0 F σ th) (hi : i < 4) (hs : zSm F F' (B0 + 25 + 2 * i) (B0 + 26 + 2 * i)) (hr : RA G 3 F' (B0 + 25 + 2 * i) (B0 + 26 + 2 * i) 60 n t) : MS G B0 F' (sT σ i n t) th := by
  obtain ⟨z0, ⟨f1, z1, e1⟩, ⟨f2, z2, e2⟩, ⟨f3, z3, e3⟩, ⟨n4, t4, z4⟩, zT, zP⟩ := h
  refine ⟨(hs _ (by omega) (by omega)).trans z0, ⟨f1, (hs _ (by omega) (by omega)).trans z1, e1⟩, ⟨f2, (hs _ (by omega) (by omega)).trans z2, e2⟩, ⟨f3, (hs _ (by omega) (by omega)).trans z3, e3⟩, ⟨n4, t4, z4.go (hs _ (by omega) (by omega)) (hs _ (by omega) (by omega))⟩, fun j hj => ?_, fun j hj => (zP j hj).go (hs _ (by omega) (by omega)) (hs _ (by omega) (by omega))⟩
  by_cases q : j = i
  · subst q; rw [sT_n, sT_t]; exact hr
  · rw [sT_no q, sT_to q]; exact (zT j hj).go (hs _ (by omega) (by omega)) (hs _ (by omega) (by omega))
theorem MS.setP {G : zK} {B0 : Nat} {F F' : zM} {σ : Sg} {th : Int32} {i n : Nat} {t : Nat → Int32} (h : MS G B0 F σ th) (hi : i < 2) (hs : zSm F F' (B0 + 34 + 2 * i) (B0 + 35 + 2 * i)) (hr : RA G 3 F' (B0 + 34 + 2 * i) (B0 + 35 + 2 * i) 60 n t) : MS G B0 F' (sP σ i n t) th := by
  obtain ⟨z0, ⟨f1, z1, e1⟩, ⟨f2, z2, e2⟩, ⟨f3, z3, e3⟩, ⟨n4, t4, z4⟩, zT, zP⟩ := h
  refine ⟨(hs _ (by omega) (by omega)).trans z0, ⟨f1, (hs _ (by omega) (by omega)).trans z1, e1⟩, ⟨f2, (hs _ (by omega) (by omega)).trans z2, e2⟩, ⟨f3, (hs _ (by omega) (by omega)).trans z3, e3⟩, ⟨n4, t4, z4.go (hs _ (by omega) (by omega)) (hs _ (by omega) (by omega))⟩, fun j hj => (zT j hj).go (hs _ (by omega) (by omega)) (hs _ (by omega) (by omega)), fun j hj => ?_⟩
  by_cases q : j = i
  · subst q; rw [sP_n, sP_t]; exact hr
  · rw [sP_no q, sP_to q]; exact (zP j hj).go (hs _ (by omega) (by omega)) (hs _ (by omega) (by omega))
theorem MS.setW {G : zK} {B0 : Nat} {F F' : zM} {σ : Sg} {th : Int32} {n : Nat} {t : Nat → Int32} (h : MS G B0 F σ th) (hs : zSm F F' (B0 + 38) (B0 + 39)) (hr : RA G 3 F' (B0 + 38) (B0 + 39) 60 n t) : MS G B0 F' σ th := by
  obtain ⟨z0, ⟨f1, z1, e1⟩, ⟨f2, z2, e2⟩, ⟨f3, z3, e3⟩, ⟨n4, t4, z4⟩, zT, zP⟩ := h
  exact ⟨(hs _ (by omega) (by omega)).trans z0, ⟨f1, (hs _ (by omega) (by omega)).trans z1, e1⟩, ⟨f2, (hs _ (by omega) (by omega)).trans z2, e2⟩, ⟨f3, (hs _ (by omega) (by omega)).trans z3, e3⟩, ⟨n, t, hr⟩, fun j hj => (zT j hj).go (hs _ (by omega) (by omega)) (hs _ (by omega) (by omega)), fun j hj => (zP j hj).go (hs _ (by omega) (by omega)) (hs _ (by omega) (by omega))⟩
theorem MS.setR {G : zK} {B0 : Nat} {F F' : zM} {σ : Sg} {th : Int32} {k : Nat} {v : Int32} {f : Nat → Int32} (h : MS G B0 F σ th) (ho : ∀ q, q ≠ B0 + 40 → F' q = F q) (hw : F' (B0 + 40) = some (zAI G 100 f)) (hf : ∀ j, j < 100 → f j = upd (rk σ) k v j) : MS G B0 F' (sR σ k v) th := by
  obtain ⟨z0, ⟨f1, z1, e1⟩, ⟨f2, z2, e2⟩, ⟨f3, z3, e3⟩, ⟨n4, t4, z4⟩, zT, zP⟩ := h
  exact ⟨(ho _ (by omega)).trans z0, ⟨f1, (ho _ (by omega)).trans z1, e1⟩, ⟨f2, (ho _ (by omega)).trans z2, e2⟩, ⟨f, hw, hf⟩, ⟨n4, t4, z4.go (ho _ (by omega)) (ho _ (by omega))⟩, fun j hj => (zT j hj).go (ho _ (by omega)) (ho _ (by omega)), fun j hj => (zP j hj).go (ho _ (by omega)) (ho _ (by omega))⟩
theorem MS.setH {G : zK} {B0 : Nat} {F F' : zM} {σ : Sg} {th th' : Int32} (h : MS G B0 F σ th) (ho : ∀ q, q ≠ B0 + 23 → F' q = F q) (hw : F' (B0 + 23) = some (zO 4 [.int th', .ref (B0 + 24), .ref (B0 + 33), .ref (B0 + 38), .ref (B0 + 40)])) : MS G B0 F' σ th' := by
  obtain ⟨z0, ⟨f1, z1, e1⟩, ⟨f2, z2, e2⟩, ⟨f3, z3, e3⟩, ⟨n4, t4, z4⟩, zT, zP⟩ := h
  exact ⟨hw, ⟨f1, (ho _ (by omega)).trans z1, e1⟩, ⟨f2, (ho _ (by omega)).trans z2, e2⟩, ⟨f3, (ho _ (by omega)).trans z3, e3⟩, ⟨n4, t4, z4.go (ho _ (by omega)) (ho _ (by omega))⟩, fun j hj => (zT j hj).go (ho _ (by omega)) (ho _ (by omega)), fun j hj => (zP j hj).go (ho _ (by omega)) (ho _ (by omega))⟩
theorem MS.go {G : zK} {B0 : Nat} {F F' : zM} {σ : Sg} {th : Int32} (h : MS G B0 F σ th) (ho : ∀ q, B0 + 23 ≤ q → F' q = F q) : MS G B0 F' σ th := by
  obtain ⟨z0, ⟨f1, z1, e1⟩, ⟨f2, z2, e2⟩, ⟨f3, z3, e3⟩, ⟨n4, t4, z4⟩, zT, zP⟩ := h
  exact ⟨(ho _ (by omega)).trans z0, ⟨f1, (ho _ (by omega)).trans z1, e1⟩, ⟨f2, (ho _ (by omega)).trans z2, e2⟩, ⟨f3, (ho _ (by omega)).trans z3, e3⟩, ⟨n4, t4, z4.go (ho _ (by omega)) (ho _ (by omega))⟩, fun j hj => (zT j hj).go (ho _ (by omega)) (ho _ (by omega)), fun j hj => (zP j hj).go (ho _ (by omega)) (ho _ (by omega))⟩
theorem CS.go {G : zK} {B0 : Nat} {F F' : zM} {σ : Sg} (h : CS G B0 F σ) (ho : ∀ q, q < B0 + 23 → F' q = F q) : CS G B0 F' σ := by
  obtain ⟨z0, ⟨f1, z1, e1⟩, ⟨f2, z2, e2⟩, ⟨f3, z3, e3⟩, ⟨n4, t4, z4⟩, ⟨n6, t6, z6⟩, ⟨n8, t8, z8⟩, ⟨f10, z10⟩, zT, zP⟩ := h
  exact ⟨(ho _ (by omega)).trans z0, ⟨f1, (ho _ (by omega)).trans z1, e1⟩, ⟨f2, (ho _ (by omega)).trans z2, e2⟩, ⟨f3, (ho _ (by omega)).trans z3, e3⟩, ⟨n4, t4, z4.go (ho _ (by omega)) (ho _ (by omega))⟩, ⟨n6, t6, z6.go (ho _ (by omega)) (ho _ (by omega))⟩, ⟨n8, t8, z8.go (ho _ (by omega)) (ho _ (by omega))⟩, ⟨f10, (ho _ (by omega)).trans z10⟩, fun j hj => (zT j hj).go (ho _ (by omega)) (ho _ (by omega)), fun j hj => (zP j hj).go (ho _ (by omega)) (ho _ (by omega))⟩
section
variable {p : Program} {l : Launch} {e : Env} {R : Room} {s : State} {m : MethodId} {args : Array Value} {below : List Frame} {meth : Method} {c : Code} {H : Heap} {locs : List Loc} {cells slots : Nat} {Q : State → Prop}
variable {pc : Nat} {ls : Array Slot} {rest st0 : List Value} {G : zK} {B0 : Nat} {F : zM} {mc ms : Nat} {a : Array Value} {PX : String → Prop}
theorem z_xcalli {post : Int32 → zM → Prop} (hI : zI G B0 s H locs F) (hr : vx_Run p l e R s m args below meth c H locs cells slots mc ms (F0 m pc ls st0) rest (zQi G B0 post a) (zXC G B0 F PX) (zA B0))
    (kx : ∀ (E : String) (ce : Cell) (q9 : Addr) (H1 : Heap) (locs1 : List Loc), PX E → zI G B0 s H1 locs1 F → H1[q9]? = some ce → ce.vm = .none → s.vm.findClass E = some ce.cls → vx_W p l e R s m args below meth c H1 locs1 (cells + mc) (slots + ms) Q (F0 m pc ls rest) q9)
    (kk : ∀ (r : Int32) (F' : zM) (H1 : Heap) (locs1 : List Loc), post r F' → zI G B0 s H1 locs1 F' → W p l e R s m args below meth c H1 locs1 (cells + mc) (slots + ms) Q (F0 m (pc + 3) ls (.int r :: rest))) : W p l e R s m args below meth c H locs cells slots Q (F0 m pc ls st0) :=
  z_xcallG hI hr kx (fun v F' H1 locs1 hp hI1 => by obtain ⟨r, rfl, hp⟩ := hp; exact kk r F' H1 locs1 hp hI1)
theorem z_xcallv {post : zM → Prop} (hI : zI G B0 s H locs F) (hr : vx_Run p l e R s m args below meth c H locs cells slots mc ms (F0 m pc ls st0) rest (zQv G B0 post a) (zXC G B0 F PX) (zA B0))
    (kx : ∀ (E : String) (ce : Cell) (q9 : Addr) (H1 : Heap) (locs1 : List Loc), PX E → zI G B0 s H1 locs1 F → H1[q9]? = some ce → ce.vm = .none → s.vm.findClass E = some ce.cls → vx_W p l e R s m args below meth c H1 locs1 (cells + mc) (slots + ms) Q (F0 m pc ls rest) q9)
    (kk : ∀ (F' : zM) (H1 : Heap) (locs1 : List Loc), post F' → zI G B0 s H1 locs1 F' → W p l e R s m args below meth c H1 locs1 (cells + mc) (slots + ms) Q (F0 m (pc + 3) ls rest)) : W p l e R s m args below meth c H locs cells slots Q (F0 m pc ls st0) :=
  z_xcallG hI hr kx (fun v F' H1 locs1 hp hI1 => by obtain ⟨rfl, hp⟩ := hp; exact kk F' H1 locs1 hp hI1)
theorem z_xcallr {post : Nat → zM → Prop} (hI : zI G B0 s H locs F) (hr : vx_Run p l e R s m args below meth c H locs cells slots mc ms (F0 m pc ls st0) rest (zQr G B0 post a) (zXC G B0 F PX) (zA B0))
    (kx : ∀ (E : String) (ce : Cell) (q9 : Addr) (H1 : Heap) (locs1 : List Loc), PX E → zI G B0 s H1 locs1 F → H1[q9]? = some ce → ce.vm = .none → s.vm.findClass E = some ce.cls → vx_W p l e R s m args below meth c H1 locs1 (cells + mc) (slots + ms) Q (F0 m pc ls rest) q9)
    (kk : ∀ (r : Nat) (F' : zM) (H1 : Heap) (locs1 : List Loc), post r F' → zI G B0 s H1 locs1 F' → W p l e R s m args below meth c H1 locs1 (cells + mc) (slots + ms) Q (F0 m (pc + 3) ls (.ref r :: rest))) : W p l e R s m args below meth c H locs cells slots Q (F0 m pc ls st0) :=
  z_xcallG hI hr kx (fun v F' H1 locs1 hp hI1 => by obtain ⟨r, rfl, hp⟩ := hp; exact kk r F' H1 locs1 hp hI1)
end
theorem okL_of {n : Nat} (hn : n ≤ 100) {x : Int32} (h0 : ¬ x < 0) (h1 : ¬ nI n ≤ x) : okL n x := by
  obtain ⟨j, hj, rfl⟩ := nI_of h0
  exact ⟨j, Nat.lt_of_not_le fun q => h1 ((nI_leI (by omega) hj).mpr q), rfl⟩
theorem okL_no {n : Nat} (hn : n ≤ 100) {x : Int32} (h : x < 0 ∨ nI n ≤ x) : ¬ okL n x := by
  rintro ⟨j, hj, rfl⟩
  rcases h with h | h
  · exact nI_pos (by omega) h
  · have := (nI_leI (by omega) (by omega)).mp h
    omega
theorem okR_of {n : Nat} (hn : n ≤ 100) {x y : Int32} (h0 : ¬ x < 0) (h1 : ¬ y < x) (h2 : y ≤ nI n) : okR n x y := by
  obtain ⟨j, hj, rfl⟩ := nI_of h0
  have h3 : ¬ y < 0 := fun q => by
    rw [Int32.lt_iff_toInt_lt] at q h1
    rw [nI_toInt hj] at h1
    have : (0 : Int32).toInt = 0 := rfl
    omega
  obtain ⟨k, hk, rfl⟩ := nI_of h3
  exact ⟨j, k, Nat.le_of_not_lt fun q => h1 ((nI_ltI hk hj).mpr q), (nI_leI hk (by omega)).mp h2, rfl, rfl⟩
theorem okR_no {n : Nat} (hn : n ≤ 100) {x y : Int32} (h : x < 0 ∨ y < x ∨ ¬ y ≤ nI n) : ¬ okR n x y := by
  rintro ⟨i, j, hij, hj, rfl, rfl⟩
  rcases h with h | h | h
  · exact nI_pos (by omega) h
  · have := (nI_ltI (by omega) (by omega)).mp h
    omega
  · exact h ((nI_leI (by omega) (by omega)).mpr hj)
section
variable {p : Program} {l : Launch} {e : Env} {R : Room} {s : State} {m : MethodId} {args : Array Value} {below : List Frame} {meth : Method} {c : Code} {H : Heap} {locs : List Loc} {cells slots : Nat} {Q : State → Prop}
variable {cc : ByteArray} {pc : Nat} {ls : Array Slot} {rest st0 : List Value} {G : zK} {B0 : Nat} {F F' : zM} {mc ms : Nat} {post : Option Value → zM → Prop} {PX : String → Prop}
theorem z_throwW {Qc : Array Value → State → Outcome → State → Prop} {own cls text : String} {ik is ic : Nat} (hexec : p.tables.exec = Jvm.exec) (hb : c.code = cc) (hl : l.stackTraces = false) (hown : s.vm.findClass own = some m.cls) (hlocks : meth.locks = false) (hout : ∀ x ∈ c.exceptionTable.toList, False) (hts : ∀ w ∈ zW, w.before args s = true)
    (ha : ∀ w ∈ (vx_atS own ic cls zNames).filter goodWord, w ∈ zW) (hbb : ∀ w ∈ (vx_atS own ic cls zNames).filter (fun w => !goodWord w), w ∈ zBad cls)
    (hk : Cond.classLink own ik cls ∈ zW) (hini : Cond.initialized cls ∈ zW) (hstr : (own, is, text) ∈ zStr) (hcls : Bundle.fit cls = true) (hcs : cls ∈ zEx)
    (hI : zI G B0 s H locs F) (hsize : ls.size = c.maxLocals)
    (d0 : decode cc pc = .ok (.new ik, 3)) (d3 : decode cc (pc + 3) = .ok (.dup, 1)) (d4 : decode cc (pc + 4) = .ok (.ldc_w is, 3)) (d6 : decode cc (pc + 7) = .ok (.invokespecial ic, 3)) (d9 : decode cc (pc + 10) = .ok (.athrow, 1))
    (hR : 5 < R.frames ∧ (rest.map fun v => v.category).sum + 82 ≤ R.locals ∧ cells + 1 ≤ R.cells ∧ slots + 6 ≤ R.slots) (hp : PX cls) (h1 : cells + 1 ≤ mc) (h2 : slots + 6 ≤ ms) :
    W p l e R s m args below meth c H locs cells slots (vx_MQ below Qc (zXC G B0 F PX) args s mc ms (zA B0)) (F0 m pc ls rest) := by
  obtain ⟨sa, hsa⟩ := hI.1.2.2.1 _ hstr
  have hcast : (Cond.castable cls cls).before args s = true := zCs.use (hI.1.2.2.2.2.2.2.2.2 cls hcs)
  refine vx_throwSW (names := zNames) hexec hb hl hown hcls (by decide +kernel) (hts _ hk) (hts _ hini) hsa (vx_hat (fun w hw => hts w (ha w hw)) hbb (vx_c hcast (vx_c (va_Nw.use rfl (hI.1.2.1 _ (List.mem_of_getElem? (i := 5) rfl))) (vx_c (va_Nw.use rfl (hI.1.2.1 _ (List.mem_of_getElem? (i := 6) rfl))) (vx_c (va_Nw.use rfl (hI.1.2.1 _ (List.mem_of_getElem? (i := 7) rfl))) vx_n))))) (fun w hw => ?_) hI.1.2.2.2.1 hI.1.2.2.2.2.1 hI.2.1 hsize d0 d3 d4 d6 d9 (fun x hx => (hout x hx).elim) hR.1 hR.2.1 hR.2.2.1 hR.2.2.2 hlocks (fun t hvm hz hk9 => ⟨(), trivial, ⟨hp, fun b e' hb' => (hI.2.2.1 b e' hb').kept (hk9 b (hI.lt hb')), hI.2.2.2.1⟩, Nat.le_trans hI.2.1.1 hz, fun q q1 q2 => (hk9 q (Nat.lt_of_lt_of_le q1 hI.2.1.1)).trans (hI.2.1.2.1 q q1 q2)⟩) hI.2.1.2.2 h1 h2
  have key : ∀ x : Cond, x ∈ zW → vx_ot x = true := fun x hx => by
    have h3 := (List.mem_filter.mp hx).2
    simp only [vx_ot, h3, Bool.or_true]
  rcases List.mem_cons.mp hw with rfl | hw
  · exact key _ hk
  · rcases List.mem_cons.mp hw with rfl | hw
    · exact key _ hini
    · by_cases g : goodWord w = true
      · simp only [vx_ot, g, Bool.or_true]
      · have h4 := hbb w (List.mem_filter.mpr ⟨hw, by simp [g]⟩)
        simp only [zBad, List.mem_cons, List.not_mem_nil, or_false] at h4
        rcases h4 with rfl | rfl | rfl | rfl <;> rfl
end
theorem okL_lt {n : Nat} (hn : n ≤ 100) {x : Int32} (h0 : ¬ x < 0) (h1 : x < nI n) : ∃ i, i < n ∧ x = nI i := by
  obtain ⟨j, hj, rfl⟩ := nI_of h0
  exact ⟨j, (nI_ltI hj (by omega)).mp h1, rfl⟩
theorem okL_nlt {n : Nat} (hn : n ≤ 100) {x : Int32} (h : x < 0 ∨ ¬ x < nI n) : ¬ ∃ i, i < n ∧ x = nI i := by
  rintro ⟨j, hj, rfl⟩
  rcases h with h | h
  · exact nI_pos (by omega) h
  · exact h ((nI_ltI (by omega) (by omega)).mpr hj)
theorem okB_of {x : Int32} (h : x = 0 ∨ x = nI 1) : okB x := h.elim (fun q => ⟨0, by decide, q⟩) (fun q => ⟨1, by decide, q⟩)
theorem okB_no {x : Int32} (h1 : ¬ x = 0) (h2 : ¬ x = nI 1) : ¬ okB x := by
  rintro ⟨j, hj, rfl⟩
  match j, hj with
  | 0, _ => exact h1 rfl
  | 1, _ => exact h2 rfl
