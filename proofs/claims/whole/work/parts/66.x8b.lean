/-! the law's walk: one row a call -/
def zCtx (p : Program) (s : State) (m : MethodId) (c : Code) (b L B0 : Nat) (xs : Nat → Int32) : Prop := p.tables.exec = Jvm.exec ∧ c.code = cL_law ∧ c.maxLocals = 9 ∧ s.vm.findClass RL = some m.cls ∧ (∀ w ∈ zW, w.before #[Value.ref b] s = true) ∧ va_X b L xs s s.heap ∧ b < B0 ∧ s.heap.size = B0 ∧ L ≤ 2560
abbrev zLv (b B0 i : Nat) : List (Nat × Value) := [(0, .ref b), (1, .ref B0), (2, .ref (B0 + 23)), (3, .ref (B0 + 41)), (4, .ref (B0 + 42)), (5, .int (nI i))]
def zLI (G : zK) (B0 : Nat) (F : zM) (σ : Sg) (th : Int32) : Prop := CS G B0 F σ ∧ MS G B0 F σ th ∧ zWk σ ∧ (∃ fo, F (B0 + 41) = some (zAL G 1 fo)) ∧ ∃ fd, F (B0 + 42) = some (zAD G 1 fd)
theorem MS.goB {G : zK} {B0 : Nat} {F F' : zM} {σ : Sg} {th : Int32} (h : MS G B0 F σ th) (ho : ∀ q, B0 + 23 ≤ q → q < B0 + 41 → F' q = F q) : MS G B0 F' σ th := by
  have h1 := MS.go (F' := fun q => if q < B0 + 41 then F' q else F q) h (fun q hq => by
    by_cases e : q < B0 + 41
    · rw [if_pos e]; exact ho q hq e
    · rw [if_neg e])
  obtain ⟨z0, ⟨f1, z1, e1⟩, ⟨f2, z2, e2⟩, ⟨f3, z3, e3⟩, ⟨n4, t4, z4⟩, zT, zP⟩ := h1
  have k : ∀ q, q < B0 + 41 → F' q = (fun q => if q < B0 + 41 then F' q else F q) q := fun q hq => (if_pos hq).symm
  exact ⟨(k _ (by omega)).trans z0, ⟨f1, (k _ (by omega)).trans z1, e1⟩, ⟨f2, (k _ (by omega)).trans z2, e2⟩, ⟨f3, (k _ (by omega)).trans z3, e3⟩, ⟨n4, t4, z4.go (k _ (by omega)) (k _ (by omega))⟩, fun j hj => (zT j hj).go (k _ (by omega)) (k _ (by omega)), fun j hj => (zP j hj).go (k _ (by omega)) (k _ (by omega))⟩
theorem zLI_end {G : zK} {B0 : Nat} {F1 F2 : zM} {σ1 σ2 : Sg} {th2 : Int32} {fo : Nat → Int64} {fd : Nat → UInt64} (hC1 : CS G B0 F1 σ1) (hO1 : F1 (B0 + 41) = some (zAL G 1 fo)) (hD1 : F1 (B0 + 42) = some (zAD G 1 fd)) (hM2 : MS G B0 F2 σ2 th2) (hf2 : zMf B0 F1 F2) (e : σ2 = σ1) (hW : zWk σ1) : zLI G B0 F2 σ1 th2 := by
  subst e
  exact ⟨hC1.go (fun q hq => hf2 q (Or.inl hq)), hM2, hW, ⟨fo, (hf2 _ (Or.inr (Nat.le_refl _))).trans hO1⟩, fd, (hf2 _ (Or.inr (Nat.le_succ _))).trans hD1⟩
theorem zTh_0 {o1 o2 o3 : Prop} {k : Int32} (h : zTh o1 o2 o3 k) (e : k = 0) : o1 ∧ o2 ∧ o3 := by
  subst e
  rcases h with ⟨a, h⟩ | ⟨a, -⟩ | ⟨a, -⟩ | ⟨a, -⟩
  · exact h
  · exact absurd a (by decide)
  · exact absurd a (by decide)
  · exact absurd a (by decide)
theorem zTh_n {o1 o2 o3 : Prop} {k : Int32} (h : zTh o1 o2 o3 k) (e : ¬ k = 0) : ¬ (o1 ∧ o2 ∧ o3) := by
  rintro ⟨h1, h2, h3⟩
  rcases h with ⟨a, -⟩ | ⟨-, b⟩ | ⟨-, -, b⟩ | ⟨-, -, -, b⟩
  · exact e (a.trans nI_0)
  · exact b h1
  · exact b h2
  · exact b h3
theorem lg_self {x : Int64} : lg_cmp x x = 0 := by
  unfold lg_cmp
  rw [if_neg (fun q => by have q2 : x < x := q; rw [Int64.lt_iff_toInt_lt] at q2; omega)]
  simp
section
variable {p : Program} {l : Launch} {e : Env} {R : Room} {s : State} {m : MethodId} {args : Array Value} {below : List Frame} {meth : Method} {c : Code} {H : Heap} {locs : List Loc} {cells slots : Nat} {Q : State → Prop}
variable {cc : ByteArray} {pc : Nat} {ls : Array Slot} {rest : List Value} {G : zK} {B0 : Nat} {F : zM}
theorem z_sld (hexec : p.tables.exec = Jvm.exec) (hb : c.code = cc) (hI : zI G B0 s H locs F) {b L k : Nat} {xs : Nat → Int32} (hX : va_X b L xs s s.heap) (hbB : b < B0) (hsz : s.heap.size = B0) (hL : L ≤ 2560) (hk : k < L) (hdg : decode cc pc = .ok (.iaload, 1))
    (kk : W p l e R s m args below meth c H locs cells slots Q (F0 m (pc + 1) ls (.int (xs k) :: rest))) : W p l e R s m args below meth c H locs cells slots Q (F0 m pc ls (.int (nI k) :: .ref b :: rest)) := by
  refine va_sld hexec hb hX (by omega) (A := zA B0) (Nat.not_le.mpr hbB) hI.2.1 (vp_in_nI hk (by omega)) hdg ?_
  rw [nI_clamp (by omega)]
  exact kk
theorem z_slen (hexec : p.tables.exec = Jvm.exec) (hb : c.code = cc) (hI : zI G B0 s H locs F) {b L : Nat} {xs : Nat → Int32} (hX : va_X b L xs s s.heap) (hbB : b < B0) (hsz : s.heap.size = B0) (hdg : decode cc pc = .ok (.arraylength, 1))
    (kk : W p l e R s m args below meth c H locs cells slots Q (F0 m (pc + 1) ls (.int (nI L) :: rest))) : W p l e R s m args below meth c H locs cells slots Q (F0 m pc ls (.ref b :: rest)) :=
  va_slen hexec hb hX (by omega) (A := zA B0) (Nat.not_le.mpr hbB) hI.2.1 hdg kk
end
