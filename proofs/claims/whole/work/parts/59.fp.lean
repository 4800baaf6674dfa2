/-! floats: quotients of small numbers are no NaN -/
def fz_ni (f : FP.Core.Fmt) : FP.Core.Datum → Prop
  | .nan => False
  | .inf _ => True
  | .fin _ c q => c < 2 ^ f.p ∧ q ≤ f.qmax
def fz_wf (f : FP.Core.Fmt) : Prop := f.tails < 2 ^ f.p ∧ f.qmin ≤ f.qmax
theorem fz_wf64 : fz_wf FP.Core.b64 := ⟨by decide +kernel, by decide +kernel⟩
theorem fz_wf32 : fz_wf FP.Core.b32 := ⟨by decide +kernel, by decide +kernel⟩
theorem fz_settle {f : FP.Core.Fmt} (h : fz_wf f) (s : Bool) (c : Nat) (q : Int) : fz_ni f (FP.Core.settle f s c q) := by
  unfold FP.Core.settle FP.Core.bound
  split
  · split
    · exact ⟨by assumption, by assumption⟩
    · exact trivial
  · split
    · exact ⟨h.1, by assumption⟩
    · exact trivial
theorem fz_rr {f : FP.Core.Fmt} (h : fz_wf f) (s : Bool) (num den : Nat) (e : Int) : fz_ni f (FP.Core.roundRatio f s num den e) := by
  unfold FP.Core.roundRatio
  split
  · exact ⟨Nat.two_pow_pos _, h.2⟩
  · unfold FP.Core.roundAt
    exact fz_settle h _ _ _
theorem fz_round {f : FP.Core.Fmt} (h : fz_wf f) {d : FP.Core.Datum} (hd : d ≠ .nan) : fz_ni f (FP.Core.round f d) := by
  cases d with
  | nan => exact absurd rfl hd
  | inf s => exact trivial
  | fin s c q => exact fz_rr h _ _ _ _
theorem fz_ne {f : FP.Core.Fmt} {d : FP.Core.Datum} (h : fz_ni f d) : d ≠ .nan := by
  intro q
  subst q
  exact h
theorem fz_quo {f : FP.Core.Fmt} (h : fz_wf f) {X Y : FP.Core.Datum} (hX : X ≠ .nan) (hY : ∃ t d r, Y = .fin t d r ∧ d ≠ 0) : fz_ni f (FP.Core.quotient f X Y) := by
  obtain ⟨t, d, r, rfl, hd⟩ := hY
  cases X with
  | nan => exact absurd rfl hX
  | inf s => exact trivial
  | fin s c q =>
    simp only [FP.Core.quotient, if_neg hd]
    exact fz_rr h _ _ _ _
def fz_okd : FP.Core.Datum → Bool
  | .fin _ d _ => d != 0
  | _ => false
theorem fz_okd_ex {D : FP.Core.Datum} (h : fz_okd D = true) : ∃ t d r, D = .fin t d r ∧ d ≠ 0 := by
  cases D with
  | nan => cases h
  | inf s => cases h
  | fin s c q => exact ⟨s, c, q, rfl, by simpa [fz_okd] using h⟩
theorem fz_order {X : FP.Core.Datum} (h : X ≠ .nan) : FP.Core.order X X = some .eq := by
  cases X with
  | nan => exact absurd rfl h
  | inf s => cases s <;> decide
  | fin s c q =>
    have e : ∀ x : Int, compare x x = Ordering.eq := fun x => by simp [compare, compareOfLessAndEq]
    simp only [FP.Core.order, e]
theorem fz_bits64 {n : Nat} (h : n % 9223372036854775808 ≤ 9218868437227405312) : vf_n64 (UInt64.ofNat n) := by
  unfold vf_n64
  rw [UInt64.le_iff_toNat_le, UInt64.toNat_and]
  show n % 18446744073709551616 &&& 9223372036854775807 ≤ 9218868437227405312
  rw [show 9223372036854775807 = 2 ^ 63 - 1 from rfl, Nat.and_two_pow_sub_one_eq_mod]
  omega
theorem fz_asm64 (s : Bool) (e t : Nat) (h : (e ≤ 2046 ∧ t < 4503599627370496) ∨ (e = 2047 ∧ t = 0)) : FP.Core.assemble FP.Core.b64 s e t % 9223372036854775808 ≤ 9218868437227405312 := by
  have h1 : FP.Core.Fmt.tails FP.Core.b64 = 4503599627370496 := by decide +kernel
  have h2 : FP.Core.Fmt.exps FP.Core.b64 = 2048 := by decide +kernel
  unfold FP.Core.assemble
  rw [h1, h2]
  cases s
  · show ((0 * 2048 + e) * 4503599627370496 + t) % 9223372036854775808 ≤ 9218868437227405312
    omega
  · show ((1 * 2048 + e) * 4503599627370496 + t) % 9223372036854775808 ≤ 9218868437227405312
    omega
theorem fz_enc64 {d : FP.Core.Datum} (h : fz_ni FP.Core.b64 d) : vf_n64 (UInt64.ofNat (FP.Core.encode FP.Core.b64 d)) := by
  refine fz_bits64 ?_
  cases d with
  | nan => exact absurd h id
  | inf s => exact fz_asm64 s 2047 0 (Or.inr ⟨rfl, rfl⟩)
  | fin s c q =>
    obtain ⟨hc, hq⟩ := h
    have h1 : FP.Core.Fmt.tails FP.Core.b64 = 4503599627370496 := by decide +kernel
    have h2 : FP.Core.Fmt.qmin FP.Core.b64 = -1074 := by decide +kernel
    have h3 : FP.Core.Fmt.qmax FP.Core.b64 = 971 := by decide +kernel
    have h4 : 2 ^ FP.Core.Fmt.p FP.Core.b64 = 9007199254740992 := by decide +kernel
    rw [h3] at hq
    rw [h4] at hc
    simp only [FP.Core.encode, h1, h2]
    split
    · exact fz_asm64 s 0 c (Or.inl ⟨by omega, by omega⟩)
    · exact fz_asm64 s _ _ (Or.inl ⟨by omega, by omega⟩)
theorem fz_dec64 {r : UInt64} (h : vf_n64 r) : FP.Core.decode FP.Core.b64 r.toNat ≠ .nan := by
  have h1 : r.toNat % 9223372036854775808 ≤ 9218868437227405312 := by
    unfold vf_n64 at h
    rw [UInt64.le_iff_toNat_le, UInt64.toNat_and] at h
    have h' : r.toNat &&& 9223372036854775807 ≤ 9218868437227405312 := h
    rw [show 9223372036854775807 = 2 ^ 63 - 1 from rfl, Nat.and_two_pow_sub_one_eq_mod] at h'
    exact h'
  have e1 : FP.Core.Fmt.tails FP.Core.b64 = 4503599627370496 := by decide +kernel
  have e2 : FP.Core.Fmt.exps FP.Core.b64 = 2048 := by decide +kernel
  intro q
  simp only [FP.Core.decode, FP.Core.fieldE, FP.Core.fieldT, e1, e2] at q
  split at q
  · split at q
    · cases q
    · omega
  · split at q <;> cases q
theorem fz_bits32 {n : Nat} (h : n % 2147483648 ≤ 2139095040) : vf_n32 (UInt32.ofNat n) := by
  unfold vf_n32
  rw [UInt32.le_iff_toNat_le, UInt32.toNat_and]
  show n % 4294967296 &&& 2147483647 ≤ 2139095040
  rw [show 2147483647 = 2 ^ 31 - 1 from rfl, Nat.and_two_pow_sub_one_eq_mod]
  omega
theorem fz_asm32 (s : Bool) (e t : Nat) (h : (e ≤ 254 ∧ t < 8388608) ∨ (e = 255 ∧ t = 0)) : FP.Core.assemble FP.Core.b32 s e t % 2147483648 ≤ 2139095040 := by
  have h1 : FP.Core.Fmt.tails FP.Core.b32 = 8388608 := by decide +kernel
  have h2 : FP.Core.Fmt.exps FP.Core.b32 = 256 := by decide +kernel
  unfold FP.Core.assemble
  rw [h1, h2]
  cases s
  · show ((0 * 256 + e) * 8388608 + t) % 2147483648 ≤ 2139095040
    omega
  · show ((1 * 256 + e) * 8388608 + t) % 2147483648 ≤ 2139095040
    omega
theorem fz_enc32 {d : FP.Core.Datum} (h : fz_ni FP.Core.b32 d) : vf_n32 (UInt32.ofNat (FP.Core.encode FP.Core.b32 d)) := by
  refine fz_bits32 ?_
  cases d with
  | nan => exact absurd h id
  | inf s => exact fz_asm32 s 255 0 (Or.inr ⟨rfl, rfl⟩)
  | fin s c q =>
    obtain ⟨hc, hq⟩ := h
    have h1 : FP.Core.Fmt.tails FP.Core.b32 = 8388608 := by decide +kernel
    have h2 : FP.Core.Fmt.qmin FP.Core.b32 = -149 := by decide +kernel
    have h3 : FP.Core.Fmt.qmax FP.Core.b32 = 104 := by decide +kernel
    have h4 : 2 ^ FP.Core.Fmt.p FP.Core.b32 = 16777216 := by decide +kernel
    rw [h3] at hq
    rw [h4] at hc
    simp only [FP.Core.encode, h1, h2]
    split
    · exact fz_asm32 s 0 c (Or.inl ⟨by omega, by omega⟩)
    · exact fz_asm32 s _ _ (Or.inl ⟨by omega, by omega⟩)
theorem fz_dec32 {r : UInt32} (h : vf_n32 r) : FP.Core.decode FP.Core.b32 r.toNat ≠ .nan := by
  have h1 : r.toNat % 2147483648 ≤ 2139095040 := by
    unfold vf_n32 at h
    rw [UInt32.le_iff_toNat_le, UInt32.toNat_and] at h
    have h' : r.toNat &&& 2147483647 ≤ 2139095040 := h
    rw [show 2147483647 = 2 ^ 31 - 1 from rfl, Nat.and_two_pow_sub_one_eq_mod] at h'
    exact h'
  have e1 : FP.Core.Fmt.tails FP.Core.b32 = 8388608 := by decide +kernel
  have e2 : FP.Core.Fmt.exps FP.Core.b32 = 256 := by decide +kernel
  intro q
  simp only [FP.Core.decode, FP.Core.fieldE, FP.Core.fieldT, e1, e2] at q
  split at q
  · split at q
    · cases q
    · omega
  · split at q <;> cases q
theorem fz_den64 {n : Nat} (h0 : 0 < n) (h : n ≤ 60) : ∃ t d r, FP.Core.decode FP.Core.b64 (FP.i2d (nI n)).toNat = .fin t d r ∧ d ≠ 0 := by
  have key : (List.range 61).all (fun k => k == 0 || fz_okd (FP.Core.decode FP.Core.b64 (FP.i2d (nI k)).toNat)) = true := by decide +kernel
  have h1 := List.all_eq_true.mp key n (List.mem_range.mpr (by omega))
  refine fz_okd_ex ?_
  rcases (Bool.or_eq_true _ _).mp h1 with h2 | h2
  · have := beq_iff_eq.mp h2
    omega
  · exact h2
theorem fz_den32 {n : Nat} (h0 : 0 < n) (h : n ≤ 60) : ∃ t d r, FP.Core.decode FP.Core.b32 (FP.i2f (nI n)).toNat = .fin t d r ∧ d ≠ 0 := by
  have key : (List.range 61).all (fun k => k == 0 || fz_okd (FP.Core.decode FP.Core.b32 (FP.i2f (nI k)).toNat)) = true := by decide +kernel
  have h1 := List.all_eq_true.mp key n (List.mem_range.mpr (by omega))
  refine fz_okd_ex ?_
  rcases (Bool.or_eq_true _ _).mp h1 with h2 | h2
  · have := beq_iff_eq.mp h2
    omega
  · exact h2
theorem fz_i2d (a : Int32) : vf_n64 (FP.i2d a) := fz_enc64 (fz_rr fz_wf64 _ _ _ _)
theorem fz_i2f (a : Int32) : vf_n32 (FP.i2f a) := fz_enc32 (fz_rr fz_wf32 _ _ _ _)
theorem fz_ddiv {x : UInt64} {n : Nat} (hx : vf_n64 x) (h0 : 0 < n) (h : n ≤ 60) : vf_n64 (FP.ddiv x (FP.i2d (nI n))) := fz_enc64 (fz_quo fz_wf64 (fz_dec64 hx) (fz_den64 h0 h))
theorem fz_fdiv {x : UInt32} {n : Nat} (hx : vf_n32 x) (h0 : 0 < n) (h : n ≤ 60) : vf_n32 (FP.fdiv x (FP.i2f (nI n))) := fz_enc32 (fz_quo fz_wf32 (fz_dec32 hx) (fz_den32 h0 h))
theorem fz_f2d {x : UInt32} (hx : vf_n32 x) : vf_n64 (FP.f2d x) := by
  have h : FP.Core.fIsNaN x = false := decide_eq_false (fz_dec32 hx)
  unfold FP.f2d
  rw [h]
  exact fz_enc64 (fz_round fz_wf64 (fz_dec32 hx))
theorem fz_dcmp {x : UInt64} (hx : vf_n64 x) : cmpValue (FP.dcmp x x) .l = 0 := by
  have h : FP.dcmp x x = some .eq := fz_order (fz_dec64 hx)
  rw [h]
  rfl
theorem fz_d0 : vf_n64 FP.dconst0 := by unfold vf_n64; decide +kernel
theorem fz_f0 : vf_n32 FP.fconst0 := by unfold vf_n32; decide +kernel
/-- the sum of the first k words -/
def smm (t : Nat → Int32) : Nat → Int32
  | 0 => nI 0
  | k + 1 => smm t k + t k
def mnw (t : Nat → Int32) (n : Nat) : UInt64 := if n = 0 then FP.dconst0 else FP.ddiv (FP.i2d (smm t n)) (FP.i2d (nI n))
def shr (t : Nat → Int32) (n : Nat) (w : Int32) : UInt32 := if n = 0 then FP.fconst0 else FP.fdiv (FP.i2f (nI (cnt t w n))) (FP.i2f (nI n))
theorem mnw_n {t : Nat → Int32} {n : Nat} (h : n ≤ 60) : vf_n64 (mnw t n) := by
  unfold mnw
  by_cases q : n = 0
  · rw [if_pos q]; exact fz_d0
  · rw [if_neg q]; exact fz_ddiv (fz_i2d _) (by omega) h
theorem shr_n {t : Nat → Int32} {n : Nat} {w : Int32} (h : n ≤ 60) : vf_n32 (shr t n w) := by
  unfold shr
  by_cases q : n = 0
  · rw [if_pos q]; exact fz_f0
  · rw [if_neg q]; exact fz_fdiv (fz_i2f _) (by omega) h
