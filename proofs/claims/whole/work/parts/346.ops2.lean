/-! what the other operations are -/
theorem nI_sub_of {a b : Nat} (h : b ≤ a) : nI a - nI b = nI (a - b) := pk_sub h
def kv (ρ : Nat → Int32) (o w : Int32) : Int32 := if o = nI 1 then ρ (ix w) else w
def isr (ρ : Nat → Int32) (o : Int32) (t : Nat → Int32) (n : Nat) : Prop := ∀ k, 1 ≤ k → k < n → ¬ kv ρ o (t k) < kv ρ o (t (k - 1))
def fmx (g : Int32 → Int32 → Int32) (f : Int32 → Int32) (t : Nat → Int32) : Nat → Int32
  | 0 => f (t 0)
  | k + 1 => g (fmx g f t k) (f (t (k + 1)))
noncomputable def srr (ρ : Nat → Int32) (o : Int32) (t : Nat → Int32) (n : Nat) (w : Int32) : Int32 := @ite _ (∃ k, k < n ∧ kv ρ o (t k) = kv ρ o w) (Classical.propDecidable _) (-2) (nI (zct (fun k => kv ρ o (t k) < kv ρ o w) n))
def psd (ρ : Nat → Int32) (o d w x : Int32) : Prop := (d = 0 → kv ρ o w < kv ρ o x) ∧ (¬ d = 0 → kv ρ o x < kv ρ o w)
/-- the place at which w comes to stand when it goes down from j -/
noncomputable def lnd (P : Int32 → Int32 → Prop) (t : Nat → Int32) (w : Int32) : Nat → Nat
  | 0 => 0
  | j + 1 => @ite _ (P w (t j)) (Classical.propDecidable _) (lnd P t w j) (j + 1)
theorem lnd_t {P : Int32 → Int32 → Prop} {t : Nat → Int32} {w : Int32} {j : Nat} (h : P w (t j)) : lnd P t w (j + 1) = lnd P t w j := by
  simp only [lnd]
  exact if_pos h
theorem lnd_f {P : Int32 → Int32 → Prop} {t : Nat → Int32} {w : Int32} {j : Nat} (h : ¬ P w (t j)) : lnd P t w (j + 1) = j + 1 := by
  simp only [lnd]
  exact if_neg h
theorem lnd_le (P : Int32 → Int32 → Prop) (t : Nat → Int32) (w : Int32) : ∀ j, lnd P t w j ≤ j
  | 0 => Nat.le_refl _
  | j + 1 => by
    by_cases h : P w (t j)
    · rw [lnd_t h]; exact Nat.le_succ_of_le (lnd_le P t w j)
    · rw [lnd_f h]; exact Nat.le_refl _
def insk (t : Nat → Int32) (p k : Nat) : Nat → Int32 := fun j => if j = p then t k else if p < j ∧ j ≤ k then t (j - 1) else t j
noncomputable def srt (P : Int32 → Int32 → Prop) (t : Nat → Int32) : Nat → Nat → Int32
  | 0 => t
  | k + 1 => insk (srt P t k) (lnd P (srt P t k) (srt P t k (k + 1)) (k + 1)) (k + 1)
theorem srt_mem {P : Int32 → Int32 → Prop} {t : Nat → Int32} {n : Nat} : ∀ {k : Nat}, k < n → ∀ j, j < n → ∃ i, i < n ∧ srt P t k j = t i
  | 0, _, j, hj => ⟨j, hj, rfl⟩
  | k + 1, hk, j, hj => by
    have ih := fun j hj => srt_mem (P := P) (t := t) (n := n) (k := k) (by omega) j hj
    simp only [srt, insk]
    split
    · exact ih _ hk
    · split
      · exact ih _ (by omega)
      · exact ih _ hj
theorem zfst_eq {P : Nat → Prop} {k : Nat} (hP : P k) : ∀ {c a : Nat}, a ≤ k → k < a + c → (∀ j, a ≤ j → j < k → ¬ P j) → zfst P a c = some k
  | 0, a, h1, h2, _ => absurd h2 (by omega)
  | c + 1, a, h1, h2, h3 => by
    by_cases q : a = k
    · subst q; exact zfst_t hP
    · rw [zfst_f (h3 a (Nat.le_refl _) (by omega))]
      exact zfst_eq hP (by omega) (by omega) (fun j h4 h5 => h3 j (by omega) h5)
theorem cnt_ex {t : Nat → Int32} {x : Int32} : ∀ {n : Nat}, 0 < cnt t x n → ∃ j, j < n ∧ t j = x
  | 0, h => absurd h (Nat.lt_irrefl _)
  | n + 1, h => by
    by_cases q : t n = x
    · exact ⟨n, Nat.lt_succ_self _, q⟩
    · simp only [cnt, if_neg q, Nat.add_zero] at h
      obtain ⟨j, hj, e⟩ := cnt_ex h
      exact ⟨j, by omega, e⟩
/-- the words of a text are 0 to 99 -/
def wok (t : Nat → Int32) (n : Nat) : Prop := ∀ j, j < n → ∃ k, k < 100 ∧ t j = nI k
def mstI (t : Nat → Int32) (n k : Nat) (c : Int32) (a : Nat) : Prop := (k = 0 ∧ a = 0) ∨ ∃ v, v < 100 ∧ c = nI v ∧ 0 < a ∧ cnt t (nI v) n = a ∧ ∀ j, j < k → ∀ u, u < 100 → t j = nI u → cnt t (nI u) n < a ∨ (cnt t (nI u) n = a ∧ v ≤ u)
theorem mst_up {t : Nat → Int32} {n k : Nat} {c : Int32} {a v : Nat} (h : mstI t n k c a) (hk : k < n) (hv : v < 100) (e : t k = nI v) (hc : a < cnt t (nI v) n ∨ (cnt t (nI v) n = a ∧ nI v < c)) : mstI t n (k + 1) (nI v) (cnt t (nI v) n) := by
  have hp := cnt_pos hk e
  refine Or.inr ⟨v, hv, rfl, hp, rfl, fun j hj u hu he => ?_⟩
  by_cases q : j = k
  · subst q
    have : u = v := (nI_eq (by omega) (by omega)).mp (he.symm.trans e)
    subst this
    exact Or.inr ⟨rfl, Nat.le_refl _⟩
  · rcases h with ⟨h1, h2⟩ | ⟨v0, h1, h2, h3, h4, h5⟩
    · omega
    · have h6 := h5 j (by omega) u hu he
      rcases hc with hc | ⟨hc, hl⟩
      · omega
      · have : v < v0 := (nI_ltI (by omega) (by omega)).mp (h2 ▸ hl)
        omega
theorem mst_no {t : Nat → Int32} {n k : Nat} {c : Int32} {a v : Nat} (h : mstI t n k c a) (hk : k < n) (hv : v < 100) (e : t k = nI v) (h1 : cnt t (nI v) n ≤ a) (h2 : cnt t (nI v) n = a → ¬ nI v < c) : mstI t n (k + 1) c a := by
  have hp := cnt_pos hk e
  rcases h with ⟨q1, q2⟩ | ⟨v0, q1, q2, q3, q4, q5⟩
  · omega
  · refine Or.inr ⟨v0, q1, q2, q3, q4, fun j hj u hu he => ?_⟩
    by_cases q : j = k
    · subst q
      have : u = v := (nI_eq (by omega) (by omega)).mp (he.symm.trans e)
      subst this
      by_cases q : cnt t (nI u) n = a
      · refine Or.inr ⟨q, Nat.le_of_not_lt fun q' => h2 q ?_⟩
        rw [q2]; exact (nI_ltI (by omega) (by omega)).mpr q'
      · exact Or.inl (by omega)
    · exact q5 j (by omega) u hu he
noncomputable def mst (t : Nat → Int32) (n : Nat) : Option Nat := zfst (fun w => ∀ v, v < 100 → cnt t (nI v) n ≤ cnt t (nI w) n) 0 100
theorem mst_end {t : Nat → Int32} {n : Nat} {c : Int32} {a : Nat} (h : mstI t n n c a) (hn : 0 < n) (hw : wok t n) : c = rI (mst t n) := by
  rcases h with ⟨q1, q2⟩ | ⟨v0, q1, q2, q3, q4, q5⟩
  · omega
  · have key : ∀ v, v < 100 → cnt t (nI v) n ≤ a := fun v hv => by
      by_cases q : 0 < cnt t (nI v) n
      · obtain ⟨j, hj, e⟩ := cnt_ex q
        have := q5 j hj v hv e
        omega
      · omega
    have : mst t n = some v0 := by
      refine zfst_eq (fun v hv => by rw [q4]; exact key v hv) (Nat.zero_le _) (by omega) (fun j _ hj hP => ?_)
      have h1 := hP v0 q1
      obtain ⟨i, hi, e⟩ := cnt_ex (t := t) (x := nI j) (n := n) (by omega)
      have := q5 i hi j (by omega) e
      omega
    rw [q2, this]; rfl
def dst (a b : Nat) : Nat := (a - b) + (b - a)
theorem zabs_dst {a b : Nat} (ha : a < 2 ^ 20) (hb : b < 2 ^ 20) : zabs (nI a - nI b) = nI (dst a b) := by
  unfold zabs dst
  by_cases h : b ≤ a
  · rw [nI_sub_of h, if_pos (nI_pos' (by omega))]
    congr 1; omega
  · have h1 : (nI a - nI b).toInt = (a : Int) - b := pk_sub_toInt (by omega) (by omega)
    rw [if_neg (by rw [Int32.le_iff_toInt_le, h1]; show ¬ ((0 : Int32).toInt ≤ _); have : (0 : Int32).toInt = 0 := rfl; omega)]
    rw [Int32.neg_sub, nI_sub_of (by omega)]
    congr 1; omega
noncomputable def nrt (t : Nat → Int32) (w : Int32) (p : Nat) : Nat → Option Nat
  | 0 => none
  | k + 1 => match nrt t w p k with
    | none => if t k = w then some k else none
    | some b => if t k = w ∧ dst k p < dst b p then some k else some b
theorem nrt_lt {t : Nat → Int32} {w : Int32} {p : Nat} : ∀ {k b : Nat}, nrt t w p k = some b → b < k
  | 0, b, h => by simp [nrt] at h
  | k + 1, b, h => by
    simp only [nrt] at h
    cases e : nrt t w p k with
    | none =>
      rw [e] at h; dsimp only at h
      split at h
      · cases h; exact Nat.lt_succ_self _
      · cases h
    | some b0 =>
      rw [e] at h; dsimp only at h
      have := nrt_lt e
      split at h
      · cases h; exact Nat.lt_succ_self _
      · cases h; omega
theorem nrt_no {t : Nat → Int32} {w : Int32} {p k : Nat} (h : ¬ t k = w) : nrt t w p (k + 1) = nrt t w p k := by
  simp only [nrt]
  cases e : nrt t w p k with
  | none => exact if_neg h
  | some b => exact if_neg (fun q => h q.1)
theorem nrt_n {t : Nat → Int32} {w : Int32} {p k : Nat} (h : t k = w) (e : nrt t w p k = none) : nrt t w p (k + 1) = some k := by
  simp only [nrt, e]
  exact if_pos h
theorem nrt_s {t : Nat → Int32} {w : Int32} {p k b : Nat} (h : t k = w) (e : nrt t w p k = some b) (q : dst k p < dst b p) : nrt t w p (k + 1) = some k := by
  simp only [nrt, e]
  exact if_pos ⟨h, q⟩
theorem nrt_f {t : Nat → Int32} {w : Int32} {p k b : Nat} (e : nrt t w p k = some b) (q : dst b p ≤ dst k p) : nrt t w p (k + 1) = some b := by
  simp only [nrt, e]
  exact if_neg (fun z => by omega)
theorem rI_m1 {o : Option Nat} {b : Nat} (h : ∀ k, o = some k → k < b) (hb : b < 2 ^ 31) : rI o = -1 ↔ o = none := by
  cases o with
  | none => exact ⟨fun _ => rfl, fun _ => rfl⟩
  | some k => exact ⟨fun q => absurd q (nI_m1 (Nat.lt_trans (h k rfl) hb)), fun q => by cases q⟩
/-- the words that a seed draws -/
def lcg (s : Nat) : Nat → Nat
  | 0 => s
  | k + 1 => (lcg s k * 1103515245 + 12345) % 2147483648
theorem lcg_lt {s : Nat} (h : s < 2147483648) : ∀ k, lcg s k < 2147483648
  | 0 => h
  | k + 1 => Nat.mod_lt _ (by decide)
theorem lcg_and {a : Nat} (h : a < 2147483648) : (lN a * lN 1103515245 + lN 12345) &&& lN 2147483647 = lN ((a * 1103515245 + 12345) % 2147483648) := by
  rw [lN_mul, lN_add]
  apply Int64.toBitVec_inj.mp
  rw [Int64.toBitVec_and]
  apply BitVec.eq_of_toNat_eq
  have e : ∀ n : Nat, (lN n).toBitVec = BitVec.ofNat 64 n := fun n => rfl
  rw [e, e, e, BitVec.toNat_and, BitVec.toNat_ofNat, BitVec.toNat_ofNat, BitVec.toNat_ofNat, Nat.mod_eq_of_lt (show a * 1103515245 + 12345 < 2 ^ 64 by omega), Nat.mod_eq_of_lt (show 2147483647 < 2 ^ 64 by omega), show 2147483647 = 2 ^ 31 - 1 from rfl, Nat.and_two_pow_sub_one_eq_mod, Nat.mod_eq_of_lt (a := (a * 1103515245 + 12345) % 2147483648) (show (a * 1103515245 + 12345) % 2147483648 < 2 ^ 64 by omega)]
def scw (r s j : Nat) : Int32 := nI (lcg s (j + 1) / 65536 % r)
/-- a part moved round by u -/
def mvt (t : Nat → Int32) (a b u : Nat) : Nat → Int32 := fun j => if a ≤ j ∧ j < b then t (a + (j - a + ((b - a) - u)) % (b - a)) else t j
def mvk (t : Nat → Int32) (a b u i : Nat) : Nat → Int32 := fun j => if a ≤ j ∧ j < b ∧ (j - a + ((b - a) - u)) % (b - a) < i then t (a + (j - a + ((b - a) - u)) % (b - a)) else t j
def mby (d : Int32) (m : Nat) : Nat := if m = 0 then 0 else fmd d m
theorem mod_bk {m u i : Nat} (hu : u < m) (hi : i < m) : ((i + u) % m + (m - u)) % m = i := by
  by_cases h : i + u < m
  · rw [Nat.mod_eq_of_lt h, show i + u + (m - u) = i + m by omega, Nat.add_mod_right, Nat.mod_eq_of_lt hi]
  · rw [Nat.mod_eq_sub_mod (a := i + u) (by omega), Nat.mod_eq_of_lt (a := i + u - m) (show i + u - m < m by omega), show i + u - m + (m - u) = i by omega, Nat.mod_eq_of_lt hi]
theorem mod_fw {m u x i : Nat} (hu : u < m) (hx : x < m) (h : (x + (m - u)) % m = i) : x = (i + u) % m := by
  by_cases h1 : x + (m - u) < m
  · rw [Nat.mod_eq_of_lt h1] at h
    rw [show i + u = x + m by omega, Nat.add_mod_right, Nat.mod_eq_of_lt hx]
  · rw [Nat.mod_eq_sub_mod (by omega), Nat.mod_eq_of_lt (by omega)] at h
    rw [show i + u = x by omega, Nat.mod_eq_of_lt hx]
theorem mvk_s {t : Nat → Int32} {a b u i : Nat} (hu : u < b - a) (hi : i < b - a) (j : Nat) : upd (mvk t a b u i) (a + (i + u) % (b - a)) (t (a + i)) j = mvk t a b u (i + 1) j := by
  have hm := Nat.mod_lt (i + u) (show 0 < b - a by omega)
  have hb := mod_bk hu hi
  by_cases q : j = a + (i + u) % (b - a)
  · subst q
    rw [pk_us]
    simp only [mvk]
    rw [show a + (i + u) % (b - a) - a = (i + u) % (b - a) by omega, hb, if_pos ⟨by omega, by omega, by omega⟩]
  · rw [pk_un q]
    simp only [mvk]
    by_cases h1 : a ≤ j ∧ j < b
    · have hne : (j - a + (b - a - u)) % (b - a) ≠ i := fun e => q (by have := mod_fw hu (show j - a < b - a by omega) e; omega)
      by_cases h2 : (j - a + (b - a - u)) % (b - a) < i
      · rw [if_pos ⟨h1.1, h1.2, h2⟩, if_pos ⟨h1.1, h1.2, by omega⟩]
      · rw [if_neg (fun z => h2 z.2.2), if_neg (fun z => h2 (by omega))]
    · rw [if_neg (fun z => h1 ⟨z.1, z.2.1⟩), if_neg (fun z => h1 ⟨z.1, z.2.1⟩)]
theorem mvk_0 {t : Nat → Int32} {a b u : Nat} (j : Nat) : t j = mvk t a b u 0 j := by
  simp only [mvk]
  rw [if_neg (fun z => absurd z.2.2 (Nat.not_lt_zero _))]
theorem mvk_e {t : Nat → Int32} {a b u : Nat} (j : Nat) : mvk t a b u (b - a) j = mvt t a b u j := by
  simp only [mvk, mvt]
  by_cases h : a ≤ j ∧ j < b
  · rw [if_pos h, if_pos ⟨h.1, h.2, Nat.mod_lt _ (by omega)⟩]
  · rw [if_neg h, if_neg (fun z => h ⟨z.1, z.2.1⟩)]
theorem mvt_0 {t : Nat → Int32} {a b u : Nat} (h : b ≤ a) (j : Nat) : t j = mvt t a b u j := by
  simp only [mvt]
  rw [if_neg (by omega)]
/-- the word w stands at the place q % 100 of the text q / 100 -/
def stV (σ : Sg) (w : Int32) (q : Nat) : Prop := q % 100 < sn σ (q / 100) ∧ st σ (q / 100) (q % 100) = w
/-- how many words from p on, of at most d, are those of q from f on -/
def lcn (t : Nat → Int32) (n : Nat) (q : Nat → Int32) (m : Nat) : Nat → Nat → Nat → Nat
  | 0, _, _ => 0
  | d + 1, p, f => if p < n ∧ f < m ∧ t p = q f then lcn t n q m d (p + 1) (f + 1) + 1 else 0
def lc (t : Nat → Int32) (n : Nat) (q : Nat → Int32) (m p f : Nat) : Nat := lcn t n q m (n - p) p f
theorem lc_y {t q : Nat → Int32} {n m p f : Nat} (h : p < n) (hf : f < m) (e : t p = q f) : lc t n q m p f = lc t n q m (p + 1) (f + 1) + 1 := by
  unfold lc
  rw [show n - p = (n - (p + 1)) + 1 by omega]
  exact if_pos ⟨h, hf, e⟩
theorem lc_z {t q : Nat → Int32} {n m p f : Nat} (h : ¬ (p < n ∧ f < m ∧ t p = q f)) : lc t n q m p f = 0 := by
  unfold lc
  cases n - p with
  | zero => rfl
  | succ d => exact if_neg h
theorem lcn_le {t q : Nat → Int32} {n m : Nat} : ∀ {d p f : Nat}, lcn t n q m d p f ≤ d
  | 0, _, _ => Nat.le_refl _
  | d + 1, p, f => by
    simp only [lcn]
    split
    · exact Nat.succ_le_succ lcn_le
    · exact Nat.zero_le _
theorem lc_le {t q : Nat → Int32} {n m p f : Nat} : lc t n q m p f ≤ n - p := lcn_le
/-- the longest run that both have, where it begins: L, b, s -/
def isC (t : Nat → Int32) (n : Nat) (q : Nat → Int32) (m : Nat) (x : Nat × Nat × Nat) : Prop :=
  (∀ p, p < n → ∀ f, f < m → lc t n q m p f ≤ x.1) ∧ ((x.1 = 0 ∧ x.2.1 = 0 ∧ x.2.2 = 0) ∨ (0 < x.1 ∧ x.2.1 < n ∧ x.2.2 < m ∧ lc t n q m x.2.1 x.2.2 = x.1 ∧ (∀ p, p < x.2.1 → ∀ f, f < m → lc t n q m p f < x.1) ∧ ∀ f, f < x.2.2 → lc t n q m x.2.1 f < x.1))
theorem isC_u {t q : Nat → Int32} {n m : Nat} {x y : Nat × Nat × Nat} (h : isC t n q m x) (h' : isC t n q m y) : x = y := by
  obtain ⟨L, b, s⟩ := x
  obtain ⟨L', b', s'⟩ := y
  obtain ⟨h1, h2⟩ := h
  obtain ⟨h1', h2'⟩ := h'
  dsimp only at h1 h2 h1' h2'
  rcases h2 with ⟨rfl, rfl, rfl⟩ | ⟨a1, a2, a3, a4, a5, a6⟩ <;> rcases h2' with ⟨rfl, rfl, rfl⟩ | ⟨b1, b2, b3, b4, b5, b6⟩
  · rfl
  · have := h1 b' b2 s' b3; omega
  · have := h1' b a2 s a3; omega
  · have e1 : L = L' := by have := h1 b' b2 s' b3; have := h1' b a2 s a3; omega
    subst e1
    have e2 : b = b' := by
      rcases Nat.lt_trichotomy b b' with q | q | q
      · have := b5 b q s a3; omega
      · exact q
      · have := a5 b' q s' b3; omega
    subst e2
    have e3 : s = s' := by
      rcases Nat.lt_trichotomy s s' with q | q | q
      · have := b6 s q; omega
      · exact q
      · have := a6 s' q; omega
    rw [e3]
noncomputable def com (t : Nat → Int32) (n : Nat) (q : Nat → Int32) (m : Nat) : Nat × Nat × Nat := (Classical.propDecidable (∃ x, isC t n q m x)).casesOn (fun _ => (0, 0, 0)) (fun h => h.choose)
theorem com_eq {t q : Nat → Int32} {n m : Nat} {x : Nat × Nat × Nat} (h : isC t n q m x) : com t n q m = x := by
  unfold com
  cases Classical.propDecidable (∃ x, isC t n q m x) with
  | isTrue h' => exact isC_u h'.choose_spec h
  | isFalse h' => exact absurd ⟨x, h⟩ h'
/-- the text with the phrase q (m words, P: where) replaced by q' (m' words), as far as its place k: how many words, which -/
noncomputable def rpl (P : Nat → Prop) (t : Nat → Int32) (m : Nat) (q' : Nat → Int32) (m' : Nat) : Nat → Nat × (Nat → Int32)
  | 0 => (0, t)
  | k + 1 => @ite _ (k < (zap P m k).2) (Classical.propDecidable _) (rpl P t m q' m' k) (@ite _ (P k) (Classical.propDecidable _) ((rpl P t m q' m' k).1 + m', catt (rpl P t m q' m' k).2 (rpl P t m q' m' k).1 q') ((rpl P t m q' m' k).1 + 1, upd (rpl P t m q' m' k).2 (rpl P t m q' m' k).1 (t k)))
theorem rpl_s {P : Nat → Prop} {t q' : Nat → Int32} {m m' k : Nat} (h : k < (zap P m k).2) : rpl P t m q' m' (k + 1) = rpl P t m q' m' k := by
  simp only [rpl]
  exact if_pos h
theorem rpl_y {P : Nat → Prop} {t q' : Nat → Int32} {m m' k : Nat} (h : ¬ k < (zap P m k).2) (hP : P k) : rpl P t m q' m' (k + 1) = ((rpl P t m q' m' k).1 + m', catt (rpl P t m q' m' k).2 (rpl P t m q' m' k).1 q') := by
  simp only [rpl]
  rw [if_neg h]
  exact if_pos hP
theorem rpl_n {P : Nat → Prop} {t q' : Nat → Int32} {m m' k : Nat} (h : ¬ k < (zap P m k).2) (hP : ¬ P k) : rpl P t m q' m' (k + 1) = ((rpl P t m q' m' k).1 + 1, upd (rpl P t m q' m' k).2 (rpl P t m q' m' k).1 (t k)) := by
  simp only [rpl]
  rw [if_neg h]
  exact if_neg hP
theorem rpl_len {P : Nat → Prop} {t q' : Nat → Int32} {m m' : Nat} (hm : 0 < m) : ∀ k, (rpl P t m q' m' k).1 + (zap P m k).1 * m = max k (zap P m k).2 + (zap P m k).1 * m'
  | 0 => by simp [rpl, zap]
  | k + 1 => by
    have ih := rpl_len (P := P) (t := t) (q' := q') (m' := m') hm k
    by_cases h : k < (zap P m k).2
    · rw [rpl_s h, zap_f (fun z => by omega)]; omega
    · by_cases hP : P k
      · rw [rpl_y h hP, zap_t ⟨by omega, hP⟩]
        dsimp only
        rw [Nat.add_mul, Nat.add_mul]; omega
      · rw [rpl_n h hP, zap_f (fun z => hP z.2)]
        dsimp only
        omega
theorem rpl_mono {P : Nat → Prop} {t q' : Nat → Int32} {m m' : Nat} {k : Nat} : ∀ {n : Nat}, k ≤ n → (rpl P t m q' m' k).1 ≤ (rpl P t m q' m' n).1
  | 0, h => by rw [show k = 0 by omega]; exact Nat.le_refl _
  | n + 1, h => by
    by_cases q : k = n + 1
    · rw [q]; exact Nat.le_refl _
    · refine Nat.le_trans (rpl_mono (n := n) (by omega)) ?_
      by_cases h : n < (zap P m n).2
      · rw [rpl_s h]; exact Nat.le_refl _
      · by_cases hP : P n
        · rw [rpl_y h hP]; exact Nat.le_add_right _ _
        · rw [rpl_n h hP]; exact Nat.le_succ _
theorem zap_nx {P : Nat → Prop} {m n : Nat} (h : ∀ j, P j → j + m ≤ n) : ∀ k, (zap P m k).2 ≤ n
  | 0 => Nat.zero_le _
  | k + 1 => by
    by_cases q : (zap P m k).2 ≤ k ∧ P k
    · rw [zap_t q]; exact h k q.2
    · rw [zap_f q]; exact zap_nx h k
/-- times apart, the phrase of m words in a text of n -/
noncomputable def tms (t : Nat → Int32) (n : Nat) (q : Nat → Int32) (m : Nat) : Nat := (zap (hld t n q m) m (n + 1 - m)).1
theorem tms_n {t q : Nat → Int32} {n m : Nat} (hm : 0 < m) : tms t n q m = (zap (hld t n q m) m n).1 := by
  unfold tms
  by_cases h : n + 1 - m ≤ n
  · rw [zap_run (k := n) h (fun j h1 h2 z => absurd z.2.1 (by omega))]
  · omega
noncomputable def rpt (t : Nat → Int32) (n : Nat) (q : Nat → Int32) (m : Nat) (q' : Nat → Int32) (m' : Nat) : Nat → Int32 := (rpl (hld t n q m) t m q' m' n).2
theorem rpt_n {t q q' : Nat → Int32} {n m m' : Nat} (hm : 0 < m) : (rpl (hld t n q m) t m q' m' n).1 + tms t n q m * m = n + tms t n q m * m' := by
  have h := rpl_len (P := hld t n q m) (t := t) (q' := q') (m' := m') hm n
  have h2 := zap_nx (P := hld t n q m) (m := m) (n := n) (fun j hj => hj.1) n
  rw [tms_n hm, h, Nat.max_eq_left h2]
theorem tms_le {t q : Nat → Int32} {n m : Nat} (hm : 0 < m) : tms t n q m * m ≤ n := by
  have h := rpt_n (t := t) (q := q) (q' := q) (n := n) (m' := 0) hm
  omega
def KC (G : zK) (B0 : Nat) (F : zM) (ρ : Nat → Int32) : Prop := F B0 = some (zO 2 [.ref (B0 + 1), .ref (B0 + 2), .ref (B0 + 3), .ref (B0 + 4), .ref (B0 + 6), .ref (B0 + 8), .ref (B0 + 10)]) ∧ ∃ f, F (B0 + 3) = some (zAI G 100 f) ∧ ∀ k, k < 100 → f k = ρ k
theorem KC.go {G : zK} {B0 : Nat} {F F' : zM} {ρ : Nat → Int32} (h : KC G B0 F ρ) (h1 : F' B0 = F B0) (h2 : F' (B0 + 3) = F (B0 + 3)) : KC G B0 F' ρ := by
  obtain ⟨a, f, b, c⟩ := h
  exact ⟨h1.trans a, f, h2.trans b, c⟩
theorem CS.K {G : zK} {B0 : Nat} {F : zM} {σ : Sg} (h : CS G B0 F σ) : KC G B0 F (rk σ) := ⟨h.1, h.2.2.2.1⟩
theorem SgOk.w {σ : Sg} (h : SgOk σ) {i : Nat} (hi : i < 4) : wok (st σ i) (sn σ i) := (h.1 i hi).2
def oA_most (σ : Sg) (zp0 : Int32) : Prop := okT zp0
def oB_most (σ : Sg) (zp0 : Int32) : Prop := 0 < sn σ (ix zp0)
def oC_most (σ : Sg) (zp0 : Int32) : Prop := True
noncomputable def rr_most (σ : Sg) (zp0 : Int32) : Int32 := rI (mst (st σ (ix zp0)) (sn σ (ix zp0)))
noncomputable def ss_most (σ : Sg) (zp0 : Int32) : Sg := σ
def oA_greatest (σ : Sg) (zp0 zp1 : Int32) : Prop := okT zp0
def oB_greatest (σ : Sg) (zp0 zp1 : Int32) : Prop := okB zp1
def oC_greatest (σ : Sg) (zp0 zp1 : Int32) : Prop := 0 < sn σ (ix zp0)
noncomputable def rr_greatest (σ : Sg) (zp0 zp1 : Int32) : Int32 := fmx zmax (kv (rk σ) zp1) (st σ (ix zp0)) (sn σ (ix zp0) - 1)
noncomputable def ss_greatest (σ : Sg) (zp0 zp1 : Int32) : Sg := σ
def oA_least (σ : Sg) (zp0 zp1 : Int32) : Prop := okT zp0
def oB_least (σ : Sg) (zp0 zp1 : Int32) : Prop := okB zp1
def oC_least (σ : Sg) (zp0 zp1 : Int32) : Prop := 0 < sn σ (ix zp0)
noncomputable def rr_least (σ : Sg) (zp0 zp1 : Int32) : Int32 := fmx zmin (kv (rk σ) zp1) (st σ (ix zp0)) (sn σ (ix zp0) - 1)
noncomputable def ss_least (σ : Sg) (zp0 zp1 : Int32) : Sg := σ
def oA_sort (σ : Sg) (zp0 zp1 zp2 : Int32) : Prop := okT zp0
def oB_sort (σ : Sg) (zp0 zp1 zp2 : Int32) : Prop := okB zp1
def oC_sort (σ : Sg) (zp0 zp1 zp2 : Int32) : Prop := True
noncomputable def rr_sort (σ : Sg) (zp0 zp1 zp2 : Int32) : Int32 := nI (dif (srt (psd (rk σ) zp1 zp2) (st σ (ix zp0)) (sn σ (ix zp0) - 1)) (st σ (ix zp0)) (sn σ (ix zp0)))
noncomputable def ss_sort (σ : Sg) (zp0 zp1 zp2 : Int32) : Sg := sT σ (ix zp0) (sn σ (ix zp0)) (srt (psd (rk σ) zp1 zp2) (st σ (ix zp0)) (sn σ (ix zp0) - 1))
def oA_isSorted (σ : Sg) (zp0 zp1 : Int32) : Prop := okT zp0
def oB_isSorted (σ : Sg) (zp0 zp1 : Int32) : Prop := okB zp1
def oC_isSorted (σ : Sg) (zp0 zp1 : Int32) : Prop := True
noncomputable def rr_isSorted (σ : Sg) (zp0 zp1 : Int32) : Int32 := pI (isr (rk σ) zp1 (st σ (ix zp0)) (sn σ (ix zp0)))
noncomputable def ss_isSorted (σ : Sg) (zp0 zp1 : Int32) : Sg := σ
def oA_search (σ : Sg) (zp0 zp1 zp2 : Int32) : Prop := okT zp0 ∧ okW zp2
def oB_search (σ : Sg) (zp0 zp1 zp2 : Int32) : Prop := okB zp1
def oC_search (σ : Sg) (zp0 zp1 zp2 : Int32) : Prop := isr (rk σ) zp1 (st σ (ix zp0)) (sn σ (ix zp0))
noncomputable def rr_search (σ : Sg) (zp0 zp1 zp2 : Int32) : Int32 := srr (rk σ) zp1 (st σ (ix zp0)) (sn σ (ix zp0)) zp2
noncomputable def ss_search (σ : Sg) (zp0 zp1 zp2 : Int32) : Sg := σ
def oA_move (σ : Sg) (zp0 zp1 zp2 zp3 : Int32) : Prop := okT zp0 ∧ okR (sn σ (ix zp0)) zp1 zp2
def oB_move (σ : Sg) (zp0 zp1 zp2 zp3 : Int32) : Prop := True
def oC_move (σ : Sg) (zp0 zp1 zp2 zp3 : Int32) : Prop := True
noncomputable def rr_move (σ : Sg) (zp0 zp1 zp2 zp3 : Int32) : Int32 := nI (mby zp3 (ix zp2 - ix zp1))
noncomputable def ss_move (σ : Sg) (zp0 zp1 zp2 zp3 : Int32) : Sg := sT σ (ix zp0) (sn σ (ix zp0)) (mvt (st σ (ix zp0)) (ix zp1) (ix zp2) (mby zp3 (ix zp2 - ix zp1)))
def oA_copy (σ : Sg) (zp0 zp1 : Int32) : Prop := okT zp0 ∧ okT zp1
def oB_copy (σ : Sg) (zp0 zp1 : Int32) : Prop := sn σ (ix zp0) ≤ sn σ (ix zp1)
def oC_copy (σ : Sg) (zp0 zp1 : Int32) : Prop := True
noncomputable def rr_copy (σ : Sg) (zp0 zp1 : Int32) : Int32 := nI (sn σ (ix zp1))
noncomputable def ss_copy (σ : Sg) (zp0 zp1 : Int32) : Sg := sT σ (ix zp1) (sn σ (ix zp1)) (fun j => if j < sn σ (ix zp0) then st σ (ix zp0) j else st σ (ix zp1) j)
def oA_stands (σ : Sg) (zp0 zp1 : Int32) : Prop := okW zp0
def oB_stands (σ : Sg) (zp0 zp1 : Int32) : Prop := 0 ≤ zp1 ∧ ix zp1 < zct (stV σ zp0) 400
def oC_stands (σ : Sg) (zp0 zp1 : Int32) : Prop := True
noncomputable def rr_stands (σ : Sg) (zp0 zp1 : Int32) : Int32 := rI (zfst (fun q => stV σ zp0 q ∧ zct (stV σ zp0) q = ix zp1) 0 400)
noncomputable def ss_stands (σ : Sg) (zp0 zp1 : Int32) : Sg := σ
def oA_near (σ : Sg) (zp0 zp1 zp2 : Int32) : Prop := okT zp0 ∧ okL (sn σ (ix zp0)) zp1 ∧ okW zp2
def oB_near (σ : Sg) (zp0 zp1 zp2 : Int32) : Prop := True
def oC_near (σ : Sg) (zp0 zp1 zp2 : Int32) : Prop := True
noncomputable def rr_near (σ : Sg) (zp0 zp1 zp2 : Int32) : Int32 := rI (nrt (st σ (ix zp0)) zp2 (ix zp1) (sn σ (ix zp0)))
noncomputable def ss_near (σ : Sg) (zp0 zp1 zp2 : Int32) : Sg := σ
def oA_common (σ : Sg) (zp0 zp1 zp2 : Int32) : Prop := okT zp0 ∧ okT zp1
def oB_common (σ : Sg) (zp0 zp1 zp2 : Int32) : Prop := ¬ zp2 < nI 0 ∧ zp2 ≤ nI 2
def oC_common (σ : Sg) (zp0 zp1 zp2 : Int32) : Prop := True
noncomputable def rr_common (σ : Sg) (zp0 zp1 zp2 : Int32) : Int32 := (if zp2 = 0 then nI (com (st σ (ix zp0)) (sn σ (ix zp0)) (st σ (ix zp1)) (sn σ (ix zp1))).1 else if zp2 = nI 1 then nI (com (st σ (ix zp0)) (sn σ (ix zp0)) (st σ (ix zp1)) (sn σ (ix zp1))).2.1 else nI (com (st σ (ix zp0)) (sn σ (ix zp0)) (st σ (ix zp1)) (sn σ (ix zp1))).2.2)
noncomputable def ss_common (σ : Sg) (zp0 zp1 zp2 : Int32) : Sg := σ
def oA_refuses (σ : Sg) (zp0 : Int32) : Prop := (¬ zp0 < nI 0 ∧ zp0 ≤ nI 4)
def oB_refuses (σ : Sg) (zp0 : Int32) : Prop := True
def oC_refuses (σ : Sg) (zp0 : Int32) : Prop := True
noncomputable def rr_refuses (σ : Sg) (zp0 : Int32) : Int32 := nI 1
noncomputable def ss_refuses (σ : Sg) (zp0 : Int32) : Sg := σ
def oA_errors (σ : Sg) (zp0 : Int32) : Prop := okT zp0
def oB_errors (σ : Sg) (zp0 : Int32) : Prop := True
def oC_errors (σ : Sg) (zp0 : Int32) : Prop := True
noncomputable def rr_errors (σ : Sg) (zp0 : Int32) : Int32 := nI 0
noncomputable def ss_errors (σ : Sg) (zp0 : Int32) : Sg := σ
def oA_replace (σ : Sg) (zp0 : Int32) : Prop := okT zp0
def oB_replace (σ : Sg) (zp0 : Int32) : Prop := (0 < pn σ 0 ∧ sn σ (ix zp0) + tms (st σ (ix zp0)) (sn σ (ix zp0)) (pt σ 0) (pn σ 0) * pn σ 1 ≤ 60 + tms (st σ (ix zp0)) (sn σ (ix zp0)) (pt σ 0) (pn σ 0) * pn σ 0)
def oC_replace (σ : Sg) (zp0 : Int32) : Prop := True
noncomputable def rr_replace (σ : Sg) (zp0 : Int32) : Int32 := nI (tms (st σ (ix zp0)) (sn σ (ix zp0)) (pt σ 0) (pn σ 0))
noncomputable def ss_replace (σ : Sg) (zp0 : Int32) : Sg := sT σ (ix zp0) (sn σ (ix zp0) + tms (st σ (ix zp0)) (sn σ (ix zp0)) (pt σ 0) (pn σ 0) * pn σ 1 - tms (st σ (ix zp0)) (sn σ (ix zp0)) (pt σ 0) (pn σ 0) * pn σ 0) (rpt (st σ (ix zp0)) (sn σ (ix zp0)) (pt σ 0) (pn σ 0) (pt σ 1) (pn σ 1))
def oA_scatter (σ : Sg) (zp0 zp1 zp2 zp3 : Int32) : Prop := okT zp0
def oB_scatter (σ : Sg) (zp0 zp1 zp2 zp3 : Int32) : Prop := ((¬ zp1 < nI 0 ∧ zp1 ≤ nI 60) ∧ (¬ zp2 < nI 1 ∧ zp2 ≤ nI 100) ∧ 0 ≤ zp3)
def oC_scatter (σ : Sg) (zp0 zp1 zp2 zp3 : Int32) : Prop := zp1 ≤ nI (60 - sn σ (ix zp0))
noncomputable def rr_scatter (σ : Sg) (zp0 zp1 zp2 zp3 : Int32) : Int32 := nI (sn σ (ix zp0) + ix zp1)
noncomputable def ss_scatter (σ : Sg) (zp0 zp1 zp2 zp3 : Int32) : Sg := sT σ (ix zp0) (sn σ (ix zp0) + ix zp1) (catt (st σ (ix zp0)) (sn σ (ix zp0)) (scw (ix zp2) (ix zp3)))
