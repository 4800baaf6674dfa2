theorem pI_of {P : Prop} {b : Nat} (h : b = 0 ∨ b = 1) (hb : b = 1 ↔ P) : nI b = pI P := by
  rcases h with rfl | rfl
  · exact pI_f (fun q => absurd (hb.mpr q) (by decide))
  · exact pI_t (hb.mp rfl)
theorem swpt_l {t : Nat → Int32} {a b : Nat} : swpt t a b a = t b := by
  simp only [swpt]
  by_cases h : a = b
  · rw [if_pos h, h]
  · rw [if_neg h]; exact if_pos trivial
theorem upd_cg {f t : Nat → Int32} {n k : Nat} {x : Int32} (h : ∀ j, j < n → f j = t j) : ∀ j, j < n → upd f k x j = upd t k x j := by
  intro j hj
  by_cases q : j = k
  · subst q; rw [pk_us, pk_us]
  · rw [pk_un q, pk_un q]; exact h j hj
def dgs (t : Nat → Int32) : Nat → Int32
  | 0 => nI 7
  | k + 1 => dgs t k * nI 31 + t k
/-- how many of the c words from a on are not x -/
def fild (t : Nat → Int32) (x : Int32) (a : Nat) : Nat → Nat
  | 0 => 0
  | k + 1 => fild t x a k + (if t (a + k) = x then 0 else 1)
theorem fild_le (t : Nat → Int32) (x : Int32) (a : Nat) : ∀ k, fild t x a k ≤ k
  | 0 => Nat.le_refl _
  | k + 1 => by
    have h := fild_le t x a k
    simp only [fild]
    split <;> omega
def oA_add (σ : Sg) (zp0 zp1 : Int32) : Prop := okT zp0 ∧ okW zp1
def oB_add (σ : Sg) (zp0 zp1 : Int32) : Prop := sn σ (ix zp0) < 60
def oC_add (σ : Sg) (zp0 zp1 : Int32) : Prop := True
noncomputable def rr_add (σ : Sg) (zp0 zp1 : Int32) : Int32 := nI (sn σ (ix zp0) + 1)
noncomputable def ss_add (σ : Sg) (zp0 zp1 : Int32) : Sg := sT σ (ix zp0) (sn σ (ix zp0) + 1) (upd (st σ (ix zp0)) (sn σ (ix zp0)) zp1)
def oA_addMany (σ : Sg) (zp0 zp1 zp2 : Int32) : Prop := okT zp0 ∧ okW zp1
def oB_addMany (σ : Sg) (zp0 zp1 zp2 : Int32) : Prop := 0 ≤ zp2
def oC_addMany (σ : Sg) (zp0 zp1 zp2 : Int32) : Prop := zp2 ≤ nI (60 - sn σ (ix zp0))
noncomputable def rr_addMany (σ : Sg) (zp0 zp1 zp2 : Int32) : Int32 := nI (sn σ (ix zp0) + ix zp2)
noncomputable def ss_addMany (σ : Sg) (zp0 zp1 zp2 : Int32) : Sg := sT σ (ix zp0) (sn σ (ix zp0) + ix zp2) (catt (st σ (ix zp0)) (sn σ (ix zp0)) (fun _ => zp1))
def oA_insert (σ : Sg) (zp0 zp1 zp2 : Int32) : Prop := okT zp0 ∧ okW zp2 ∧ okL (sn σ (ix zp0) + 1) zp1
def oB_insert (σ : Sg) (zp0 zp1 zp2 : Int32) : Prop := sn σ (ix zp0) < 60
def oC_insert (σ : Sg) (zp0 zp1 zp2 : Int32) : Prop := True
noncomputable def rr_insert (σ : Sg) (zp0 zp1 zp2 : Int32) : Int32 := nI (sn σ (ix zp0) + 1)
noncomputable def ss_insert (σ : Sg) (zp0 zp1 zp2 : Int32) : Sg := sT σ (ix zp0) (sn σ (ix zp0) + 1) (inst (st σ (ix zp0)) (ix zp1) zp2)
def oA_set (σ : Sg) (zp0 zp1 zp2 : Int32) : Prop := okT zp0 ∧ okL (sn σ (ix zp0)) zp1 ∧ okW zp2
def oB_set (σ : Sg) (zp0 zp1 zp2 : Int32) : Prop := True
def oC_set (σ : Sg) (zp0 zp1 zp2 : Int32) : Prop := True
noncomputable def rr_set (σ : Sg) (zp0 zp1 zp2 : Int32) : Int32 := st σ (ix zp0) (ix zp1)
noncomputable def ss_set (σ : Sg) (zp0 zp1 zp2 : Int32) : Sg := sT σ (ix zp0) (sn σ (ix zp0)) (upd (st σ (ix zp0)) (ix zp1) zp2)
def oA_remove (σ : Sg) (zp0 zp1 : Int32) : Prop := okT zp0 ∧ okL (sn σ (ix zp0)) zp1
def oB_remove (σ : Sg) (zp0 zp1 : Int32) : Prop := True
def oC_remove (σ : Sg) (zp0 zp1 : Int32) : Prop := True
noncomputable def rr_remove (σ : Sg) (zp0 zp1 : Int32) : Int32 := st σ (ix zp0) (ix zp1)
noncomputable def ss_remove (σ : Sg) (zp0 zp1 : Int32) : Sg := sT σ (ix zp0) (sn σ (ix zp0) - 1) (clot (st σ (ix zp0)) (ix zp1) (ix zp1 + 1))
def oA_cut (σ : Sg) (zp0 zp1 zp2 : Int32) : Prop := okT zp0 ∧ okR (sn σ (ix zp0)) zp1 zp2
def oB_cut (σ : Sg) (zp0 zp1 zp2 : Int32) : Prop := True
def oC_cut (σ : Sg) (zp0 zp1 zp2 : Int32) : Prop := True
noncomputable def rr_cut (σ : Sg) (zp0 zp1 zp2 : Int32) : Int32 := nI (sn σ (ix zp0) - (ix zp2 - ix zp1))
noncomputable def ss_cut (σ : Sg) (zp0 zp1 zp2 : Int32) : Sg := sT σ (ix zp0) (sn σ (ix zp0) - (ix zp2 - ix zp1)) (clot (st σ (ix zp0)) (ix zp1) (ix zp2))
def oA_size (σ : Sg) (zp0 : Int32) : Prop := okT zp0
def oB_size (σ : Sg) (zp0 : Int32) : Prop := True
def oC_size (σ : Sg) (zp0 : Int32) : Prop := True
noncomputable def rr_size (σ : Sg) (zp0 : Int32) : Int32 := nI (sn σ (ix zp0))
noncomputable def ss_size (σ : Sg) (zp0 : Int32) : Sg := σ
def oA_at (σ : Sg) (zp0 zp1 : Int32) : Prop := okT zp0 ∧ okL (sn σ (ix zp0)) zp1
def oB_at (σ : Sg) (zp0 zp1 : Int32) : Prop := True
def oC_at (σ : Sg) (zp0 zp1 : Int32) : Prop := True
noncomputable def rr_at (σ : Sg) (zp0 zp1 : Int32) : Int32 := st σ (ix zp0) (ix zp1)
noncomputable def ss_at (σ : Sg) (zp0 zp1 : Int32) : Sg := σ
def oA_digest (σ : Sg) (zp0 : Int32) : Prop := okT zp0
def oB_digest (σ : Sg) (zp0 : Int32) : Prop := True
def oC_digest (σ : Sg) (zp0 : Int32) : Prop := True
noncomputable def rr_digest (σ : Sg) (zp0 : Int32) : Int32 := dgs (st σ (ix zp0)) (sn σ (ix zp0))
noncomputable def ss_digest (σ : Sg) (zp0 : Int32) : Sg := σ
def oA_setRank (σ : Sg) (zp0 zp1 : Int32) : Prop := okW zp0
def oB_setRank (σ : Sg) (zp0 zp1 : Int32) : Prop := ¬ zp1 < -9 ∧ zp1 ≤ nI 9
def oC_setRank (σ : Sg) (zp0 zp1 : Int32) : Prop := True
noncomputable def rr_setRank (σ : Sg) (zp0 zp1 : Int32) : Int32 := rk σ (ix zp0)
noncomputable def ss_setRank (σ : Sg) (zp0 zp1 : Int32) : Sg := sR σ (ix zp0) zp1
def oA_say (σ : Sg) (zp0 zp1 : Int32) : Prop := okB zp0 ∧ okW zp1
def oB_say (σ : Sg) (zp0 zp1 : Int32) : Prop := pn σ (ix zp0) < 12
def oC_say (σ : Sg) (zp0 zp1 : Int32) : Prop := True
noncomputable def rr_say (σ : Sg) (zp0 zp1 : Int32) : Int32 := nI (pn σ (ix zp0) + 1)
noncomputable def ss_say (σ : Sg) (zp0 zp1 : Int32) : Sg := sP σ (ix zp0) (pn σ (ix zp0) + 1) (upd (pt σ (ix zp0)) (pn σ (ix zp0)) zp1)
def oA_quote (σ : Sg) (zp0 zp1 zp2 zp3 : Int32) : Prop := okB zp0 ∧ okT zp1 ∧ okR (sn σ (ix zp1)) zp2 zp3
def oB_quote (σ : Sg) (zp0 zp1 zp2 zp3 : Int32) : Prop := ix zp3 - ix zp2 ≤ 12
def oC_quote (σ : Sg) (zp0 zp1 zp2 zp3 : Int32) : Prop := True
noncomputable def rr_quote (σ : Sg) (zp0 zp1 zp2 zp3 : Int32) : Int32 := nI (ix zp3 - ix zp2)
noncomputable def ss_quote (σ : Sg) (zp0 zp1 zp2 zp3 : Int32) : Sg := sP σ (ix zp0) (ix zp3 - ix zp2) (fun j => st σ (ix zp1) (ix zp2 + j))
def oA_hush (σ : Sg) (zp0 : Int32) : Prop := okB zp0
def oB_hush (σ : Sg) (zp0 : Int32) : Prop := True
def oC_hush (σ : Sg) (zp0 : Int32) : Prop := True
noncomputable def rr_hush (σ : Sg) (zp0 : Int32) : Int32 := nI (pn σ (ix zp0))
noncomputable def ss_hush (σ : Sg) (zp0 : Int32) : Sg := sP σ (ix zp0) 0 (pt σ (ix zp0))
def oA_wordOf (σ : Sg) (zp0 zp1 : Int32) : Prop := okB zp0 ∧ okL (pn σ (ix zp0)) zp1
def oB_wordOf (σ : Sg) (zp0 zp1 : Int32) : Prop := True
def oC_wordOf (σ : Sg) (zp0 zp1 : Int32) : Prop := True
noncomputable def rr_wordOf (σ : Sg) (zp0 zp1 : Int32) : Int32 := pt σ (ix zp0) (ix zp1)
noncomputable def ss_wordOf (σ : Sg) (zp0 zp1 : Int32) : Sg := σ
def oA_find (σ : Sg) (zp0 : Int32) : Prop := okT zp0
def oB_find (σ : Sg) (zp0 : Int32) : Prop := True
def oC_find (σ : Sg) (zp0 : Int32) : Prop := True
noncomputable def rr_find (σ : Sg) (zp0 : Int32) : Int32 := rI (zfst (hld (st σ (ix zp0)) (sn σ (ix zp0)) (pt σ 0) (pn σ 0)) 0 (sn σ (ix zp0) + 1 - pn σ 0))
noncomputable def ss_find (σ : Sg) (zp0 : Int32) : Sg := σ
def oA_findLast (σ : Sg) (zp0 : Int32) : Prop := okT zp0
def oB_findLast (σ : Sg) (zp0 : Int32) : Prop := True
def oC_findLast (σ : Sg) (zp0 : Int32) : Prop := True
noncomputable def rr_findLast (σ : Sg) (zp0 : Int32) : Int32 := rI (zlst (hld (st σ (ix zp0)) (sn σ (ix zp0)) (pt σ 0) (pn σ 0)) (sn σ (ix zp0) + 1 - pn σ 0))
noncomputable def ss_findLast (σ : Sg) (zp0 : Int32) : Sg := σ
def oA_findIn (σ : Sg) (zp0 zp1 zp2 : Int32) : Prop := okT zp0 ∧ okR (sn σ (ix zp0)) zp1 zp2
def oB_findIn (σ : Sg) (zp0 zp1 zp2 : Int32) : Prop := True
def oC_findIn (σ : Sg) (zp0 zp1 zp2 : Int32) : Prop := True
noncomputable def rr_findIn (σ : Sg) (zp0 zp1 zp2 : Int32) : Int32 := rI (zfst (hld (st σ (ix zp0)) (sn σ (ix zp0)) (pt σ 0) (pn σ 0)) (ix zp1) (ix zp2 + 1 - pn σ 0 - ix zp1))
noncomputable def ss_findIn (σ : Sg) (zp0 zp1 zp2 : Int32) : Sg := σ
def oA_count (σ : Sg) (zp0 zp1 : Int32) : Prop := okT zp0
def oB_count (σ : Sg) (zp0 zp1 : Int32) : Prop := True
def oC_count (σ : Sg) (zp0 zp1 : Int32) : Prop := True
noncomputable def rr_count (σ : Sg) (zp0 zp1 : Int32) : Int32 := (@ite _ (zp1 = 0) (Classical.propDecidable _) (nI (zct (hld (st σ (ix zp0)) (sn σ (ix zp0)) (pt σ 0) (pn σ 0)) (sn σ (ix zp0) + 1 - pn σ 0))) (nI (zap (hld (st σ (ix zp0)) (sn σ (ix zp0)) (pt σ 0) (pn σ 0)) (pn σ 0) (sn σ (ix zp0) + 1 - pn σ 0)).1))
noncomputable def ss_count (σ : Sg) (zp0 zp1 : Int32) : Sg := σ
def oA_replaceWord (σ : Sg) (zp0 zp1 zp2 : Int32) : Prop := okT zp0 ∧ okW zp1 ∧ okW zp2
def oB_replaceWord (σ : Sg) (zp0 zp1 zp2 : Int32) : Prop := True
def oC_replaceWord (σ : Sg) (zp0 zp1 zp2 : Int32) : Prop := True
noncomputable def rr_replaceWord (σ : Sg) (zp0 zp1 zp2 : Int32) : Int32 := pI (0 < cnt (st σ (ix zp0)) zp1 (sn σ (ix zp0)))
noncomputable def ss_replaceWord (σ : Sg) (zp0 zp1 zp2 : Int32) : Sg := sT σ (ix zp0) (sn σ (ix zp0)) (fun j => if st σ (ix zp0) j = zp1 then zp2 else st σ (ix zp0) j)
def oA_frequency (σ : Sg) (zp0 zp1 : Int32) : Prop := okT zp0 ∧ okW zp1
def oB_frequency (σ : Sg) (zp0 zp1 : Int32) : Prop := True
def oC_frequency (σ : Sg) (zp0 zp1 : Int32) : Prop := True
noncomputable def rr_frequency (σ : Sg) (zp0 zp1 : Int32) : Int32 := nI (cnt (st σ (ix zp0)) zp1 (sn σ (ix zp0)))
noncomputable def ss_frequency (σ : Sg) (zp0 zp1 : Int32) : Sg := σ
def oA_different (σ : Sg) (zp0 : Int32) : Prop := okT zp0
def oB_different (σ : Sg) (zp0 : Int32) : Prop := True
def oC_different (σ : Sg) (zp0 : Int32) : Prop := True
noncomputable def rr_different (σ : Sg) (zp0 : Int32) : Int32 := nI (zct (fun j => cnt (st σ (ix zp0)) (st σ (ix zp0) j) j = 0) (sn σ (ix zp0)))
noncomputable def ss_different (σ : Sg) (zp0 : Int32) : Sg := σ
def oA_isApart (σ : Sg) (zp0 zp1 : Int32) : Prop := okT zp0 ∧ okT zp1
def oB_isApart (σ : Sg) (zp0 zp1 : Int32) : Prop := True
def oC_isApart (σ : Sg) (zp0 zp1 : Int32) : Prop := True
noncomputable def rr_isApart (σ : Sg) (zp0 zp1 : Int32) : Int32 := pI (∀ j, j < sn σ (ix zp0) → ¬ 0 < cnt (st σ (ix zp1)) (st σ (ix zp0) j) (sn σ (ix zp1)))
noncomputable def ss_isApart (σ : Sg) (zp0 zp1 : Int32) : Sg := σ
def oA_alone (σ : Sg) (zp0 zp1 : Int32) : Prop := okT zp0 ∧ okT zp1
def oB_alone (σ : Sg) (zp0 zp1 : Int32) : Prop := True
def oC_alone (σ : Sg) (zp0 zp1 : Int32) : Prop := True
noncomputable def rr_alone (σ : Sg) (zp0 zp1 : Int32) : Int32 := nI (zct (fun j => cnt (st σ (ix zp0)) (st σ (ix zp0) j) j = 0 ∧ ¬ 0 < cnt (st σ (ix zp1)) (st σ (ix zp0) j) (sn σ (ix zp1))) (sn σ (ix zp0)))
noncomputable def ss_alone (σ : Sg) (zp0 zp1 : Int32) : Sg := σ
def oA_turn (σ : Sg) (zp0 zp1 zp2 : Int32) : Prop := okT zp0 ∧ okR (sn σ (ix zp0)) zp1 zp2
def oB_turn (σ : Sg) (zp0 zp1 zp2 : Int32) : Prop := True
def oC_turn (σ : Sg) (zp0 zp1 zp2 : Int32) : Prop := True
noncomputable def rr_turn (σ : Sg) (zp0 zp1 zp2 : Int32) : Int32 := nI (ix zp2 - ix zp1)
noncomputable def ss_turn (σ : Sg) (zp0 zp1 zp2 : Int32) : Sg := sT σ (ix zp0) (sn σ (ix zp0)) (revt (st σ (ix zp0)) (ix zp1) (ix zp2))
def oA_swap (σ : Sg) (zp0 zp1 zp2 : Int32) : Prop := okT zp0 ∧ okL (sn σ (ix zp0)) zp1 ∧ okL (sn σ (ix zp0)) zp2
def oB_swap (σ : Sg) (zp0 zp1 zp2 : Int32) : Prop := True
def oC_swap (σ : Sg) (zp0 zp1 zp2 : Int32) : Prop := True
noncomputable def rr_swap (σ : Sg) (zp0 zp1 zp2 : Int32) : Int32 := st σ (ix zp0) (ix zp2)
noncomputable def ss_swap (σ : Sg) (zp0 zp1 zp2 : Int32) : Sg := sT σ (ix zp0) (sn σ (ix zp0)) (swpt (st σ (ix zp0)) (ix zp1) (ix zp2))
def oA_fill (σ : Sg) (zp0 zp1 zp2 zp3 : Int32) : Prop := okT zp0 ∧ okR (sn σ (ix zp0)) zp1 zp2 ∧ okW zp3
def oB_fill (σ : Sg) (zp0 zp1 zp2 zp3 : Int32) : Prop := True
def oC_fill (σ : Sg) (zp0 zp1 zp2 zp3 : Int32) : Prop := True
noncomputable def rr_fill (σ : Sg) (zp0 zp1 zp2 zp3 : Int32) : Int32 := nI (fild (st σ (ix zp0)) zp3 (ix zp1) (ix zp2 - ix zp1))
noncomputable def ss_fill (σ : Sg) (zp0 zp1 zp2 zp3 : Int32) : Sg := sT σ (ix zp0) (sn σ (ix zp0)) (fun j => if ix zp1 ≤ j ∧ j < ix zp2 then zp3 else st σ (ix zp0) j)
