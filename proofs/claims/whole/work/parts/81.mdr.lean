/-! for signs and brackets of the reference -/
theorem rd_on_kt {S : fs_S} {u : fs_F} {r least l2 : Int32} {u2 : fs_F} (hm : ∀ j, j < u2.1.length → fs_in S (u2.1.getD j 0)) : fs_on (kt_S S u r least) (fs_rd S u2 l2) := kt_on u r least (fs_rd_on l2 hm)
theorem si_lo {st : Nat} (h : st < 4) (c : ¬ 2 ≤ nI st) (A B : Int32) : (if nI st = 0 then A else if nI st = 1 then A else B) = A := by
  rcases (show st = 0 ∨ st = 1 ∨ st = 2 ∨ st = 3 by omega) with r | r | r | r
  · rw [r]; exact if_pos rfl
  · rw [r, if_neg (by decide)]; exact if_pos rfl
  · rw [r] at c; exact absurd (by decide) c
  · rw [r] at c; exact absurd (by decide) c
theorem si_hi {st : Nat} (h : st < 4) (c : 2 ≤ nI st) (A B : Int32) : (if nI st = 0 then A else if nI st = 1 then A else B) = B := by
  rcases (show st = 0 ∨ st = 1 ∨ st = 2 ∨ st = 3 by omega) with r | r | r | r
  · rw [r] at c; exact absurd c (by decide)
  · rw [r] at c; exact absurd c (by decide)
  · rw [r, if_neg (by decide)]; exact if_neg (by decide)
  · rw [r, if_neg (by decide)]; exact if_neg (by decide)
theorem en2 (S : fs_S) (w : Int32) {b z : Nat} (x y : Int32) (hb : b < 2 ^ 31) (hz : z < 2 ^ 31) : fs_en S w [nI b, 0, 0, nI z, x, y] = (w, fMx (bH S b) (y + bH S z), fMx (bD S b) (bD S z - y), [nI b, 0, 0, nI z, x, y], 0, 0) := by
  have e1 : fs_eh S [nI b, 0, 0, nI z, x, y] 2 = fMx (0 + bH S (nI b).toNatClampNeg) (y + bH S (nI z).toNatClampNeg) := rfl
  have e2 : fs_ed S [nI b, 0, 0, nI z, x, y] 2 = fMx (bD S (nI b).toNatClampNeg - 0) (bD S (nI z).toNatClampNeg - y) := rfl
  have e3 : [nI b, 0, 0, nI z, x, y].length / 3 = 2 := by simp
  rw [fs_en, e3, e1, e2, nI_clamp hb, nI_clamp hz, Int32.zero_add, Int32.sub_zero]
theorem en3 (S : fs_S) (w : Int32) {b a z : Nat} (x1 y1 x y : Int32) (hb : b < 2 ^ 31) (ha : a < 2 ^ 31) (hz : z < 2 ^ 31) : fs_en S w [nI b, 0, 0, nI a, x1, y1, nI z, x, y] = (w, fMx (fMx (bH S b) (y1 + bH S a)) (y + bH S z), fMx (fMx (bD S b) (bD S a - y1)) (bD S z - y), [nI b, 0, 0, nI a, x1, y1, nI z, x, y], 0, 0) := by
  have e1 : fs_eh S [nI b, 0, 0, nI a, x1, y1, nI z, x, y] 3 = fMx (fMx (0 + bH S (nI b).toNatClampNeg) (y1 + bH S (nI a).toNatClampNeg)) (y + bH S (nI z).toNatClampNeg) := by simp [fs_eh]
  have e2 : fs_ed S [nI b, 0, 0, nI a, x1, y1, nI z, x, y] 3 = fMx (fMx (bD S (nI b).toNatClampNeg - 0) (bD S (nI a).toNatClampNeg - y1)) (bD S (nI z).toNatClampNeg - y) := by simp [fs_ed]
  have e3 : [nI b, 0, 0, nI a, x1, y1, nI z, x, y].length / 3 = 3 := by simp
  rw [fs_en, e3, e1, e2, nI_clamp hb, nI_clamp ha, nI_clamp hz, Int32.zero_add, Int32.sub_zero]
