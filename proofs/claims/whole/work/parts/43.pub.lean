/-! PUBLIC CALLS: when they throw (0: not; else the exception's place in the method's list), and what they make -/
abbrev isB (S : fs_S) (x : Int32) : Prop := ¬ x < 0 ∧ ¬ nI (sN S) ≤ x
abbrev isO (S : fs_S) (x : Int32) : Prop := x = (-1) ∨ (¬ x < 0 ∧ ¬ nI (sN S) ≤ x)
abbrev isF (x : Int32) : Prop := ¬ x < 0 ∧ ¬ 8 ≤ x
abbrev isT (x : Int32) : Prop := ¬ x < 0 ∧ ¬ 3 < x
abbrev wi (x a b : Int32) : Prop := ¬ x < a ∧ ¬ b < x
abbrev rmk (S : fs_S) (k : Int32) : Prop := ¬ 120 < nI (sN S) + k
abbrev on2 (a b : Int32) : Prop := ¬ (a = (-1) ∧ b = (-1))
theorem fIx_nI {i : Nat} (h : i < 2 ^ 31) : fIx (nI i) = i := nI_clamp h
theorem fIx_of {x : Int32} (h : ¬ x < 0) : x = nI (fIx x) := by
  obtain ⟨j, hj, e⟩ := nI_of h
  rw [e, fIx_nI hj]
theorem isB_lt {S : fs_S} {x : Int32} (h : isB S x) (hS : sN S ≤ 120) : fIx x < sN S := by
  have e := fIx_of h.1
  rcases Nat.lt_or_ge (fIx x) (sN S) with q | q
  · exact q
  · obtain ⟨j, hj, e2⟩ := nI_of h.1
    rw [e2, fIx_nI hj] at q
    exact absurd (by rw [e2]; exact nI_le q hj) h.2
theorem isB_of {S : fs_S} {i : Nat} (h : i < sN S) (hS : sN S ≤ 120) : isB S (nI i) := ⟨nI_pos (by omega), nI_ge h (by omega)⟩
theorem isT_lt {x : Int32} (h : isT x) : fIx x < 4 := by
  obtain ⟨j, hj, e2⟩ := nI_of h.1
  rcases Nat.lt_or_ge j 4 with q | q
  · rw [e2, fIx_nI hj]; exact q
  · exact absurd (show (3 : Int32) < x by rw [e2]; exact nI_lt (a := 3) (by omega) hj) h.2
theorem isF_lt {x : Int32} (h : isF x) : fIx x < 8 := by
  obtain ⟨j, hj, e2⟩ := nI_of h.1
  rcases Nat.lt_or_ge j 8 with q | q
  · rw [e2, fIx_nI hj]; exact q
  · exact absurd (show (8 : Int32) ≤ x by rw [e2]; exact nI_le (a := 8) (by omega) hj) h.2
theorem isO_on {S : fs_S} {x : Int32} (h : isO S x) (hS : sN S ≤ 120) : fs_on S x := h.elim Or.inl (fun h => Or.inr ⟨fIx x, isB_lt h hS, fIx_of h.1⟩)
theorem rmk_lt {S : fs_S} (h : rmk S 1) (hS : sN S ≤ 120) : sN S < 120 := by
  rcases Nat.lt_or_ge (sN S) 120 with q | q
  · exact q
  · exact absurd (show (120 : Int32) < nI (sN S) + 1 by rw [nI_1]; exact nI_lt (a := 120) (by omega) (by omega)) h
theorem fs_pl1 {S : fs_S} {a x1 x2 : Int32} (ha : fs_on S a) : fs_pl S [a, x1, x2] := ⟨by simp, by simp, fun j hj h3 => by
  rcases (show j = 0 by simp at hj; omega) with rfl; exact ha⟩
theorem fs_pl2 {S : fs_S} {a b x1 x2 x4 x5 : Int32} (ha : fs_on S a) (hb : fs_on S b) : fs_pl S [a, x1, x2, b, x4, x5] := ⟨by simp, by simp, fun j hj h3 => by
  rcases (show j = 0 ∨ j = 3 by simp at hj; omega) with rfl | rfl
  · exact ha
  · exact hb⟩
theorem fs_pl3 {S : fs_S} {a b c x1 x2 x4 x5 x7 x8 : Int32} (ha : fs_on S a) (hb : fs_on S b) (hc : fs_on S c) : fs_pl S [a, x1, x2, b, x4, x5, c, x7, x8] := ⟨by simp, by simp, fun j hj h3 => by
  rcases (show j = 0 ∨ j = 3 ∨ j = 6 by simp at hj; omega) with rfl | rfl | rfl
  · exact ha
  · exact hb
  · exact hc⟩
theorem fs_pl0 {S : fs_S} : fs_pl S [] := ⟨by simp, by simp, fun j hj h3 => absurd hj (Nat.not_lt_zero j)⟩
theorem on_i {S : fs_S} {i : Nat} (h : i < sN S) : fs_on S (nI i) := Or.inr ⟨i, h, rfl⟩
theorem fs_lm_pl {S : fs_S} {st b : Nat} {a z : Int32} (hb : b < sN S) (ha : fs_on S a) (hz : fs_on S z) : fs_pl S (fs_lm S st b a z).2.2.2.1 := by
  show fs_pl S (_ ++ _ ++ _)
  by_cases h1 : a = -1 <;> by_cases h2 : z = -1 <;> simp only [h1, h2, if_true, if_false]
  · exact fs_pl1 (on_i hb)
  · exact fs_pl2 (on_i hb) hz
  · exact fs_pl2 ha (on_i hb)
  · exact fs_pl3 ha (on_i hb) hz
def ex_box (S : fs_S) (w h d : Int32) : Nat := if ¬ (wi w 0 1000000 ∧ wi h (-1000000) 1000000 ∧ wi d (-1000000) 1000000) then 1 else if ¬ rmk S 1 then 2 else 0
def ex_fraction (S : fs_S) (st n d t : Int32) : Nat := if ¬ (isB S n ∧ isB S d) then 1 else if ¬ (isT st ∧ wi t 0 1000000) then 2 else if ¬ rmk S 1 then 3 else 0
def ex_lim (S : fs_S) (st b a z : Int32) : Nat := if ¬ (isB S b ∧ isO S a ∧ isO S z) then 1 else if ¬ (isT st ∧ on2 a z) then 2 else if ¬ rmk S 1 then 3 else 0
def ex_row (S : fs_S) (a g b : Int32) : Nat := if ¬ (isB S a ∧ isB S b) then 1 else if ¬ wi g (-1000000) 1000000 then 2 else if ¬ rmk S 1 then 3 else 0
def ex_centre (S : fs_S) (st x : Int32) : Nat := if ¬ isB S x then 1 else if ¬ isT st then 2 else if ¬ rmk S 1 then 3 else 0
def re_fraction (S : fs_S) (st n d t : Int32) : fs_B := if t ≤ 0 then fs_fb S (fIx st) (fIx n) (fIx d) else fs_fl S (fIx st) (fIx n) (fIx d) t
def re_row (S : fs_S) (a g b : Int32) : fs_B := fs_en S (bW S (fIx a) + g + bW S (fIx b)) [nI (fIx a), 0, 0, nI (fIx b), bW S (fIx a) + g, 0]
def re_centre (S : fs_S) (st x : Int32) : fs_B := fs_en S (bW S (fIx x)) [nI (fIx x), 0, fs_ax S (fIx st) (fIx x)]
def si_u (S : fs_S) (st b : Nat) (lt : Int32) : Int32 := if lt = 0 then bH S b - (if nI st = 0 then pV S 2 11 else if nI st = 1 then pV S 2 11 else pV S 3 11) else 0
def si_v (S : fs_S) (st b : Nat) (lt : Int32) : Int32 := if lt = 0 then bD S b + (if nI st = 0 then pV S 2 12 else if nI st = 1 then pV S 2 12 else pV S 3 12) else 0
/-- SIGNS -/
def re_signs (S : fs_S) (st cr b lt a z : Int32) : fs_B :=
  if a = -1 then fs_en S (bW S (fIx b) + bW S (fIx z) + sSp S) [nI (fIx b), 0, 0, nI (fIx z), bW S (fIx b), -(fs_da S (fIx st) (si_v S (fIx st) (fIx b) lt) (fIx z))]
  else if z = -1 then fs_en S (bW S (fIx b) + bW S (fIx a) + sSp S) [nI (fIx b), 0, 0, nI (fIx a), bW S (fIx b), fs_us S (fIx st) cr (si_u S (fIx st) (fIx b) lt) (fIx a)]
  else fs_sb S (fIx st) (fs_us S (fIx st) cr (si_u S (fIx st) (fIx b) lt) (fIx a)) (si_v S (fIx st) (fIx b) lt) (fIx b) (fIx a) (fIx z)
/-- what a call that made one box leaves -/
def fs_Mk (G : gx_G) (f : fs_A) (M : mw_M) (S : fs_S) (ex : Nat) (b : fs_B) (v : Option Value) (M9 : mw_M) : Prop := ex = 0 ∧ v = some (.int (nI (sN S))) ∧ fs_R G f M9 (fs_push S b) ∧ fs_keeps f M M9
def fs_Th (ex : Nat) (Ls : List String) (E : String) : Prop := ∃ k, ex = k + 1 ∧ Ls[k]? = some E
