/-! a family's sign, kept: the pure part -/
def kt_S (S : fs_S) (u : fs_F) (r least : Int32) : fs_S := if r = (-1) then fs_push S (fs_tg S u least) else S
def kt_y (S : fs_S) (r : Int32) : Int32 := if r = (-1) then nI (sN S) else r
theorem kt_le (S : fs_S) (u : fs_F) (r least : Int32) : sN S ≤ sN (kt_S S u r least) := by
  unfold kt_S
  split
  · rw [sN_push]; omega
  · exact Nat.le_refl _
theorem kt_n (S : fs_S) (u : fs_F) (r least : Int32) : sN (kt_S S u r least) = sN S + (if r = (-1) then 1 else 0) := by
  unfold kt_S
  split
  · rw [sN_push]
  · rfl
theorem kt_F (S : fs_S) (u : fs_F) (r least : Int32) (k : Nat) : sF (kt_S S u r least) k = sF S k := by
  unfold kt_S
  split <;> rfl
theorem kt_in {S : fs_S} {r : Int32} (u : fs_F) (least : Int32) (hS : sN S ≤ 120) (h : fs_on S r) : fIx (kt_y S r) < sN (kt_S S u r least) ∧ kt_y S r = nI (fIx (kt_y S r)) := by
  unfold kt_y kt_S
  by_cases e : r = (-1)
  · simp only [if_pos e]
    rw [sN_push, fIx_nI (by omega)]
    exact ⟨by omega, rfl⟩
  · simp only [if_neg e]
    obtain ⟨i, hi, e2⟩ := h.resolve_left e
    rw [e2, fIx_nI (by omega)]
    exact ⟨hi, rfl⟩
theorem fs_in.on {S : fs_S} {x : Int32} (h : fs_in S x) : fs_on S x := Or.inr h
theorem fs_in.ne {S : fs_S} {x : Int32} (h : fs_in S x) (hS : sN S ≤ 120) : ¬ x = (-1) := by
  obtain ⟨i, hi, e⟩ := h
  intro z
  have h9 := nI_pos (show i < 2 ^ 31 by omega)
  rw [← e, z] at h9
  exact h9 (by decide)
theorem fs_rd_cases (S : fs_S) (u : fs_F) (least : Int32) : fs_rd S u least = (-1) ∨ ∃ j, j < u.1.length ∧ fs_rd S u least = u.1.getD j 0 := by
  unfold fs_rd
  cases hf : u.1.find? (fs_hi S least) with
  | some x =>
    right
    obtain ⟨j, hj, e⟩ := List.getElem_of_mem (List.mem_of_find?_eq_some hf)
    exact ⟨j, hj, by simp [List.getD_eq_getElem?_getD, hj, e]⟩
  | none =>
    simp only
    split
    · left; rfl
    · split
      · left; rfl
      · rename_i h
        right
        refine ⟨u.1.length - 1, ?_, rfl⟩
        rcases Nat.eq_zero_or_pos u.1.length with q | q
        · exact absurd (by rw [q]; rfl) h
        · omega
theorem fs_rd_on {S : fs_S} {u : fs_F} (least : Int32) (h : ∀ j, j < u.1.length → fs_in S (u.1.getD j 0)) : fs_on S (fs_rd S u least) := by
  rcases fs_rd_cases S u least with e | ⟨j, hj, e⟩
  · exact Or.inl e
  · rw [e]; exact (h j hj).on
theorem fs_rd_rep {S : fs_S} {u : fs_F} {least : Int32} (hS : sN S ≤ 120) (h : ∀ j, j < u.1.length → fs_in S (u.1.getD j 0)) (hn : ¬ (nI u.1.length = 0 ∧ u.2.2.2.2 = (-1))) (hr : fs_rd S u least = (-1)) : ¬ u.2.2.2.2 = (-1) := by
  intro z
  have hl : ¬ nI u.1.length = 0 := fun q => hn ⟨q, z⟩
  unfold fs_rd at hr
  cases hf : u.1.find? (fs_hi S least) with
  | some x =>
    rw [hf] at hr
    simp only at hr
    obtain ⟨j, hj, e⟩ := List.getElem_of_mem (List.mem_of_find?_eq_some hf)
    have h9 := h j hj
    rw [show u.1.getD j 0 = x by simp [List.getD_eq_getElem?_getD, hj, e]] at h9
    exact h9.ne hS hr
  | none =>
    rw [hf] at hr
    simp only at hr
    rw [if_neg (fun q => q z), if_neg hl] at hr
    have hp : 0 < u.1.length := by
      rcases Nat.eq_zero_or_pos u.1.length with q | q
      · exact absurd (by rw [q]; rfl) hl
      · exact q
    exact (h (u.1.length - 1) (by omega)).ne hS hr
theorem fs_tg_pl {S : fs_S} {u : fs_F} {least : Int32} (hS : sN S ≤ 120) (o3 : fs_on S u.2.1) (o4 : fs_on S u.2.2.1) (o5 : fs_on S u.2.2.2.1) (o6 : fs_on S u.2.2.2.2) : fs_pl S (fs_tg S u least).2.2.2.1 := by
  show fs_pl S (fs_tp S u (fs_tn S u least)).1
  have hN : fs_tn S u least ≤ 60 := fs_rn_le _ _ _ _
  generalize fs_tn S u least = N at hN
  have h0 : fs_plq S (([], 0, 0) : fs_Pi).1 := ⟨rfl, fun j hj => absurd hj (Nat.not_lt_zero j)⟩
  have hq : fs_plq S (fs_tp S u N).1 := by
    unfold fs_tp
    split
    · exact ((h0.puo o5 hS 1).puo o6 hS N).puo o3 hS 1
    · exact ((((h0.puo o5 hS 1).puo o6 hS N).puo o4 hS 1).puo o6 hS N).puo o3 hS 1
  refine ⟨hq.1, ?_, fun j hj h3 => (hq.2 j hj h3).on⟩
  have l1 := fs_le1 u.2.1
  have l2 := fs_le1 u.2.2.1
  have l3 := fs_le1 u.2.2.2.1
  have l4 : (if u.2.2.2.2 = (-1) then 0 else N) ≤ N := by split <;> omega
  unfold fs_tp
  split <;> simp only [fs_puo_len, List.length_nil] <;> omega
theorem fs_c10 (x : Int32) : (if x = (-1) then (1 : Int32) else 0) = nI (if x = (-1) then 1 else 0) := by split <;> rfl
theorem rmk_le {S : fs_S} {n : Nat} (hn : n ≤ 1000) (hS : sN S ≤ 120) (h : rmk S (nI n)) : sN S + n ≤ 120 := by
  rcases Nat.lt_or_ge 120 (sN S + n) with q | q
  · refine absurd ?_ h
    rw [nI_add]
    exact nI_lt (a := 120) q (by omega)
  · exact q
theorem fs_le10 (x : Int32) : (if x = (-1) then 1 else 0) ≤ 1 := by split <;> omega
/-! signOf, root, brackets: when they throw, and what they make -/
abbrev isG (S : fs_S) (k : Nat) : Prop := ¬ (nI (sF S k).1.length = 0 ∧ (sF S k).2.2.2.2 = (-1))
def ex_signOf (S : fs_S) (k least : Int32) : Nat := if ¬ isF k then 1 else if ¬ wi least 0 100000000 then 2 else if ¬ isG S (fIx k) then 3 else if ¬ rmk S (if fs_rd S (sF S (fIx k)) least = (-1) then 1 else 0) then 4 else 0
def ro_l (S : fs_S) (st x : Int32) : Int32 := fMx 0 (fEx S (nI (fIx x)) + fs_rc S (fIx st) + pV S (fIx st) 13)
def ro_r (S : fs_S) (st x k : Int32) : Int32 := fs_rd S (sF S (fIx k)) (ro_l S st x)
def ro_S (S : fs_S) (st x k : Int32) : fs_S := kt_S S (sF S (fIx k)) (ro_r S st x k) (ro_l S st x)
def ex_root (S : fs_S) (st x k : Int32) : Nat := if ¬ (isB S x ∧ isF k) then 1 else if ¬ isT st then 2 else if ¬ isG S (fIx k) then 3 else if ¬ rmk S ((if ro_r S st x k = (-1) then 1 else 0) + 1) then 4 else 0
def re_root (S : fs_S) (st x k : Int32) : fs_B := fs_rs (ro_S S st x k) (fIx x) (fIx (kt_y S (ro_r S st x k))) (fs_rc S (fIx st)) (if ro_r S st x k = (-1) then 1 else 0)
def br_l (S : fs_S) (st x : Int32) : Int32 := fs_bl S (fIx st) (fIx x)
def br_r (S : fs_S) (st x k : Int32) : Int32 := fs_rd S (sF S (fIx k)) (br_l S st x)
def br_S1 (S : fs_S) (st a x : Int32) : fs_S := kt_S S (sF S (fIx a)) (br_r S st x a) (br_l S st x)
def br_S (S : fs_S) (st a x b : Int32) : fs_S := kt_S (br_S1 S st a x) (sF S (fIx b)) (br_r S st x b) (br_l S st x)
def br_y (S : fs_S) (st a x : Int32) : Nat := fIx (kt_y S (br_r S st x a))
def br_z (S : fs_S) (st a x b : Int32) : Nat := fIx (kt_y (br_S1 S st a x) (br_r S st x b))
def ex_brackets (S : fs_S) (st a x b : Int32) : Nat := if ¬ (isF a ∧ isB S x ∧ isF b) then 1 else if ¬ isT st then 2 else if ¬ (isG S (fIx a) ∧ isG S (fIx b)) then 3 else if ¬ rmk S ((if br_r S st x a = (-1) then 1 else 0) + (if br_r S st x b = (-1) then 1 else 0) + 1) then 4 else 0
def re_br (S : fs_S) (st y x z : Nat) : fs_B := fs_en S (bW S y + bW S x + bW S z) [nI y, 0, fs_ax S st y, nI x, bW S y, 0, nI z, bW S y + bW S x, fs_ax S st z]
def re_brackets (S : fs_S) (st a x b : Int32) : fs_B := re_br (br_S S st a x b) (fIx st) (br_y S st a x) (fIx x) (br_z S st a x b)
