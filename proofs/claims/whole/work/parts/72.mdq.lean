/-! further facts for the reference's public calls -/
theorem wi01 (x : Int32) : wi x 0 1 ↔ (x = 0 ∨ x = 1) := by
  constructor
  · intro h
    obtain ⟨j, hj, e⟩ := nI_of h.1
    rcases Nat.lt_or_ge j 2 with q | q
    · rcases (show j = 0 ∨ j = 1 by omega) with r | r
      · left; rw [e, r]; rfl
      · right; rw [e, r]; rfl
    · exact absurd (show (1 : Int32) < x by rw [e]; exact nI_lt (a := 1) (by omega) hj) h.2
  · rintro (h | h) <;> rw [h] <;> exact ⟨by decide, by decide⟩
theorem wi03 (x : Int32) : wi x 0 3 ↔ (x = 0 ∨ x = 1 ∨ x = 2 ∨ x = 3) := by
  constructor
  · intro h
    obtain ⟨j, hj, e⟩ := nI_of h.1
    rcases Nat.lt_or_ge j 4 with q | q
    · rcases (show j = 0 ∨ j = 1 ∨ j = 2 ∨ j = 3 by omega) with r | r | r | r
      · left; rw [e, r]; rfl
      · right; left; rw [e, r]; rfl
      · right; right; left; rw [e, r]; rfl
      · right; right; right; rw [e, r]; rfl
    · exact absurd (show (3 : Int32) < x by rw [e]; exact nI_lt (a := 3) (by omega) hj) h.2
  · rintro (h | h | h | h) <;> rw [h] <;> exact ⟨by decide, by decide⟩
theorem wi05 (x : Int32) : wi x 0 5 ↔ (¬ x < 0 ∧ x ≤ 5) := and_congr Iff.rfl Int32.not_lt
theorem wiLt (x : Int32) (n : Nat) (hn : n + 1 < 2 ^ 31) : wi x 0 (nI n) ↔ (¬ x < 0 ∧ x < nI (n + 1)) := by
  refine and_congr Iff.rfl ?_
  rw [le_lt1 x n hn]
  exact Int32.not_le
theorem wiPart (x : Int32) {n : Nat} (h9 : n ≤ 369) : wi x 0 (nI (n / 3) - 1) ↔ (¬ x < 0 ∧ x < nI n / 3) := by
  have e : nI n / 3 = nI (n / 3) := pk_div (d := 3) (by omega) (by decide) (by decide)
  rw [e]
  refine and_congr Iff.rfl ?_
  have e1 : (nI (n / 3) - 1).toInt = ((n / 3 : Nat) : Int) - 1 := by
    rcases Nat.eq_zero_or_pos (n / 3) with q | q
    · rw [q]; rfl
    · rw [show (1 : Int32) = nI 1 from rfl, pk_sub (by omega), nI_toInt (by omega)]
      omega
  rw [Int32.lt_iff_toInt_lt, Int32.lt_iff_toInt_lt, e1, nI_toInt (by omega)]
  omega
theorem eq4 {n : Nat} (h : n ≤ 4) : nI n = 4 ↔ ¬ nI n < 4 := by
  rcases (show n = 0 ∨ n = 1 ∨ n = 2 ∨ n = 3 ∨ n = 4 by omega) with r | r | r | r | r <;> rw [r] <;> decide
theorem rmk0 {S : fs_S} (hS : sN S ≤ 120) : rmk S 0 := by
  show ¬ 120 < nI (sN S) + 0
  rw [Int32.add_zero]
  exact nI_nlt (a := 120) (by omega) (by decide)
theorem fEx_in {S : fs_S} {i : Nat} (h : i < sN S) (hS : sN S ≤ 120) : fEx S (nI i) = bH S i + bD S i := by
  rw [fEx, if_neg (fs_in.ne ⟨i, h, rfl⟩ hS), nI_clamp (by omega)]
theorem md_ab.sgn {np : Nat} {bg : Nat → Nat} {g : Nat → Nat → Int32} {S : fs_S} (h : md_ab np bg g S) {k : Nat} (hk : k < 8) {x : Int32} (h4 : (sF S k).1.length < 4) :
    md_ab np bg (ug (ug g 12 (4 * k + (sF S k).1.length) x) 11 k (nI (sF S k).1.length + 1)) (fs_fa S k ((sF S k).1 ++ [x], (sF S k).2)) := by
  have hl : ((sF S k).1 ++ [x]).length = (sF S k).1.length + 1 := by simp
  refine h.fam (fun j i hj => ?_) (fun m hm hne => ?_) ?_
  · rw [ug_app, if_neg (by omega), ug_app, if_neg (by omega)]
  · obtain ⟨a1, a2, a3, a4, a5⟩ := h.2.2.2.2.2.2 m hm
    refine ⟨?_, a2, fun j hj => ?_, ?_, fun q => ?_⟩
    · rw [ug_app, if_neg (by omega), ug_app, if_neg (by omega)]; exact a1
    · rw [ug_app, if_neg (by omega), ug_app, if_neg (by omega)]; exact a3 j hj
    · rw [ug_app, if_neg (by omega), ug_app, if_neg (by omega)]; exact a4
    · simp only [ug_app]
      simpa using a5 q
  · obtain ⟨a1, a2, a3, a4, a5⟩ := h.2.2.2.2.2.2 k hk
    refine ⟨?_, ?_, fun j hj => ?_, ?_, fun q => ?_⟩
    · rw [ug_app, if_pos ⟨rfl, rfl⟩, nI_1, ← hl]
    · simp only [hl]; omega
    · simp only [hl] at hj
      rw [ug_app, if_neg (by omega), ug_app]
      by_cases e : j = (sF S k).1.length
      · subst e
        rw [if_pos ⟨rfl, rfl⟩]
        simp [List.getD_eq_getElem?_getD]
      · have hj3 : j < (sF S k).1.length := by omega
        rw [if_neg (by omega), a3 j hj3]
        simp [List.getD_eq_getElem?_getD, List.getElem?_append_left hj3]
    · rw [ug_app, if_neg (by omega), ug_app, if_neg (by omega)]; exact a4
    · simp only [ug_app]
      simpa using a5 q
theorem md_ab.pieces {np : Nat} {bg : Nat → Nat} {g : Nat → Nat → Int32} {S : fs_S} (h : md_ab np bg g S) {k : Nat} (hk : k < 8) {u d lo r : Int32} (hr : ¬ r = (-1)) :
    md_ab np bg (ug (ug (ug (ug (ug g 13 k 1) 14 (4 * k) u) 14 (4 * k + 1) d) 14 (4 * k + 2) lo) 14 (4 * k + 3) r) (fs_fa S k ((sF S k).1, u, d, lo, r)) := by
  refine h.fam (fun j i hj => ?_) (fun m hm hne => ?_) ?_
  · rw [ug_app, if_neg (by omega), ug_app, if_neg (by omega), ug_app, if_neg (by omega), ug_app, if_neg (by omega), ug_app, if_neg (by omega)]
  · obtain ⟨a1, a2, a3, a4, a5⟩ := h.2.2.2.2.2.2 m hm
    have hq : ∀ i, i < 4 → ug (ug (ug (ug (ug g 13 k 1) 14 (4 * k) u) 14 (4 * k + 1) d) 14 (4 * k + 2) lo) 14 (4 * k + 3) r 14 (4 * m + i) = g 14 (4 * m + i) := fun i hi => by
      rw [ug_app, if_neg (by omega), ug_app, if_neg (by omega), ug_app, if_neg (by omega), ug_app, if_neg (by omega), ug_app, if_neg (by omega)]
    refine ⟨?_, a2, fun j hj => ?_, ?_, fun q => ?_⟩
    · rw [ug_app, if_neg (by omega), ug_app, if_neg (by omega), ug_app, if_neg (by omega), ug_app, if_neg (by omega), ug_app, if_neg (by omega)]; exact a1
    · rw [ug_app, if_neg (by omega), ug_app, if_neg (by omega), ug_app, if_neg (by omega), ug_app, if_neg (by omega), ug_app, if_neg (by omega)]; exact a3 j hj
    · rw [ug_app, if_neg (by omega), ug_app, if_neg (by omega), ug_app, if_neg (by omega), ug_app, if_neg (by omega), ug_app, if_neg (by omega)]; exact a4
    · exact ⟨(hq 0 (by decide)).trans (a5 q).1, (hq 1 (by decide)).trans (a5 q).2.1, (hq 2 (by decide)).trans (a5 q).2.2.1, (hq 3 (by decide)).trans (a5 q).2.2.2⟩
  · obtain ⟨a1, a2, a3, a4, a5⟩ := h.2.2.2.2.2.2 k hk
    refine ⟨?_, a2, fun j hj => ?_, ?_, fun q => ?_⟩
    · rw [ug_app, if_neg (by omega), ug_app, if_neg (by omega), ug_app, if_neg (by omega), ug_app, if_neg (by omega), ug_app, if_neg (by omega)]; exact a1
    · rw [ug_app, if_neg (by omega), ug_app, if_neg (by omega), ug_app, if_neg (by omega), ug_app, if_neg (by omega), ug_app, if_neg (by omega)]; exact a3 j hj
    · rw [if_neg hr, ug_app, if_neg (by omega), ug_app, if_neg (by omega), ug_app, if_neg (by omega), ug_app, if_neg (by omega), ug_app, if_pos ⟨rfl, rfl⟩]
    · refine ⟨?_, ?_, ?_, ?_⟩
      · rw [ug_app, if_neg (by omega), ug_app, if_neg (by omega), ug_app, if_neg (by omega), ug_app, if_pos ⟨rfl, rfl⟩]
      · rw [ug_app, if_neg (by omega), ug_app, if_neg (by omega), ug_app, if_pos ⟨rfl, rfl⟩]
      · rw [ug_app, if_neg (by omega), ug_app, if_pos ⟨rfl, rfl⟩]
      · rw [ug_app, if_pos ⟨rfl, rfl⟩]
