/-! the reference's last box, its families: reading -/
section MDT
variable {np : Nat} {bg : Nat → Nat} {g : Nat → Nat → Int32} {S : fs_S}
theorem md_R.of {G : gx_G} {o : Nat} {A : Nat → Nat} {M : mw_M} {th z : Int32} {b : fs_B} (hT : md_at G o A M th (sSp S) (sSh S) (nI (sN S + 1)) (nI np) z g) (hB : md_ab np bg g (fs_push S b)) : md_R G o A M th z (fs_push S b) :=
  ⟨np, bg, g, by rw [sN_push]; exact hT, hB⟩
theorem md_ab.topb {b : fs_B} (h : md_ab np bg g (fs_push S b)) : md_bx g np (bg (sN S)) (sN S) b := by
  have h9 := h.2.2.1 (sN S) (by rw [sN_push]; omega)
  rw [sB_push_eq] at h9
  exact h9
theorem md_ab.topW {w y d : Int32} {P : List Int32} {rw rh : Int32} (h : md_ab np bg g (fs_push S (w, y, d, P, rw, rh))) : g 1 (sN S) = w := h.topb.1.1
theorem md_ab.topH {w y d : Int32} {P : List Int32} {rw rh : Int32} (h : md_ab np bg g (fs_push S (w, y, d, P, rw, rh))) : g 2 (sN S) = y := h.topb.1.2.1
theorem md_ab.topD {w y d : Int32} {P : List Int32} {rw rh : Int32} (h : md_ab np bg g (fs_push S (w, y, d, P, rw, rh))) : g 3 (sN S) = d := h.topb.1.2.2.1
theorem md_ab.topM {w y d : Int32} {P : List Int32} {rw rh : Int32} (h : md_ab np bg g (fs_push S (w, y, d, P, rw, rh))) : g 5 (sN S) = nI (P.length / 3) := h.topb.1.2.2.2.2.1
theorem md_ab.set1 {w y d : Int32} {P : List Int32} {rw rh : Int32} (h : md_ab np bg g (fs_push S (w, y, d, P, rw, rh))) (x : Int32) : md_ab np bg (ug g 1 (sN S) x) (fs_push S (x, y, d, P, rw, rh)) := by
  obtain ⟨b1, b2, b3, b4, b5, b6, b7⟩ := h.topb.1
  refine h.top rfl (fun j i q => ?_) ⟨by simp [ug_app], by simpa [ug_app] using b2, by simpa [ug_app] using b3, by simpa [ug_app] using b6, by simpa [ug_app] using b7⟩
  rw [ug_app, if_neg (by omega)]
theorem md_ab.set2 {w y d : Int32} {P : List Int32} {rw rh : Int32} (h : md_ab np bg g (fs_push S (w, y, d, P, rw, rh))) (x : Int32) : md_ab np bg (ug g 2 (sN S) x) (fs_push S (w, x, d, P, rw, rh)) := by
  obtain ⟨b1, b2, b3, b4, b5, b6, b7⟩ := h.topb.1
  refine h.top rfl (fun j i q => ?_) ⟨by simpa [ug_app] using b1, by simp [ug_app], by simpa [ug_app] using b3, by simpa [ug_app] using b6, by simpa [ug_app] using b7⟩
  rw [ug_app, if_neg (by omega)]
theorem md_ab.set3 {w y d : Int32} {P : List Int32} {rw rh : Int32} (h : md_ab np bg g (fs_push S (w, y, d, P, rw, rh))) (x : Int32) : md_ab np bg (ug g 3 (sN S) x) (fs_push S (w, y, x, P, rw, rh)) := by
  obtain ⟨b1, b2, b3, b4, b5, b6, b7⟩ := h.topb.1
  refine h.top rfl (fun j i q => ?_) ⟨by simpa [ug_app] using b1, by simpa [ug_app] using b2, by simp [ug_app], by simpa [ug_app] using b6, by simpa [ug_app] using b7⟩
  rw [ug_app, if_neg (by omega)]
theorem md_ab.set6 {w y d : Int32} {P : List Int32} {rw rh : Int32} (h : md_ab np bg g (fs_push S (w, y, d, P, rw, rh))) (x : Int32) : md_ab np bg (ug g 6 (sN S) x) (fs_push S (w, y, d, P, x, rh)) := by
  obtain ⟨b1, b2, b3, b4, b5, b6, b7⟩ := h.topb.1
  refine h.top rfl (fun j i q => ?_) ⟨by simpa [ug_app] using b1, by simpa [ug_app] using b2, by simpa [ug_app] using b3, by simp [ug_app], by simpa [ug_app] using b7⟩
  rw [ug_app, if_neg (by omega)]
theorem md_ab.set7 {w y d : Int32} {P : List Int32} {rw rh : Int32} (h : md_ab np bg g (fs_push S (w, y, d, P, rw, rh))) (x : Int32) : md_ab np bg (ug g 7 (sN S) x) (fs_push S (w, y, d, P, rw, x)) := by
  obtain ⟨b1, b2, b3, b4, b5, b6, b7⟩ := h.topb.1
  refine h.top rfl (fun j i q => ?_) ⟨by simpa [ug_app] using b1, by simpa [ug_app] using b2, by simpa [ug_app] using b3, by simpa [ug_app] using b6, by simp [ug_app]⟩
  rw [ug_app, if_neg (by omega)]
theorem md_ab.signs (h : md_ab np bg g S) {k : Nat} (hk : k < 8) : g 11 k = nI (sF S k).1.length := (h.2.2.2.2.2.2 k hk).1
theorem md_ab.mem (h : md_ab np bg g S) {k : Nat} (hk : k < 8) {j : Nat} (hj : j < (sF S k).1.length) : g 12 (4 * k + j) = (sF S k).1.getD j 0 := (h.2.2.2.2.2.2 k hk).2.2.1 j hj
theorem md_ab.hasP (h : md_ab np bg g S) {k : Nat} (hk : k < 8) : g 13 k = bI (¬ (sF S k).2.2.2.2 = (-1)) := by
  rw [(h.2.2.2.2.2.2 k hk).2.2.2.1]
  by_cases e : (sF S k).2.2.2.2 = (-1)
  · rw [if_pos e, bI_0 (fun q => q e)]
  · rw [if_neg e, bI_1 e]
theorem md_ab.pcs (h : md_ab np bg g S) {k : Nat} (hk : k < 8) (hr : ¬ (sF S k).2.2.2.2 = (-1)) : g 14 (4 * k) = (sF S k).2.1 ∧ g 14 (4 * k + 1) = (sF S k).2.2.1 ∧ g 14 (4 * k + 2) = (sF S k).2.2.2.1 ∧ g 14 (4 * k + 3) = (sF S k).2.2.2.2 := (h.2.2.2.2.2.2 k hk).2.2.2.2 hr
end MDT
theorem top_1 (n : Nat) : nI (n + 1) - 1 = nI n := by
  rw [show (1 : Int32) = nI 1 from rfl, pk_sub (by omega)]
  rfl
theorem us_hi {st : Nat} (h : st < 4) (c : 2 ≤ nI st) : nI st - 1 = nI (fSz st) := by
  have h2 : ¬ st ≤ 1 := fun q => absurd c (nI_ge (a := st) (b := 2) (by omega) (by decide))
  rw [show fSz st = st - 1 from if_neg h2, show (1 : Int32) = nI 1 from rfl, pk_sub (by omega)]
theorem us_lo {st : Nat} (h : st < 4) (c : ¬ 2 ≤ nI st) : 0 = nI (fSz st) := by
  have h2 : st ≤ 1 := by
    rcases Nat.lt_or_ge 1 st with q | q
    · exact absurd (nI_le (a := 2) q (by omega)) c
    · exact q
  rw [show fSz st = 0 from if_pos h2]
  rfl
theorem many1 {P : List Int32} {a b c : Int32} (h3 : P.length % 3 = 0) (h9 : P.length ≤ 369) : (nI ((P ++ [a, b, c]).length / 3) = 1) ↔ nI P.length = 0 := by
  have hl : (P ++ [a, b, c]).length / 3 = P.length / 3 + 1 := by simp only [List.length_append, List.length_cons, List.length_nil]; omega
  rw [hl]
  constructor
  · intro h
    rcases Nat.eq_zero_or_pos P.length with q | q
    · rw [q]; rfl
    · exfalso
      have h2 : nI (P.length / 3 + 1) - 1 = 0 := by rw [h]; rfl
      rw [top_1] at h2
      exact nI_ne0 (by omega) (by omega) h2
  · intro h
    rcases Nat.eq_zero_or_pos P.length with q | q
    · rw [q]; rfl
    · exact absurd h (nI_ne0 (by omega) (by omega))
/-- the plan of the reference -/
def md_pl (S : fs_S) (u : fs_F) (least : Int32) : Int32 := match u.1.find? (fs_hi S least) with
  | some x => x
  | none => if ¬ u.2.2.2.2 = (-1) then (-3) else if nI u.1.length = 0 then (-2) else u.1.getD (u.1.length - 1) 0
theorem pl_cases {S : fs_S} {u : fs_F} (least : Int32) (h4 : u.1.length ≤ 4) (hm : ∀ j, j < u.1.length → fs_in S (u.1.getD j 0)) :
    (md_pl S u least = (-2) ∧ (nI u.1.length = 0 ∧ u.2.2.2.2 = (-1))) ∨ (¬ (nI u.1.length = 0 ∧ u.2.2.2.2 = (-1)) ∧ md_pl S u least = (-3) ∧ fs_rd S u least = (-1) ∧ ¬ u.2.2.2.2 = (-1)) ∨ (¬ (nI u.1.length = 0 ∧ u.2.2.2.2 = (-1)) ∧ md_pl S u least = fs_rd S u least ∧ fs_in S (fs_rd S u least)) := by
  unfold md_pl fs_rd
  cases hf : u.1.find? (fs_hi S least) with
  | some x =>
    right; right
    obtain ⟨j, hj, e⟩ := List.getElem_of_mem (List.mem_of_find?_eq_some hf)
    have h9 := hm j hj
    rw [show u.1.getD j 0 = x by simp [List.getD_eq_getElem?_getD, hj, e]] at h9
    refine ⟨fun q => ?_, rfl, h9⟩
    exact nI_ne0 (by omega) (by omega) q.1
  | none =>
    have q1 : ∀ (x y : Int32), u.2.2.2.2 = (-1) → (if ¬ u.2.2.2.2 = (-1) then x else y) = y := fun x y h => if_neg (fun q => q h)
    have q2 : ∀ (x y : Int32), ¬ u.2.2.2.2 = (-1) → (if ¬ u.2.2.2.2 = (-1) then x else y) = x := fun x y h => if_pos h
    by_cases h1 : u.2.2.2.2 = (-1)
    · simp only [q1 _ _ h1]
      by_cases h2 : nI u.1.length = 0
      · left
        exact ⟨if_pos h2, h2, h1⟩
      · right; right
        simp only [if_neg h2]
        refine ⟨fun q => h2 q.1, trivial, hm _ ?_⟩
        rcases Nat.eq_zero_or_pos u.1.length with q | q
        · exact absurd (by rw [q]; rfl) h2
        · omega
    · right; left
      simp only [q2 _ _ h1]
      exact ⟨fun q => h1 q.2, trivial, trivial, h1⟩
