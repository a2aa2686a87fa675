/-! a pile in the map -/
def fs_pi (G : gx_G) (M : mw_M) (a pl n : Nat) (u : fs_Pi) : Prop := ∃ g : Nat → Int32, M a = some (.inr (2, [.ref pl, .int (nI u.1.length), .int u.2.1, .int u.2.2])) ∧ M pl = some (.inl (gI G, n, .inl g)) ∧ (∀ j, j < u.1.length → g j = u.1.getD j 0) ∧ ∀ j, u.1.length ≤ j → g j = 0
/-- a box put on it -/
def fs_pw (u : fs_Pi) (x w h d : Int32) : fs_Pi := (u.1 ++ [x, 0, u.2.1 + d], u.2.1 + (h + d), if nI u.1.length = 0 then w else fMx u.2.2 w)
theorem fs_pi.put {G : gx_G} {M : mw_M} {a pl n : Nat} {u : fs_Pi} {x w h d : Int32} {g : Nat → Int32} (h1 : M a = some (.inr (2, [.ref pl, .int (nI u.1.length + 3), .int (u.2.1 + (h + d)), .int (if nI u.1.length = 0 then w else fMx u.2.2 w)])))
    (h2 : M pl = some (.inl (gI G, n, .inl (upd (upd g u.1.length x) (u.1.length + 2) (u.2.1 + d))))) (h3 : ∀ j, j < u.1.length → g j = u.1.getD j 0) (h4 : ∀ j, u.1.length ≤ j → g j = 0) : fs_pi G M a pl n (fs_pw u x w h d) := by
  have hlen : (u.1 ++ [x, 0, u.2.1 + d]).length = u.1.length + 3 := by simp
  refine ⟨_, ?_, h2, fun j hj => ?_, fun j hj => ?_⟩
  · rw [h1]
    simp only [fs_pw, hlen]
    rw [show nI u.1.length + 3 = nI (u.1.length + 3) from nI_add _ 3]
  · have hj2 : j < u.1.length + 3 := by simpa [fs_pw] using hj
    by_cases e1 : j < u.1.length
    · simp only [upd, if_neg (show ¬ j = u.1.length + 2 by omega), if_neg (show ¬ j = u.1.length by omega)]
      rw [h3 j e1]
      simp [fs_pw, List.getD_eq_getElem?_getD, List.getElem?_append_left e1]
    · obtain ⟨i, hi⟩ : ∃ i, j = u.1.length + i := ⟨j - u.1.length, by omega⟩
      subst hi
      rcases (show i = 0 ∨ i = 1 ∨ i = 2 by omega) with rfl | rfl | rfl
      · simp [upd, fs_pw, List.getD_eq_getElem?_getD]
      · simp only [upd, if_neg (show ¬ u.1.length + 1 = u.1.length + 2 by omega), if_neg (show ¬ u.1.length + 1 = u.1.length by omega)]
        rw [h4 _ (by omega)]
        simp [fs_pw, List.getD_eq_getElem?_getD, List.getElem?_append_right]
      · simp [upd, fs_pw, List.getD_eq_getElem?_getD, List.getElem?_append_right]
  · have hj2 : u.1.length + 3 ≤ j := by simpa [fs_pw] using hj
    simp only [upd, if_neg (show ¬ j = u.1.length + 2 by omega), if_neg (show ¬ j = u.1.length by omega)]
    exact h4 j (by omega)
