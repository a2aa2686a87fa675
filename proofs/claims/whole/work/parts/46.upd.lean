/-! writes to the object's own cells: the pure part -/
theorem sw_out {x : Int32} {n : Nat} (h : ∀ j : Nat, j ≤ n → x ≠ nI j) : x.toInt < 0 ∨ (n : Int) < x.toInt := by
  by_cases q : x < 0
  · left
    simpa using Int32.lt_iff_toInt_lt.mp q
  · obtain ⟨j, hj, e⟩ := nI_of q
    right
    rcases Nat.lt_or_ge n j with r | r
    · rw [e, nI_toInt hj]; omega
    · exact absurd e (h j r)
def fs_sp (S : fs_S) (x : Int32) : fs_S := (S.1, S.2.1, S.2.2.1, x, S.2.2.2.2)
def fs_sh (S : fs_S) (x : Int32) : fs_S := (S.1, S.2.1, S.2.2.1, S.2.2.2.1, x)
def fs_pa (S : fs_S) (k : Nat) (x : Int32) : fs_S := (S.1, S.2.1, upd S.2.2.1 k x, S.2.2.2)
def fs_fa (S : fs_S) (k : Nat) (u : fs_F) : fs_S := (S.1, va_up S.2.1 k u, S.2.2)
theorem fs_R.this_up {G : gx_G} {f : fs_A} {M M1 : mw_M} {S : fs_S} {sp sh : Int32} (hR : fs_R G f M S) (e1 : M1 = mw_up M (f0 f) (.inr (3, [.ref (fM f), .int (nI (sN S)), .ref (fF f), .ref (fP f), .int sp, .int sh]))) :
    fs_R G f M1 (S.1, S.2.1, S.2.2.1, sp, sh) ∧ fs_keeps f M M1 := by
  obtain ⟨gm, gf, g, a1, a2, a3, a4, a5, a6, a7, a8, a9⟩ := hR
  have old : ∀ a e, a ≠ f0 f → M a = some e → M1 a = some e := fun a e z2 h => by rw [e1, mw_ne _ _ z2]; exact h
  have hk : fs_keeps f M M1 := fun a e hmu h => old a e (fun z => hmu (Or.inl z)) h
  refine ⟨⟨gm, gf, g, by rw [e1, mw_self]; rfl, old _ _ (fun z => by rw [z, a1] at a2; simp at a2) a2, old _ _ (fun z => by rw [z, a1] at a3; simp at a3) a3, old _ _ (fun z => by rw [z, a1] at a4; simp at a4) a4, a5, fun i hi => ?_, fun k hk2 => ?_, a8, a9⟩, hk⟩
  · obtain ⟨q', c1, c2⟩ := a6 i hi
    exact ⟨q', c1, c2.keeps hk a9.1⟩
  · obtain ⟨c1, g', c2, c3, c4⟩ := a7 k hk2
    exact ⟨c1, g', old _ _ (fun z => by rw [z, a1] at c2; simp at c2) c2, old _ _ (fun z => by rw [z, a1] at c3; simp at c3) c3, c4⟩
theorem fs_R.par_up {G : gx_G} {f : fs_A} {M M1 : mw_M} {S : fs_S} {g : Nat → Int32} {k : Nat} {x : Int32} (hR : fs_R G f M S) (h4 : M (fP f) = some (.inl (gI G, 63, .inl g))) (e1 : M1 = mw_up M (fP f) (.inl (gI G, 63, .inl (upd g k x)))) :
    fs_R G f M1 (fs_pa S k x) ∧ fs_keeps f M M1 := by
  obtain ⟨gm, gf, g', a1, a2, a3, a4, a5, a6, a7, a8, a9⟩ := hR
  have hg : g' = g := by
    rw [a4] at h4
    simpa using h4
  subst hg
  have old : ∀ a e, a ≠ fP f → M a = some e → M1 a = some e := fun a e z2 h => by rw [e1, mw_ne _ _ z2]; exact h
  have hk : fs_keeps f M M1 := fun a e hmu h => old a e (fun z => hmu (Or.inr (Or.inr (Or.inr (Or.inl z))))) h
  refine ⟨⟨gm, gf, upd g' k x, old _ _ (fun z => by rw [z, a4] at a1; simp at a1) a1, old _ _ (fun z => by rw [z, a4] at a2; simp at a2) a2, old _ _ (fun z => by rw [z, a4] at a3; simp at a3) a3, by rw [e1, mw_self], fun j hj => ?_, fun i hi => ?_, fun k hk2 => ?_, a8, a9⟩, hk⟩
  · show upd g' k x j = upd (S.2.2.1) k x j
    unfold upd
    split
    · rfl
    · exact a5 j hj
  · obtain ⟨q', c1, c2⟩ := a6 i hi
    exact ⟨q', c1, c2.keeps hk a9.1⟩
  · obtain ⟨c1, gg, c2, c3, c4⟩ := a7 k hk2
    exact ⟨c1, gg, old _ _ (fun z => by rw [z, a4] at c2; simp at c2) c2, old _ _ (fun z => by rw [z, a4] at c3; simp at c3) c3, c4⟩
/-- the cells of a family are written -/
theorem fs_R.fam_up {G : gx_G} {f : fs_A} {M M2 : mw_M} {S : fs_S} {k : Nat} {u : fs_F} (hR : fs_R G f M S) (hk8 : k < 8) (hu : fs_fm G f M2 k u) (hold : ∀ a e, a ≠ fQ f k → a ≠ fR f k → M a = some e → M2 a = some e)
    (hok : u.1.length ≤ 4 ∧ (∀ j, j < u.1.length → fs_in S (u.1.getD j 0)) ∧ fs_on S u.2.1 ∧ fs_on S u.2.2.1 ∧ fs_on S u.2.2.2.1 ∧ fs_on S u.2.2.2.2) : fs_R G f M2 (fs_fa S k u) ∧ fs_keeps f M M2 := by
  obtain ⟨gm, gf, g', a1, a2, a3, a4, a5, a6, a7, a8, a9⟩ := hR
  obtain ⟨c1, gg, c2, c3, c4⟩ := a7 k hk8
  have hk : fs_keeps f M M2 := fun a e hmu h => hold a e (fun z => hmu (Or.inr (Or.inr (Or.inr (Or.inr ⟨k, hk8, Or.inl z⟩))))) (fun z => hmu (Or.inr (Or.inr (Or.inr (Or.inr ⟨k, hk8, Or.inr z⟩))))) h
  refine ⟨⟨gm, gf, g', hold _ _ (fun z => by rw [z, c2] at a1; simp at a1) (fun z => by rw [z, c3] at a1; simp at a1) a1, hold _ _ (fun z => by rw [z, c2] at a2; simp at a2) (fun z => by rw [z, c3] at a2; simp at a2) a2, hold _ _ (fun z => by rw [z, c2] at a3; simp at a3) (fun z => by rw [z, c3] at a3; simp at a3) a3, hold _ _ (fun z => by rw [z, c2] at a4; simp at a4) (fun z => by rw [z, c3] at a4; simp at a4) a4, a5, fun i hi => ?_, fun j hj => ?_, ⟨a8.1, a8.2.1, fun j hj => ?_⟩, a9⟩, hk⟩
  · obtain ⟨q', d1, d2⟩ := a6 i hi
    exact ⟨q', d1, d2.keeps hk a9.1⟩
  · by_cases e : j = k
    · subst e
      refine ⟨c1, ?_⟩
      rw [show sF (fs_fa S j u) j = u from va_up_self _ _ _]
      exact hu
    · obtain ⟨d1, g2, d2, d3, d4⟩ := a7 j hj
      rw [show sF (fs_fa S k u) j = sF S j from va_up_ne _ _ e]
      exact ⟨d1, g2, hold _ _ (fun z => e (a9.2.2.1 j k hj hk8 z)) (fun z => by rw [z, c3] at d2; simp at d2) d2, hold _ _ (fun z => by rw [z, c2] at d3; simp at d3) (fun z => e (a9.2.2.2 j k hj hk8 z)) d3, d4⟩
  · by_cases e : j = k
    · subst e
      rw [show sF (fs_fa S j u) j = u from va_up_self _ _ _]
      exact hok
    · rw [show sF (fs_fa S k u) j = sF S j from va_up_ne _ _ e]
      exact a8.2.2 j hj
/-! when the other calls throw, and what they answer -/
def ex_set (w x : Int32) : Nat := if ¬ (w = 0 ∨ w = 1) then 1 else if ¬ wi x 0 1000000 then 2 else 0
def ex_par (z k x : Int32) : Nat := if ¬ ((¬ z < 0 ∧ z < 3) ∧ (¬ k < 0 ∧ k < 21)) then 1 else if ¬ wi x (-1000000) 1000000 then 2 else 0
def ex_sign (S : fs_S) (k b : Int32) : Nat := if ¬ (isF k ∧ isB S b) then 1 else if ¬ nI (sF S (fIx k)).1.length < 4 then 2 else 0
def ex_pieces (S : fs_S) (k u d l r : Int32) : Nat := if ¬ (isF k ∧ isO S u ∧ isO S d ∧ isO S l ∧ isB S r) then 1 else if fEx S r ≤ 0 then 2 else 0
def ex_told (S : fs_S) (b w : Int32) : Nat := if ¬ (isB S b ∧ (w = 0 ∨ w = 1 ∨ w = 2 ∨ w = 3)) then 1 else 0
def re_told (S : fs_S) (b w : Int32) : Int32 := if w = 0 then bW S (fIx b) else if w = 1 then bH S (fIx b) else if w = 2 then bD S (fIx b) else nI (bP S (fIx b)).length / 3
def ex_part (S : fs_S) (b i w : Int32) : Nat := if ¬ (isB S b ∧ (¬ i < 0 ∧ i < nI (bP S (fIx b)).length / 3) ∧ (¬ w < 0 ∧ w ≤ 5)) then 1 else 0
def re_part (S : fs_S) (b i w : Int32) : Int32 := if w < 3 then (bP S (fIx b)).getD (fIx i * 3 + fIx w) 0 else
  if (bP S (fIx b)).getD (fIx i * 3) 0 = (-1) then (if w = 3 then (sB S (fIx b)).2.2.2.2.1 else if w = 4 then (sB S (fIx b)).2.2.2.2.2 else 0)
  else (if w = 3 then bW S (fIx ((bP S (fIx b)).getD (fIx i * 3) 0)) else if w = 4 then bH S (fIx ((bP S (fIx b)).getD (fIx i * 3) 0)) else bD S (fIx ((bP S (fIx b)).getD (fIx i * 3) 0)))
/-- what a call that made no box leaves -/
def fs_Up (G : gx_G) (f : fs_A) (M : mw_M) (ex : Nat) (r : Option Value) (S' : fs_S) (v : Option Value) (M9 : mw_M) : Prop := ex = 0 ∧ v = r ∧ fs_R G f M9 S' ∧ fs_keeps f M M9
