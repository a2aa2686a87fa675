/-! THE REFERENCE: its one object, by the same state S. Arrays (A j): 0 parameters, 1 widths, 2 heights, 3 depths, 4 begins, 5 many, 6 ruleWidth, 7 ruleHeight, 8 partBox, 9 partX, 10 partY, 11 signs, 12 signBox, 13 hasPieces, 14 piece -/
def bI (P : Prop) [Decidable P] : Int32 := if P then 1 else 0
theorem bI_t {P : Prop} [Decidable P] (h : ¬ bI P = 0) : P := by
  unfold bI at h
  split at h
  · assumption
  · exact absurd rfl h
theorem bI_f {P : Prop} [Decidable P] (h : bI P = 0) : ¬ P := by
  unfold bI at h
  split at h
  · exact absurd h (by decide)
  · assumption
theorem bI_1 {P : Prop} [Decidable P] (h : P) : bI P = 1 := if_pos h
theorem bI_0 {P : Prop} [Decidable P] (h : ¬ P) : bI P = 0 := if_neg h
theorem bI_iff {P Q : Prop} [Decidable P] [Decidable Q] (h : P ↔ Q) : bI P = bI Q := by
  unfold bI
  by_cases hp : P
  · rw [if_pos hp, if_pos (h.mp hp)]
  · rw [if_neg hp, if_neg (fun q => hp (h.mpr q))]
def md_len (j : Nat) : Nat := [63, 120, 120, 120, 120, 120, 120, 120, 14800, 14800, 14800, 8, 32, 8, 32].getD j 0
def md_at (G : gx_G) (o : Nat) (A : Nat → Nat) (M : mw_M) (th sp le n np z : Int32) (g : Nat → Nat → Int32) : Prop :=
  M o = some (.inr (4, [.int th, .ref (A 0), .int sp, .int le, .int n, .ref (A 1), .ref (A 2), .ref (A 3), .ref (A 4), .ref (A 5), .ref (A 6), .ref (A 7), .int np, .ref (A 8), .ref (A 9), .ref (A 10), .ref (A 11), .ref (A 12), .ref (A 13), .ref (A 14), .int z])) ∧
  (∀ j, j < 15 → M (A j) = some (.inl (if j = 13 then gZ G else gI G, md_len j, .inl (g j)))) ∧ (∀ i j, i < 15 → j < 15 → A i = A j → i = j) ∧ gA G o ∧ ∀ j, j < 15 → gA G (A j)
def md_own (o : Nat) (A : Nat → Nat) (x : Nat) : Prop := x = o ∨ ∃ j, j < 15 ∧ x = A j
def md_keeps (o : Nat) (A : Nat → Nat) (M M' : mw_M) : Prop := ∀ x e, ¬ md_own o A x → M x = some e → M' x = some e
theorem md_keeps.rf (o : Nat) (A : Nat → Nat) (M : mw_M) : md_keeps o A M M := fun _ _ _ h => h
theorem md_keeps.tr {o : Nat} {A : Nat → Nat} {M M1 M2 : mw_M} (h : md_keeps o A M M1) (k : md_keeps o A M1 M2) : md_keeps o A M M2 := fun x e n q => k x e n (h x e n q)
theorem md_keeps.fld {o : Nat} {A : Nat → Nat} {M M1 M2 : mw_M} {c : va_E} (h : md_keeps o A M M1) (e : M2 = mw_up M1 o c) : md_keeps o A M M2 := fun x c' n q => by
  rw [e, mw_ne _ _ (fun z => n (Or.inl z))]
  exact h x c' n q
theorem md_keeps.arr {o : Nat} {A : Nat → Nat} {M M1 M2 : mw_M} {c : va_E} {j : Nat} (h : md_keeps o A M M1) (hj : j < 15) (e : M2 = mw_up M1 (A j) c) : md_keeps o A M M2 := fun x c' n q => by
  rw [e, mw_ne _ _ (fun z => n (Or.inr ⟨j, hj, z⟩))]
  exact h x c' n q
def ug (g : Nat → Nat → Int32) (j k : Nat) (x : Int32) : Nat → Nat → Int32 := fun i => if i = j then upd (g j) k x else g i
theorem ug_app (g : Nat → Nat → Int32) (j k : Nat) (x : Int32) (i m : Nat) : ug g j k x i m = if i = j ∧ m = k then x else g i m := by
  unfold ug upd
  by_cases h : i = j
  · subst h
    by_cases h2 : m = k <;> simp [h2]
  · simp [h]
theorem md_at.fld {G : gx_G} {o : Nat} {A : Nat → Nat} {M M1 : mw_M} {th sp le n np z th' sp' le' n' np' z' : Int32} {g : Nat → Nat → Int32} (h : md_at G o A M th sp le n np z g)
    (e : M1 = mw_up M o (.inr (4, [.int th', .ref (A 0), .int sp', .int le', .int n', .ref (A 1), .ref (A 2), .ref (A 3), .ref (A 4), .ref (A 5), .ref (A 6), .ref (A 7), .int np', .ref (A 8), .ref (A 9), .ref (A 10), .ref (A 11), .ref (A 12), .ref (A 13), .ref (A 14), .int z']))) : md_at G o A M1 th' sp' le' n' np' z' g :=
  ⟨by rw [e, mw_self], fun j hj => by rw [e, mw_ne _ _ (fun w => by have h1 := h.1; rw [← w, h.2.1 j hj] at h1; simp at h1)]; exact h.2.1 j hj, h.2.2⟩
theorem md_at.put {G : gx_G} {o : Nat} {A : Nat → Nat} {M M1 : mw_M} {th sp le n np z : Int32} {g : Nat → Nat → Int32} (h : md_at G o A M th sp le n np z g) {j k : Nat} {x : Int32} {cA : ClassId} {ln : Nat} (hj : j < 15) (hc : cA = if j = 13 then gZ G else gI G) (hl : ln = md_len j)
    (e : M1 = mw_up M (A j) (.inl (cA, ln, .inl (upd (g j) k x)))) : md_at G o A M1 th sp le n np z (ug g j k x) := by
  subst hc hl
  refine ⟨by rw [e, mw_ne _ _ (fun w => by have h1 := h.1; rw [w, h.2.1 j hj] at h1; simp at h1)]; exact h.1, fun i hi => ?_, h.2.2⟩
  by_cases q : i = j
  · subst q
    rw [e, mw_self]
    simp [ug]
  · rw [e, mw_ne _ _ (fun w => q (h.2.2.1 i j hi hj w)), h.2.1 i hi]
    simp [ug, q]
/-- a box in the arrays: from s on in the row of parts -/
def md_bx (g : Nat → Nat → Int32) (np s i : Nat) (b : fs_B) : Prop := (g 1 i = b.1 ∧ g 2 i = b.2.1 ∧ g 3 i = b.2.2.1 ∧ g 4 i = nI s ∧ g 5 i = nI (b.2.2.2.1.length / 3) ∧ g 6 i = b.2.2.2.2.1 ∧ g 7 i = b.2.2.2.2.2) ∧ b.2.2.2.1.length % 3 = 0 ∧ b.2.2.2.1.length ≤ 369 ∧ s ≤ 123 * i ∧ s + b.2.2.2.1.length / 3 ≤ np ∧
  ∀ k, k < b.2.2.2.1.length / 3 → g 8 (s + k) = b.2.2.2.1.getD (3 * k) 0 ∧ g 9 (s + k) = b.2.2.2.1.getD (3 * k + 1) 0 ∧ g 10 (s + k) = b.2.2.2.1.getD (3 * k + 2) 0
def md_fm (g : Nat → Nat → Int32) (k : Nat) (u : fs_F) : Prop := g 11 k = nI u.1.length ∧ u.1.length ≤ 4 ∧ (∀ j, j < u.1.length → g 12 (4 * k + j) = u.1.getD j 0) ∧ g 13 k = (if u.2.2.2.2 = (-1) then 0 else 1) ∧ (¬ u.2.2.2.2 = (-1) → g 14 (4 * k) = u.2.1 ∧ g 14 (4 * k + 1) = u.2.2.1 ∧ g 14 (4 * k + 2) = u.2.2.2.1 ∧ g 14 (4 * k + 3) = u.2.2.2.2)
def md_ab (np : Nat) (bg : Nat → Nat) (g : Nat → Nat → Int32) (S : fs_S) : Prop :=
  sN S ≤ 120 ∧ np ≤ 123 * sN S ∧ (∀ i, i < sN S → md_bx g np (bg i) i (sB S i)) ∧ (∀ i, i + 1 = sN S → bg i + (bP S i).length / 3 = np) ∧ (∀ j, j < 63 → g 0 j = sP S j) ∧ (∀ i, sN S ≤ i → g 6 i = 0 ∧ g 7 i = 0) ∧ ∀ k, k < 8 → md_fm g k (sF S k)
def md_R (G : gx_G) (o : Nat) (A : Nat → Nat) (M : mw_M) (th z : Int32) (S : fs_S) : Prop := ∃ (np : Nat) (bg : Nat → Nat) (g : Nat → Nat → Int32), md_at G o A M th (sSp S) (sSh S) (nI (sN S)) (nI np) z g ∧ md_ab np bg g S
theorem sB_pa (S : fs_S) (k : Nat) (x : Int32) (i : Nat) : sB (fs_pa S k x) i = sB S i := rfl
theorem sF_pa (S : fs_S) (k : Nat) (x : Int32) (i : Nat) : sF (fs_pa S k x) i = sF S i := rfl
theorem sF_push (S : fs_S) (b : fs_B) (i : Nat) : sF (fs_push S b) i = sF S i := rfl
theorem sP_push (S : fs_S) (b : fs_B) (i : Nat) : sP (fs_push S b) i = sP S i := rfl
theorem md_fm.to {g g' : Nat → Nat → Int32} {k : Nat} {u : fs_F} (h : md_fm g k u) (hg : ∀ j i, 11 ≤ j → g' j i = g j i) : md_fm g' k u := by
  unfold md_fm at h ⊢
  rw [hg 11 _ (by decide), hg 13 _ (by decide), hg 14 _ (by decide), hg 14 _ (by decide), hg 14 _ (by decide), hg 14 _ (by decide)]
  refine ⟨h.1, h.2.1, fun i hi => ?_, h.2.2.2⟩
  rw [hg 12 _ (by decide)]
  exact h.2.2.1 i hi
section MDP
variable {np : Nat} {bg : Nat → Nat} {g : Nat → Nat → Int32} {S : fs_S}
theorem md_ab.W (h : md_ab np bg g S) {i : Nat} (hi : i < sN S) : g 1 i = bW S i := (h.2.2.1 i hi).1.1
theorem md_ab.H (h : md_ab np bg g S) {i : Nat} (hi : i < sN S) : g 2 i = bH S i := (h.2.2.1 i hi).1.2.1
theorem md_ab.D (h : md_ab np bg g S) {i : Nat} (hi : i < sN S) : g 3 i = bD S i := (h.2.2.1 i hi).1.2.2.1
theorem md_ab.sp (h : md_ab np bg g S) (x y : Int32) : md_ab np bg g (S.1, S.2.1, S.2.2.1, x, y) := h
theorem md_ab.par (h : md_ab np bg g S) (k : Nat) (x : Int32) : md_ab np bg (ug g 0 k x) (fs_pa S k x) := by
  refine ⟨h.1, h.2.1, fun i hi => ?_, h.2.2.2.1, fun j hj => ?_, fun i hi => ?_, fun j hj => ?_⟩
  · have := h.2.2.1 i hi
    simpa [md_bx, ug_app, sB_pa] using this
  · show _ = upd S.2.2.1 k x j
    have := h.2.2.2.2.1 j hj
    simp only [ug_app, upd]
    by_cases e : j = k
    · simp [e]
    · simp only [e, and_false, if_false]; exact this
  · have := h.2.2.2.2.2.1 i hi
    simpa [ug_app] using this
  · have := h.2.2.2.2.2.2 j hj
    exact md_fm.to this (fun j9 i9 h9 => by simp [ug_app, show j9 ≠ 0 by omega, show j9 ≠ 1 by omega, show j9 ≠ 2 by omega, show j9 ≠ 3 by omega, show j9 ≠ 4 by omega, show j9 ≠ 5 by omega, show j9 ≠ 8 by omega, show j9 ≠ 9 by omega, show j9 ≠ 10 by omega])
theorem md_ab.make (h : md_ab np bg g S) (hn : sN S < 120) (w y d : Int32) : md_ab np (fun i => if i = sN S then np else bg i) (ug (ug (ug (ug (ug g 1 (sN S) w) 2 (sN S) y) 3 (sN S) d) 4 (sN S) (nI np)) 5 (sN S) 0) (fs_push S (w, y, d, [], 0, 0)) := by
  refine ⟨by rw [sN_push]; omega, by rw [sN_push]; have := h.2.1; omega, fun i hi => ?_, fun i hi => ?_, fun j hj => ?_, fun i hi => ?_, fun j hj => ?_⟩
  · rw [sN_push] at hi
    by_cases e : i = sN S
    · subst e
      rw [sB_push_eq]
      obtain ⟨r1, r2⟩ := h.2.2.2.2.2.1 (sN S) (Nat.le_refl _)
      refine ⟨⟨by simp [ug_app], by simp [ug_app], by simp [ug_app], by simp [ug_app], by simp [ug_app]; rfl, by simpa [ug_app] using r1, by simpa [ug_app] using r2⟩, rfl, by simp, by simp; exact h.2.1, by simp, fun k hk => by simp at hk⟩
    · rw [sB_push_lt _ (by omega)]
      have := h.2.2.1 i (by omega)
      simpa [md_bx, ug_app, e] using this
  · rw [sN_push] at hi
    have e : i = sN S := by omega
    subst e
    unfold bP
    rw [sB_push_eq]
    simp
  · have := h.2.2.2.2.1 j hj
    simpa [ug_app, sP_push] using this
  · rw [sN_push] at hi
    have := h.2.2.2.2.2.1 i (by omega)
    simpa [ug_app] using this
  · have := h.2.2.2.2.2.2 j hj
    exact md_fm.to this (fun j9 i9 h9 => by simp [ug_app, show j9 ≠ 0 by omega, show j9 ≠ 1 by omega, show j9 ≠ 2 by omega, show j9 ≠ 3 by omega, show j9 ≠ 4 by omega, show j9 ≠ 5 by omega, show j9 ≠ 8 by omega, show j9 ≠ 9 by omega, show j9 ≠ 10 by omega])
theorem md_ab.lay {w y d : Int32} {P : List Int32} {rw rh : Int32} (h : md_ab np bg g (fs_push S (w, y, d, P, rw, rh))) (hP : P.length + 3 ≤ 369) (x1 x2 x3 : Int32) :
    md_ab (np + 1) bg (ug (ug (ug (ug g 8 np x1) 9 np x2) 10 np x3) 5 (sN S) (g 5 (sN S) + 1)) (fs_push S (w, y, d, P ++ [x1, x2, x3], rw, rh)) := by
  obtain ⟨a1, a2, a3, a4, a5, a6, a7⟩ := h
  rw [sN_push] at a1 a2
  have hl := a4 (sN S) (by rw [sN_push])
  unfold bP at hl
  rw [sB_push_eq] at hl
  have ht := a3 (sN S) (by rw [sN_push]; omega)
  rw [sB_push_eq] at ht
  simp only at hl
  obtain ⟨⟨b1, b2, b3, b4, b5, b6, b7⟩, b8, b9, b10, b11, b12⟩ := ht
  simp only at b1 b2 b3 b4 b5 b6 b7 b8 b9 b10 b11 b12
  have hl3 : (P ++ [x1, x2, x3]).length = P.length + 3 := by simp
  have hd3 : (P.length + 3) / 3 = P.length / 3 + 1 := by omega
  refine ⟨by rw [sN_push]; omega, by rw [sN_push]; omega, fun i hi => ?_, fun i hi => ?_, fun j hj => ?_, fun i hi => ?_, fun j hj => ?_⟩
  · rw [sN_push] at hi
    by_cases e : i = sN S
    · subst e
      rw [sB_push_eq]
      refine ⟨⟨by simpa [ug_app] using b1, by simpa [ug_app] using b2, by simpa [ug_app] using b3, by simpa [ug_app] using b4, ?_, by simpa [ug_app] using b6, by simpa [ug_app] using b7⟩, ?_, ?_, b10, ?_, fun k hk => ?_⟩
      · simp only [hl3, hd3]
        rw [ug_app, if_pos ⟨rfl, rfl⟩, b5, nI_1]
      · simp only [hl3]; omega
      · simp only [hl3]; omega
      · simp only [hl3]; omega
      · simp only [hl3, hd3] at hk
        by_cases e2 : k = P.length / 3
        · have e3 : bg (sN S) + k = np := by omega
          have e4 : 3 * k = P.length := by omega
          have g0 : (P ++ [x1, x2, x3]).getD (P.length) 0 = x1 := by simp [List.getD_eq_getElem?_getD]
          have g1 : (P ++ [x1, x2, x3]).getD (P.length + 1) 0 = x2 := by simp [List.getD_eq_getElem?_getD, List.getElem?_append_right]
          have g2 : (P ++ [x1, x2, x3]).getD (P.length + 2) 0 = x3 := by simp [List.getD_eq_getElem?_getD, List.getElem?_append_right]
          simp only [e3, e4, g0, g1, g2]
          simp [ug_app]
        · have e3 : ¬ bg (sN S) + k = np := by omega
          have := b12 k (by omega)
          have q0 : 3 * k < P.length := by omega
          have q1 : 3 * k + 1 < P.length := by omega
          have q2 : 3 * k + 2 < P.length := by omega
          simpa [ug_app, e3, List.getD_eq_getElem?_getD, List.getElem?_append_left q0, List.getElem?_append_left q1, List.getElem?_append_left q2] using this
    · rw [sB_push_lt _ (by omega)]
      have h9 := a3 i (by rw [sN_push]; omega)
      rw [sB_push_lt _ (by omega)] at h9
      obtain ⟨c1, c2, c3, c4, c5, c6⟩ := h9
      refine ⟨by simpa [ug_app, e] using c1, c2, c3, c4, by omega, fun k hk => ?_⟩
      have e3 : ¬ bg i + k = np := by omega
      have := c6 k hk
      simpa [ug_app, e3] using this
  · rw [sN_push] at hi
    have e : i = sN S := by omega
    subst e
    unfold bP
    rw [sB_push_eq]
    simp only [hl3, hd3]
    omega
  · have := a5 j hj
    simpa [ug_app, sP_push] using this
  · rw [sN_push] at hi
    have := a6 i (by rw [sN_push]; omega)
    simpa [ug_app] using this
  · have := a7 j hj
    exact md_fm.to this (fun j9 i9 h9 => by simp [ug_app, show j9 ≠ 0 by omega, show j9 ≠ 1 by omega, show j9 ≠ 2 by omega, show j9 ≠ 3 by omega, show j9 ≠ 4 by omega, show j9 ≠ 5 by omega, show j9 ≠ 8 by omega, show j9 ≠ 9 by omega, show j9 ≠ 10 by omega])
/-- the last box's numbers change, its parts don't -/
theorem md_ab.top {b b' : fs_B} {g' : Nat → Nat → Int32} (h : md_ab np bg g (fs_push S b)) (hp : b'.2.2.2.1 = b.2.2.2.1) (hg : ∀ j i, (i ≠ sN S ∨ (j ≠ 1 ∧ j ≠ 2 ∧ j ≠ 3 ∧ j ≠ 6 ∧ j ≠ 7)) → g' j i = g j i)
    (hv : g' 1 (sN S) = b'.1 ∧ g' 2 (sN S) = b'.2.1 ∧ g' 3 (sN S) = b'.2.2.1 ∧ g' 6 (sN S) = b'.2.2.2.2.1 ∧ g' 7 (sN S) = b'.2.2.2.2.2) : md_ab np bg g' (fs_push S b') := by
  obtain ⟨a1, a2, a3, a4, a5, a6, a7⟩ := h
  rw [sN_push] at a1 a2
  refine ⟨by rw [sN_push]; exact a1, by rw [sN_push]; exact a2, fun i hi => ?_, fun i hi => ?_, fun j hj => ?_, fun i hi => ?_, fun j hj => ?_⟩
  · rw [sN_push] at hi
    have h9 := a3 i (by rw [sN_push]; exact hi)
    by_cases e : i = sN S
    · subst e
      rw [sB_push_eq] at h9 ⊢
      obtain ⟨⟨b1, b2, b3, b4, b5, b6, b7⟩, b8⟩ := h9
      refine ⟨⟨hv.1, hv.2.1, hv.2.2.1, by rw [hg 4 _ (Or.inr (by decide))]; exact b4, by rw [hg 5 _ (Or.inr (by decide)), hp]; exact b5, hv.2.2.2.1, hv.2.2.2.2⟩, ?_⟩
      rw [hp]
      refine ⟨b8.1, b8.2.1, b8.2.2.1, b8.2.2.2.1, fun k hk => ?_⟩
      rw [hg 8 _ (Or.inr (by decide)), hg 9 _ (Or.inr (by decide)), hg 10 _ (Or.inr (by decide))]
      exact b8.2.2.2.2 k hk
    · rw [sB_push_lt _ (by omega)] at h9 ⊢
      obtain ⟨⟨b1, b2, b3, b4, b5, b6, b7⟩, b8⟩ := h9
      refine ⟨?_, b8.1, b8.2.1, b8.2.2.1, b8.2.2.2.1, fun k hk => ?_⟩
      · rw [hg 1 i (Or.inl e), hg 2 i (Or.inl e), hg 3 i (Or.inl e), hg 4 i (Or.inl e), hg 5 i (Or.inl e), hg 6 i (Or.inl e), hg 7 i (Or.inl e)]
        exact ⟨b1, b2, b3, b4, b5, b6, b7⟩
      · rw [hg 8 _ (Or.inr (by decide)), hg 9 _ (Or.inr (by decide)), hg 10 _ (Or.inr (by decide))]
        exact b8.2.2.2.2 k hk
  · rw [sN_push] at hi
    have h9 := a4 i (by rw [sN_push]; exact hi)
    have e : i = sN S := by omega
    subst e
    unfold bP at h9 ⊢
    rw [sB_push_eq] at h9 ⊢
    rw [hp]
    exact h9
  · rw [hg 0 j (Or.inr (by decide))]
    exact a5 j hj
  · rw [sN_push] at hi
    rw [hg 6 i (Or.inl (by omega)), hg 7 i (Or.inl (by omega))]
    exact a6 i (by rw [sN_push]; exact hi)
  · have := a7 j hj
    unfold md_fm at this ⊢
    rw [hg 11 _ (Or.inr (by decide)), hg 13 _ (Or.inr (by decide)), hg 14 _ (Or.inr (by decide)), hg 14 _ (Or.inr (by decide)), hg 14 _ (Or.inr (by decide)), hg 14 _ (Or.inr (by decide))]
    refine ⟨this.1, this.2.1, fun i hi => ?_, this.2.2.2⟩
    rw [hg 12 _ (Or.inr (by decide))]
    exact this.2.2.1 i hi
/-- a family's numbers change -/
theorem md_ab.fam {k : Nat} {u : fs_F} {g' : Nat → Nat → Int32} (h : md_ab np bg g S) (hg : ∀ j i, j ≤ 10 → g' j i = g j i) (hf : ∀ m, m < 8 → m ≠ k → md_fm g' m (sF S m)) (hu : md_fm g' k u) : md_ab np bg g' (fs_fa S k u) := by
  obtain ⟨a1, a2, a3, a4, a5, a6, a7⟩ := h
  refine ⟨a1, a2, fun i hi => ?_, a4, fun j hj => ?_, fun i hi => ?_, fun j hj => ?_⟩
  · have h9 := a3 i hi
    unfold md_bx at h9 ⊢
    rw [hg 1 i (by decide), hg 2 i (by decide), hg 3 i (by decide), hg 4 i (by decide), hg 5 i (by decide), hg 6 i (by decide), hg 7 i (by decide)]
    refine ⟨h9.1, h9.2.1, h9.2.2.1, h9.2.2.2.1, h9.2.2.2.2.1, fun k hk => ?_⟩
    rw [hg 8 _ (by decide), hg 9 _ (by decide), hg 10 _ (by decide)]
    exact h9.2.2.2.2.2 k hk
  · rw [hg 0 j (by decide)]; exact a5 j hj
  · rw [hg 6 i (by decide), hg 7 i (by decide)]; exact a6 i hi
  · by_cases e : j = k
    · subst e
      rw [show sF (fs_fa S j u) j = u from va_up_self _ _ _]
      exact hu
    · rw [show sF (fs_fa S k u) j = sF S j from va_up_ne _ _ e]
      exact hf j hj e
end MDP
theorem bW_push {S : fs_S} (b : fs_B) {i : Nat} (h : i < sN S) : bW (fs_push S b) i = bW S i := by unfold bW; rw [sB_push_lt b h]
theorem bH_push {S : fs_S} (b : fs_B) {i : Nat} (h : i < sN S) : bH (fs_push S b) i = bH S i := by unfold bH; rw [sB_push_lt b h]
theorem bD_push {S : fs_S} (b : fs_B) {i : Nat} (h : i < sN S) : bD (fs_push S b) i = bD S i := by unfold bD; rw [sB_push_lt b h]
