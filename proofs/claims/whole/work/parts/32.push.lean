/-! one box more: the pure part of keep -/
def fs_push (S : fs_S) (b : fs_B) : fs_S := (S.1 ++ [b], S.2)
theorem sN_push (S : fs_S) (b : fs_B) : sN (fs_push S b) = sN S + 1 := by simp [sN, fs_push]
theorem sB_push_lt {S : fs_S} (b : fs_B) {i : Nat} (h : i < sN S) : sB (fs_push S b) i = sB S i := by
  have h9 : i < S.1.length := h
  simp [sB, fs_push, List.getD_eq_getElem?_getD, List.getElem?_append_left h9]
theorem sB_push_eq (S : fs_S) (b : fs_B) : sB (fs_push S b) (sN S) = b := by
  simp [sB, sN, fs_push, List.getD_eq_getElem?_getD]
theorem fs_in.push {S : fs_S} {x : Int32} (b : fs_B) (h : fs_in S x) : fs_in (fs_push S b) x := by
  obtain ⟨i, hi, e⟩ := h
  exact ⟨i, by rw [sN_push]; omega, e⟩
theorem fs_on.push {S : fs_S} {x : Int32} (b : fs_B) (h : fs_on S x) : fs_on (fs_push S b) x := h.elim Or.inl (fun h => Or.inr (h.push b))
theorem fs_pl.push {S : fs_S} {P : List Int32} (b : fs_B) (h : fs_pl S P) : fs_pl (fs_push S b) P := ⟨h.1, h.2.1, fun j hj h3 => (h.2.2 j hj h3).push b⟩
theorem fs_ok.push {S : fs_S} (h : fs_ok S) (hn : sN S < 120) {b : fs_B} (hb : fs_pl S b.2.2.2.1) : fs_ok (fs_push S b) := by
  refine ⟨by rw [sN_push]; omega, fun i hi => ?_, fun k hk => ?_⟩
  · rw [sN_push] at hi
    by_cases e : i = sN S
    · subst e
      unfold bP
      rw [sB_push_eq]
      exact hb.push b
    · unfold bP
      rw [sB_push_lt b (by omega)]
      exact (h.2.1 i (by omega)).push b
  · obtain ⟨h1, h2, h3, h4, h5, h6⟩ := h.2.2 k hk
    exact ⟨h1, fun j hj => (h2 j hj).push b, h3.push b, h4.push b, h5.push b, h6.push b⟩
/-- what stays, when only cells of the object itself were written -/
def fs_keeps (f : fs_A) (M M' : mw_M) : Prop := ∀ a e, ¬ fs_mu f a → M a = some e → M' a = some e
theorem fs_bx.keeps {G : gx_G} {f : fs_A} {M M' : mw_M} (h : fs_keeps f M M') (hx : ∀ a, fs_mu f a → fX f a) {q : Nat} {b : fs_B} (hb : fs_bx G f M q b) : fs_bx G f M' q b := by
  obtain ⟨p, g, h1, h2, h3, h4, h5⟩ := hb
  exact ⟨p, g, h _ _ (fun z => h4 (hx _ z)) h1, h _ _ (fun z => h5 (hx _ z)) h2, h3, h4, h5⟩
theorem fs_keeps.tr {f : fs_A} {M M1 M2 : mw_M} (h : fs_keeps f M M1) (k : fs_keeps f M1 M2) : fs_keeps f M M2 := fun a e n q => k a e n (h a e n q)
theorem fs_keeps.of {f : fs_A} {M M' : mw_M} (h : mw_ext M M') : fs_keeps f M M' := fun a e _ q => h a e q
theorem fs_R.push {G : gx_G} {f : fs_A} {M M1 M2 : mw_M} {S : fs_S} {q : Nat} {b : fs_B} {gm : Nat → Option Nat} (hR : fs_R G f M S) (hb : fs_bx G f M q b) (hn : sN S < 120) (hpl : fs_pl S b.2.2.2.1) (h2 : M (fM f) = some (.inl (gB G, 120, .inr (.inr (.inr (.inr gm))))))
    (e1 : M1 = mw_up M (fM f) (.inl (gB G, 120, .inr (.inr (.inr (.inr (va_up gm (sN S) (some q)))))))) (e2 : M2 = mw_up M1 (f0 f) (.inr (3, [.ref (fM f), .int (nI (sN S) + 1), .ref (fF f), .ref (fP f), .int (sSp S), .int (sSh S)]))) :
    fs_R G f M2 (fs_push S b) ∧ fs_keeps f M M2 := by
  obtain ⟨gm', gf, g, a1, a2, a3, a4, a5, a6, a7, a8, a9⟩ := hR
  have hg : gm' = gm := by
    rw [a2] at h2
    simpa using h2
  subst hg
  have n0M : f0 f ≠ fM f := fun z => by rw [z, a2] at a1; simp at a1
  have old : ∀ a e, a ≠ fM f → a ≠ f0 f → M a = some e → M2 a = some e := fun a e z1 z2 h => by rw [e2, mw_ne _ _ z2, e1, mw_ne _ _ z1]; exact h
  have hk : fs_keeps f M M2 := fun a e hmu h => old a e (fun z => hmu (Or.inr (Or.inl z))) (fun z => hmu (Or.inl z)) h
  have hM2 : M2 (fM f) = some (.inl (gB G, 120, .inr (.inr (.inr (.inr (va_up gm' (sN S) (some q))))))) := by rw [e2, mw_ne _ _ (Ne.symm n0M), e1, mw_self]
  have h02 : M2 (f0 f) = some (.inr (3, [.ref (fM f), .int (nI (sN S) + 1), .ref (fF f), .ref (fP f), .int (sSp S), .int (sSh S)])) := by rw [e2, mw_self]
  refine ⟨⟨va_up gm' (sN S) (some q), gf, g, ?_, hM2, ?_, ?_, a5, fun i hi => ?_, fun k hk2 => ?_, a8.push hn hpl, a9⟩, hk⟩
  · rw [h02, sN_push, nI_1]
    rfl
  · exact old _ _ (fun z => by rw [z, a2] at a3; simp at a3) (fun z => by rw [z, a1] at a3; simp at a3) a3
  · exact old _ _ (fun z => by rw [z, a2] at a4; simp at a4) (fun z => by rw [z, a1] at a4; simp at a4) a4
  · rw [sN_push] at hi
    by_cases e : i = sN S
    · subst e
      exact ⟨q, va_up_self _ _ _, by rw [sB_push_eq]; exact hb.keeps hk a9.1⟩
    · obtain ⟨q', c1, c2⟩ := a6 i (by omega)
      exact ⟨q', by rw [va_up_ne _ _ e]; exact c1, by rw [sB_push_lt b (by omega)]; exact c2.keeps hk a9.1⟩
  · obtain ⟨c1, g', c2, c3, c4⟩ := a7 k hk2
    exact ⟨c1, g', old _ _ (fun z => by rw [z, a2] at c2; simp at c2) (fun z => by rw [z, a1] at c2; simp at c2) c2, old _ _ (fun z => by rw [z, a2] at c3; simp at c3) (fun z => by rw [z, a1] at c3; simp at c3) c3, c4⟩
