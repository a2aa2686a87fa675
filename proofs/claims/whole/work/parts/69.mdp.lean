/-! public calls of the reference -/
def md_Mk (G : gx_G) (o : Nat) (A : Nat → Nat) (M : mw_M) (S : fs_S) (ex : Nat) (S' : fs_S) (r v : Option Value) (M9 : mw_M) : Prop := v = r ∧ (∃ z, md_R G o A M9 (nI ex) z (if ex = 0 then S' else S)) ∧ md_keeps o A M M9
theorem fMx0p {a : Int32} (h : a ≤ 0) : fMx 0 a = 0 := if_neg (Int32.not_lt.mpr h)
theorem fMx0n {a : Int32} (h : ¬ a ≤ 0) : fMx 0 a = a := if_pos (Int32.not_le.mp h)
