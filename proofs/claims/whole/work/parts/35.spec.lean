/-! THE SHAPES, as boxes over a state (conditions as the bytecode asks them) -/
def fs_fb3 (S : fs_S) (n d : Nat) (u v : Int32) : fs_B := (fMx (bW S n) (bW S d), u + bH S n, bD S d + v, [nI n, fHf (fMx (bW S n) (bW S d) - bW S n), u, nI d, fHf (fMx (bW S n) (bW S d) - bW S d), -v], 0, 0)
def fs_fb2 (S : fs_S) (n d : Nat) (u v g : Int32) : fs_B := fs_fb3 S n d (if g ≤ 0 then u else u + g) (if g ≤ 0 then v else v + g)
def fs_fb1 (S : fs_S) (n d : Nat) (u v c : Int32) : fs_B := fs_fb2 S n d u v (fHf (c - ((u - bD S n) - (bH S d - v))))
/-- FRACTION without a line -/
def fs_fb (S : fs_S) (st n d : Nat) : fs_B := fs_fb1 S n d (if nI st = 0 then pV S st 1 else pV S st 3) (if nI st = 0 then pV S st 4 else pV S st 5) (if nI st = 0 then 7 * pV S st 13 else 3 * pV S st 13)
def fs_fl3 (S : fs_S) (n d : Nat) (u v t y : Int32) : fs_B := (fMx (bW S n) (bW S d), u + bH S n, bD S d + v, [nI n, fHf (fMx (bW S n) (bW S d) - bW S n), u, nI d, fHf (fMx (bW S n) (bW S d) - bW S d), -v, -1, 0, y], fMx (bW S n) (bW S d), t)
def fs_fl1 (S : fs_S) (n d : Nat) (u v t x e c : Int32) : fs_B := fs_fl3 S n d (u + fMx 0 (c - ((u - bD S n) - (x + e)))) (v + fMx 0 (c - ((x - e) - (bH S d - v)))) t (x + e - t)
/-- FRACTION with a line -/
def fs_fl (S : fs_S) (st n d : Nat) (t : Int32) : fs_B := fs_fl1 S n d (if nI st = 0 then pV S st 1 else pV S st 2) (if nI st = 0 then pV S st 4 else pV S st 5) t (pV S st 0) (fHf t) (if nI st = 0 then 3 * t else t)
/-- a box of parts, as high and deep as they ask -/
def fs_eh (S : fs_S) (P : List Int32) : Nat → Int32
  | 0 => 0
  | n + 1 => if n = 0 then P.getD 2 0 + bH S (P.getD 0 0).toNatClampNeg else fMx (fs_eh S P n) (P.getD (3 * n + 2) 0 + bH S (P.getD (3 * n) 0).toNatClampNeg)
def fs_ed (S : fs_S) (P : List Int32) : Nat → Int32
  | 0 => 0
  | n + 1 => if n = 0 then bD S (P.getD 0 0).toNatClampNeg - P.getD 2 0 else fMx (fs_ed S P n) (bD S (P.getD (3 * n) 0).toNatClampNeg - P.getD (3 * n + 2) 0)
def fs_en (S : fs_S) (w : Int32) (P : List Int32) : fs_B := (w, fs_eh S P (P.length / 3), fs_ed S P (P.length / 3), P, 0, 0)
def fs_ax (S : fs_S) (st i : Nat) : Int32 := pV S st 0 - fHf (bH S i - bD S i)
/-- a box in the map, out of its cells -/
theorem fs_mk {G : gx_G} {f : fs_A} {M : mw_M} {q pl n : Nat} {w h d rw rh : Int32} {P : List Int32} {g : Nat → Int32} (h1 : M q = some (.inr (0, [.int w, .int h, .int d, .ref pl, .int rw, .int rh]))) (h2 : M pl = some (.inl (gI G, n, .inl g))) (hn : P.length = n) (h3 : ∀ j, j < n → g j = P.getD j 0) (h4 : ¬ fX f q) (h5 : ¬ fX f pl) : fs_bx G f M q (w, h, d, P, rw, rh) := by
  subst hn
  exact ⟨pl, g, h1, h2, h3, h4, h5⟩
theorem fs_hX {G : gx_G} {f : fs_A} {M M' : mw_M} {S : fs_S} (hR : fs_R G f M' S) (hk : fs_keeps f M M') (hX : ∀ a, fX f a → M a ≠ none) : ∀ a, fX f a → M' a ≠ none := by
  obtain ⟨gm, gf, g, h1, h2, h3, h4, h5, h6, h7, h8, h9⟩ := hR
  intro a ha
  by_cases hm : fs_mu f a
  · rcases hm with rfl | rfl | rfl | rfl | ⟨k, hk2, h⟩
    · rw [h1]; exact fun z => by cases z
    · rw [h2]; exact fun z => by cases z
    · rw [h3]; exact fun z => by cases z
    · rw [h4]; exact fun z => by cases z
    · obtain ⟨-, g', c2, c3, -⟩ := h7 k hk2
      rcases h with rfl | rfl
      · rw [c2]; exact fun z => by cases z
      · rw [c3]; exact fun z => by cases z
  · cases he : M a with
    | none => exact absurd he (hX a ha)
    | some e => rw [hk a e hm he]; exact fun z => by cases z
theorem fs_hXe {f : fs_A} {M M' : mw_M} (h : mw_ext M M') (hX : ∀ a, fX f a → M a ≠ none) : ∀ a, fX f a → M' a ≠ none := fun a z q => hX a z (h.no q)
