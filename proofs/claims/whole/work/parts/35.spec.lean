/-! THE SHAPES, as boxes over a state (conditions as the bytecode asks them) -/
def fs_fb3 (S : fs_S) (n d : Nat) (u v : Int32) : fs_B := (fMx (bW S n) (bW S d), u + bH S n, bD S d + v, [nI n, fHf (fMx (bW S n) (bW S d) - bW S n), u, nI d, fHf (fMx (bW S n) (bW S d) - bW S d), -v], 0, 0)
def fs_fb2 (S : fs_S) (n d : Nat) (u v g : Int32) : fs_B := fs_fb3 S n d (if g ≤ 0 then u else u + g) (if g ≤ 0 then v else v + g)
def fs_fb1 (S : fs_S) (n d : Nat) (u v c : Int32) : fs_B := fs_fb2 S n d u v (fHf (c - ((u - bD S n) - (bH S d - v))))
/-- FRACTION without a line -/
def fs_fb (S : fs_S) (st n d : Nat) : fs_B := fs_fb1 S n d (if nI st = 0 then pV S st 1 else pV S st 3) (if nI st = 0 then pV S st 4 else pV S st 5) (if nI st = 0 then 7 * pV S st 13 else 3 * pV S st 13)
def fs_fl3 (S : fs_S) (n d : Nat) (u v t y : Int32) : fs_B := (fMx (bW S n) (bW S d), u + bH S n, bD S d + v, [nI n, fHf (fMx (bW S n) (bW S d) - bW S n), u, nI d, fHf (fMx (bW S n) (bW S d) - bW S d), -v, -1, 0, y], fMx (bW S n) (bW S d), t)
def fs_fl1 (S : fs_S) (n d : Nat) (u v t x e c : Int32) : fs_B := fs_fl3 S n d (u + fMx 0 (c - ((u - bD S n) - (x + e)))) (v + fMx 0 (c - ((x - e) - (bH S d - v)))) t (x + e - t)
/-- FRACTION with a line -/
def fs_fl (S : fs_S) (st n d : Nat) (t : Int32) : fs_B := fs_fl1 S n d (if nI st = 0 then pV S st 1 else pV S st 2) (if nI st = 0 then pV S st 4 else pV S st 5) t (pV S st 0) (fHf t) (if nI st = 0 then 3 * t else t)
/-- a box of parts, as high and deep as they ask -/
def fs_eh (S : fs_S) (P : List Int32) : Nat → Int32
  | 0 => 0
  | n + 1 => if n = 0 then P.getD 2 0 + bH S (P.getD 0 0).toNatClampNeg else fMx (fs_eh S P n) (P.getD (3 * n + 2) 0 + bH S (P.getD (3 * n) 0).toNatClampNeg)
def fs_ed (S : fs_S) (P : List Int32) : Nat → Int32
  | 0 => 0
  | n + 1 => if n = 0 then bD S (P.getD 0 0).toNatClampNeg - P.getD 2 0 else fMx (fs_ed S P n) (bD S (P.getD (3 * n) 0).toNatClampNeg - P.getD (3 * n + 2) 0)
def fs_en (S : fs_S) (w : Int32) (P : List Int32) : fs_B := (w, fs_eh S P (P.length / 3), fs_ed S P (P.length / 3), P, 0, 0)
def fs_ax (S : fs_S) (st i : Nat) : Int32 := pV S st 0 - fHf (bH S i - bD S i)
/-- a box in the map, out of its cells -/
theorem fs_mk {G : gx_G} {f : fs_A} {M : mw_M} {q pl n : Nat} {w h d rw rh : Int32} {P : List Int32} {g : Nat → Int32} (h1 : M q = some (.inr (0, [.int w, .int h, .int d, .ref pl, .int rw, .int rh]))) (h2 : M pl = some (.inl (gI G, n, .inl g))) (hn : P.length = n) (h3 : ∀ j, j < n → g j = P.getD j 0) (h4 : ¬ fX f q) (h5 : ¬ fX f pl) : fs_bx G f M q (w, h, d, P, rw, rh) := by
  subst hn
  exact ⟨pl, g, h1, h2, h3, h4, h5⟩
theorem fs_hX {G : gx_G} {f : fs_A} {M M' : mw_M} {S : fs_S} (hR : fs_R G f M' S) (hk : fs_keeps f M M') (hX : ∀ a, fX f a → M a ≠ none) : ∀ a, fX f a → M' a ≠ none := by
  obtain ⟨gm, gf, g, h1, h2, h3, h4, h5, h6, h7, h8, h9⟩ := hR
  intro a ha
  by_cases hm : fs_mu f a
  · rcases hm with rfl | rfl | rfl | rfl | ⟨k, hk2, h⟩
    · rw [h1]; exact fun z => by cases z
    · rw [h2]; exact fun z => by cases z
    · rw [h3]; exact fun z => by cases z
    · rw [h4]; exact fun z => by cases z
    · obtain ⟨-, g', c2, c3, -⟩ := h7 k hk2
      rcases h with rfl | rfl
      · rw [c2]; exact fun z => by cases z
      · rw [c3]; exact fun z => by cases z
  · cases he : M a with
    | none => exact absurd he (hX a ha)
    | some e => rw [hk a e hm he]; exact fun z => by cases z
theorem fs_hXe {f : fs_A} {M M' : mw_M} (h : mw_ext M M') (hX : ∀ a, fX f a → M a ≠ none) : ∀ a, fX f a → M' a ≠ none := fun a z q => hX a z (h.no q)
/-! further shapes -/
def fs_rc (S : fs_S) (st : Nat) : Int32 := pV S st 13 + fAb (if nI st = 0 then pV S st 14 else pV S st 13) / 4
def fs_45 (S : fs_S) (st : Nat) : Int32 := fAb (4 * pV S st 14) / 5
def fs_us (S : fs_S) (st : Nat) (c u : Int32) (a : Nat) : Int32 := fMx (fMx u (if c = 0 then (if nI st = 0 then pV S st 6 else pV S st 7) else pV S st 8)) (bD S a + fAb (pV S st 14) / 4)
def fs_da (S : fs_S) (st : Nat) (v : Int32) (s : Nat) : Int32 := fMx (fMx v (pV S st 9)) (bH S s - fs_45 S st)
def fs_bm (S : fs_S) (st x : Nat) : Int32 := fMx (bH S x - pV S st 0) (bD S x + pV S st 0)
def fs_bl (S : fs_S) (st x : Nat) : Int32 := fMx 0 (fMx (fs_bm S st x / 500 * 901) (2 * fs_bm S st x - sSh S))
def fs_rs2 (S : fs_S) (x y : Nat) (tg t hang line : Int32) : fs_B := (bW S y + bW S x, line + 2 * t, fMx (bD S x) (hang - line), [nI y, 0, if tg = 0 then line else line - bH S y, nI x, bW S y, 0, -1, bW S y, line], bW S x, t)
def fs_rs1 (S : fs_S) (x y : Nat) (c tg t hang : Int32) : fs_B := fs_rs2 S x y tg t hang (bH S x + c + (if hang - (fEx S (nI x) + c) ≤ 0 then 0 else fHf (hang - (fEx S (nI x) + c))))
/-- ROOT over its sign y -/
def fs_rs (S : fs_S) (x y : Nat) (c tg : Int32) : fs_B := fs_rs1 S x y c tg (if tg = 0 then bH S y else 0) (if tg = 0 then bD S y else bH S y)
def fs_sb3 (S : fs_S) (b a s : Nat) (u v : Int32) : fs_B := fs_en S (bW S b + fMx (bW S a) (bW S s) + sSp S) [nI b, 0, 0, nI a, bW S b, u, nI s, bW S b, -v]
def fs_sb2 (S : fs_S) (st b a s : Nat) (u v c : Int32) : fs_B := fs_sb3 S b a s (if c ≤ 0 then u else u + fMx 0 (fs_45 S st - (u - bD S a))) (if c ≤ 0 then v else v + (c - fMx 0 (fs_45 S st - (u - bD S a))))
def fs_sb1 (S : fs_S) (st b a s : Nat) (u v : Int32) : fs_B := fs_sb2 S st b a s u v (4 * pV S st 13 - ((u - bD S a) - (bH S s - v)))
/-- SIGNS on both sides -/
def fs_sb (S : fs_S) (st : Nat) (u v : Int32) (b a s : Nat) : fs_B := fs_sb1 S st b a s u (fMx v (pV S st 10))
def fIx (x : Int32) : Nat := x.toNatClampNeg
def fs_lw (S : fs_S) (b : Nat) (a s : Int32) : Int32 := if s = -1 then (if a = -1 then bW S b else fMx (bW S b) (bW S (fIx a))) else fMx (if a = -1 then bW S b else fMx (bW S b) (bW S (fIx a))) (bW S (fIx s))
def fs_la (S : fs_S) (st b : Nat) (a : Int32) : Int32 := bH S b + fMx (pV S st 17 - bD S (fIx a)) (pV S st 15) + bD S (fIx a)
def fs_ls (S : fs_S) (st b : Nat) (s : Int32) : Int32 := -(bD S b + fMx (pV S st 18 - bH S (fIx s)) (pV S st 16) + bH S (fIx s))
/-- LIMITS -/
def fs_lm (S : fs_S) (st b : Nat) (a s : Int32) : fs_B := (fs_lw S b a s, (if a = -1 then bH S b else fs_la S st b a + bH S (fIx a) + pV S st 19), (if s = -1 then bD S b else bD S (fIx s) + pV S st 19 - fs_ls S st b s),
  (if a = -1 then [] else [a, fHf (fs_lw S b a s - bW S (fIx a)), fs_la S st b a]) ++ [nI b, fHf (fs_lw S b a s - bW S b), 0] ++ (if s = -1 then [] else [s, fHf (fs_lw S b a s - bW S (fIx s)), fs_ls S st b s]), 0, 0)
