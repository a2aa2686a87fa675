/-! signs of families: the pure part -/
def fs_hi (S : fs_S) (least x : Int32) : Bool := decide (¬ fEx S x < least)
/-- the family's own box that is its sign; -1 where the sign must be put together -/
def fs_rd (S : fs_S) (u : fs_F) (least : Int32) : Int32 := match u.1.find? (fs_hi S least) with
  | some x => x
  | none => if ¬ u.2.2.2.2 = (-1) then (-1) else if nI u.1.length = 0 then (-1) else u.1.getD (u.1.length - 1) 0
theorem fs_drop {l : List Int32} {i : Nat} (h : i < l.length) : l.drop i = l.getD i 0 :: l.drop (i + 1) := by
  rw [List.drop_eq_getElem_cons h]
  simp [List.getD_eq_getElem?_getD, h]
/-- how often the repeated piece comes -/
def fs_rn (least step : Int32) : Nat → Int32 → Nat
  | 0, _ => 0
  | k + 1, sum => if sum < least then fs_rn least step k (sum + step) + 1 else 0
theorem fs_rn_le (least step : Int32) : ∀ (k : Nat) (sum : Int32), fs_rn least step k sum ≤ k
  | 0, _ => Nat.le_refl _
  | k + 1, sum => by
    unfold fs_rn
    split
    · have := fs_rn_le least step k (sum + step); omega
    · omega
/-- boxes one upon the other: their places, the top, the width -/
abbrev fs_Pi : Type := List Int32 × Int32 × Int32
def fs_pu (S : fs_S) (a : fs_Pi) (b : Nat) : fs_Pi := (a.1 ++ [nI b, 0, a.2.1 + bD S b], a.2.1 + (bH S b + bD S b), if nI a.1.length = 0 then bW S b else fMx a.2.2 (bW S b))
def fs_pus (S : fs_S) (a : fs_Pi) (b : Nat) : Nat → fs_Pi
  | 0 => a
  | n + 1 => fs_pu S (fs_pus S a b n) b
/-- a piece, if it is there, so many times -/
def fs_puo (S : fs_S) (a : fs_Pi) (x : Int32) (n : Nat) : fs_Pi := if x = (-1) then a else fs_pus S a (fIx x) n
def fs_sum (S : fs_S) (u : fs_F) : Int32 := fEx S u.2.1 + fEx S u.2.2.1 + fEx S u.2.2.2.1
def fs_stp (S : fs_S) (u : fs_F) : Int32 := if u.2.2.1 = (-1) then fEx S u.2.2.2.2 else 2 * fEx S u.2.2.2.2
def fs_tn (S : fs_S) (u : fs_F) (least : Int32) : Nat := fs_rn least (fs_stp S u) 60 (fs_sum S u)
def fs_tp (S : fs_S) (u : fs_F) (n : Nat) : fs_Pi := fs_puo S (if u.2.2.1 = (-1) then fs_puo S (fs_puo S ([], 0, 0) u.2.2.2.1 1) u.2.2.2.2 n else fs_puo S (fs_puo S (fs_puo S (fs_puo S ([], 0, 0) u.2.2.2.1 1) u.2.2.2.2 n) u.2.2.1 1) u.2.2.2.2 n) u.2.1 1
/-- PUT TOGETHER -/
def fs_tg (S : fs_S) (u : fs_F) (least : Int32) : fs_B := ((fs_tp S u (fs_tn S u least)).2.2, (fs_tp S u (fs_tn S u least)).2.1, 0, (fs_tp S u (fs_tn S u least)).1, 0, 0)
theorem fs_pus_len (S : fs_S) (a : fs_Pi) (b : Nat) : ∀ n, (fs_pus S a b n).1.length = a.1.length + 3 * n
  | 0 => rfl
  | n + 1 => by
    show (fs_pu S (fs_pus S a b n) b).1.length = _
    simp only [fs_pu, List.length_append, fs_pus_len S a b n, List.length_cons, List.length_nil]
    omega
theorem fs_puo_len (S : fs_S) (a : fs_Pi) (x : Int32) (n : Nat) : (fs_puo S a x n).1.length = a.1.length + 3 * (if x = (-1) then 0 else n) := by
  unfold fs_puo
  split
  · rfl
  · exact fs_pus_len S a _ n
/-- the places of a pile name boxes alone -/
def fs_plq (S : fs_S) (P : List Int32) : Prop := P.length % 3 = 0 ∧ ∀ j, j < P.length → j % 3 = 0 → fs_in S (P.getD j 0)
theorem fs_plq.pu {S : fs_S} {a : fs_Pi} (h : fs_plq S a.1) {b : Nat} (hb : b < sN S) : fs_plq S (fs_pu S a b).1 := by
  refine ⟨by simp only [fs_pu, List.length_append, List.length_cons, List.length_nil]; have := h.1; omega, fun j hj h3 => ?_⟩
  simp only [fs_pu, List.length_append, List.length_cons, List.length_nil] at hj
  by_cases e : j < a.1.length
  · have := h.2 j e h3
    simpa [fs_pu, List.getD_eq_getElem?_getD, List.getElem?_append_left e] using this
  · have e2 : j = a.1.length := by have := h.1; omega
    subst e2
    exact ⟨b, hb, by simp [fs_pu, List.getD_eq_getElem?_getD]⟩
theorem fs_plq.pus {S : fs_S} {a : fs_Pi} (h : fs_plq S a.1) {b : Nat} (hb : b < sN S) : ∀ n, fs_plq S (fs_pus S a b n).1
  | 0 => h
  | n + 1 => (h.pus hb n).pu hb
theorem fs_plq.puo {S : fs_S} {a : fs_Pi} (h : fs_plq S a.1) {x : Int32} (hx : fs_on S x) (hS : sN S ≤ 120) (n : Nat) : fs_plq S (fs_puo S a x n).1 := by
  unfold fs_puo
  split
  · exact h
  · rename_i e
    obtain ⟨i, hi, e2⟩ := hx.resolve_left e
    refine h.pus ?_ n
    rw [e2, fIx_nI (by omega)]
    exact hi
