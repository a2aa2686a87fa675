/-! THE SURROUNDINGS of every method of this claim, in one tuple G: class numbers, field slots, the array classes (int[], Box[], Family[], long[], boolean[]), the address of NO_PLACES, the addresses of the String constants, the addresses born since the law began -/
abbrev gx_G : Type := (Nat → ClassId) × (Nat → Nat → Nat) × (ClassId × ClassId × ClassId × ClassId × ClassId) × Nat × (Nat → Nat) × (Nat → Prop)
abbrev gD (G : gx_G) : va_G := (G.1, G.2.1)
abbrev gI (G : gx_G) : ClassId := G.2.2.1.1
abbrev gB (G : gx_G) : ClassId := G.2.2.1.2.1
abbrev gF (G : gx_G) : ClassId := G.2.2.1.2.2.1
abbrev gJ (G : gx_G) : ClassId := G.2.2.1.2.2.2.1
abbrev gZ (G : gx_G) : ClassId := G.2.2.1.2.2.2.2
abbrev gN (G : gx_G) : Nat := G.2.2.2.1
abbrev gS (G : gx_G) : Nat → Nat := G.2.2.2.2.1
abbrev gA (G : gx_G) : Nat → Prop := G.2.2.2.2.2
abbrev g_tys (G : gx_G) : List (ClassId × FieldType) := [(gI G, .int), (gB G, .object "FormulaShapes$Box"), (gF G, .object "FormulaShapes$Family"), (gJ G, .long), (gZ G, .boolean)]
abbrev g_zs (G : gx_G) : List (String × String × String × Value) := [("FormulaShapes", "NO_PLACES", "[I", .ref (gN G))]
abbrev g_fl : List (String × String × String) := [(Bundle.tN, "UNASSIGNED_STACK", Bundle.steD), (Bundle.tN, "SUPPRESSED_SENTINEL", Bundle.listD)]
abbrev g_ks (G : gx_G) : List (String × Nat × String × Nat) := [("FormulaShapes", 28, "no such size", gS G 0), ("FormulaShapes", 33, "no such parameter", gS G 1), ("FormulaShapes", 208, "a number is too small or too great", gS G 2), ("FormulaShapes", 41, "what is 0 or 1", gS G 3), ("FormulaShapes", 217, "there are too many boxes", gS G 4), ("FormulaShapes", 204, "no such family", gS G 5), ("FormulaShapes", 202, "no such box", gS G 6), ("FormulaShapes", 75, "the family has all its boxes", gS G 7), ("FormulaShapes", 90, "the repeated piece must be above 0 high", gS G 8), ("FormulaShapes", 214, "the family has neither boxes nor pieces", gS G 9), ("FormulaShapes", 206, "no such style", gS G 10), ("FormulaShapes", 210, "one must be there, above or below", gS G 11), ("FormulaShapes", 189, "what is 0 to 3", gS G 12), ("FormulaShapes", 191, "no such part", gS G 13), ("FormulaShapes", 193, "what is 0 to 5", gS G 14)]
abbrev g_E (G : gx_G) (U : State) : Prop := mw_E (gD G) gx_cl (g_tys G) (g_zs G) g_fl (g_ks G) (gA G) U
/-- a contract: from a map M and the arguments av it returns (post) or throws (thr) -/
abbrev g_Met (l : Launch) (G : gx_G) (y : MethodName) (c0 : Cond) (rm : Room) (sz : Nat) (M : mw_M) (av : List Value) (post : Option Value → mw_M → Prop) (thr : String → Prop) : Prop :=
  MetE l y (c0 :: lw_big) rm (mw_Pc (gD G) gx_cl (g_tys G) (g_zs G) g_fl (g_ks G) (gA G) sz M av) (mw_Qx (gD G) gx_cl M post thr (gA G)) rm.cells rm.slots (gA G)
theorem g_B {R : Room} {s : State} {args : Array Value} {own : String} {index maxL n : Nat} {y : MethodName} {b : ByteArray} {r : Option FieldType} {rm : Room} (htb : ∀ w ∈ lw_big, w.before args s = true) (hc : Cond.code y b maxL r ∈ lw_big) (hi : Cond.initialized y.cls ∈ lw_big) (hl : Cond.methodLink own index y ∈ lw_big)
    (hd : y.cls ≠ "java/lang/invoke/MethodHandle" ∧ y.cls ≠ "java/lang/invoke/VarHandle" ∧ (parseMethodDescriptor y.desc).map (fun d => d.parameters.length) = some n) (hR : rm.frames + 1 ≤ R.frames ∧ 20 + (maxL + 11) + rm.locals ≤ R.locals) :
    mx_B R s args own index y maxL (Cond.code y b maxL r :: lw_big) rm rm.cells rm.slots n := by
  refine ⟨rfl, rfl, hR.1, hR.2, gx_hws htb hc, Or.inl ⟨b, r, List.mem_cons_self⟩, htb _ hi, ⟨hd.1, hd.2.1⟩, fun sig h => ?_, htb _ hl⟩
  have h2 := hd.2.2
  rw [h] at h2
  exact (Option.some.inj h2).symm
theorem g_BW {R : Room} {s : State} {args : Array Value} {own : String} {index maxL n : Nat} {y : MethodName} {b : ByteArray} {r : Option FieldType} {hh : List (Nat × Nat × Nat × Nat)} {rm : Room} (htb : ∀ w ∈ lw_big, w.before args s = true) (hc : Cond.codeWith y b maxL r hh ∈ lw_big) (hi : Cond.initialized y.cls ∈ lw_big) (hl : Cond.methodLink own index y ∈ lw_big)
    (hd : y.cls ≠ "java/lang/invoke/MethodHandle" ∧ y.cls ≠ "java/lang/invoke/VarHandle" ∧ (parseMethodDescriptor y.desc).map (fun d => d.parameters.length) = some n) (hR : rm.frames + 1 ≤ R.frames ∧ 20 + (maxL + 11) + rm.locals ≤ R.locals) :
    mx_B R s args own index y maxL (Cond.codeWith y b maxL r hh :: lw_big) rm rm.cells rm.slots n := by
  refine ⟨rfl, rfl, hR.1, hR.2, gx_hws htb hc, Or.inr ⟨b, r, hh, List.mem_cons_self⟩, htb _ hi, ⟨hd.1, hd.2.1⟩, fun sig h => ?_, htb _ hl⟩
  have h2 := hd.2.2
  rw [h] at h2
  exact (Option.some.inj h2).symm
/-! maps that grow -/
def mw_ext (M M' : mw_M) : Prop := ∀ a e, M a = some e → M' a = some e
theorem mw_ext.rf (M : mw_M) : mw_ext M M := fun _ _ h => h
theorem mw_ext.tr {M M1 M2 : mw_M} (h : mw_ext M M1) (k : mw_ext M1 M2) : mw_ext M M2 := fun a e q => k a e (h a e q)
theorem mw_ext.no {M M' : mw_M} (h : mw_ext M M') {q : Nat} (hq : M' q = none) : M q = none := by
  cases he : M q with
  | none => rfl
  | some e => rw [h q e he] at hq; cases hq
theorem mw_ext.up {M M' : mw_M} (h : mw_ext M M') {q : Nat} (hq : M q = none) (e : va_E) : mw_ext M (mw_up M' q e) := fun a e' ha => by
  rw [mw_ne M' e (fun z => by rw [z, hq] at ha; cases ha)]
  exact h a e' ha
/-! THE STATE that class and reference both hold. A box: width, height, depth, its places (three ints a part), its rule's width and height. A family: its boxes; upper, middle, lower, repeated. All: boxes, families, parameters, SPACE, SHORT -/
abbrev fs_B : Type := Int32 × Int32 × Int32 × List Int32 × Int32 × Int32
abbrev fs_F : Type := List Int32 × Int32 × Int32 × Int32 × Int32
abbrev fs_S : Type := List fs_B × (Nat → fs_F) × (Nat → Int32) × Int32 × Int32
def fs_0 : fs_B := (0, 0, 0, [], 0, 0)
def sN (S : fs_S) : Nat := S.1.length
def sB (S : fs_S) (i : Nat) : fs_B := S.1.getD i fs_0
def bW (S : fs_S) (i : Nat) : Int32 := (sB S i).1
def bH (S : fs_S) (i : Nat) : Int32 := (sB S i).2.1
def bD (S : fs_S) (i : Nat) : Int32 := (sB S i).2.2.1
def bP (S : fs_S) (i : Nat) : List Int32 := (sB S i).2.2.2.1
def sF (S : fs_S) (k : Nat) : fs_F := S.2.1 k
def sP (S : fs_S) (k : Nat) : Int32 := S.2.2.1 k
def sSp (S : fs_S) : Int32 := S.2.2.2.1
def sSh (S : fs_S) : Int32 := S.2.2.2.2
/-- a box's number, or none -/
def fs_in (S : fs_S) (x : Int32) : Prop := ∃ i : Nat, i < sN S ∧ x = nI i
def fs_on (S : fs_S) (x : Int32) : Prop := x = -1 ∨ fs_in S x
def fs_pl (S : fs_S) (P : List Int32) : Prop := P.length % 3 = 0 ∧ P.length ≤ 369 ∧ ∀ j, j < P.length → j % 3 = 0 → fs_on S (P.getD j 0)
/-- what holds of every state -/
def fs_ok (S : fs_S) : Prop := sN S ≤ 120 ∧ (∀ i, i < sN S → fs_pl S (bP S i)) ∧ ∀ k, k < 8 → (sF S k).1.length ≤ 4 ∧ (∀ j, j < (sF S k).1.length → fs_in S ((sF S k).1.getD j 0)) ∧ fs_on S (sF S k).2.1 ∧ fs_on S (sF S k).2.2.1 ∧ fs_on S (sF S k).2.2.2.1 ∧ fs_on S (sF S k).2.2.2.2
/-- the class's object: its own cells (h0, made, families, parameters, the families and their rows), and the cells that no box may lie in -/
abbrev fs_A : Type := Nat × Nat × Nat × Nat × (Nat → Nat) × (Nat → Nat) × (Nat → Prop)
abbrev f0 (f : fs_A) : Nat := f.1
abbrev fM (f : fs_A) : Nat := f.2.1
abbrev fF (f : fs_A) : Nat := f.2.2.1
abbrev fP (f : fs_A) : Nat := f.2.2.2.1
abbrev fQ (f : fs_A) : Nat → Nat := f.2.2.2.2.1
abbrev fR (f : fs_A) : Nat → Nat := f.2.2.2.2.2.1
abbrev fX (f : fs_A) : Nat → Prop := f.2.2.2.2.2.2
def fs_mu (f : fs_A) (a : Nat) : Prop := a = f0 f ∨ a = fM f ∨ a = fF f ∨ a = fP f ∨ ∃ k, k < 8 ∧ (a = fQ f k ∨ a = fR f k)
def fs_fr (G : gx_G) (f : fs_A) : Prop := (∀ a, fs_mu f a → fX f a) ∧ (∀ a, fs_mu f a → gA G a) ∧ (∀ i j, i < 8 → j < 8 → fQ f i = fQ f j → i = j) ∧ (∀ i j, i < 8 → j < 8 → fR f i = fR f j → i = j)
def fs_bx (G : gx_G) (f : fs_A) (M : mw_M) (q : Nat) (b : fs_B) : Prop := ∃ (p : Nat) (g : Nat → Int32), M q = some (.inr (0, [.int b.1, .int b.2.1, .int b.2.2.1, .ref p, .int b.2.2.2.2.1, .int b.2.2.2.2.2])) ∧ M p = some (.inl (gI G, b.2.2.2.1.length, .inl g)) ∧ (∀ j, j < b.2.2.2.1.length → g j = b.2.2.2.1.getD j 0) ∧ ¬ fX f q ∧ ¬ fX f p
def fs_fm (G : gx_G) (f : fs_A) (M : mw_M) (k : Nat) (u : fs_F) : Prop := ∃ g : Nat → Int32, M (fQ f k) = some (.inr (1, [.ref (fR f k), .int (nI u.1.length), .int u.2.1, .int u.2.2.1, .int u.2.2.2.1, .int u.2.2.2.2])) ∧ M (fR f k) = some (.inl (gI G, 4, .inl g)) ∧ ∀ j, j < u.1.length → g j = u.1.getD j 0
def fs_R (G : gx_G) (f : fs_A) (M : mw_M) (S : fs_S) : Prop := ∃ (gm gf : Nat → Option Nat) (g : Nat → Int32),
  M (f0 f) = some (.inr (3, [.ref (fM f), .int (nI (sN S)), .ref (fF f), .ref (fP f), .int (sSp S), .int (sSh S)])) ∧
  M (fM f) = some (.inl (gB G, 120, .inr (.inr (.inr (.inr gm))))) ∧ M (fF f) = some (.inl (gF G, 8, .inr (.inr (.inr (.inr gf))))) ∧ M (fP f) = some (.inl (gI G, 63, .inl g)) ∧
  (∀ j, j < 63 → g j = sP S j) ∧ (∀ i, i < sN S → ∃ q, gm i = some q ∧ fs_bx G f M q (sB S i)) ∧ (∀ k, k < 8 → gf k = some (fQ f k) ∧ fs_fm G f M k (sF S k)) ∧ fs_ok S ∧ fs_fr G f
theorem fs_bx.ext {G : gx_G} {f : fs_A} {M M' : mw_M} (h : mw_ext M M') {q : Nat} {b : fs_B} (hb : fs_bx G f M q b) : fs_bx G f M' q b := by
  obtain ⟨p, g, h1, h2, h3⟩ := hb
  exact ⟨p, g, h _ _ h1, h _ _ h2, h3⟩
theorem fs_R.ext {G : gx_G} {f : fs_A} {M M' : mw_M} {S : fs_S} (hR : fs_R G f M S) (h : mw_ext M M') : fs_R G f M' S := by
  obtain ⟨gm, gf, g, h1, h2, h3, h4, h5, h6, h7, h8⟩ := hR
  refine ⟨gm, gf, g, h _ _ h1, h _ _ h2, h _ _ h3, h _ _ h4, h5, fun i hi => ?_, fun k hk => ?_, h8⟩
  · obtain ⟨q, q1, q2⟩ := h6 i hi
    exact ⟨q, q1, q2.ext h⟩
  · obtain ⟨q1, g', q2, q3, q4⟩ := h7 k hk
    exact ⟨q1, g', h _ _ q2, h _ _ q3, q4⟩
theorem fs_R.this {G : gx_G} {f : fs_A} {M : mw_M} {S : fs_S} (hR : fs_R G f M S) : M (f0 f) = some (.inr (3, [.ref (fM f), .int (nI (sN S)), .ref (fF f), .ref (fP f), .int (sSp S), .int (sSh S)])) := by
  obtain ⟨gm, gf, g, h1, -⟩ := hR
  exact h1
theorem fs_R.ok {G : gx_G} {f : fs_A} {M : mw_M} {S : fs_S} (hR : fs_R G f M S) : fs_ok S := by
  obtain ⟨gm, gf, g, -, -, -, -, -, -, -, h8, -⟩ := hR
  exact h8
theorem fs_R.fr {G : gx_G} {f : fs_A} {M : mw_M} {S : fs_S} (hR : fs_R G f M S) : fs_fr G f := by
  obtain ⟨gm, gf, g, -, -, -, -, -, -, -, -, h9⟩ := hR
  exact h9
/-! small arithmetic, as the bytecode computes it -/
def fHf (x : Int32) : Int32 := if x - x / 2 * 2 = 0 then x / 2 else (x + 1) / 2
def fMx (x y : Int32) : Int32 := if x < y then y else x
def fAb (x : Int32) : Int32 := if 0 ≤ x then x else 0 - x
def fSz (st : Nat) : Nat := if st ≤ 1 then 0 else st - 1
/-- P(k) of a style -/
def pV (S : fs_S) (st k : Nat) : Int32 := sP S (fSz st * 21 + k)
def fEx (S : fs_S) (x : Int32) : Int32 := if x = -1 then 0 else bH S x.toNatClampNeg + bD S x.toNatClampNeg
def eIO : String := "java/lang/IndexOutOfBoundsException"
def eIA : String := "java/lang/IllegalArgumentException"
def eIS : String := "java/lang/IllegalStateException"
def eUO : String := "java/lang/UnsupportedOperationException"
