/-! THE LAW'S OWN METHODS: the world is the same, and the pairs of throwables of which no one takes the other -/
def g_N (U : State) : Prop := va_Nc eIA eIO U ∧ va_Nc eIS eIO U ∧ va_Nc eUO eIO U ∧ va_Nc eIS eIA U ∧ va_Nc eUO eIA U ∧ va_Nc eUO eIS U
theorem g_N.moved {u U : State} (hvm : u.vm.Alike U.vm) (h : g_N u) : g_N U := ⟨h.1.moved hvm, h.2.1.moved hvm, h.2.2.1.moved hvm, h.2.2.2.1.moved hvm, h.2.2.2.2.1.moved hvm, h.2.2.2.2.2.moved hvm⟩
def g_Pn (G : gx_G) (sz : Nat) (M : mw_M) (av : List Value) : Array Value → State → Prop := va_Pc av (fun U => U.heap.size = sz ∧ mw_P (gD G) gx_cl M U.heap ∧ g_E G U ∧ g_N U)
theorem g_Pn_blind (G : gx_G) (sz : Nat) (M : mw_M) (av : List Value) : FrameBlind (g_Pn G sz M av) := by
  intro a U g mk q
  obtain ⟨q0, q1, qP, qE, qN⟩ := q
  exact ⟨q0, q1, qP, qE.frame rfl rfl, qN⟩
abbrev g_MetN (l : Launch) (G : gx_G) (y : MethodName) (c0 : Cond) (rm : Room) (sz : Nat) (M : mw_M) (av : List Value) (post : Option Value → mw_M → Prop) : Prop :=
  MetE l y (c0 :: lw_big) rm (g_Pn G sz M av) (mw_Qx (gD G) gx_cl M post (fun _ => False) (gA G)) rm.cells rm.slots (gA G)
section MXN
variable {p : Program} {l : Launch} {e : Env} {R : Room} {s : State} {m : MethodId} {args : Array Value} {below : List Frame} {meth : Method} {c : Code} {H : Heap} {locs : List Loc} {cells slots : Nat} {Q : State → Prop}
variable {cc : ByteArray} {pc : Nat} {ls : Array Slot} {rest st0 : List Value} {G : gx_G} {M : mw_M} {mc ms : Nat}
variable {ws : List Cond} {maxL index n nL : Nat} {own : String} {y : MethodName} {rm : Room} {As : List Value} {lv : List (Nat × Value)}
theorem mw_callN {post : Option Value → mw_M → Prop} (hexec : p.tables.exec = Jvm.exec) (hb : c.code = cc) (hml : c.maxLocals = nL) (hown : s.vm.findClass own = some m.cls) (hl : lv_has ls nL lv)
    (hM : MetE l y ws rm (g_Pn G H.size M As) (mw_Qx (gD G) gx_cl M post (fun _ => False) (gA G)) mc ms (gA G)) (cw : mx_B R s args own index y maxL ws rm mc ms n) (hstat : (Cond.static y).before args s = true)
    (hE : g_E G s) (hN : g_N s) (hP : mw_P (gD G) gx_cl M H) (hS : va_S (gA G) s.heap H locs) (hn : As.length = n) (hst : st0 = As.reverse ++ rest) (hW : (rest.map fun v => v.category).sum ≤ 20) (hdg : decode cc pc = .ok (.invokestatic index, 3)) (hf : cells + mc ≤ R.cells ∧ slots + ms ≤ R.slots)
    (kk : ∀ (v : Option Value) (M' : mw_M) (H1 : Heap) (locs1 : List Loc), post v M' → mw_P (gD G) gx_cl M' H1 → H.size ≤ H1.size → va_S (gA G) s.heap H1 locs1 → W p l e R s m args below meth c H1 locs1 (cells + mc) (slots + ms) Q (F0 m (pc + 3) ls (v.toList ++ rest))) :
    W p l e R s m args below meth c H locs cells slots Q (F0 m pc ls st0) :=
  mx_call (mx_runS (As := As) (rest := rest) hexec hb hown hM cw hstat (g_Pn_blind G H.size M As) (fun U hU hW => ⟨rfl, by rw [hU], by rw [hU]; exact hP, hE.go hS hU hW, hN.moved hW.alike⟩) rfl hn (hl.1.trans hml.symm) hst (by show 2 * 0 + _ ≤ _; omega) hdg hf) hS kk (fun x E cell H1 locs1 h => h.elim)
end MXN
/-- the rows of a table that a word names -/
def tb_e (q : Nat × Nat × Nat × Nat) : ExceptionTableEntry := { startPc := q.1, endPc := q.2.1, handlerPc := q.2.2.1, catchType := q.2.2.2 }
theorem tb_of {L : List ExceptionTableEntry} {hh : List (Nat × Nat × Nat × Nat)} (h : L.map (fun h => (h.startPc, h.endPc, h.handlerPc, h.catchType)) = hh) : L = hh.map tb_e := by
  rw [← h, List.map_map]
  have : (tb_e ∘ fun h : ExceptionTableEntry => (h.startPc, h.endPc, h.handlerPc, h.catchType)) = id := by
    funext z
    rfl
  rw [this, List.map_id]
theorem tb_body {p : Program} {l : Launch} {y : MethodName} {Sp : Spec} {cc : ByteArray} {maxL : Nat} {ret : Option FieldType} {e : Env} {s : State} {m : MethodId} {args : Array Value} {below : List Frame} {meth : Method} {c : Code} {s₁ : State} {hh : List (Nat × Nat × Nat × Nat)}
    (B : BodyLoose p l y Sp cc maxL ret e s m args below meth c s₁) (h : (Cond.codeWith y cc maxL ret hh).before args s = true) : c.exceptionTable.toList = hh.map tb_e := by
  obtain ⟨m9, meth9, c9, hn9, h1, h2, -, -, h5, -⟩ := Cond.codeWith_spec h
  cases B.named.symm.trans hn9
  cases B.method.symm.trans h1
  cases (Stand.of_body B).code.symm.trans h2
  exact tb_of h5
/-- cells that are none of the object's, and that no box lies in, may change -/
theorem fs_R.other {G : gx_G} {f : fs_A} {M M' : mw_M} {S : fs_S} {X : Nat → Prop} (hR : fs_R G f M S) (h : ∀ a e, ¬ X a → M a = some e → M' a = some e) (hX : ∀ a, X a → fX f a ∧ ¬ fs_mu f a) : fs_R G f M' S := by
  obtain ⟨gm, gf, g, a1, a2, a3, a4, a5, a6, a7, a8, a9⟩ := hR
  have hm : ∀ a e, fs_mu f a → M a = some e → M' a = some e := fun a e q k => h a e (fun z => (hX a z).2 q) k
  refine ⟨gm, gf, g, hm _ _ (Or.inl rfl) a1, hm _ _ (Or.inr (Or.inl rfl)) a2, hm _ _ (Or.inr (Or.inr (Or.inl rfl))) a3, hm _ _ (Or.inr (Or.inr (Or.inr (Or.inl rfl)))) a4, a5, fun i hi => ?_, fun k hk => ?_, a8, a9⟩
  · obtain ⟨q, q1, pl, gp, b1, b2, b3, b4, b5⟩ := a6 i hi
    exact ⟨q, q1, pl, gp, h _ _ (fun z => b4 (hX _ z).1) b1, h _ _ (fun z => b5 (hX _ z).1) b2, b3, b4, b5⟩
  · obtain ⟨c1, g', c2, c3, c4⟩ := a7 k hk
    exact ⟨c1, g', hm _ _ (Or.inr (Or.inr (Or.inr (Or.inr ⟨k, hk, Or.inl rfl⟩)))) c2, hm _ _ (Or.inr (Or.inr (Or.inr (Or.inr ⟨k, hk, Or.inr rfl⟩)))) c3, c4⟩
theorem fs_R.out {G : gx_G} {f : fs_A} {M : mw_M} {S : fs_S} {ot : Nat} {c : va_E} (hR : fs_R G f M S) (h1 : fX f ot) (h2 : ¬ fs_mu f ot) : fs_R G f (mw_up M ot c) S :=
  hR.other (X := fun a => a = ot) (fun a e n h => by rw [mw_ne _ _ n]; exact h) (fun a e => by rw [e]; exact ⟨h1, h2⟩)
/-- what a method of the law leaves: which throwable it took (0: none); the answer in out -/
def lw_Wp (G : gx_G) (f : fs_A) (ot : Nat) (M : mw_M) (S : fs_S) (ex : Nat) (r : Int32) (S' : fs_S) (v : Option Value) (M9 : mw_M) : Prop := v = some (.int (nI ex)) ∧ (∃ g, M9 ot = some (.inl (gJ G, 1, .inr (.inl g))) ∧ (ex = 0 → g 0 = r.toInt64)) ∧ fs_R G f M9 (if ex = 0 then S' else S) ∧ ∀ a e, ¬ fs_mu f a → a ≠ ot → M a = some e → M9 a = some e
def lw_Wq (G : gx_G) (f : fs_A) (M : mw_M) (S : fs_S) (ex : Nat) (S' : fs_S) (v : Option Value) (M9 : mw_M) : Prop := v = some (.int (nI ex)) ∧ fs_R G f M9 (if ex = 0 then S' else S) ∧ fs_keeps f M M9
theorem lw_Wp.ok {G : gx_G} {f : fs_A} {ot : Nat} {M M1 : mw_M} {S S' : fs_S} {ex : Nat} {r : Int32} {g : Nat → Int64} (hex : ex = 0) (hR : fs_R G f M1 S') (hk : fs_keeps f M M1) (h1 : fX f ot) (h2 : ¬ fs_mu f ot) :
    lw_Wp G f ot M S ex r S' (some (.int 0)) (mw_up M1 ot (.inl (gJ G, 1, .inr (.inl (vp_updL g (0 : Int32).toNatClampNeg r.toInt64))))) := by
  refine ⟨by rw [hex]; rfl, ⟨_, mw_self _ _ _, fun _ => ?_⟩, by rw [hex, if_pos rfl]; exact hR.out h1 h2, fun a e n1 n2 h => by rw [mw_ne _ _ n2]; exact hk a e n1 h⟩
  show vp_updL g 0 r.toInt64 0 = _
  simp [vp_updL]
theorem lw_Wp.no {G : gx_G} {f : fs_A} {ot : Nat} {M : mw_M} {S S' : fs_S} {ex k : Nat} {r : Int32} {g : Nat → Int64} (hex : ex = k + 1) (hR : fs_R G f M S) (ho : M ot = some (.inl (gJ G, 1, .inr (.inl g)))) : lw_Wp G f ot M S ex r S' (some (.int (nI (k + 1)))) M :=
  ⟨by rw [hex], ⟨g, ho, fun h => absurd (hex.symm.trans h) (Nat.succ_ne_zero k)⟩, by rw [hex, if_neg (Nat.succ_ne_zero k)]; exact hR, fun _ _ _ _ h => h⟩
