/-! THE LAW: what holds between its turns -/
section MXL
variable {p : Program} {l : Launch} {e : Env} {R : Room} {s : State} {m : MethodId} {args : Array Value} {below : List Frame} {meth : Method} {c : Code} {H : Heap} {locs : List Loc} {cells slots : Nat} {Q : State → Prop}
variable {cc : ByteArray} {pc : Nat} {ls : Array Slot} {rest : List Value}
theorem mw_lcmpE (hexec : p.tables.exec = Jvm.exec) (hb : c.code = cc) {x : Int64} (hdg : decode cc pc = .ok (.lcmp, 1))
    (k : W p l e R s m args below meth c H locs cells slots Q (F0 m (pc + 1) ls (.int 0 :: rest))) : W p l e R s m args below meth c H locs cells slots Q (F0 m pc ls (.long x :: .long x :: rest)) := by
  intro T hT X
  obtain ⟨t, a, b⟩ := k T hT X
  refine ⟨t, ?_, b⟩
  jvm_step X.here [X.here.top, hexec, hb, hdg]
  exact a
end MXL
theorem md_R.other {G : gx_G} {o : Nat} {A : Nat → Nat} {M M' : mw_M} {th z : Int32} {S : fs_S} (hR : md_R G o A M th z S) (h : ∀ a e, md_own o A a → M a = some e → M' a = some e) : md_R G o A M' th z S := by
  obtain ⟨np, bg, g, hT, hB⟩ := hR
  exact ⟨np, bg, g, ⟨h _ _ (Or.inl rfl) hT.1, fun j hj => h _ _ (Or.inr ⟨j, hj, rfl⟩) (hT.2.1 j hj), hT.2.2⟩, hB⟩
theorem md_R.some {G : gx_G} {o : Nat} {A : Nat → Nat} {M : mw_M} {th z : Int32} {S : fs_S} (hR : md_R G o A M th z S) {a : Nat} (ha : md_own o A a) : M a ≠ none := by
  obtain ⟨np, bg, g, hT, hB⟩ := hR
  rcases ha with rfl | ⟨j, hj, rfl⟩
  · rw [hT.1]; exact fun z => by cases z
  · rw [hT.2.1 j hj]; exact fun z => by cases z
theorem fs_R.some {G : gx_G} {f : fs_A} {M : mw_M} {S : fs_S} (hR : fs_R G f M S) {a : Nat} (ha : fs_mu f a) : M a ≠ none := by
  obtain ⟨gm, gf, g, h1, h2, h3, h4, h5, h6, h7, h8, h9⟩ := hR
  rcases ha with rfl | rfl | rfl | rfl | ⟨k, hk2, h⟩
  · rw [h1]; exact fun z => by cases z
  · rw [h2]; exact fun z => by cases z
  · rw [h3]; exact fun z => by cases z
  · rw [h4]; exact fun z => by cases z
  · obtain ⟨-, g', c2, c3, -⟩ := h7 k hk2
    rcases h with rfl | rfl
    · rw [c2]; exact fun z => by cases z
    · rw [c3]; exact fun z => by cases z
def lw_J (G : gx_G) (f : fs_A) (o : Nat) (A : Nat → Nat) (ot : Nat) : Prop := (∀ x, md_own o A x → fX f x ∧ ¬ fs_mu f x ∧ x ≠ ot ∧ x ≠ gN G) ∧ (fX f ot ∧ ¬ fs_mu f ot ∧ ot ≠ gN G ∧ gA G ot) ∧ ¬ fX f (gN G)
def lw_I (G : gx_G) (f : fs_A) (o : Nat) (A : Nat → Nat) (ot : Nat) (gn : Nat → Int32) (M : mw_M) (S : fs_S) : Prop := fs_R G f M S ∧ (∃ th z, md_R G o A M th z S) ∧ (∃ g, M ot = some (.inl (gJ G, 1, .inr (.inl g)))) ∧ M (gN G) = some (.inl (gI G, 0, .inl gn)) ∧ ∀ a, fX f a → M a ≠ none
section LWP
variable {G : gx_G} {f : fs_A} {o : Nat} {A : Nat → Nat} {ot : Nat} {gn : Nat → Int32} {M M1 M2 : mw_M} {S S' S1 : fs_S} {ex : Nat} {r v2 : Option Value}
theorem lw_w1 (J : lw_J G f o A ot) (I : lw_I G f o A ot gn M S) (hk : ∀ a e, ¬ fs_mu f a → a ≠ ot → M a = some e → M1 a = some e) : ∃ th z, md_R G o A M1 th z S := by
  obtain ⟨th, z, h⟩ := I.2.1
  exact ⟨th, z, h.other (fun a e ha q => hk a e (J.1 a ha).2.1 (J.1 a ha).2.2.1 q)⟩
theorem lw_w2 {φ : (Nat → Int64) → Prop} (J : lw_J G f o A ot) (I : lw_I G f o A ot gn M S) (hk : ∀ a e, ¬ fs_mu f a → a ≠ ot → M a = some e → M1 a = some e) (hR1 : fs_R G f M1 (if ex = 0 then S' else S)) (ho : ∃ g, M1 ot = some (.inl (gJ G, 1, .inr (.inl g))) ∧ φ g) (hm : md_Mk G o A M1 S ex S' r v2 M2) :
    lw_I G f o A ot gn M2 (if ex = 0 then S' else S) ∧ (∃ g, M2 ot = some (.inl (gJ G, 1, .inr (.inl g))) ∧ φ g) ∧ ∃ z, md_R G o A M2 (nI ex) z (if ex = 0 then S' else S) := by
  obtain ⟨-, ⟨z, hz⟩, hk2⟩ := hm
  obtain ⟨g, hg, hφ⟩ := ho
  have hot : ¬ md_own o A ot := fun q => (J.1 _ q).2.2.1 rfl
  have hgn : ¬ md_own o A (gN G) := fun q => (J.1 _ q).2.2.2 rfl
  have hot2 := hk2 _ _ hot hg
  have hmu : ¬ fs_mu f (gN G) := fun q => J.2.2 (hR1.fr.1 _ q)
  refine ⟨⟨hR1.other (X := md_own o A) (fun a e n q => hk2 a e n q) (fun a q => ⟨(J.1 a q).1, (J.1 a q).2.1⟩), ⟨_, z, hz⟩, ⟨g, hot2⟩, hk2 _ _ hgn (hk _ _ hmu (Ne.symm J.2.1.2.2.1) I.2.2.2.1), fun a ha => ?_⟩, ⟨g, hot2, hφ⟩, z, hz⟩
  by_cases q1 : md_own o A a
  · exact hz.some q1
  · by_cases q2 : fs_mu f a
    · cases he : M1 a with
      | none => exact absurd he (hR1.some q2)
      | some e => rw [hk2 a e q1 he]; exact fun z => by cases z
    · by_cases q3 : a = ot
      · rw [q3, hot2]; exact fun z => by cases z
      · cases he : M a with
        | none => exact absurd he (I.2.2.2.2 a ha)
        | some e => rw [hk2 a e q1 (hk a e q2 q3 he)]; exact fun z => by cases z
theorem lw_w3 (J : lw_J G f o A ot) (I : lw_I G f o A ot gn M S) (hk : fs_keeps f M M1) : ∃ g, M1 ot = some (.inl (gJ G, 1, .inr (.inl g))) ∧ True := by
  obtain ⟨g, hg⟩ := I.2.2.1
  exact ⟨g, hk _ _ J.2.1.2.1 hg, trivial⟩
end LWP
def lw_C (l : Launch) (G : gx_G) (p : Program) (s : State) (m : MethodId) (c : Code) (b L : Nat) (xs : Nat → Int32) : Prop := p.tables.exec = Jvm.exec ∧ c.code = code ∧ c.maxLocals = 7 ∧ s.vm.findClass RL = some m.cls ∧ (∀ w ∈ lw_big, w.before #[Value.ref b] s = true) ∧ g_E G s ∧ g_N s ∧ va_X b L xs s s.heap ∧ b < s.heap.size ∧ ¬ gA G b ∧ (∀ q : Nat, s.heap.size ≤ q → gA G q) ∧ l.stackTraces = false ∧ L ≤ 3584
theorem ex0 {n : Nat} (h : n ≤ 4) (c : nI n = 0) : n = 0 := by
  rcases Nat.eq_zero_or_pos n with q | q
  · exact q
  · exact absurd c (nI_ne0 q (by omega))
theorem le4_ite {P : Prop} [Decidable P] {a b : Nat} (ha : a ≤ 4) (hb : b ≤ 4) : (if P then a else b) ≤ 4 := by
  split
  · exact ha
  · exact hb
