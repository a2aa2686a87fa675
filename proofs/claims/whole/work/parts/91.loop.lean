/-! printed by wip/whole/spec*.py -/
/-! THE CLAIM OUT OF ONE WALK OF THE LAW'S BODY: the frame of SKELETON.whole.lean.txt with this claim's numbers -/
def lw_P (b : Addr) (xs : List Int32) (args : Array Value) (s : State) : Prop := args = #[.ref b] ∧ s.IntsAt b xs ∧ xs.length ≤ 3584 ∧ (Jvm.Cond.and given_1 narrow_1).before args s = true
def lw_Q (_ : Array Value) (s : State) (o : Outcome) (t : State) : Prop := o = .returned (some (.int 1)) ∧ Framed s o t [] 601024 7293034
def lw_Z (below : List Frame) (a : Array Value) (s : State) : State → Prop := fun t => ∃ o, t.status = .running ∧ Ended t below o ∧ lw_Q a s o t
theorem lw_ret {p : Program} {l : Launch} {e : Env} {s : State} {m : MethodId} {below : List Frame} {meth : Method} {c : Code} {b : Nat} (hx : p.tables.exec = Jvm.exec) (hb : c.code = code) (hr : meth.sig.returnType = ret) (hlocks : meth.locks = false) {pc : Nat} {H : Heap} {ls : Array Slot} (hdg : decode code pc = .ok (.ireturn, 1)) : W p l e room_1 s m #[Value.ref b] below meth c H [] 601024 7293034 (lw_Z below #[Value.ref b] s) (F0 m pc ls [.int 1]) := by
  intro T hT X
  obtain ⟨fs, hret, hrun, hended, hW, hframe⟩ := X.leave (v := some (.int 1)) (hlocks := hlocks) (fun h => by rw [hr] at h; cases h)
  have hmeth' : T.vm.method? m = some meth := X.method'
  refine ⟨T.setFrames fs, ?_, .returned (some (.int 1)), hrun, hended, rfl, ⟨_, rfl⟩, hW, hframe⟩
  jvm_step X.here [X.here.top, hx, hb, hdg, hmeth', hr, ret, narrow_b1]
  (try refine ⟨rfl, ?_⟩); (try refine ⟨rfl, ?_⟩)
  first | (intro acts; rw [hret _ acts rfl rfl rfl]) | rw [hret _ _ rfl rfl rfl]
  exact Steps.refl _
theorem lw_end9 {p : Program} {l : Launch} {e : Env} {s : State} {m : MethodId} {below : List Frame} {meth : Method} {c : Code} {b : Nat} {A : Nat → Prop} (hx : p.tables.exec = Jvm.exec) (hb : c.code = code) (hr : meth.sig.returnType = ret) (hlocks : meth.locks = false) (hgA : ∀ q : Nat, A q → s.heap.size ≤ q) {H : Heap} {locs : List Loc} {ls : Array Slot} {C D : Nat} (hS : va_S A s.heap H locs) (h1 : C ≤ 601024) (h2 : D ≤ 7293034) : W p l e room_1 s m #[Value.ref b] below meth c H locs C D (lw_Z below #[Value.ref b] s) (F0 m 1389 ls []) := by
  refine lv_iconst (v := 1) hx hb dL_law_1389 (by decide) ?_
  refine va_forget (fun q hq => hgA _ (hS.2.2 q hq)) ?_
  refine W.widen (k := 601024) (n := 7293034) h1 h2 ?_
  exact lw_ret hx hb hr hlocks dL_law_1390
theorem lw_go {L k : Nat} (hL : L ≤ 3584) (hk : k ≤ 4000) (h : ¬ nI L - 7 < nI k) : k + 7 ≤ L := by
  rcases Nat.lt_or_ge L 7 with q | q
  · have h1 : nI L - 7 < 0 := by
      rcases (show L = 0 ∨ L = 1 ∨ L = 2 ∨ L = 3 ∨ L = 4 ∨ L = 5 ∨ L = 6 by omega) with rfl | rfl | rfl | rfl | rfl | rfl | rfl <;> decide
    exact absurd (Int32.lt_of_lt_of_le h1 (nI_pos' (by omega))) h
  · have h1 : nI L - 7 = nI (L - 7) := by
      have h2 : nI (L - 7) + 7 = nI L := by
        have h3 : nI (L - 7) + 7 = nI (L - 7 + 7) := nI_add (L - 7) 7
        rw [h3, show L - 7 + 7 = L by omega]
      rw [← h2, Int32.add_sub_cancel]
    rw [h1] at h
    rcases Nat.lt_or_ge (L - 7) k with r | r
    · exact absurd (nI_lt r (by omega)) h
    · omega
set_option maxHeartbeats 4000000 in
set_option maxRecDepth 100000 in
theorem lw_turn {p : Program} {l : Launch} {e : Env} {s : State} {m : MethodId} {below : List Frame} {meth : Method} {c : Code} {Q : State → Prop} (G : gx_G) (f : fs_A) (o : Nat) (A : Nat → Nat) (ot : Nat) (gn : Nat → Int32) (b L : Nat) (xs : Nat → Int32) (C0 : lw_C l G p s m c b L xs) (J : lw_J G f o A ot) (j : Nat) (hj : j ≤ 512)
    (KK : 7 * j + 7 ≤ L → ∀ (M' : mw_M) (S' : fs_S) (H' : Heap) (locs' : List Loc) (ls' : Array Slot), lw_I G f o A ot gn M' S' → mw_P (gD G) gx_cl M' H' → va_S (gA G) s.heap H' locs' → lv_has ls' 7 [(0, .ref b), (1, .ref (f0 f)), (2, .ref o), (3, .ref ot), (4, .int (nI (7 * (j + 1))))] → W p l e room_1 s m #[Value.ref b] below meth c H' locs' (100 + 30 * (j + 1)) (50000 + 1000 * (j + 1)) (Q) (F0 m 23 ls' []))
    (KX : ∀ (H' : Heap) (locs' : List Loc) (ls' : Array Slot), va_S (gA G) s.heap H' locs' → W p l e room_1 s m #[Value.ref b] below meth c H' locs' (100 + 30 * j) (50000 + 1000 * j) (Q) (F0 m 1389 ls' []))
    {M : mw_M} {S : fs_S} {H : Heap} {locs : List Loc} {ls : Array Slot} (hI : lw_I G f o A ot gn M S) (hP : mw_P (gD G) gx_cl M H) (hS : va_S (gA G) s.heap H locs) (hl : lv_has ls 7 [(0, .ref b), (1, .ref (f0 f)), (2, .ref o), (3, .ref ot), (4, .int (nI (7 * j)))]) : W p l e room_1 s m #[Value.ref b] below meth c H locs (100 + 30 * j) (50000 + 1000 * j) (Q) (F0 m 23 ls []) := by
  obtain ⟨hx, hb, hml, hown, htb, hE, hN, hXs, hbl, hbA, hAn, htr, hL⟩ := id C0
  refine lv_iload hx hb dL_law_23 (lv_at hl 4 rfl) ?_
  refine lv_aload_n hx hb dL_law_25 rfl (lv_at hl 0 rfl) ?_
  refine va_slen hx hb hXs hbl hbA hS dL_law_26 ?_
  refine W.eq (g2 := F0 m 27 ls [.int (nI L), .int (nI (7 * j))]) rfl ?_
  refine lv_bipush (v := 7) hx hb dL_law_27 (by decide) ?_
  refine lv_isub hx hb dL_law_29 ?_
  refine lv_icmp_gt (tgt := 1389) hx hb dL_law_30 (by decide) (fun _ => KX _ _ _ hS) (fun c9 => ?_)
  have hj7 : 7 * j + 7 ≤ L := lw_go hL (by omega) c9
  have hn := KK hj7
  obtain ⟨x0, hx0⟩ : ∃ z9, z9 = xs (7 * j) := ⟨_, rfl⟩
  refine lv_aload_n hx hb dL_law_33 rfl (lv_at hl 0 rfl) ?_
  refine lv_iload hx hb dL_law_34 (lv_at hl 4 rfl) ?_
  refine va_sld hx hb hXs hbl hbA hS (vp_in_nI (show 7 * j < L by omega) (by omega)) dL_law_36 ?_
  refine W.eq (g2 := F0 m 37 ls [.int x0]) (by rw [nI_clamp (show 7 * j < 2 ^ 31 by omega), ← hx0]) ?_
  refine lv_bipush (v := 15) hx hb dL_law_37 (by decide) ?_
  refine lv_iand hx hb dL_law_39 ?_
  obtain ⟨y0, hy0⟩ : ∃ z9, z9 = x0 &&& 15 := ⟨_, rfl⟩
  refine W.eq (g2 := F0 m 40 ls [.int y0]) (by rw [hy0]) ?_
  have K1 : ∀ (M' : mw_M) (S' : fs_S) (H' : Heap) (locs' : List Loc) (ls' : Array Slot), lw_I G f o A ot gn M' S' → mw_P (gD G) gx_cl M' H' → va_S (gA G) s.heap H' locs' → lv_has ls' 7 [(0, .ref b), (1, .ref (f0 f)), (2, .ref o), (3, .ref ot), (4, .int (nI (7 * j)))] → W p l e room_1 s m #[Value.ref b] below meth c H' locs' (100 + 30 * j + 30) (50000 + 1000 * j + 1000) (Q) (F0 m 1383 ls' []) := by
    intro M' S' H' locs' ls' hI hP hS hl
    refine lv_iinc (v := nI (7 * (j + 1))) (lv' := [(4, .int (nI (7 * (j + 1)))), (0, .ref b), (1, .ref (f0 f)), (2, .ref o), (3, .ref ot)]) hx hb dL_law_1383 hl (k := 4) rfl (show nI (7 * j) + 7 = nI (7 * (j + 1)) from by rw [Nat.mul_succ]; exact nI_add _ 7) (by decide) rfl (fun ls hl => ?_)
    refine lv_goto (tgt := 23) hx hb dL_law_1386 (by decide) ?_
    refine W.widen (k := 100 + 30 * (j + 1)) (n := 50000 + 1000 * (j + 1)) (by omega) (by omega) ?_
    exact hn _ _ _ _ _ hI hP hS (lv_sub hl [1, 2, 3, 4, 0] rfl)
  by_cases h_0 : y0 = 0
  · have ht : y0.toInt = 0 := by rw [h_0]; rfl
    refine lv_tableIn (tgt := 120) hx hb dL_law_40 (by rw [ht]; decide) (by rw [ht]; decide) (by rw [ht]; rfl) (by decide) ?_
    exact lwc_0 G f o A ot gn b L xs C0 J j hj7 (100 + 30 * j) (50000 + 1000 * j) (by omega) (by omega) K1 hI hP hS hl
  by_cases h_1 : y0 = 1
  · have ht : y0.toInt = 1 := by rw [h_1]; rfl
    refine lv_tableIn (tgt := 200) hx hb dL_law_40 (by rw [ht]; decide) (by rw [ht]; decide) (by rw [ht]; rfl) (by decide) ?_
    exact lwc_1 G f o A ot gn b L xs C0 J j hj7 (100 + 30 * j) (50000 + 1000 * j) (by omega) (by omega) K1 hI hP hS hl
  by_cases h_2 : y0 = 2
  · have ht : y0.toInt = 2 := by rw [h_2]; rfl
    refine lv_tableIn (tgt := 268) hx hb dL_law_40 (by rw [ht]; decide) (by rw [ht]; decide) (by rw [ht]; rfl) (by decide) ?_
    exact lwc_2 G f o A ot gn b L xs C0 J j hj7 (100 + 30 * j) (50000 + 1000 * j) (by omega) (by omega) K1 hI hP hS hl
  by_cases h_3 : y0 = 3
  · have ht : y0.toInt = 3 := by rw [h_3]; rfl
    refine lv_tableIn (tgt := 348) hx hb dL_law_40 (by rw [ht]; decide) (by rw [ht]; decide) (by rw [ht]; rfl) (by decide) ?_
    exact lwc_3 G f o A ot gn b L xs C0 J j hj7 (100 + 30 * j) (50000 + 1000 * j) (by omega) (by omega) K1 hI hP hS hl
  by_cases h_4 : y0 = 4
  · have ht : y0.toInt = 4 := by rw [h_4]; rfl
    refine lv_tableIn (tgt := 416) hx hb dL_law_40 (by rw [ht]; decide) (by rw [ht]; decide) (by rw [ht]; rfl) (by decide) ?_
    exact lwc_4 G f o A ot gn b L xs C0 J j hj7 (100 + 30 * j) (50000 + 1000 * j) (by omega) (by omega) K1 hI hP hS hl
  by_cases h_5 : y0 = 5
  · have ht : y0.toInt = 5 := by rw [h_5]; rfl
    refine lv_tableIn (tgt := 500) hx hb dL_law_40 (by rw [ht]; decide) (by rw [ht]; decide) (by rw [ht]; rfl) (by decide) ?_
    exact lwc_5 G f o A ot gn b L xs C0 J j hj7 (100 + 30 * j) (50000 + 1000 * j) (by omega) (by omega) K1 hI hP hS hl
  by_cases h_6 : y0 = 6
  · have ht : y0.toInt = 6 := by rw [h_6]; rfl
    refine lv_tableIn (tgt := 568) hx hb dL_law_40 (by rw [ht]; decide) (by rw [ht]; decide) (by rw [ht]; rfl) (by decide) ?_
    exact lwc_6 G f o A ot gn b L xs C0 J j hj7 (100 + 30 * j) (50000 + 1000 * j) (by omega) (by omega) K1 hI hP hS hl
  by_cases h_7 : y0 = 7
  · have ht : y0.toInt = 7 := by rw [h_7]; rfl
    refine lv_tableIn (tgt := 660) hx hb dL_law_40 (by rw [ht]; decide) (by rw [ht]; decide) (by rw [ht]; rfl) (by decide) ?_
    exact lwc_7 G f o A ot gn b L xs C0 J j hj7 (100 + 30 * j) (50000 + 1000 * j) (by omega) (by omega) K1 hI hP hS hl
  by_cases h_8 : y0 = 8
  · have ht : y0.toInt = 8 := by rw [h_8]; rfl
    refine lv_tableIn (tgt := 740) hx hb dL_law_40 (by rw [ht]; decide) (by rw [ht]; decide) (by rw [ht]; rfl) (by decide) ?_
    exact lwc_8 G f o A ot gn b L xs C0 J j hj7 (100 + 30 * j) (50000 + 1000 * j) (by omega) (by omega) K1 hI hP hS hl
  by_cases h_9 : y0 = 9
  · have ht : y0.toInt = 9 := by rw [h_9]; rfl
    refine lv_tableIn (tgt := 890) hx hb dL_law_40 (by rw [ht]; decide) (by rw [ht]; decide) (by rw [ht]; rfl) (by decide) ?_
    exact lwc_9 G f o A ot gn b L xs C0 J j hj7 (100 + 30 * j) (50000 + 1000 * j) (by omega) (by omega) K1 hI hP hS hl
  by_cases h_10 : y0 = 10
  · have ht : y0.toInt = 10 := by rw [h_10]; rfl
    refine lv_tableIn (tgt := 982) hx hb dL_law_40 (by rw [ht]; decide) (by rw [ht]; decide) (by rw [ht]; rfl) (by decide) ?_
    exact lwc_10 G f o A ot gn b L xs C0 J j hj7 (100 + 30 * j) (50000 + 1000 * j) (by omega) (by omega) K1 hI hP hS hl
  by_cases h_11 : y0 = 11
  · have ht : y0.toInt = 11 := by rw [h_11]; rfl
    refine lv_tableIn (tgt := 1074) hx hb dL_law_40 (by rw [ht]; decide) (by rw [ht]; decide) (by rw [ht]; rfl) (by decide) ?_
    exact lwc_11 G f o A ot gn b L xs C0 J j hj7 (100 + 30 * j) (50000 + 1000 * j) (by omega) (by omega) K1 hI hP hS hl
  by_cases h_12 : y0 = 12
  · have ht : y0.toInt = 12 := by rw [h_12]; rfl
    refine lv_tableIn (tgt := 1154) hx hb dL_law_40 (by rw [ht]; decide) (by rw [ht]; decide) (by rw [ht]; rfl) (by decide) ?_
    exact lwc_12 G f o A ot gn b L xs C0 J j hj7 (100 + 30 * j) (50000 + 1000 * j) (by omega) (by omega) K1 hI hP hS hl
  by_cases h_13 : y0 = 13
  · have ht : y0.toInt = 13 := by rw [h_13]; rfl
    refine lv_tableIn (tgt := 1222) hx hb dL_law_40 (by rw [ht]; decide) (by rw [ht]; decide) (by rw [ht]; rfl) (by decide) ?_
    exact lwc_13 G f o A ot gn b L xs C0 J j hj7 (100 + 30 * j) (50000 + 1000 * j) (by omega) (by omega) K1 hI hP hS hl
  by_cases h_14 : y0 = 14
  · have ht : y0.toInt = 14 := by rw [h_14]; rfl
    refine lv_tableIn (tgt := 1290) hx hb dL_law_40 (by rw [ht]; decide) (by rw [ht]; decide) (by rw [ht]; rfl) (by decide) ?_
    exact lwc_14 G f o A ot gn b L xs C0 J j hj7 (100 + 30 * j) (50000 + 1000 * j) (by omega) (by omega) K1 hI hP hS hl
  by_cases h_15 : y0 = 15
  · have ht : y0.toInt = 15 := by rw [h_15]; rfl
    refine lv_tableIn (tgt := 1370) hx hb dL_law_40 (by rw [ht]; decide) (by rw [ht]; decide) (by rw [ht]; rfl) (by decide) ?_
    exact lwc_15 G f o A ot gn b L xs C0 J j hj7 (100 + 30 * j) (50000 + 1000 * j) (by omega) (by omega) K1 hI hP hS hl
  have hto : y0.toInt < 0 ∨ (15 : Int) < y0.toInt := sw_out (n := 15) (fun j hj => by
    rcases (show j = 0 ∨ j = 1 ∨ j = 2 ∨ j = 3 ∨ j = 4 ∨ j = 5 ∨ j = 6 ∨ j = 7 ∨ j = 8 ∨ j = 9 ∨ j = 10 ∨ j = 11 ∨ j = 12 ∨ j = 13 ∨ j = 14 ∨ j = 15 by omega) with rfl | rfl | rfl | rfl | rfl | rfl | rfl | rfl | rfl | rfl | rfl | rfl | rfl | rfl | rfl | rfl
    · exact h_0
    · exact h_1
    · exact h_2
    · exact h_3
    · exact h_4
    · exact h_5
    · exact h_6
    · exact h_7
    · exact h_8
    · exact h_9
    · exact h_10
    · exact h_11
    · exact h_12
    · exact h_13
    · exact h_14
    · exact h_15)
  refine lv_tableOut (tgt := 1383) hx hb dL_law_40 hto (by decide) ?_
  refine W.widen (k := 100 + 30 * j + 30) (n := 50000 + 1000 * j + 1000) (by omega) (by omega) ?_
  exact K1 _ _ _ _ _ hI hP hS hl
set_option maxHeartbeats 4000000 in
set_option maxRecDepth 100000 in
theorem lw_loop {p : Program} {l : Launch} {e : Env} {s : State} {m : MethodId} {below : List Frame} {meth : Method} {c : Code} (G : gx_G) (f : fs_A) (o : Nat) (A : Nat → Nat) (ot : Nat) (gn : Nat → Int32) (b L : Nat) (xs : Nat → Int32) (C0 : lw_C l G p s m c b L xs) (J : lw_J G f o A ot) (hr : meth.sig.returnType = ret) (hlocks : meth.locks = false) (hgA : ∀ q : Nat, gA G q → s.heap.size ≤ q) : ∀ (n j : Nat), L ≤ 7 * (j + n) → j ≤ 512 → ∀ (M : mw_M) (S : fs_S) (H : Heap) (locs : List Loc) (ls : Array Slot), lw_I G f o A ot gn M S → mw_P (gD G) gx_cl M H → va_S (gA G) s.heap H locs → lv_has ls 7 [(0, .ref b), (1, .ref (f0 f)), (2, .ref o), (3, .ref ot), (4, .int (nI (7 * j)))] → W p l e room_1 s m #[Value.ref b] below meth c H locs (100 + 30 * j) (50000 + 1000 * j) (lw_Z below #[Value.ref b] s) (F0 m 23 ls []) := by
  obtain ⟨hx, hb, hml, hown, htb, hE, hN, hXs, hbl, hbA, hAn, htr, hL⟩ := id C0
  intro n
  induction n with
  | zero =>
    intro j h1 h2 M S H locs ls hI hP hS hl
    exact lw_turn G f o A ot gn b L xs C0 J j h2 (fun h => absurd h (by omega)) (fun H' locs' ls' hS => lw_end9 hx hb hr hlocks hgA hS (by omega) (by omega)) hI hP hS hl
  | succ n ih =>
    intro j h1 h2 M S H locs ls hI hP hS hl
    exact lw_turn G f o A ot gn b L xs C0 J j h2 (fun h M S H locs ls hI hP hS hl => ih (j + 1) (by omega) (by omega) M S H locs ls hI hP hS hl) (fun H' locs' ls' hS => lw_end9 hx hb hr hlocks hgA hS (by omega) (by omega)) hI hP hS hl
