/-! printed by wip/whole/spec*.py -/
-- L_parameter
set_option maxHeartbeats 4000000 in
set_option maxRecDepth 100000 in
theorem kL_parameter (l : Launch) (htr : l.stackTraces = false) (G : gx_G) (sz : Nat) (M : mw_M) (f : fs_A) (S : fs_S) (hR : fs_R G f M S) (hX : ∀ a, fX f a → M a ≠ none) (hA : ∀ q : Nat, sz ≤ q → gA G q) (ot : Nat) (g0 : Nat → Int64) (hot : M ot = some (.inl (gJ G, 1, .inr (.inl g0)))) (hnmu : ¬ fs_mu f ot) (hfx : fX f ot) (hAot : gA G ot)  (zz k x : Int32) : g_MetN l G yL_parameter (.codeWith yL_parameter cL_parameter 6 (some .int) [((0 : Nat), (12 : Nat), (15 : Nat), (13 : Nat)), ((0 : Nat), (12 : Nat), (19 : Nat), (15 : Nat))]) ({ frames := 10, cells := 20, slots := 900, locals := 350 } : Room) sz M [.ref (f0 f), .int zz, .int k, .int x, .ref ot] (lw_Wp G f ot M S (ex_par zz k x) (sP S (fIx zz * 21 + fIx k)) (fs_pa S (fIx zz * 21 + fIx k) x)) := by
  refine MetE.ofWW (cc := cL_parameter) (maxL := 6) (ret := (some .int)) (hh := [((0 : Nat), (12 : Nat), (15 : Nat), (13 : Nat)), ((0 : Nat), (12 : Nat), (19 : Nat), (15 : Nat))]) (by decide) rfl ?_
  intro p e s m args below meth c s₁ B hml hv
  obtain ⟨rfl, hsz, hP, hE, hN⟩ := hv
  have hx := B.exec
  have hb := B.bytes
  have hr := B.returns
  have hts := atoms_spec (ws := _ :: lw_big) B.pre
  have htb : ∀ w ∈ lw_big, w.before _ s = true := fun w h => hts w (List.mem_cons_of_mem _ h)
  have htab := tb_body B (hts _ List.mem_cons_self)
  have hown : s.vm.findClass RL = some m.cls := findClass_of_methodNamed B.named
  have hlocks := B.notSynchronized
  have hK := hE.1
  subst hsz
  have hAn : ∀ q : Nat, s.heap.size ≤ q → gA G q := hA
  have hS : va_S (gA G) s.heap s.heap [] := va_S.rf
  have hl := lv_entry ([.ref (f0 f), .int zz, .int k, .int x, .ref ot]) (n := 6) (Nat.le_of_ble_eq_true rfl)
  rw [lg_entry_eq]
  generalize (lg_sl ([.ref (f0 f), .int zz, .int k, .int x, .ref ot]) ++ List.replicate (6 - (lg_sl ([.ref (f0 f), .int zz, .int k, .int x, .ref ot])).length) Slot.unset).toArray = ls at hl ⊢
  have hl : lv_has ls 6 [(0, .ref (f0 f)), (1, .int zz), (2, .int k), (3, .int x), (4, .ref ot)] := hl
  refine lv_aload hx hb dL_parameter_0 (lv_at hl 4 rfl) ?_
  refine lv_iconst (v := 0) hx hb dL_parameter_2 (by decide) ?_
  refine lv_aload_n hx hb dL_parameter_3 rfl (lv_at hl 0 rfl) ?_
  refine lv_iload_n hx hb dL_parameter_4 rfl (lv_at hl 1 rfl) ?_
  refine lv_iload_n hx hb dL_parameter_5 rfl (lv_at hl 2 rfl) ?_
  refine lv_iload_n hx hb dL_parameter_6 rfl (lv_at hl 3 rfl) ?_
  refine mw_callV (C := RX3) (As := [.int zz, .int k, .int x]) (rest := [.int 0, .ref ot]) hx hb hml hown hl (kX3_parameter l htr G s.heap.size M f S hR zz k x) (g_B (n := 3) htb wd87 wd1 wd84 (by decide +kernel) ⟨Nat.le_of_ble_eq_true rfl, Nat.le_of_ble_eq_true rfl⟩) (htb _ wd85) (htb _ wd86) hE hP hS (fs_R.this hR) rfl rfl rfl (Nat.le_of_ble_eq_true rfl) dL_parameter_7 ⟨Nat.le_of_ble_eq_true rfl, Nat.le_of_ble_eq_true rfl⟩ (fun v9 M9 H locs hpo hP hz hS => ?_) (fun x9 E9 cell9 H9 locs9 hE9 hx9 ho9 hf9 hP9 hz9 hS9 => ?_)
  · obtain ⟨hex, rfl, hR1, hk1⟩ := hpo
    refine W.eq (g2 := F0 m 10 ls [.int (sP S (fIx zz * 21 + fIx k)), .int 0, .ref ot]) rfl ?_
    refine lv_i2l hx hb dL_parameter_10 rfl ?_
    refine mw_last (x := (sP S (fIx zz * 21 + fIx k)).toInt64) hx hb hK hP hS 3 (hk1 _ _ hnmu hot) hAot rfl (by unfold vp_in; decide) dL_parameter_11 (fun H locs hP hS => ?_)
    refine lv_goto (tgt := 23) hx hb dL_parameter_12 (by decide) ?_
    refine lv_iconst (v := 0) hx hb dL_parameter_23 (by decide) ?_
    exact mx_iret (v := 0) (M' := (mw_up M9 ot (.inl (gJ G, 1, .inr (.inl (vp_updL g0 (0 : Int32).toNatClampNeg (sP S (fIx zz * 21 + fIx k)).toInt64)))))) hx hb hr hlocks hP hS (lw_Wp.ok hex hR1 hk1 hfx hnmu) dL_parameter_24 (Nat.le_of_ble_eq_true rfl) (Nat.le_of_ble_eq_true rfl)
  · obtain ⟨k9, hk9, hE9⟩ := hE9
    rcases (show k9 = 0 ∨ k9 = 1 ∨ 2 ≤ k9 by omega) with rfl | rfl | h9
    · obtain rfl := Option.some.inj hE9
      refine mx_catch (E := "java/lang/IndexOutOfBoundsException") (name := "java/lang/IndexOutOfBoundsException") hown [] ({ startPc := 0, endPc := 12, handlerPc := 15, catchType := 13 } : ExceptionTableEntry) [({ startPc := 0, endPc := 12, handlerPc := 19, catchType := 15 } : ExceptionTableEntry)] htab (fun z9 hz9 => nomatch hz9) (by decide) (by decide) (htb _ wd82) (htb _ wd90) hx9 ho9 hf9 ?_
      have hP := hP9
      have hS := hS9
      refine lv_astore (lv' := [(5, .ref x9), (0, .ref (f0 f)), (1, .int zz), (2, .int k), (3, .int x), (4, .ref ot)]) hx hb dL_parameter_15 hl (by decide) rfl (fun ls hl => ?_)
      refine lv_iconst (v := 1) hx hb dL_parameter_17 (by decide) ?_
      exact mx_iret (v := 1) (M' := M) hx hb hr hlocks hP hS (lw_Wp.no (k := 0) hk9 hR hot) dL_parameter_18 (Nat.le_of_ble_eq_true rfl) (Nat.le_of_ble_eq_true rfl)
    · obtain rfl := Option.some.inj hE9
      refine mx_catch (E := "java/lang/IllegalArgumentException") (name := "java/lang/IllegalArgumentException") hown [({ startPc := 0, endPc := 12, handlerPc := 15, catchType := 13 } : ExceptionTableEntry)] ({ startPc := 0, endPc := 12, handlerPc := 19, catchType := 15 } : ExceptionTableEntry) [] htab (fun z9 hz9 => by
          simp only [List.mem_cons, List.not_mem_nil, or_false] at hz9
          rcases hz9 with rfl
          · exact ⟨by decide, _, htb _ wd82, hN.1⟩) (by decide) (by decide) (htb _ wd83) (htb _ wd165) hx9 ho9 hf9 ?_
      have hP := hP9
      have hS := hS9
      refine lv_astore (lv' := [(5, .ref x9), (0, .ref (f0 f)), (1, .int zz), (2, .int k), (3, .int x), (4, .ref ot)]) hx hb dL_parameter_19 hl (by decide) rfl (fun ls hl => ?_)
      refine lv_iconst (v := 2) hx hb dL_parameter_21 (by decide) ?_
      exact mx_iret (v := 2) (M' := M) hx hb hr hlocks hP hS (lw_Wp.no (k := 1) hk9 hR hot) dL_parameter_22 (Nat.le_of_ble_eq_true rfl) (Nat.le_of_ble_eq_true rfl)
    · rw [List.getElem?_eq_none h9] at hE9
      cases hE9
-- L_set
set_option maxHeartbeats 4000000 in
set_option maxRecDepth 100000 in
theorem kL_set (l : Launch) (htr : l.stackTraces = false) (G : gx_G) (sz : Nat) (M : mw_M) (f : fs_A) (S : fs_S) (hR : fs_R G f M S) (hX : ∀ a, fX f a → M a ≠ none) (hA : ∀ q : Nat, sz ≤ q → gA G q) (ot : Nat) (g0 : Nat → Int64) (hot : M ot = some (.inl (gJ G, 1, .inr (.inl g0)))) (hnmu : ¬ fs_mu f ot) (hfx : fX f ot) (hAot : gA G ot)  (x y : Int32) : g_MetN l G yL_set (.codeWith yL_set cL_set 5 (some .int) [((0 : Nat), (10 : Nat), (13 : Nat), (13 : Nat)), ((0 : Nat), (10 : Nat), (17 : Nat), (15 : Nat))]) ({ frames := 10, cells := 20, slots := 900, locals := 350 } : Room) sz M [.ref (f0 f), .int x, .int y, .ref ot] (lw_Wp G f ot M S (ex_set x y) ((if x = 0 then sSp S else sSh S)) (if x = 0 then fs_sp S y else fs_sh S y)) := by
  refine MetE.ofWW (cc := cL_set) (maxL := 5) (ret := (some .int)) (hh := [((0 : Nat), (10 : Nat), (13 : Nat), (13 : Nat)), ((0 : Nat), (10 : Nat), (17 : Nat), (15 : Nat))]) (by decide) rfl ?_
  intro p e s m args below meth c s₁ B hml hv
  obtain ⟨rfl, hsz, hP, hE, hN⟩ := hv
  have hx := B.exec
  have hb := B.bytes
  have hr := B.returns
  have hts := atoms_spec (ws := _ :: lw_big) B.pre
  have htb : ∀ w ∈ lw_big, w.before _ s = true := fun w h => hts w (List.mem_cons_of_mem _ h)
  have htab := tb_body B (hts _ List.mem_cons_self)
  have hown : s.vm.findClass RL = some m.cls := findClass_of_methodNamed B.named
  have hlocks := B.notSynchronized
  have hK := hE.1
  subst hsz
  have hAn : ∀ q : Nat, s.heap.size ≤ q → gA G q := hA
  have hS : va_S (gA G) s.heap s.heap [] := va_S.rf
  have hl := lv_entry ([.ref (f0 f), .int x, .int y, .ref ot]) (n := 5) (Nat.le_of_ble_eq_true rfl)
  rw [lg_entry_eq]
  generalize (lg_sl ([.ref (f0 f), .int x, .int y, .ref ot]) ++ List.replicate (5 - (lg_sl ([.ref (f0 f), .int x, .int y, .ref ot])).length) Slot.unset).toArray = ls at hl ⊢
  have hl : lv_has ls 5 [(0, .ref (f0 f)), (1, .int x), (2, .int y), (3, .ref ot)] := hl
  refine lv_aload_n hx hb dL_set_0 rfl (lv_at hl 3 rfl) ?_
  refine lv_iconst (v := 0) hx hb dL_set_1 (by decide) ?_
  refine lv_aload_n hx hb dL_set_2 rfl (lv_at hl 0 rfl) ?_
  refine lv_iload_n hx hb dL_set_3 rfl (lv_at hl 1 rfl) ?_
  refine lv_iload_n hx hb dL_set_4 rfl (lv_at hl 2 rfl) ?_
  refine mw_callV (C := RX3) (As := [.int x, .int y]) (rest := [.int 0, .ref ot]) hx hb hml hown hl (kX3_set l htr G s.heap.size M f S hR x y) (g_B (n := 2) htb wd185 wd1 wd182 (by decide +kernel) ⟨Nat.le_of_ble_eq_true rfl, Nat.le_of_ble_eq_true rfl⟩) (htb _ wd183) (htb _ wd184) hE hP hS (fs_R.this hR) rfl rfl rfl (Nat.le_of_ble_eq_true rfl) dL_set_5 ⟨Nat.le_of_ble_eq_true rfl, Nat.le_of_ble_eq_true rfl⟩ (fun v9 M9 H locs hpo hP hz hS => ?_) (fun x9 E9 cell9 H9 locs9 hE9 hx9 ho9 hf9 hP9 hz9 hS9 => ?_)
  · obtain ⟨hex, rfl, hR1, hk1⟩ := hpo
    refine W.eq (g2 := F0 m 8 ls [.int (if x = 0 then sSp S else sSh S), .int 0, .ref ot]) rfl ?_
    refine lv_i2l hx hb dL_set_8 rfl ?_
    refine mw_last (x := (if x = 0 then sSp S else sSh S).toInt64) hx hb hK hP hS 3 (hk1 _ _ hnmu hot) hAot rfl (by unfold vp_in; decide) dL_set_9 (fun H locs hP hS => ?_)
    refine lv_goto (tgt := 21) hx hb dL_set_10 (by decide) ?_
    refine lv_iconst (v := 0) hx hb dL_set_21 (by decide) ?_
    exact mx_iret (v := 0) (M' := (mw_up M9 ot (.inl (gJ G, 1, .inr (.inl (vp_updL g0 (0 : Int32).toNatClampNeg (if x = 0 then sSp S else sSh S).toInt64)))))) hx hb hr hlocks hP hS (lw_Wp.ok hex hR1 hk1 hfx hnmu) dL_set_22 (Nat.le_of_ble_eq_true rfl) (Nat.le_of_ble_eq_true rfl)
  · obtain ⟨k9, hk9, hE9⟩ := hE9
    rcases (show k9 = 0 ∨ k9 = 1 ∨ 2 ≤ k9 by omega) with rfl | rfl | h9
    · obtain rfl := Option.some.inj hE9
      refine mx_catch (E := "java/lang/IndexOutOfBoundsException") (name := "java/lang/IndexOutOfBoundsException") hown [] ({ startPc := 0, endPc := 10, handlerPc := 13, catchType := 13 } : ExceptionTableEntry) [({ startPc := 0, endPc := 10, handlerPc := 17, catchType := 15 } : ExceptionTableEntry)] htab (fun z9 hz9 => nomatch hz9) (by decide) (by decide) (htb _ wd82) (htb _ wd90) hx9 ho9 hf9 ?_
      have hP := hP9
      have hS := hS9
      refine lv_astore (lv' := [(4, .ref x9), (0, .ref (f0 f)), (1, .int x), (2, .int y), (3, .ref ot)]) hx hb dL_set_13 hl (by decide) rfl (fun ls hl => ?_)
      refine lv_iconst (v := 1) hx hb dL_set_15 (by decide) ?_
      exact mx_iret (v := 1) (M' := M) hx hb hr hlocks hP hS (lw_Wp.no (k := 0) hk9 hR hot) dL_set_16 (Nat.le_of_ble_eq_true rfl) (Nat.le_of_ble_eq_true rfl)
    · obtain rfl := Option.some.inj hE9
      refine mx_catch (E := "java/lang/IllegalArgumentException") (name := "java/lang/IllegalArgumentException") hown [({ startPc := 0, endPc := 10, handlerPc := 13, catchType := 13 } : ExceptionTableEntry)] ({ startPc := 0, endPc := 10, handlerPc := 17, catchType := 15 } : ExceptionTableEntry) [] htab (fun z9 hz9 => by
          simp only [List.mem_cons, List.not_mem_nil, or_false] at hz9
          rcases hz9 with rfl
          · exact ⟨by decide, _, htb _ wd82, hN.1⟩) (by decide) (by decide) (htb _ wd83) (htb _ wd165) hx9 ho9 hf9 ?_
      have hP := hP9
      have hS := hS9
      refine lv_astore (lv' := [(4, .ref x9), (0, .ref (f0 f)), (1, .int x), (2, .int y), (3, .ref ot)]) hx hb dL_set_17 hl (by decide) rfl (fun ls hl => ?_)
      refine lv_iconst (v := 2) hx hb dL_set_19 (by decide) ?_
      exact mx_iret (v := 2) (M' := M) hx hb hr hlocks hP hS (lw_Wp.no (k := 1) hk9 hR hot) dL_set_20 (Nat.le_of_ble_eq_true rfl) (Nat.le_of_ble_eq_true rfl)
    · rw [List.getElem?_eq_none h9] at hE9
      cases hE9
-- L_box
set_option maxHeartbeats 4000000 in
set_option maxRecDepth 100000 in
theorem kL_box (l : Launch) (htr : l.stackTraces = false) (G : gx_G) (sz : Nat) (M : mw_M) (f : fs_A) (S : fs_S) (hR : fs_R G f M S) (hX : ∀ a, fX f a → M a ≠ none) (hA : ∀ q : Nat, sz ≤ q → gA G q) (ot : Nat) (g0 : Nat → Int64) (hot : M ot = some (.inl (gJ G, 1, .inr (.inl g0)))) (hnmu : ¬ fs_mu f ot) (hfx : fX f ot) (hAot : gA G ot) (gn : Nat → Int32) (hNP : M (gN G) = some (.inl (gI G, 0, .inl gn))) (hNx : ¬ fX f (gN G)) (w h d : Int32) : g_MetN l G yL_box (.codeWith yL_box cL_box 6 (some .int) [((0 : Nat), (12 : Nat), (15 : Nat), (15 : Nat)), ((0 : Nat), (12 : Nat), (19 : Nat), (24 : Nat))]) ({ frames := 10, cells := 20, slots := 900, locals := 350 } : Room) sz M [.ref (f0 f), .int w, .int h, .int d, .ref ot] (lw_Wp G f ot M S (ex_box S w h d) (nI (sN S)) (fs_push S (w, h, d, [], 0, 0))) := by
  refine MetE.ofWW (cc := cL_box) (maxL := 6) (ret := (some .int)) (hh := [((0 : Nat), (12 : Nat), (15 : Nat), (15 : Nat)), ((0 : Nat), (12 : Nat), (19 : Nat), (24 : Nat))]) (by decide) rfl ?_
  intro p e s m args below meth c s₁ B hml hv
  obtain ⟨rfl, hsz, hP, hE, hN⟩ := hv
  have hx := B.exec
  have hb := B.bytes
  have hr := B.returns
  have hts := atoms_spec (ws := _ :: lw_big) B.pre
  have htb : ∀ w ∈ lw_big, w.before _ s = true := fun w h => hts w (List.mem_cons_of_mem _ h)
  have htab := tb_body B (hts _ List.mem_cons_self)
  have hown : s.vm.findClass RL = some m.cls := findClass_of_methodNamed B.named
  have hlocks := B.notSynchronized
  have hK := hE.1
  subst hsz
  have hAn : ∀ q : Nat, s.heap.size ≤ q → gA G q := hA
  have hS : va_S (gA G) s.heap s.heap [] := va_S.rf
  have hl := lv_entry ([.ref (f0 f), .int w, .int h, .int d, .ref ot]) (n := 6) (Nat.le_of_ble_eq_true rfl)
  rw [lg_entry_eq]
  generalize (lg_sl ([.ref (f0 f), .int w, .int h, .int d, .ref ot]) ++ List.replicate (6 - (lg_sl ([.ref (f0 f), .int w, .int h, .int d, .ref ot])).length) Slot.unset).toArray = ls at hl ⊢
  have hl : lv_has ls 6 [(0, .ref (f0 f)), (1, .int w), (2, .int h), (3, .int d), (4, .ref ot)] := hl
  refine lv_aload hx hb dL_box_0 (lv_at hl 4 rfl) ?_
  refine lv_iconst (v := 0) hx hb dL_box_2 (by decide) ?_
  refine lv_aload_n hx hb dL_box_3 rfl (lv_at hl 0 rfl) ?_
  refine lv_iload_n hx hb dL_box_4 rfl (lv_at hl 1 rfl) ?_
  refine lv_iload_n hx hb dL_box_5 rfl (lv_at hl 2 rfl) ?_
  refine lv_iload_n hx hb dL_box_6 rfl (lv_at hl 3 rfl) ?_
  refine mw_callV (C := RX3) (As := [.int w, .int h, .int d]) (rest := [.int 0, .ref ot]) hx hb hml hown hl (kX3_box l htr G s.heap.size M f S hR hX (fun q h => hAn q (Nat.le_trans hS.1 h)) gn hNP hNx w h d) (g_B (n := 3) htb wd194 wd1 wd191 (by decide +kernel) ⟨Nat.le_of_ble_eq_true rfl, Nat.le_of_ble_eq_true rfl⟩) (htb _ wd192) (htb _ wd193) hE hP hS (fs_R.this hR) rfl rfl rfl (Nat.le_of_ble_eq_true rfl) dL_box_7 ⟨Nat.le_of_ble_eq_true rfl, Nat.le_of_ble_eq_true rfl⟩ (fun v9 M9 H locs hpo hP hz hS => ?_) (fun x9 E9 cell9 H9 locs9 hE9 hx9 ho9 hf9 hP9 hz9 hS9 => ?_)
  · obtain ⟨hex, rfl, hR1, hk1⟩ := hpo
    refine W.eq (g2 := F0 m 10 ls [.int (nI (sN S)), .int 0, .ref ot]) rfl ?_
    refine lv_i2l hx hb dL_box_10 rfl ?_
    refine mw_last (x := (nI (sN S)).toInt64) hx hb hK hP hS 3 (hk1 _ _ hnmu hot) hAot rfl (by unfold vp_in; decide) dL_box_11 (fun H locs hP hS => ?_)
    refine lv_goto (tgt := 23) hx hb dL_box_12 (by decide) ?_
    refine lv_iconst (v := 0) hx hb dL_box_23 (by decide) ?_
    exact mx_iret (v := 0) (M' := (mw_up M9 ot (.inl (gJ G, 1, .inr (.inl (vp_updL g0 (0 : Int32).toNatClampNeg (nI (sN S)).toInt64)))))) hx hb hr hlocks hP hS (lw_Wp.ok hex hR1 hk1 hfx hnmu) dL_box_24 (Nat.le_of_ble_eq_true rfl) (Nat.le_of_ble_eq_true rfl)
  · obtain ⟨k9, hk9, hE9⟩ := hE9
    rcases (show k9 = 0 ∨ k9 = 1 ∨ 2 ≤ k9 by omega) with rfl | rfl | h9
    · obtain rfl := Option.some.inj hE9
      refine mx_catch (E := "java/lang/IllegalArgumentException") (name := "java/lang/IllegalArgumentException") hown [] ({ startPc := 0, endPc := 12, handlerPc := 15, catchType := 15 } : ExceptionTableEntry) [({ startPc := 0, endPc := 12, handlerPc := 19, catchType := 24 } : ExceptionTableEntry)] htab (fun z9 hz9 => nomatch hz9) (by decide) (by decide) (htb _ wd83) (htb _ wd165) hx9 ho9 hf9 ?_
      have hP := hP9
      have hS := hS9
      refine lv_astore (lv' := [(5, .ref x9), (0, .ref (f0 f)), (1, .int w), (2, .int h), (3, .int d), (4, .ref ot)]) hx hb dL_box_15 hl (by decide) rfl (fun ls hl => ?_)
      refine lv_iconst (v := 1) hx hb dL_box_17 (by decide) ?_
      exact mx_iret (v := 1) (M' := M) hx hb hr hlocks hP hS (lw_Wp.no (k := 0) hk9 hR hot) dL_box_18 (Nat.le_of_ble_eq_true rfl) (Nat.le_of_ble_eq_true rfl)
    · obtain rfl := Option.some.inj hE9
      refine mx_catch (E := "java/lang/UnsupportedOperationException") (name := "java/lang/UnsupportedOperationException") hown [({ startPc := 0, endPc := 12, handlerPc := 15, catchType := 15 } : ExceptionTableEntry)] ({ startPc := 0, endPc := 12, handlerPc := 19, catchType := 24 } : ExceptionTableEntry) [] htab (fun z9 hz9 => by
          simp only [List.mem_cons, List.not_mem_nil, or_false] at hz9
          rcases hz9 with rfl
          · exact ⟨by decide, _, htb _ wd83, hN.2.2.2.2.1⟩) (by decide) (by decide) (htb _ wd190) (htb _ wd201) hx9 ho9 hf9 ?_
      have hP := hP9
      have hS := hS9
      refine lv_astore (lv' := [(5, .ref x9), (0, .ref (f0 f)), (1, .int w), (2, .int h), (3, .int d), (4, .ref ot)]) hx hb dL_box_19 hl (by decide) rfl (fun ls hl => ?_)
      refine lv_iconst (v := 2) hx hb dL_box_21 (by decide) ?_
      exact mx_iret (v := 2) (M' := M) hx hb hr hlocks hP hS (lw_Wp.no (k := 1) hk9 hR hot) dL_box_22 (Nat.le_of_ble_eq_true rfl) (Nat.le_of_ble_eq_true rfl)
    · rw [List.getElem?_eq_none h9] at hE9
      cases hE9
-- L_sign
set_option maxHeartbeats 4000000 in
set_option maxRecDepth 100000 in
theorem kL_sign (l : Launch) (htr : l.stackTraces = false) (G : gx_G) (sz : Nat) (M : mw_M) (f : fs_A) (S : fs_S) (hR : fs_R G f M S) (hX : ∀ a, fX f a → M a ≠ none) (hA : ∀ q : Nat, sz ≤ q → gA G q) (ot : Nat) (g0 : Nat → Int64) (hot : M ot = some (.inl (gJ G, 1, .inr (.inl g0)))) (hnmu : ¬ fs_mu f ot) (hfx : fX f ot) (hAot : gA G ot)  (k b : Int32) : g_MetN l G yL_sign (.codeWith yL_sign cL_sign 5 (some .int) [((0 : Nat), (10 : Nat), (13 : Nat), (13 : Nat)), ((0 : Nat), (10 : Nat), (17 : Nat), (24 : Nat))]) ({ frames := 10, cells := 20, slots := 900, locals := 350 } : Room) sz M [.ref (f0 f), .int k, .int b, .ref ot] (lw_Wp G f ot M S (ex_sign S k b) ((nI (sF S (fIx k)).1.length + 1)) (fs_fa S (fIx k) ((sF S (fIx k)).1 ++ [nI (fIx b)], (sF S (fIx k)).2))) := by
  refine MetE.ofWW (cc := cL_sign) (maxL := 5) (ret := (some .int)) (hh := [((0 : Nat), (10 : Nat), (13 : Nat), (13 : Nat)), ((0 : Nat), (10 : Nat), (17 : Nat), (24 : Nat))]) (by decide) rfl ?_
  intro p e s m args below meth c s₁ B hml hv
  obtain ⟨rfl, hsz, hP, hE, hN⟩ := hv
  have hx := B.exec
  have hb := B.bytes
  have hr := B.returns
  have hts := atoms_spec (ws := _ :: lw_big) B.pre
  have htb : ∀ w ∈ lw_big, w.before _ s = true := fun w h => hts w (List.mem_cons_of_mem _ h)
  have htab := tb_body B (hts _ List.mem_cons_self)
  have hown : s.vm.findClass RL = some m.cls := findClass_of_methodNamed B.named
  have hlocks := B.notSynchronized
  have hK := hE.1
  subst hsz
  have hAn : ∀ q : Nat, s.heap.size ≤ q → gA G q := hA
  have hS : va_S (gA G) s.heap s.heap [] := va_S.rf
  have hl := lv_entry ([.ref (f0 f), .int k, .int b, .ref ot]) (n := 5) (Nat.le_of_ble_eq_true rfl)
  rw [lg_entry_eq]
  generalize (lg_sl ([.ref (f0 f), .int k, .int b, .ref ot]) ++ List.replicate (5 - (lg_sl ([.ref (f0 f), .int k, .int b, .ref ot])).length) Slot.unset).toArray = ls at hl ⊢
  have hl : lv_has ls 5 [(0, .ref (f0 f)), (1, .int k), (2, .int b), (3, .ref ot)] := hl
  refine lv_aload_n hx hb dL_sign_0 rfl (lv_at hl 3 rfl) ?_
  refine lv_iconst (v := 0) hx hb dL_sign_1 (by decide) ?_
  refine lv_aload_n hx hb dL_sign_2 rfl (lv_at hl 0 rfl) ?_
  refine lv_iload_n hx hb dL_sign_3 rfl (lv_at hl 1 rfl) ?_
  refine lv_iload_n hx hb dL_sign_4 rfl (lv_at hl 2 rfl) ?_
  refine mw_callV (C := RX3) (As := [.int k, .int b]) (rest := [.int 0, .ref ot]) hx hb hml hown hl (kX3_sign l htr G s.heap.size M f S hR k b) (g_B (n := 2) htb wd263 wd1 wd260 (by decide +kernel) ⟨Nat.le_of_ble_eq_true rfl, Nat.le_of_ble_eq_true rfl⟩) (htb _ wd261) (htb _ wd262) hE hP hS (fs_R.this hR) rfl rfl rfl (Nat.le_of_ble_eq_true rfl) dL_sign_5 ⟨Nat.le_of_ble_eq_true rfl, Nat.le_of_ble_eq_true rfl⟩ (fun v9 M9 H locs hpo hP hz hS => ?_) (fun x9 E9 cell9 H9 locs9 hE9 hx9 ho9 hf9 hP9 hz9 hS9 => ?_)
  · obtain ⟨hex, rfl, hR1, hk1⟩ := hpo
    refine W.eq (g2 := F0 m 8 ls [.int (nI (sF S (fIx k)).1.length + 1), .int 0, .ref ot]) rfl ?_
    refine lv_i2l hx hb dL_sign_8 rfl ?_
    refine mw_last (x := (nI (sF S (fIx k)).1.length + 1).toInt64) hx hb hK hP hS 3 (hk1 _ _ hnmu hot) hAot rfl (by unfold vp_in; decide) dL_sign_9 (fun H locs hP hS => ?_)
    refine lv_goto (tgt := 21) hx hb dL_sign_10 (by decide) ?_
    refine lv_iconst (v := 0) hx hb dL_sign_21 (by decide) ?_
    exact mx_iret (v := 0) (M' := (mw_up M9 ot (.inl (gJ G, 1, .inr (.inl (vp_updL g0 (0 : Int32).toNatClampNeg (nI (sF S (fIx k)).1.length + 1).toInt64)))))) hx hb hr hlocks hP hS (lw_Wp.ok hex hR1 hk1 hfx hnmu) dL_sign_22 (Nat.le_of_ble_eq_true rfl) (Nat.le_of_ble_eq_true rfl)
  · obtain ⟨k9, hk9, hE9⟩ := hE9
    rcases (show k9 = 0 ∨ k9 = 1 ∨ 2 ≤ k9 by omega) with rfl | rfl | h9
    · obtain rfl := Option.some.inj hE9
      refine mx_catch (E := "java/lang/IndexOutOfBoundsException") (name := "java/lang/IndexOutOfBoundsException") hown [] ({ startPc := 0, endPc := 10, handlerPc := 13, catchType := 13 } : ExceptionTableEntry) [({ startPc := 0, endPc := 10, handlerPc := 17, catchType := 24 } : ExceptionTableEntry)] htab (fun z9 hz9 => nomatch hz9) (by decide) (by decide) (htb _ wd82) (htb _ wd90) hx9 ho9 hf9 ?_
      have hP := hP9
      have hS := hS9
      refine lv_astore (lv' := [(4, .ref x9), (0, .ref (f0 f)), (1, .int k), (2, .int b), (3, .ref ot)]) hx hb dL_sign_13 hl (by decide) rfl (fun ls hl => ?_)
      refine lv_iconst (v := 1) hx hb dL_sign_15 (by decide) ?_
      exact mx_iret (v := 1) (M' := M) hx hb hr hlocks hP hS (lw_Wp.no (k := 0) hk9 hR hot) dL_sign_16 (Nat.le_of_ble_eq_true rfl) (Nat.le_of_ble_eq_true rfl)
    · obtain rfl := Option.some.inj hE9
      refine mx_catch (E := "java/lang/UnsupportedOperationException") (name := "java/lang/UnsupportedOperationException") hown [({ startPc := 0, endPc := 10, handlerPc := 13, catchType := 13 } : ExceptionTableEntry)] ({ startPc := 0, endPc := 10, handlerPc := 17, catchType := 24 } : ExceptionTableEntry) [] htab (fun z9 hz9 => by
          simp only [List.mem_cons, List.not_mem_nil, or_false] at hz9
          rcases hz9 with rfl
          · exact ⟨by decide, _, htb _ wd82, hN.2.2.1⟩) (by decide) (by decide) (htb _ wd190) (htb _ wd201) hx9 ho9 hf9 ?_
      have hP := hP9
      have hS := hS9
      refine lv_astore (lv' := [(4, .ref x9), (0, .ref (f0 f)), (1, .int k), (2, .int b), (3, .ref ot)]) hx hb dL_sign_17 hl (by decide) rfl (fun ls hl => ?_)
      refine lv_iconst (v := 2) hx hb dL_sign_19 (by decide) ?_
      exact mx_iret (v := 2) (M' := M) hx hb hr hlocks hP hS (lw_Wp.no (k := 1) hk9 hR hot) dL_sign_20 (Nat.le_of_ble_eq_true rfl) (Nat.le_of_ble_eq_true rfl)
    · rw [List.getElem?_eq_none h9] at hE9
      cases hE9
-- L_pieces
set_option maxHeartbeats 4000000 in
set_option maxRecDepth 100000 in
theorem kL_pieces (l : Launch) (htr : l.stackTraces = false) (G : gx_G) (sz : Nat) (M : mw_M) (f : fs_A) (S : fs_S) (hR : fs_R G f M S) (hX : ∀ a, fX f a → M a ≠ none) (hA : ∀ q : Nat, sz ≤ q → gA G q)   (k u d lo r : Int32) : g_MetN l G yL_pieces (.codeWith yL_pieces cL_pieces 7 (some .int) [((0 : Nat), (11 : Nat), (14 : Nat), (13 : Nat)), ((0 : Nat), (11 : Nat), (18 : Nat), (15 : Nat))]) ({ frames := 10, cells := 20, slots := 900, locals := 350 } : Room) sz M [.ref (f0 f), .int k, .int u, .int d, .int lo, .int r] (lw_Wq G f M S (ex_pieces S k u d lo r) (fs_fa S (fIx k) ((sF S (fIx k)).1, u, d, lo, nI (fIx r)))) := by
  refine MetE.ofWW (cc := cL_pieces) (maxL := 7) (ret := (some .int)) (hh := [((0 : Nat), (11 : Nat), (14 : Nat), (13 : Nat)), ((0 : Nat), (11 : Nat), (18 : Nat), (15 : Nat))]) (by decide) rfl ?_
  intro p e s m args below meth c s₁ B hml hv
  obtain ⟨rfl, hsz, hP, hE, hN⟩ := hv
  have hx := B.exec
  have hb := B.bytes
  have hr := B.returns
  have hts := atoms_spec (ws := _ :: lw_big) B.pre
  have htb : ∀ w ∈ lw_big, w.before _ s = true := fun w h => hts w (List.mem_cons_of_mem _ h)
  have htab := tb_body B (hts _ List.mem_cons_self)
  have hown : s.vm.findClass RL = some m.cls := findClass_of_methodNamed B.named
  have hlocks := B.notSynchronized
  have hK := hE.1
  subst hsz
  have hAn : ∀ q : Nat, s.heap.size ≤ q → gA G q := hA
  have hS : va_S (gA G) s.heap s.heap [] := va_S.rf
  have hl := lv_entry ([.ref (f0 f), .int k, .int u, .int d, .int lo, .int r]) (n := 7) (Nat.le_of_ble_eq_true rfl)
  rw [lg_entry_eq]
  generalize (lg_sl ([.ref (f0 f), .int k, .int u, .int d, .int lo, .int r]) ++ List.replicate (7 - (lg_sl ([.ref (f0 f), .int k, .int u, .int d, .int lo, .int r])).length) Slot.unset).toArray = ls at hl ⊢
  have hl : lv_has ls 7 [(0, .ref (f0 f)), (1, .int k), (2, .int u), (3, .int d), (4, .int lo), (5, .int r)] := hl
  refine lv_aload_n hx hb dL_pieces_0 rfl (lv_at hl 0 rfl) ?_
  refine lv_iload_n hx hb dL_pieces_1 rfl (lv_at hl 1 rfl) ?_
  refine lv_iload_n hx hb dL_pieces_2 rfl (lv_at hl 2 rfl) ?_
  refine lv_iload_n hx hb dL_pieces_3 rfl (lv_at hl 3 rfl) ?_
  refine lv_iload hx hb dL_pieces_4 (lv_at hl 4 rfl) ?_
  refine lv_iload hx hb dL_pieces_6 (lv_at hl 5 rfl) ?_
  refine mw_callV (C := RX3) (As := [.int k, .int u, .int d, .int lo, .int r]) (rest := []) hx hb hml hown hl (kX3_pieces l htr G s.heap.size M f S hR k u d lo r) (g_B (n := 5) htb wd280 wd1 wd277 (by decide +kernel) ⟨Nat.le_of_ble_eq_true rfl, Nat.le_of_ble_eq_true rfl⟩) (htb _ wd278) (htb _ wd279) hE hP hS (fs_R.this hR) rfl rfl rfl (Nat.le_of_ble_eq_true rfl) dL_pieces_8 ⟨Nat.le_of_ble_eq_true rfl, Nat.le_of_ble_eq_true rfl⟩ (fun v9 M9 H locs hpo hP hz hS => ?_) (fun x9 E9 cell9 H9 locs9 hE9 hx9 ho9 hf9 hP9 hz9 hS9 => ?_)
  · obtain ⟨hex, rfl, hR1, hk1⟩ := hpo
    refine W.eq (g2 := F0 m 11 ls []) rfl ?_
    refine lv_goto (tgt := 22) hx hb dL_pieces_11 (by decide) ?_
    refine lv_iconst (v := 0) hx hb dL_pieces_22 (by decide) ?_
    exact mx_iret (v := 0) (M' := M9) hx hb hr hlocks hP hS ⟨by rw [hex]; rfl, by rw [hex, if_pos rfl]; exact hR1, hk1⟩ dL_pieces_23 (Nat.le_of_ble_eq_true rfl) (Nat.le_of_ble_eq_true rfl)
  · obtain ⟨k9, hk9, hE9⟩ := hE9
    rcases (show k9 = 0 ∨ k9 = 1 ∨ 2 ≤ k9 by omega) with rfl | rfl | h9
    · obtain rfl := Option.some.inj hE9
      refine mx_catch (E := "java/lang/IndexOutOfBoundsException") (name := "java/lang/IndexOutOfBoundsException") hown [] ({ startPc := 0, endPc := 11, handlerPc := 14, catchType := 13 } : ExceptionTableEntry) [({ startPc := 0, endPc := 11, handlerPc := 18, catchType := 15 } : ExceptionTableEntry)] htab (fun z9 hz9 => nomatch hz9) (by decide) (by decide) (htb _ wd82) (htb _ wd90) hx9 ho9 hf9 ?_
      have hP := hP9
      have hS := hS9
      refine lv_astore (lv' := [(6, .ref x9), (0, .ref (f0 f)), (1, .int k), (2, .int u), (3, .int d), (4, .int lo), (5, .int r)]) hx hb dL_pieces_14 hl (by decide) rfl (fun ls hl => ?_)
      refine lv_iconst (v := 1) hx hb dL_pieces_16 (by decide) ?_
      exact mx_iret (v := 1) (M' := M) hx hb hr hlocks hP hS ⟨by rw [hk9]; rfl, by rw [hk9, if_neg (Nat.succ_ne_zero _)]; exact hR, fs_keeps.of (mw_ext.rf M)⟩ dL_pieces_17 (Nat.le_of_ble_eq_true rfl) (Nat.le_of_ble_eq_true rfl)
    · obtain rfl := Option.some.inj hE9
      refine mx_catch (E := "java/lang/IllegalArgumentException") (name := "java/lang/IllegalArgumentException") hown [({ startPc := 0, endPc := 11, handlerPc := 14, catchType := 13 } : ExceptionTableEntry)] ({ startPc := 0, endPc := 11, handlerPc := 18, catchType := 15 } : ExceptionTableEntry) [] htab (fun z9 hz9 => by
          simp only [List.mem_cons, List.not_mem_nil, or_false] at hz9
          rcases hz9 with rfl
          · exact ⟨by decide, _, htb _ wd82, hN.1⟩) (by decide) (by decide) (htb _ wd83) (htb _ wd165) hx9 ho9 hf9 ?_
      have hP := hP9
      have hS := hS9
      refine lv_astore (lv' := [(6, .ref x9), (0, .ref (f0 f)), (1, .int k), (2, .int u), (3, .int d), (4, .int lo), (5, .int r)]) hx hb dL_pieces_18 hl (by decide) rfl (fun ls hl => ?_)
      refine lv_iconst (v := 2) hx hb dL_pieces_20 (by decide) ?_
      exact mx_iret (v := 2) (M' := M) hx hb hr hlocks hP hS ⟨by rw [hk9]; rfl, by rw [hk9, if_neg (Nat.succ_ne_zero _)]; exact hR, fs_keeps.of (mw_ext.rf M)⟩ dL_pieces_21 (Nat.le_of_ble_eq_true rfl) (Nat.le_of_ble_eq_true rfl)
    · rw [List.getElem?_eq_none h9] at hE9
      cases hE9
-- L_signOf
set_option maxHeartbeats 4000000 in
set_option maxRecDepth 100000 in
theorem kL_signOf (l : Launch) (htr : l.stackTraces = false) (G : gx_G) (sz : Nat) (M : mw_M) (f : fs_A) (S : fs_S) (hR : fs_R G f M S) (hX : ∀ a, fX f a → M a ≠ none) (hA : ∀ q : Nat, sz ≤ q → gA G q) (ot : Nat) (g0 : Nat → Int64) (hot : M ot = some (.inl (gJ G, 1, .inr (.inl g0)))) (hnmu : ¬ fs_mu f ot) (hfx : fX f ot) (hAot : gA G ot)  (k least : Int32) : g_MetN l G yL_signOf (.codeWith yL_signOf cL_signOf 5 (some .int) [((0 : Nat), (10 : Nat), (13 : Nat), (13 : Nat)), ((0 : Nat), (10 : Nat), (17 : Nat), (15 : Nat)), ((0 : Nat), (10 : Nat), (21 : Nat), (36 : Nat)), ((0 : Nat), (10 : Nat), (25 : Nat), (24 : Nat))]) ({ frames := 10, cells := 20, slots := 900, locals := 350 } : Room) sz M [.ref (f0 f), .int k, .int least, .ref ot] (lw_Wp G f ot M S (ex_signOf S k least) (kt_y S (fs_rd S (sF S (fIx k)) least)) (kt_S S (sF S (fIx k)) (fs_rd S (sF S (fIx k)) least) least)) := by
  refine MetE.ofWW (cc := cL_signOf) (maxL := 5) (ret := (some .int)) (hh := [((0 : Nat), (10 : Nat), (13 : Nat), (13 : Nat)), ((0 : Nat), (10 : Nat), (17 : Nat), (15 : Nat)), ((0 : Nat), (10 : Nat), (21 : Nat), (36 : Nat)), ((0 : Nat), (10 : Nat), (25 : Nat), (24 : Nat))]) (by decide) rfl ?_
  intro p e s m args below meth c s₁ B hml hv
  obtain ⟨rfl, hsz, hP, hE, hN⟩ := hv
  have hx := B.exec
  have hb := B.bytes
  have hr := B.returns
  have hts := atoms_spec (ws := _ :: lw_big) B.pre
  have htb : ∀ w ∈ lw_big, w.before _ s = true := fun w h => hts w (List.mem_cons_of_mem _ h)
  have htab := tb_body B (hts _ List.mem_cons_self)
  have hown : s.vm.findClass RL = some m.cls := findClass_of_methodNamed B.named
  have hlocks := B.notSynchronized
  have hK := hE.1
  subst hsz
  have hAn : ∀ q : Nat, s.heap.size ≤ q → gA G q := hA
  have hS : va_S (gA G) s.heap s.heap [] := va_S.rf
  have hl := lv_entry ([.ref (f0 f), .int k, .int least, .ref ot]) (n := 5) (Nat.le_of_ble_eq_true rfl)
  rw [lg_entry_eq]
  generalize (lg_sl ([.ref (f0 f), .int k, .int least, .ref ot]) ++ List.replicate (5 - (lg_sl ([.ref (f0 f), .int k, .int least, .ref ot])).length) Slot.unset).toArray = ls at hl ⊢
  have hl : lv_has ls 5 [(0, .ref (f0 f)), (1, .int k), (2, .int least), (3, .ref ot)] := hl
  refine lv_aload_n hx hb dL_signOf_0 rfl (lv_at hl 3 rfl) ?_
  refine lv_iconst (v := 0) hx hb dL_signOf_1 (by decide) ?_
  refine lv_aload_n hx hb dL_signOf_2 rfl (lv_at hl 0 rfl) ?_
  refine lv_iload_n hx hb dL_signOf_3 rfl (lv_at hl 1 rfl) ?_
  refine lv_iload_n hx hb dL_signOf_4 rfl (lv_at hl 2 rfl) ?_
  refine mw_callV (C := RX3) (As := [.int k, .int least]) (rest := [.int 0, .ref ot]) hx hb hml hown hl (kX3_signOf l htr G s.heap.size M f S hR hX (fun q h => hAn q (Nat.le_trans hS.1 h)) k least) (g_B (n := 2) htb wd297 wd1 wd294 (by decide +kernel) ⟨Nat.le_of_ble_eq_true rfl, Nat.le_of_ble_eq_true rfl⟩) (htb _ wd295) (htb _ wd296) hE hP hS (fs_R.this hR) rfl rfl rfl (Nat.le_of_ble_eq_true rfl) dL_signOf_5 ⟨Nat.le_of_ble_eq_true rfl, Nat.le_of_ble_eq_true rfl⟩ (fun v9 M9 H locs hpo hP hz hS => ?_) (fun x9 E9 cell9 H9 locs9 hE9 hx9 ho9 hf9 hP9 hz9 hS9 => ?_)
  · obtain ⟨hex, rfl, hR1, hk1⟩ := hpo
    refine W.eq (g2 := F0 m 8 ls [.int (kt_y S (fs_rd S (sF S (fIx k)) least)), .int 0, .ref ot]) rfl ?_
    refine lv_i2l hx hb dL_signOf_8 rfl ?_
    refine mw_last (x := (kt_y S (fs_rd S (sF S (fIx k)) least)).toInt64) hx hb hK hP hS 3 (hk1 _ _ hnmu hot) hAot rfl (by unfold vp_in; decide) dL_signOf_9 (fun H locs hP hS => ?_)
    refine lv_goto (tgt := 29) hx hb dL_signOf_10 (by decide) ?_
    refine lv_iconst (v := 0) hx hb dL_signOf_29 (by decide) ?_
    exact mx_iret (v := 0) (M' := (mw_up M9 ot (.inl (gJ G, 1, .inr (.inl (vp_updL g0 (0 : Int32).toNatClampNeg (kt_y S (fs_rd S (sF S (fIx k)) least)).toInt64)))))) hx hb hr hlocks hP hS (lw_Wp.ok hex hR1 hk1 hfx hnmu) dL_signOf_30 (Nat.le_of_ble_eq_true rfl) (Nat.le_of_ble_eq_true rfl)
  · obtain ⟨k9, hk9, hE9⟩ := hE9
    rcases (show k9 = 0 ∨ k9 = 1 ∨ k9 = 2 ∨ k9 = 3 ∨ 4 ≤ k9 by omega) with rfl | rfl | rfl | rfl | h9
    · obtain rfl := Option.some.inj hE9
      refine mx_catch (E := "java/lang/IndexOutOfBoundsException") (name := "java/lang/IndexOutOfBoundsException") hown [] ({ startPc := 0, endPc := 10, handlerPc := 13, catchType := 13 } : ExceptionTableEntry) [({ startPc := 0, endPc := 10, handlerPc := 17, catchType := 15 } : ExceptionTableEntry), ({ startPc := 0, endPc := 10, handlerPc := 21, catchType := 36 } : ExceptionTableEntry), ({ startPc := 0, endPc := 10, handlerPc := 25, catchType := 24 } : ExceptionTableEntry)] htab (fun z9 hz9 => nomatch hz9) (by decide) (by decide) (htb _ wd82) (htb _ wd90) hx9 ho9 hf9 ?_
      have hP := hP9
      have hS := hS9
      refine lv_astore (lv' := [(4, .ref x9), (0, .ref (f0 f)), (1, .int k), (2, .int least), (3, .ref ot)]) hx hb dL_signOf_13 hl (by decide) rfl (fun ls hl => ?_)
      refine lv_iconst (v := 1) hx hb dL_signOf_15 (by decide) ?_
      exact mx_iret (v := 1) (M' := M) hx hb hr hlocks hP hS (lw_Wp.no (k := 0) hk9 hR hot) dL_signOf_16 (Nat.le_of_ble_eq_true rfl) (Nat.le_of_ble_eq_true rfl)
    · obtain rfl := Option.some.inj hE9
      refine mx_catch (E := "java/lang/IllegalArgumentException") (name := "java/lang/IllegalArgumentException") hown [({ startPc := 0, endPc := 10, handlerPc := 13, catchType := 13 } : ExceptionTableEntry)] ({ startPc := 0, endPc := 10, handlerPc := 17, catchType := 15 } : ExceptionTableEntry) [({ startPc := 0, endPc := 10, handlerPc := 21, catchType := 36 } : ExceptionTableEntry), ({ startPc := 0, endPc := 10, handlerPc := 25, catchType := 24 } : ExceptionTableEntry)] htab (fun z9 hz9 => by
          simp only [List.mem_cons, List.not_mem_nil, or_false] at hz9
          rcases hz9 with rfl
          · exact ⟨by decide, _, htb _ wd82, hN.1⟩) (by decide) (by decide) (htb _ wd83) (htb _ wd165) hx9 ho9 hf9 ?_
      have hP := hP9
      have hS := hS9
      refine lv_astore (lv' := [(4, .ref x9), (0, .ref (f0 f)), (1, .int k), (2, .int least), (3, .ref ot)]) hx hb dL_signOf_17 hl (by decide) rfl (fun ls hl => ?_)
      refine lv_iconst (v := 2) hx hb dL_signOf_19 (by decide) ?_
      exact mx_iret (v := 2) (M' := M) hx hb hr hlocks hP hS (lw_Wp.no (k := 1) hk9 hR hot) dL_signOf_20 (Nat.le_of_ble_eq_true rfl) (Nat.le_of_ble_eq_true rfl)
    · obtain rfl := Option.some.inj hE9
      refine mx_catch (E := "java/lang/IllegalStateException") (name := "java/lang/IllegalStateException") hown [({ startPc := 0, endPc := 10, handlerPc := 13, catchType := 13 } : ExceptionTableEntry), ({ startPc := 0, endPc := 10, handlerPc := 17, catchType := 15 } : ExceptionTableEntry)] ({ startPc := 0, endPc := 10, handlerPc := 21, catchType := 36 } : ExceptionTableEntry) [({ startPc := 0, endPc := 10, handlerPc := 25, catchType := 24 } : ExceptionTableEntry)] htab (fun z9 hz9 => by
          simp only [List.mem_cons, List.not_mem_nil, or_false] at hz9
          rcases hz9 with rfl | rfl
          · exact ⟨by decide, _, htb _ wd82, hN.2.1⟩
          · exact ⟨by decide, _, htb _ wd83, hN.2.2.2.1⟩) (by decide) (by decide) (htb _ wd293) (htb _ wd304) hx9 ho9 hf9 ?_
      have hP := hP9
      have hS := hS9
      refine lv_astore (lv' := [(4, .ref x9), (0, .ref (f0 f)), (1, .int k), (2, .int least), (3, .ref ot)]) hx hb dL_signOf_21 hl (by decide) rfl (fun ls hl => ?_)
      refine lv_iconst (v := 3) hx hb dL_signOf_23 (by decide) ?_
      exact mx_iret (v := 3) (M' := M) hx hb hr hlocks hP hS (lw_Wp.no (k := 2) hk9 hR hot) dL_signOf_24 (Nat.le_of_ble_eq_true rfl) (Nat.le_of_ble_eq_true rfl)
    · obtain rfl := Option.some.inj hE9
      refine mx_catch (E := "java/lang/UnsupportedOperationException") (name := "java/lang/UnsupportedOperationException") hown [({ startPc := 0, endPc := 10, handlerPc := 13, catchType := 13 } : ExceptionTableEntry), ({ startPc := 0, endPc := 10, handlerPc := 17, catchType := 15 } : ExceptionTableEntry), ({ startPc := 0, endPc := 10, handlerPc := 21, catchType := 36 } : ExceptionTableEntry)] ({ startPc := 0, endPc := 10, handlerPc := 25, catchType := 24 } : ExceptionTableEntry) [] htab (fun z9 hz9 => by
          simp only [List.mem_cons, List.not_mem_nil, or_false] at hz9
          rcases hz9 with rfl | rfl | rfl
          · exact ⟨by decide, _, htb _ wd82, hN.2.2.1⟩
          · exact ⟨by decide, _, htb _ wd83, hN.2.2.2.2.1⟩
          · exact ⟨by decide, _, htb _ wd293, hN.2.2.2.2.2⟩) (by decide) (by decide) (htb _ wd190) (htb _ wd201) hx9 ho9 hf9 ?_
      have hP := hP9
      have hS := hS9
      refine lv_astore (lv' := [(4, .ref x9), (0, .ref (f0 f)), (1, .int k), (2, .int least), (3, .ref ot)]) hx hb dL_signOf_25 hl (by decide) rfl (fun ls hl => ?_)
      refine lv_iconst (v := 4) hx hb dL_signOf_27 (by decide) ?_
      exact mx_iret (v := 4) (M' := M) hx hb hr hlocks hP hS (lw_Wp.no (k := 3) hk9 hR hot) dL_signOf_28 (Nat.le_of_ble_eq_true rfl) (Nat.le_of_ble_eq_true rfl)
    · rw [List.getElem?_eq_none h9] at hE9
      cases hE9
-- L_fraction
set_option maxHeartbeats 4000000 in
set_option maxRecDepth 100000 in
theorem kL_fraction (l : Launch) (htr : l.stackTraces = false) (G : gx_G) (sz : Nat) (M : mw_M) (f : fs_A) (S : fs_S) (hR : fs_R G f M S) (hX : ∀ a, fX f a → M a ≠ none) (hA : ∀ q : Nat, sz ≤ q → gA G q) (ot : Nat) (g0 : Nat → Int64) (hot : M ot = some (.inl (gJ G, 1, .inr (.inl g0)))) (hnmu : ¬ fs_mu f ot) (hfx : fX f ot) (hAot : gA G ot)  (st n d t : Int32) : g_MetN l G yL_fraction (.codeWith yL_fraction cL_fraction 7 (some .int) [((0 : Nat), (14 : Nat), (17 : Nat), (13 : Nat)), ((0 : Nat), (14 : Nat), (21 : Nat), (15 : Nat)), ((0 : Nat), (14 : Nat), (25 : Nat), (24 : Nat))]) ({ frames := 10, cells := 20, slots := 900, locals := 350 } : Room) sz M [.ref (f0 f), .int st, .int n, .int d, .int t, .ref ot] (lw_Wp G f ot M S (ex_fraction S st n d t) (nI (sN S)) (fs_push S (re_fraction S st n d t))) := by
  refine MetE.ofWW (cc := cL_fraction) (maxL := 7) (ret := (some .int)) (hh := [((0 : Nat), (14 : Nat), (17 : Nat), (13 : Nat)), ((0 : Nat), (14 : Nat), (21 : Nat), (15 : Nat)), ((0 : Nat), (14 : Nat), (25 : Nat), (24 : Nat))]) (by decide) rfl ?_
  intro p e s m args below meth c s₁ B hml hv
  obtain ⟨rfl, hsz, hP, hE, hN⟩ := hv
  have hx := B.exec
  have hb := B.bytes
  have hr := B.returns
  have hts := atoms_spec (ws := _ :: lw_big) B.pre
  have htb : ∀ w ∈ lw_big, w.before _ s = true := fun w h => hts w (List.mem_cons_of_mem _ h)
  have htab := tb_body B (hts _ List.mem_cons_self)
  have hown : s.vm.findClass RL = some m.cls := findClass_of_methodNamed B.named
  have hlocks := B.notSynchronized
  have hK := hE.1
  subst hsz
  have hAn : ∀ q : Nat, s.heap.size ≤ q → gA G q := hA
  have hS : va_S (gA G) s.heap s.heap [] := va_S.rf
  have hl := lv_entry ([.ref (f0 f), .int st, .int n, .int d, .int t, .ref ot]) (n := 7) (Nat.le_of_ble_eq_true rfl)
  rw [lg_entry_eq]
  generalize (lg_sl ([.ref (f0 f), .int st, .int n, .int d, .int t, .ref ot]) ++ List.replicate (7 - (lg_sl ([.ref (f0 f), .int st, .int n, .int d, .int t, .ref ot])).length) Slot.unset).toArray = ls at hl ⊢
  have hl : lv_has ls 7 [(0, .ref (f0 f)), (1, .int st), (2, .int n), (3, .int d), (4, .int t), (5, .ref ot)] := hl
  refine lv_aload hx hb dL_fraction_0 (lv_at hl 5 rfl) ?_
  refine lv_iconst (v := 0) hx hb dL_fraction_2 (by decide) ?_
  refine lv_aload_n hx hb dL_fraction_3 rfl (lv_at hl 0 rfl) ?_
  refine lv_iload_n hx hb dL_fraction_4 rfl (lv_at hl 1 rfl) ?_
  refine lv_iload_n hx hb dL_fraction_5 rfl (lv_at hl 2 rfl) ?_
  refine lv_iload_n hx hb dL_fraction_6 rfl (lv_at hl 3 rfl) ?_
  refine lv_iload hx hb dL_fraction_7 (lv_at hl 4 rfl) ?_
  refine mw_callV (C := RX3) (As := [.int st, .int n, .int d, .int t]) (rest := [.int 0, .ref ot]) hx hb hml hown hl (kX3_fraction l htr G s.heap.size M f S hR hX (fun q h => hAn q (Nat.le_trans hS.1 h)) st n d t) (g_B (n := 4) htb wd378 wd1 wd375 (by decide +kernel) ⟨Nat.le_of_ble_eq_true rfl, Nat.le_of_ble_eq_true rfl⟩) (htb _ wd376) (htb _ wd377) hE hP hS (fs_R.this hR) rfl rfl rfl (Nat.le_of_ble_eq_true rfl) dL_fraction_9 ⟨Nat.le_of_ble_eq_true rfl, Nat.le_of_ble_eq_true rfl⟩ (fun v9 M9 H locs hpo hP hz hS => ?_) (fun x9 E9 cell9 H9 locs9 hE9 hx9 ho9 hf9 hP9 hz9 hS9 => ?_)
  · obtain ⟨hex, rfl, hR1, hk1⟩ := hpo
    refine W.eq (g2 := F0 m 12 ls [.int (nI (sN S)), .int 0, .ref ot]) rfl ?_
    refine lv_i2l hx hb dL_fraction_12 rfl ?_
    refine mw_last (x := (nI (sN S)).toInt64) hx hb hK hP hS 3 (hk1 _ _ hnmu hot) hAot rfl (by unfold vp_in; decide) dL_fraction_13 (fun H locs hP hS => ?_)
    refine lv_goto (tgt := 29) hx hb dL_fraction_14 (by decide) ?_
    refine lv_iconst (v := 0) hx hb dL_fraction_29 (by decide) ?_
    exact mx_iret (v := 0) (M' := (mw_up M9 ot (.inl (gJ G, 1, .inr (.inl (vp_updL g0 (0 : Int32).toNatClampNeg (nI (sN S)).toInt64)))))) hx hb hr hlocks hP hS (lw_Wp.ok hex hR1 hk1 hfx hnmu) dL_fraction_30 (Nat.le_of_ble_eq_true rfl) (Nat.le_of_ble_eq_true rfl)
  · obtain ⟨k9, hk9, hE9⟩ := hE9
    rcases (show k9 = 0 ∨ k9 = 1 ∨ k9 = 2 ∨ 3 ≤ k9 by omega) with rfl | rfl | rfl | h9
    · obtain rfl := Option.some.inj hE9
      refine mx_catch (E := "java/lang/IndexOutOfBoundsException") (name := "java/lang/IndexOutOfBoundsException") hown [] ({ startPc := 0, endPc := 14, handlerPc := 17, catchType := 13 } : ExceptionTableEntry) [({ startPc := 0, endPc := 14, handlerPc := 21, catchType := 15 } : ExceptionTableEntry), ({ startPc := 0, endPc := 14, handlerPc := 25, catchType := 24 } : ExceptionTableEntry)] htab (fun z9 hz9 => nomatch hz9) (by decide) (by decide) (htb _ wd82) (htb _ wd90) hx9 ho9 hf9 ?_
      have hP := hP9
      have hS := hS9
      refine lv_astore (lv' := [(6, .ref x9), (0, .ref (f0 f)), (1, .int st), (2, .int n), (3, .int d), (4, .int t), (5, .ref ot)]) hx hb dL_fraction_17 hl (by decide) rfl (fun ls hl => ?_)
      refine lv_iconst (v := 1) hx hb dL_fraction_19 (by decide) ?_
      exact mx_iret (v := 1) (M' := M) hx hb hr hlocks hP hS (lw_Wp.no (k := 0) hk9 hR hot) dL_fraction_20 (Nat.le_of_ble_eq_true rfl) (Nat.le_of_ble_eq_true rfl)
    · obtain rfl := Option.some.inj hE9
      refine mx_catch (E := "java/lang/IllegalArgumentException") (name := "java/lang/IllegalArgumentException") hown [({ startPc := 0, endPc := 14, handlerPc := 17, catchType := 13 } : ExceptionTableEntry)] ({ startPc := 0, endPc := 14, handlerPc := 21, catchType := 15 } : ExceptionTableEntry) [({ startPc := 0, endPc := 14, handlerPc := 25, catchType := 24 } : ExceptionTableEntry)] htab (fun z9 hz9 => by
          simp only [List.mem_cons, List.not_mem_nil, or_false] at hz9
          rcases hz9 with rfl
          · exact ⟨by decide, _, htb _ wd82, hN.1⟩) (by decide) (by decide) (htb _ wd83) (htb _ wd165) hx9 ho9 hf9 ?_
      have hP := hP9
      have hS := hS9
      refine lv_astore (lv' := [(6, .ref x9), (0, .ref (f0 f)), (1, .int st), (2, .int n), (3, .int d), (4, .int t), (5, .ref ot)]) hx hb dL_fraction_21 hl (by decide) rfl (fun ls hl => ?_)
      refine lv_iconst (v := 2) hx hb dL_fraction_23 (by decide) ?_
      exact mx_iret (v := 2) (M' := M) hx hb hr hlocks hP hS (lw_Wp.no (k := 1) hk9 hR hot) dL_fraction_24 (Nat.le_of_ble_eq_true rfl) (Nat.le_of_ble_eq_true rfl)
    · obtain rfl := Option.some.inj hE9
      refine mx_catch (E := "java/lang/UnsupportedOperationException") (name := "java/lang/UnsupportedOperationException") hown [({ startPc := 0, endPc := 14, handlerPc := 17, catchType := 13 } : ExceptionTableEntry), ({ startPc := 0, endPc := 14, handlerPc := 21, catchType := 15 } : ExceptionTableEntry)] ({ startPc := 0, endPc := 14, handlerPc := 25, catchType := 24 } : ExceptionTableEntry) [] htab (fun z9 hz9 => by
          simp only [List.mem_cons, List.not_mem_nil, or_false] at hz9
          rcases hz9 with rfl | rfl
          · exact ⟨by decide, _, htb _ wd82, hN.2.2.1⟩
          · exact ⟨by decide, _, htb _ wd83, hN.2.2.2.2.1⟩) (by decide) (by decide) (htb _ wd190) (htb _ wd201) hx9 ho9 hf9 ?_
      have hP := hP9
      have hS := hS9
      refine lv_astore (lv' := [(6, .ref x9), (0, .ref (f0 f)), (1, .int st), (2, .int n), (3, .int d), (4, .int t), (5, .ref ot)]) hx hb dL_fraction_25 hl (by decide) rfl (fun ls hl => ?_)
      refine lv_iconst (v := 3) hx hb dL_fraction_27 (by decide) ?_
      exact mx_iret (v := 3) (M' := M) hx hb hr hlocks hP hS (lw_Wp.no (k := 2) hk9 hR hot) dL_fraction_28 (Nat.le_of_ble_eq_true rfl) (Nat.le_of_ble_eq_true rfl)
    · rw [List.getElem?_eq_none h9] at hE9
      cases hE9
-- L_root
set_option maxHeartbeats 4000000 in
set_option maxRecDepth 100000 in
theorem kL_root (l : Launch) (htr : l.stackTraces = false) (G : gx_G) (sz : Nat) (M : mw_M) (f : fs_A) (S : fs_S) (hR : fs_R G f M S) (hX : ∀ a, fX f a → M a ≠ none) (hA : ∀ q : Nat, sz ≤ q → gA G q) (ot : Nat) (g0 : Nat → Int64) (hot : M ot = some (.inl (gJ G, 1, .inr (.inl g0)))) (hnmu : ¬ fs_mu f ot) (hfx : fX f ot) (hAot : gA G ot)  (st x k : Int32) : g_MetN l G yL_root (.codeWith yL_root cL_root 6 (some .int) [((0 : Nat), (12 : Nat), (15 : Nat), (13 : Nat)), ((0 : Nat), (12 : Nat), (19 : Nat), (15 : Nat)), ((0 : Nat), (12 : Nat), (23 : Nat), (36 : Nat)), ((0 : Nat), (12 : Nat), (27 : Nat), (24 : Nat))]) ({ frames := 10, cells := 20, slots := 900, locals := 350 } : Room) sz M [.ref (f0 f), .int st, .int x, .int k, .ref ot] (lw_Wp G f ot M S (ex_root S st x k) (nI (sN (ro_S S st x k))) (fs_push (ro_S S st x k) (re_root S st x k))) := by
  refine MetE.ofWW (cc := cL_root) (maxL := 6) (ret := (some .int)) (hh := [((0 : Nat), (12 : Nat), (15 : Nat), (13 : Nat)), ((0 : Nat), (12 : Nat), (19 : Nat), (15 : Nat)), ((0 : Nat), (12 : Nat), (23 : Nat), (36 : Nat)), ((0 : Nat), (12 : Nat), (27 : Nat), (24 : Nat))]) (by decide) rfl ?_
  intro p e s m args below meth c s₁ B hml hv
  obtain ⟨rfl, hsz, hP, hE, hN⟩ := hv
  have hx := B.exec
  have hb := B.bytes
  have hr := B.returns
  have hts := atoms_spec (ws := _ :: lw_big) B.pre
  have htb : ∀ w ∈ lw_big, w.before _ s = true := fun w h => hts w (List.mem_cons_of_mem _ h)
  have htab := tb_body B (hts _ List.mem_cons_self)
  have hown : s.vm.findClass RL = some m.cls := findClass_of_methodNamed B.named
  have hlocks := B.notSynchronized
  have hK := hE.1
  subst hsz
  have hAn : ∀ q : Nat, s.heap.size ≤ q → gA G q := hA
  have hS : va_S (gA G) s.heap s.heap [] := va_S.rf
  have hl := lv_entry ([.ref (f0 f), .int st, .int x, .int k, .ref ot]) (n := 6) (Nat.le_of_ble_eq_true rfl)
  rw [lg_entry_eq]
  generalize (lg_sl ([.ref (f0 f), .int st, .int x, .int k, .ref ot]) ++ List.replicate (6 - (lg_sl ([.ref (f0 f), .int st, .int x, .int k, .ref ot])).length) Slot.unset).toArray = ls at hl ⊢
  have hl : lv_has ls 6 [(0, .ref (f0 f)), (1, .int st), (2, .int x), (3, .int k), (4, .ref ot)] := hl
  refine lv_aload hx hb dL_root_0 (lv_at hl 4 rfl) ?_
  refine lv_iconst (v := 0) hx hb dL_root_2 (by decide) ?_
  refine lv_aload_n hx hb dL_root_3 rfl (lv_at hl 0 rfl) ?_
  refine lv_iload_n hx hb dL_root_4 rfl (lv_at hl 1 rfl) ?_
  refine lv_iload_n hx hb dL_root_5 rfl (lv_at hl 2 rfl) ?_
  refine lv_iload_n hx hb dL_root_6 rfl (lv_at hl 3 rfl) ?_
  refine mw_callV (C := RX3) (As := [.int st, .int x, .int k]) (rest := [.int 0, .ref ot]) hx hb hml hown hl (kX3_root l htr G s.heap.size M f S hR hX (fun q h => hAn q (Nat.le_trans hS.1 h)) st x k) (g_B (n := 3) htb wd418 wd1 wd415 (by decide +kernel) ⟨Nat.le_of_ble_eq_true rfl, Nat.le_of_ble_eq_true rfl⟩) (htb _ wd416) (htb _ wd417) hE hP hS (fs_R.this hR) rfl rfl rfl (Nat.le_of_ble_eq_true rfl) dL_root_7 ⟨Nat.le_of_ble_eq_true rfl, Nat.le_of_ble_eq_true rfl⟩ (fun v9 M9 H locs hpo hP hz hS => ?_) (fun x9 E9 cell9 H9 locs9 hE9 hx9 ho9 hf9 hP9 hz9 hS9 => ?_)
  · obtain ⟨hex, rfl, hR1, hk1⟩ := hpo
    refine W.eq (g2 := F0 m 10 ls [.int (nI (sN (ro_S S st x k))), .int 0, .ref ot]) rfl ?_
    refine lv_i2l hx hb dL_root_10 rfl ?_
    refine mw_last (x := (nI (sN (ro_S S st x k))).toInt64) hx hb hK hP hS 3 (hk1 _ _ hnmu hot) hAot rfl (by unfold vp_in; decide) dL_root_11 (fun H locs hP hS => ?_)
    refine lv_goto (tgt := 31) hx hb dL_root_12 (by decide) ?_
    refine lv_iconst (v := 0) hx hb dL_root_31 (by decide) ?_
    exact mx_iret (v := 0) (M' := (mw_up M9 ot (.inl (gJ G, 1, .inr (.inl (vp_updL g0 (0 : Int32).toNatClampNeg (nI (sN (ro_S S st x k))).toInt64)))))) hx hb hr hlocks hP hS (lw_Wp.ok hex hR1 hk1 hfx hnmu) dL_root_32 (Nat.le_of_ble_eq_true rfl) (Nat.le_of_ble_eq_true rfl)
  · obtain ⟨k9, hk9, hE9⟩ := hE9
    rcases (show k9 = 0 ∨ k9 = 1 ∨ k9 = 2 ∨ k9 = 3 ∨ 4 ≤ k9 by omega) with rfl | rfl | rfl | rfl | h9
    · obtain rfl := Option.some.inj hE9
      refine mx_catch (E := "java/lang/IndexOutOfBoundsException") (name := "java/lang/IndexOutOfBoundsException") hown [] ({ startPc := 0, endPc := 12, handlerPc := 15, catchType := 13 } : ExceptionTableEntry) [({ startPc := 0, endPc := 12, handlerPc := 19, catchType := 15 } : ExceptionTableEntry), ({ startPc := 0, endPc := 12, handlerPc := 23, catchType := 36 } : ExceptionTableEntry), ({ startPc := 0, endPc := 12, handlerPc := 27, catchType := 24 } : ExceptionTableEntry)] htab (fun z9 hz9 => nomatch hz9) (by decide) (by decide) (htb _ wd82) (htb _ wd90) hx9 ho9 hf9 ?_
      have hP := hP9
      have hS := hS9
      refine lv_astore (lv' := [(5, .ref x9), (0, .ref (f0 f)), (1, .int st), (2, .int x), (3, .int k), (4, .ref ot)]) hx hb dL_root_15 hl (by decide) rfl (fun ls hl => ?_)
      refine lv_iconst (v := 1) hx hb dL_root_17 (by decide) ?_
      exact mx_iret (v := 1) (M' := M) hx hb hr hlocks hP hS (lw_Wp.no (k := 0) hk9 hR hot) dL_root_18 (Nat.le_of_ble_eq_true rfl) (Nat.le_of_ble_eq_true rfl)
    · obtain rfl := Option.some.inj hE9
      refine mx_catch (E := "java/lang/IllegalArgumentException") (name := "java/lang/IllegalArgumentException") hown [({ startPc := 0, endPc := 12, handlerPc := 15, catchType := 13 } : ExceptionTableEntry)] ({ startPc := 0, endPc := 12, handlerPc := 19, catchType := 15 } : ExceptionTableEntry) [({ startPc := 0, endPc := 12, handlerPc := 23, catchType := 36 } : ExceptionTableEntry), ({ startPc := 0, endPc := 12, handlerPc := 27, catchType := 24 } : ExceptionTableEntry)] htab (fun z9 hz9 => by
          simp only [List.mem_cons, List.not_mem_nil, or_false] at hz9
          rcases hz9 with rfl
          · exact ⟨by decide, _, htb _ wd82, hN.1⟩) (by decide) (by decide) (htb _ wd83) (htb _ wd165) hx9 ho9 hf9 ?_
      have hP := hP9
      have hS := hS9
      refine lv_astore (lv' := [(5, .ref x9), (0, .ref (f0 f)), (1, .int st), (2, .int x), (3, .int k), (4, .ref ot)]) hx hb dL_root_19 hl (by decide) rfl (fun ls hl => ?_)
      refine lv_iconst (v := 2) hx hb dL_root_21 (by decide) ?_
      exact mx_iret (v := 2) (M' := M) hx hb hr hlocks hP hS (lw_Wp.no (k := 1) hk9 hR hot) dL_root_22 (Nat.le_of_ble_eq_true rfl) (Nat.le_of_ble_eq_true rfl)
    · obtain rfl := Option.some.inj hE9
      refine mx_catch (E := "java/lang/IllegalStateException") (name := "java/lang/IllegalStateException") hown [({ startPc := 0, endPc := 12, handlerPc := 15, catchType := 13 } : ExceptionTableEntry), ({ startPc := 0, endPc := 12, handlerPc := 19, catchType := 15 } : ExceptionTableEntry)] ({ startPc := 0, endPc := 12, handlerPc := 23, catchType := 36 } : ExceptionTableEntry) [({ startPc := 0, endPc := 12, handlerPc := 27, catchType := 24 } : ExceptionTableEntry)] htab (fun z9 hz9 => by
          simp only [List.mem_cons, List.not_mem_nil, or_false] at hz9
          rcases hz9 with rfl | rfl
          · exact ⟨by decide, _, htb _ wd82, hN.2.1⟩
          · exact ⟨by decide, _, htb _ wd83, hN.2.2.2.1⟩) (by decide) (by decide) (htb _ wd293) (htb _ wd304) hx9 ho9 hf9 ?_
      have hP := hP9
      have hS := hS9
      refine lv_astore (lv' := [(5, .ref x9), (0, .ref (f0 f)), (1, .int st), (2, .int x), (3, .int k), (4, .ref ot)]) hx hb dL_root_23 hl (by decide) rfl (fun ls hl => ?_)
      refine lv_iconst (v := 3) hx hb dL_root_25 (by decide) ?_
      exact mx_iret (v := 3) (M' := M) hx hb hr hlocks hP hS (lw_Wp.no (k := 2) hk9 hR hot) dL_root_26 (Nat.le_of_ble_eq_true rfl) (Nat.le_of_ble_eq_true rfl)
    · obtain rfl := Option.some.inj hE9
      refine mx_catch (E := "java/lang/UnsupportedOperationException") (name := "java/lang/UnsupportedOperationException") hown [({ startPc := 0, endPc := 12, handlerPc := 15, catchType := 13 } : ExceptionTableEntry), ({ startPc := 0, endPc := 12, handlerPc := 19, catchType := 15 } : ExceptionTableEntry), ({ startPc := 0, endPc := 12, handlerPc := 23, catchType := 36 } : ExceptionTableEntry)] ({ startPc := 0, endPc := 12, handlerPc := 27, catchType := 24 } : ExceptionTableEntry) [] htab (fun z9 hz9 => by
          simp only [List.mem_cons, List.not_mem_nil, or_false] at hz9
          rcases hz9 with rfl | rfl | rfl
          · exact ⟨by decide, _, htb _ wd82, hN.2.2.1⟩
          · exact ⟨by decide, _, htb _ wd83, hN.2.2.2.2.1⟩
          · exact ⟨by decide, _, htb _ wd293, hN.2.2.2.2.2⟩) (by decide) (by decide) (htb _ wd190) (htb _ wd201) hx9 ho9 hf9 ?_
      have hP := hP9
      have hS := hS9
      refine lv_astore (lv' := [(5, .ref x9), (0, .ref (f0 f)), (1, .int st), (2, .int x), (3, .int k), (4, .ref ot)]) hx hb dL_root_27 hl (by decide) rfl (fun ls hl => ?_)
      refine lv_iconst (v := 4) hx hb dL_root_29 (by decide) ?_
      exact mx_iret (v := 4) (M' := M) hx hb hr hlocks hP hS (lw_Wp.no (k := 3) hk9 hR hot) dL_root_30 (Nat.le_of_ble_eq_true rfl) (Nat.le_of_ble_eq_true rfl)
    · rw [List.getElem?_eq_none h9] at hE9
      cases hE9
-- L_signs
set_option maxHeartbeats 4000000 in
set_option maxRecDepth 100000 in
theorem kL_signs (l : Launch) (htr : l.stackTraces = false) (G : gx_G) (sz : Nat) (M : mw_M) (f : fs_A) (S : fs_S) (hR : fs_R G f M S) (hX : ∀ a, fX f a → M a ≠ none) (hA : ∀ q : Nat, sz ≤ q → gA G q) (ot : Nat) (g0 : Nat → Int64) (hot : M ot = some (.inl (gJ G, 1, .inr (.inl g0)))) (hnmu : ¬ fs_mu f ot) (hfx : fX f ot) (hAot : gA G ot)  (st cr b lt a sg : Int32) : g_MetN l G yL_signs (.codeWith yL_signs cL_signs 9 (some .int) [((0 : Nat), (18 : Nat), (21 : Nat), (13 : Nat)), ((0 : Nat), (18 : Nat), (25 : Nat), (15 : Nat)), ((0 : Nat), (18 : Nat), (29 : Nat), (24 : Nat))]) ({ frames := 10, cells := 20, slots := 900, locals := 350 } : Room) sz M [.ref (f0 f), .int st, .int cr, .int b, .int lt, .int a, .int sg, .ref ot] (lw_Wp G f ot M S (ex_lim S st b a sg) (nI (sN S)) (fs_push S (re_signs S st cr b lt a sg))) := by
  refine MetE.ofWW (cc := cL_signs) (maxL := 9) (ret := (some .int)) (hh := [((0 : Nat), (18 : Nat), (21 : Nat), (13 : Nat)), ((0 : Nat), (18 : Nat), (25 : Nat), (15 : Nat)), ((0 : Nat), (18 : Nat), (29 : Nat), (24 : Nat))]) (by decide) rfl ?_
  intro p e s m args below meth c s₁ B hml hv
  obtain ⟨rfl, hsz, hP, hE, hN⟩ := hv
  have hx := B.exec
  have hb := B.bytes
  have hr := B.returns
  have hts := atoms_spec (ws := _ :: lw_big) B.pre
  have htb : ∀ w ∈ lw_big, w.before _ s = true := fun w h => hts w (List.mem_cons_of_mem _ h)
  have htab := tb_body B (hts _ List.mem_cons_self)
  have hown : s.vm.findClass RL = some m.cls := findClass_of_methodNamed B.named
  have hlocks := B.notSynchronized
  have hK := hE.1
  subst hsz
  have hAn : ∀ q : Nat, s.heap.size ≤ q → gA G q := hA
  have hS : va_S (gA G) s.heap s.heap [] := va_S.rf
  have hl := lv_entry ([.ref (f0 f), .int st, .int cr, .int b, .int lt, .int a, .int sg, .ref ot]) (n := 9) (Nat.le_of_ble_eq_true rfl)
  rw [lg_entry_eq]
  generalize (lg_sl ([.ref (f0 f), .int st, .int cr, .int b, .int lt, .int a, .int sg, .ref ot]) ++ List.replicate (9 - (lg_sl ([.ref (f0 f), .int st, .int cr, .int b, .int lt, .int a, .int sg, .ref ot])).length) Slot.unset).toArray = ls at hl ⊢
  have hl : lv_has ls 9 [(0, .ref (f0 f)), (1, .int st), (2, .int cr), (3, .int b), (4, .int lt), (5, .int a), (6, .int sg), (7, .ref ot)] := hl
  refine lv_aload hx hb dL_signs_0 (lv_at hl 7 rfl) ?_
  refine lv_iconst (v := 0) hx hb dL_signs_2 (by decide) ?_
  refine lv_aload_n hx hb dL_signs_3 rfl (lv_at hl 0 rfl) ?_
  refine lv_iload_n hx hb dL_signs_4 rfl (lv_at hl 1 rfl) ?_
  refine lv_iload_n hx hb dL_signs_5 rfl (lv_at hl 2 rfl) ?_
  refine lv_iload_n hx hb dL_signs_6 rfl (lv_at hl 3 rfl) ?_
  refine lv_iload hx hb dL_signs_7 (lv_at hl 4 rfl) ?_
  refine lv_iload hx hb dL_signs_9 (lv_at hl 5 rfl) ?_
  refine lv_iload hx hb dL_signs_11 (lv_at hl 6 rfl) ?_
  refine mw_callV (C := RX3) (As := [.int st, .int cr, .int b, .int lt, .int a, .int sg]) (rest := [.int 0, .ref ot]) hx hb hml hown hl (kX3_signs l htr G s.heap.size M f S hR hX (fun q h => hAn q (Nat.le_trans hS.1 h)) st cr b lt a sg) (g_B (n := 6) htb wd436 wd1 wd433 (by decide +kernel) ⟨Nat.le_of_ble_eq_true rfl, Nat.le_of_ble_eq_true rfl⟩) (htb _ wd434) (htb _ wd435) hE hP hS (fs_R.this hR) rfl rfl rfl (Nat.le_of_ble_eq_true rfl) dL_signs_13 ⟨Nat.le_of_ble_eq_true rfl, Nat.le_of_ble_eq_true rfl⟩ (fun v9 M9 H locs hpo hP hz hS => ?_) (fun x9 E9 cell9 H9 locs9 hE9 hx9 ho9 hf9 hP9 hz9 hS9 => ?_)
  · obtain ⟨hex, rfl, hR1, hk1⟩ := hpo
    refine W.eq (g2 := F0 m 16 ls [.int (nI (sN S)), .int 0, .ref ot]) rfl ?_
    refine lv_i2l hx hb dL_signs_16 rfl ?_
    refine mw_last (x := (nI (sN S)).toInt64) hx hb hK hP hS 3 (hk1 _ _ hnmu hot) hAot rfl (by unfold vp_in; decide) dL_signs_17 (fun H locs hP hS => ?_)
    refine lv_goto (tgt := 33) hx hb dL_signs_18 (by decide) ?_
    refine lv_iconst (v := 0) hx hb dL_signs_33 (by decide) ?_
    exact mx_iret (v := 0) (M' := (mw_up M9 ot (.inl (gJ G, 1, .inr (.inl (vp_updL g0 (0 : Int32).toNatClampNeg (nI (sN S)).toInt64)))))) hx hb hr hlocks hP hS (lw_Wp.ok hex hR1 hk1 hfx hnmu) dL_signs_34 (Nat.le_of_ble_eq_true rfl) (Nat.le_of_ble_eq_true rfl)
  · obtain ⟨k9, hk9, hE9⟩ := hE9
    rcases (show k9 = 0 ∨ k9 = 1 ∨ k9 = 2 ∨ 3 ≤ k9 by omega) with rfl | rfl | rfl | h9
    · obtain rfl := Option.some.inj hE9
      refine mx_catch (E := "java/lang/IndexOutOfBoundsException") (name := "java/lang/IndexOutOfBoundsException") hown [] ({ startPc := 0, endPc := 18, handlerPc := 21, catchType := 13 } : ExceptionTableEntry) [({ startPc := 0, endPc := 18, handlerPc := 25, catchType := 15 } : ExceptionTableEntry), ({ startPc := 0, endPc := 18, handlerPc := 29, catchType := 24 } : ExceptionTableEntry)] htab (fun z9 hz9 => nomatch hz9) (by decide) (by decide) (htb _ wd82) (htb _ wd90) hx9 ho9 hf9 ?_
      have hP := hP9
      have hS := hS9
      refine lv_astore (lv' := [(8, .ref x9), (0, .ref (f0 f)), (1, .int st), (2, .int cr), (3, .int b), (4, .int lt), (5, .int a), (6, .int sg), (7, .ref ot)]) hx hb dL_signs_21 hl (by decide) rfl (fun ls hl => ?_)
      refine lv_iconst (v := 1) hx hb dL_signs_23 (by decide) ?_
      exact mx_iret (v := 1) (M' := M) hx hb hr hlocks hP hS (lw_Wp.no (k := 0) hk9 hR hot) dL_signs_24 (Nat.le_of_ble_eq_true rfl) (Nat.le_of_ble_eq_true rfl)
    · obtain rfl := Option.some.inj hE9
      refine mx_catch (E := "java/lang/IllegalArgumentException") (name := "java/lang/IllegalArgumentException") hown [({ startPc := 0, endPc := 18, handlerPc := 21, catchType := 13 } : ExceptionTableEntry)] ({ startPc := 0, endPc := 18, handlerPc := 25, catchType := 15 } : ExceptionTableEntry) [({ startPc := 0, endPc := 18, handlerPc := 29, catchType := 24 } : ExceptionTableEntry)] htab (fun z9 hz9 => by
          simp only [List.mem_cons, List.not_mem_nil, or_false] at hz9
          rcases hz9 with rfl
          · exact ⟨by decide, _, htb _ wd82, hN.1⟩) (by decide) (by decide) (htb _ wd83) (htb _ wd165) hx9 ho9 hf9 ?_
      have hP := hP9
      have hS := hS9
      refine lv_astore (lv' := [(8, .ref x9), (0, .ref (f0 f)), (1, .int st), (2, .int cr), (3, .int b), (4, .int lt), (5, .int a), (6, .int sg), (7, .ref ot)]) hx hb dL_signs_25 hl (by decide) rfl (fun ls hl => ?_)
      refine lv_iconst (v := 2) hx hb dL_signs_27 (by decide) ?_
      exact mx_iret (v := 2) (M' := M) hx hb hr hlocks hP hS (lw_Wp.no (k := 1) hk9 hR hot) dL_signs_28 (Nat.le_of_ble_eq_true rfl) (Nat.le_of_ble_eq_true rfl)
    · obtain rfl := Option.some.inj hE9
      refine mx_catch (E := "java/lang/UnsupportedOperationException") (name := "java/lang/UnsupportedOperationException") hown [({ startPc := 0, endPc := 18, handlerPc := 21, catchType := 13 } : ExceptionTableEntry), ({ startPc := 0, endPc := 18, handlerPc := 25, catchType := 15 } : ExceptionTableEntry)] ({ startPc := 0, endPc := 18, handlerPc := 29, catchType := 24 } : ExceptionTableEntry) [] htab (fun z9 hz9 => by
          simp only [List.mem_cons, List.not_mem_nil, or_false] at hz9
          rcases hz9 with rfl | rfl
          · exact ⟨by decide, _, htb _ wd82, hN.2.2.1⟩
          · exact ⟨by decide, _, htb _ wd83, hN.2.2.2.2.1⟩) (by decide) (by decide) (htb _ wd190) (htb _ wd201) hx9 ho9 hf9 ?_
      have hP := hP9
      have hS := hS9
      refine lv_astore (lv' := [(8, .ref x9), (0, .ref (f0 f)), (1, .int st), (2, .int cr), (3, .int b), (4, .int lt), (5, .int a), (6, .int sg), (7, .ref ot)]) hx hb dL_signs_29 hl (by decide) rfl (fun ls hl => ?_)
      refine lv_iconst (v := 3) hx hb dL_signs_31 (by decide) ?_
      exact mx_iret (v := 3) (M' := M) hx hb hr hlocks hP hS (lw_Wp.no (k := 2) hk9 hR hot) dL_signs_32 (Nat.le_of_ble_eq_true rfl) (Nat.le_of_ble_eq_true rfl)
    · rw [List.getElem?_eq_none h9] at hE9
      cases hE9
-- L_limits
set_option maxHeartbeats 4000000 in
set_option maxRecDepth 100000 in
theorem kL_limits (l : Launch) (htr : l.stackTraces = false) (G : gx_G) (sz : Nat) (M : mw_M) (f : fs_A) (S : fs_S) (hR : fs_R G f M S) (hX : ∀ a, fX f a → M a ≠ none) (hA : ∀ q : Nat, sz ≤ q → gA G q) (ot : Nat) (g0 : Nat → Int64) (hot : M ot = some (.inl (gJ G, 1, .inr (.inl g0)))) (hnmu : ¬ fs_mu f ot) (hfx : fX f ot) (hAot : gA G ot)  (st b a sg : Int32) : g_MetN l G yL_limits (.codeWith yL_limits cL_limits 7 (some .int) [((0 : Nat), (14 : Nat), (17 : Nat), (13 : Nat)), ((0 : Nat), (14 : Nat), (21 : Nat), (15 : Nat)), ((0 : Nat), (14 : Nat), (25 : Nat), (24 : Nat))]) ({ frames := 10, cells := 20, slots := 900, locals := 350 } : Room) sz M [.ref (f0 f), .int st, .int b, .int a, .int sg, .ref ot] (lw_Wp G f ot M S (ex_lim S st b a sg) (nI (sN S)) (fs_push S (fs_lm S (fIx st) (fIx b) a sg))) := by
  refine MetE.ofWW (cc := cL_limits) (maxL := 7) (ret := (some .int)) (hh := [((0 : Nat), (14 : Nat), (17 : Nat), (13 : Nat)), ((0 : Nat), (14 : Nat), (21 : Nat), (15 : Nat)), ((0 : Nat), (14 : Nat), (25 : Nat), (24 : Nat))]) (by decide) rfl ?_
  intro p e s m args below meth c s₁ B hml hv
  obtain ⟨rfl, hsz, hP, hE, hN⟩ := hv
  have hx := B.exec
  have hb := B.bytes
  have hr := B.returns
  have hts := atoms_spec (ws := _ :: lw_big) B.pre
  have htb : ∀ w ∈ lw_big, w.before _ s = true := fun w h => hts w (List.mem_cons_of_mem _ h)
  have htab := tb_body B (hts _ List.mem_cons_self)
  have hown : s.vm.findClass RL = some m.cls := findClass_of_methodNamed B.named
  have hlocks := B.notSynchronized
  have hK := hE.1
  subst hsz
  have hAn : ∀ q : Nat, s.heap.size ≤ q → gA G q := hA
  have hS : va_S (gA G) s.heap s.heap [] := va_S.rf
  have hl := lv_entry ([.ref (f0 f), .int st, .int b, .int a, .int sg, .ref ot]) (n := 7) (Nat.le_of_ble_eq_true rfl)
  rw [lg_entry_eq]
  generalize (lg_sl ([.ref (f0 f), .int st, .int b, .int a, .int sg, .ref ot]) ++ List.replicate (7 - (lg_sl ([.ref (f0 f), .int st, .int b, .int a, .int sg, .ref ot])).length) Slot.unset).toArray = ls at hl ⊢
  have hl : lv_has ls 7 [(0, .ref (f0 f)), (1, .int st), (2, .int b), (3, .int a), (4, .int sg), (5, .ref ot)] := hl
  refine lv_aload hx hb dL_limits_0 (lv_at hl 5 rfl) ?_
  refine lv_iconst (v := 0) hx hb dL_limits_2 (by decide) ?_
  refine lv_aload_n hx hb dL_limits_3 rfl (lv_at hl 0 rfl) ?_
  refine lv_iload_n hx hb dL_limits_4 rfl (lv_at hl 1 rfl) ?_
  refine lv_iload_n hx hb dL_limits_5 rfl (lv_at hl 2 rfl) ?_
  refine lv_iload_n hx hb dL_limits_6 rfl (lv_at hl 3 rfl) ?_
  refine lv_iload hx hb dL_limits_7 (lv_at hl 4 rfl) ?_
  refine mw_callV (C := RX3) (As := [.int st, .int b, .int a, .int sg]) (rest := [.int 0, .ref ot]) hx hb hml hown hl (kX3_limits l htr G s.heap.size M f S hR hX (fun q h => hAn q (Nat.le_trans hS.1 h)) st b a sg) (g_B (n := 4) htb wd467 wd1 wd464 (by decide +kernel) ⟨Nat.le_of_ble_eq_true rfl, Nat.le_of_ble_eq_true rfl⟩) (htb _ wd465) (htb _ wd466) hE hP hS (fs_R.this hR) rfl rfl rfl (Nat.le_of_ble_eq_true rfl) dL_limits_9 ⟨Nat.le_of_ble_eq_true rfl, Nat.le_of_ble_eq_true rfl⟩ (fun v9 M9 H locs hpo hP hz hS => ?_) (fun x9 E9 cell9 H9 locs9 hE9 hx9 ho9 hf9 hP9 hz9 hS9 => ?_)
  · obtain ⟨hex, rfl, hR1, hk1⟩ := hpo
    refine W.eq (g2 := F0 m 12 ls [.int (nI (sN S)), .int 0, .ref ot]) rfl ?_
    refine lv_i2l hx hb dL_limits_12 rfl ?_
    refine mw_last (x := (nI (sN S)).toInt64) hx hb hK hP hS 3 (hk1 _ _ hnmu hot) hAot rfl (by unfold vp_in; decide) dL_limits_13 (fun H locs hP hS => ?_)
    refine lv_goto (tgt := 29) hx hb dL_limits_14 (by decide) ?_
    refine lv_iconst (v := 0) hx hb dL_limits_29 (by decide) ?_
    exact mx_iret (v := 0) (M' := (mw_up M9 ot (.inl (gJ G, 1, .inr (.inl (vp_updL g0 (0 : Int32).toNatClampNeg (nI (sN S)).toInt64)))))) hx hb hr hlocks hP hS (lw_Wp.ok hex hR1 hk1 hfx hnmu) dL_limits_30 (Nat.le_of_ble_eq_true rfl) (Nat.le_of_ble_eq_true rfl)
  · obtain ⟨k9, hk9, hE9⟩ := hE9
    rcases (show k9 = 0 ∨ k9 = 1 ∨ k9 = 2 ∨ 3 ≤ k9 by omega) with rfl | rfl | rfl | h9
    · obtain rfl := Option.some.inj hE9
      refine mx_catch (E := "java/lang/IndexOutOfBoundsException") (name := "java/lang/IndexOutOfBoundsException") hown [] ({ startPc := 0, endPc := 14, handlerPc := 17, catchType := 13 } : ExceptionTableEntry) [({ startPc := 0, endPc := 14, handlerPc := 21, catchType := 15 } : ExceptionTableEntry), ({ startPc := 0, endPc := 14, handlerPc := 25, catchType := 24 } : ExceptionTableEntry)] htab (fun z9 hz9 => nomatch hz9) (by decide) (by decide) (htb _ wd82) (htb _ wd90) hx9 ho9 hf9 ?_
      have hP := hP9
      have hS := hS9
      refine lv_astore (lv' := [(6, .ref x9), (0, .ref (f0 f)), (1, .int st), (2, .int b), (3, .int a), (4, .int sg), (5, .ref ot)]) hx hb dL_limits_17 hl (by decide) rfl (fun ls hl => ?_)
      refine lv_iconst (v := 1) hx hb dL_limits_19 (by decide) ?_
      exact mx_iret (v := 1) (M' := M) hx hb hr hlocks hP hS (lw_Wp.no (k := 0) hk9 hR hot) dL_limits_20 (Nat.le_of_ble_eq_true rfl) (Nat.le_of_ble_eq_true rfl)
    · obtain rfl := Option.some.inj hE9
      refine mx_catch (E := "java/lang/IllegalArgumentException") (name := "java/lang/IllegalArgumentException") hown [({ startPc := 0, endPc := 14, handlerPc := 17, catchType := 13 } : ExceptionTableEntry)] ({ startPc := 0, endPc := 14, handlerPc := 21, catchType := 15 } : ExceptionTableEntry) [({ startPc := 0, endPc := 14, handlerPc := 25, catchType := 24 } : ExceptionTableEntry)] htab (fun z9 hz9 => by
          simp only [List.mem_cons, List.not_mem_nil, or_false] at hz9
          rcases hz9 with rfl
          · exact ⟨by decide, _, htb _ wd82, hN.1⟩) (by decide) (by decide) (htb _ wd83) (htb _ wd165) hx9 ho9 hf9 ?_
      have hP := hP9
      have hS := hS9
      refine lv_astore (lv' := [(6, .ref x9), (0, .ref (f0 f)), (1, .int st), (2, .int b), (3, .int a), (4, .int sg), (5, .ref ot)]) hx hb dL_limits_21 hl (by decide) rfl (fun ls hl => ?_)
      refine lv_iconst (v := 2) hx hb dL_limits_23 (by decide) ?_
      exact mx_iret (v := 2) (M' := M) hx hb hr hlocks hP hS (lw_Wp.no (k := 1) hk9 hR hot) dL_limits_24 (Nat.le_of_ble_eq_true rfl) (Nat.le_of_ble_eq_true rfl)
    · obtain rfl := Option.some.inj hE9
      refine mx_catch (E := "java/lang/UnsupportedOperationException") (name := "java/lang/UnsupportedOperationException") hown [({ startPc := 0, endPc := 14, handlerPc := 17, catchType := 13 } : ExceptionTableEntry), ({ startPc := 0, endPc := 14, handlerPc := 21, catchType := 15 } : ExceptionTableEntry)] ({ startPc := 0, endPc := 14, handlerPc := 25, catchType := 24 } : ExceptionTableEntry) [] htab (fun z9 hz9 => by
          simp only [List.mem_cons, List.not_mem_nil, or_false] at hz9
          rcases hz9 with rfl | rfl
          · exact ⟨by decide, _, htb _ wd82, hN.2.2.1⟩
          · exact ⟨by decide, _, htb _ wd83, hN.2.2.2.2.1⟩) (by decide) (by decide) (htb _ wd190) (htb _ wd201) hx9 ho9 hf9 ?_
      have hP := hP9
      have hS := hS9
      refine lv_astore (lv' := [(6, .ref x9), (0, .ref (f0 f)), (1, .int st), (2, .int b), (3, .int a), (4, .int sg), (5, .ref ot)]) hx hb dL_limits_25 hl (by decide) rfl (fun ls hl => ?_)
      refine lv_iconst (v := 3) hx hb dL_limits_27 (by decide) ?_
      exact mx_iret (v := 3) (M' := M) hx hb hr hlocks hP hS (lw_Wp.no (k := 2) hk9 hR hot) dL_limits_28 (Nat.le_of_ble_eq_true rfl) (Nat.le_of_ble_eq_true rfl)
    · rw [List.getElem?_eq_none h9] at hE9
      cases hE9
-- L_brackets
set_option maxHeartbeats 4000000 in
set_option maxRecDepth 100000 in
theorem kL_brackets (l : Launch) (htr : l.stackTraces = false) (G : gx_G) (sz : Nat) (M : mw_M) (f : fs_A) (S : fs_S) (hR : fs_R G f M S) (hX : ∀ a, fX f a → M a ≠ none) (hA : ∀ q : Nat, sz ≤ q → gA G q) (ot : Nat) (g0 : Nat → Int64) (hot : M ot = some (.inl (gJ G, 1, .inr (.inl g0)))) (hnmu : ¬ fs_mu f ot) (hfx : fX f ot) (hAot : gA G ot)  (st a x b : Int32) : g_MetN l G yL_brackets (.codeWith yL_brackets cL_brackets 7 (some .int) [((0 : Nat), (14 : Nat), (17 : Nat), (13 : Nat)), ((0 : Nat), (14 : Nat), (21 : Nat), (15 : Nat)), ((0 : Nat), (14 : Nat), (25 : Nat), (36 : Nat)), ((0 : Nat), (14 : Nat), (29 : Nat), (24 : Nat))]) ({ frames := 10, cells := 20, slots := 900, locals := 350 } : Room) sz M [.ref (f0 f), .int st, .int a, .int x, .int b, .ref ot] (lw_Wp G f ot M S (ex_brackets S st a x b) (nI (sN (br_S S st a x b))) (fs_push (br_S S st a x b) (re_brackets S st a x b))) := by
  refine MetE.ofWW (cc := cL_brackets) (maxL := 7) (ret := (some .int)) (hh := [((0 : Nat), (14 : Nat), (17 : Nat), (13 : Nat)), ((0 : Nat), (14 : Nat), (21 : Nat), (15 : Nat)), ((0 : Nat), (14 : Nat), (25 : Nat), (36 : Nat)), ((0 : Nat), (14 : Nat), (29 : Nat), (24 : Nat))]) (by decide) rfl ?_
  intro p e s m args below meth c s₁ B hml hv
  obtain ⟨rfl, hsz, hP, hE, hN⟩ := hv
  have hx := B.exec
  have hb := B.bytes
  have hr := B.returns
  have hts := atoms_spec (ws := _ :: lw_big) B.pre
  have htb : ∀ w ∈ lw_big, w.before _ s = true := fun w h => hts w (List.mem_cons_of_mem _ h)
  have htab := tb_body B (hts _ List.mem_cons_self)
  have hown : s.vm.findClass RL = some m.cls := findClass_of_methodNamed B.named
  have hlocks := B.notSynchronized
  have hK := hE.1
  subst hsz
  have hAn : ∀ q : Nat, s.heap.size ≤ q → gA G q := hA
  have hS : va_S (gA G) s.heap s.heap [] := va_S.rf
  have hl := lv_entry ([.ref (f0 f), .int st, .int a, .int x, .int b, .ref ot]) (n := 7) (Nat.le_of_ble_eq_true rfl)
  rw [lg_entry_eq]
  generalize (lg_sl ([.ref (f0 f), .int st, .int a, .int x, .int b, .ref ot]) ++ List.replicate (7 - (lg_sl ([.ref (f0 f), .int st, .int a, .int x, .int b, .ref ot])).length) Slot.unset).toArray = ls at hl ⊢
  have hl : lv_has ls 7 [(0, .ref (f0 f)), (1, .int st), (2, .int a), (3, .int x), (4, .int b), (5, .ref ot)] := hl
  refine lv_aload hx hb dL_brackets_0 (lv_at hl 5 rfl) ?_
  refine lv_iconst (v := 0) hx hb dL_brackets_2 (by decide) ?_
  refine lv_aload_n hx hb dL_brackets_3 rfl (lv_at hl 0 rfl) ?_
  refine lv_iload_n hx hb dL_brackets_4 rfl (lv_at hl 1 rfl) ?_
  refine lv_iload_n hx hb dL_brackets_5 rfl (lv_at hl 2 rfl) ?_
  refine lv_iload_n hx hb dL_brackets_6 rfl (lv_at hl 3 rfl) ?_
  refine lv_iload hx hb dL_brackets_7 (lv_at hl 4 rfl) ?_
  refine mw_callV (C := RX3) (As := [.int st, .int a, .int x, .int b]) (rest := [.int 0, .ref ot]) hx hb hml hown hl (kX3_brackets l htr G s.heap.size M f S hR hX (fun q h => hAn q (Nat.le_trans hS.1 h)) st a x b) (g_B (n := 4) htb wd478 wd1 wd475 (by decide +kernel) ⟨Nat.le_of_ble_eq_true rfl, Nat.le_of_ble_eq_true rfl⟩) (htb _ wd476) (htb _ wd477) hE hP hS (fs_R.this hR) rfl rfl rfl (Nat.le_of_ble_eq_true rfl) dL_brackets_9 ⟨Nat.le_of_ble_eq_true rfl, Nat.le_of_ble_eq_true rfl⟩ (fun v9 M9 H locs hpo hP hz hS => ?_) (fun x9 E9 cell9 H9 locs9 hE9 hx9 ho9 hf9 hP9 hz9 hS9 => ?_)
  · obtain ⟨hex, rfl, hR1, hk1⟩ := hpo
    refine W.eq (g2 := F0 m 12 ls [.int (nI (sN (br_S S st a x b))), .int 0, .ref ot]) rfl ?_
    refine lv_i2l hx hb dL_brackets_12 rfl ?_
    refine mw_last (x := (nI (sN (br_S S st a x b))).toInt64) hx hb hK hP hS 3 (hk1 _ _ hnmu hot) hAot rfl (by unfold vp_in; decide) dL_brackets_13 (fun H locs hP hS => ?_)
    refine lv_goto (tgt := 33) hx hb dL_brackets_14 (by decide) ?_
    refine lv_iconst (v := 0) hx hb dL_brackets_33 (by decide) ?_
    exact mx_iret (v := 0) (M' := (mw_up M9 ot (.inl (gJ G, 1, .inr (.inl (vp_updL g0 (0 : Int32).toNatClampNeg (nI (sN (br_S S st a x b))).toInt64)))))) hx hb hr hlocks hP hS (lw_Wp.ok hex hR1 hk1 hfx hnmu) dL_brackets_34 (Nat.le_of_ble_eq_true rfl) (Nat.le_of_ble_eq_true rfl)
  · obtain ⟨k9, hk9, hE9⟩ := hE9
    rcases (show k9 = 0 ∨ k9 = 1 ∨ k9 = 2 ∨ k9 = 3 ∨ 4 ≤ k9 by omega) with rfl | rfl | rfl | rfl | h9
    · obtain rfl := Option.some.inj hE9
      refine mx_catch (E := "java/lang/IndexOutOfBoundsException") (name := "java/lang/IndexOutOfBoundsException") hown [] ({ startPc := 0, endPc := 14, handlerPc := 17, catchType := 13 } : ExceptionTableEntry) [({ startPc := 0, endPc := 14, handlerPc := 21, catchType := 15 } : ExceptionTableEntry), ({ startPc := 0, endPc := 14, handlerPc := 25, catchType := 36 } : ExceptionTableEntry), ({ startPc := 0, endPc := 14, handlerPc := 29, catchType := 24 } : ExceptionTableEntry)] htab (fun z9 hz9 => nomatch hz9) (by decide) (by decide) (htb _ wd82) (htb _ wd90) hx9 ho9 hf9 ?_
      have hP := hP9
      have hS := hS9
      refine lv_astore (lv' := [(6, .ref x9), (0, .ref (f0 f)), (1, .int st), (2, .int a), (3, .int x), (4, .int b), (5, .ref ot)]) hx hb dL_brackets_17 hl (by decide) rfl (fun ls hl => ?_)
      refine lv_iconst (v := 1) hx hb dL_brackets_19 (by decide) ?_
      exact mx_iret (v := 1) (M' := M) hx hb hr hlocks hP hS (lw_Wp.no (k := 0) hk9 hR hot) dL_brackets_20 (Nat.le_of_ble_eq_true rfl) (Nat.le_of_ble_eq_true rfl)
    · obtain rfl := Option.some.inj hE9
      refine mx_catch (E := "java/lang/IllegalArgumentException") (name := "java/lang/IllegalArgumentException") hown [({ startPc := 0, endPc := 14, handlerPc := 17, catchType := 13 } : ExceptionTableEntry)] ({ startPc := 0, endPc := 14, handlerPc := 21, catchType := 15 } : ExceptionTableEntry) [({ startPc := 0, endPc := 14, handlerPc := 25, catchType := 36 } : ExceptionTableEntry), ({ startPc := 0, endPc := 14, handlerPc := 29, catchType := 24 } : ExceptionTableEntry)] htab (fun z9 hz9 => by
          simp only [List.mem_cons, List.not_mem_nil, or_false] at hz9
          rcases hz9 with rfl
          · exact ⟨by decide, _, htb _ wd82, hN.1⟩) (by decide) (by decide) (htb _ wd83) (htb _ wd165) hx9 ho9 hf9 ?_
      have hP := hP9
      have hS := hS9
      refine lv_astore (lv' := [(6, .ref x9), (0, .ref (f0 f)), (1, .int st), (2, .int a), (3, .int x), (4, .int b), (5, .ref ot)]) hx hb dL_brackets_21 hl (by decide) rfl (fun ls hl => ?_)
      refine lv_iconst (v := 2) hx hb dL_brackets_23 (by decide) ?_
      exact mx_iret (v := 2) (M' := M) hx hb hr hlocks hP hS (lw_Wp.no (k := 1) hk9 hR hot) dL_brackets_24 (Nat.le_of_ble_eq_true rfl) (Nat.le_of_ble_eq_true rfl)
    · obtain rfl := Option.some.inj hE9
      refine mx_catch (E := "java/lang/IllegalStateException") (name := "java/lang/IllegalStateException") hown [({ startPc := 0, endPc := 14, handlerPc := 17, catchType := 13 } : ExceptionTableEntry), ({ startPc := 0, endPc := 14, handlerPc := 21, catchType := 15 } : ExceptionTableEntry)] ({ startPc := 0, endPc := 14, handlerPc := 25, catchType := 36 } : ExceptionTableEntry) [({ startPc := 0, endPc := 14, handlerPc := 29, catchType := 24 } : ExceptionTableEntry)] htab (fun z9 hz9 => by
          simp only [List.mem_cons, List.not_mem_nil, or_false] at hz9
          rcases hz9 with rfl | rfl
          · exact ⟨by decide, _, htb _ wd82, hN.2.1⟩
          · exact ⟨by decide, _, htb _ wd83, hN.2.2.2.1⟩) (by decide) (by decide) (htb _ wd293) (htb _ wd304) hx9 ho9 hf9 ?_
      have hP := hP9
      have hS := hS9
      refine lv_astore (lv' := [(6, .ref x9), (0, .ref (f0 f)), (1, .int st), (2, .int a), (3, .int x), (4, .int b), (5, .ref ot)]) hx hb dL_brackets_25 hl (by decide) rfl (fun ls hl => ?_)
      refine lv_iconst (v := 3) hx hb dL_brackets_27 (by decide) ?_
      exact mx_iret (v := 3) (M' := M) hx hb hr hlocks hP hS (lw_Wp.no (k := 2) hk9 hR hot) dL_brackets_28 (Nat.le_of_ble_eq_true rfl) (Nat.le_of_ble_eq_true rfl)
    · obtain rfl := Option.some.inj hE9
      refine mx_catch (E := "java/lang/UnsupportedOperationException") (name := "java/lang/UnsupportedOperationException") hown [({ startPc := 0, endPc := 14, handlerPc := 17, catchType := 13 } : ExceptionTableEntry), ({ startPc := 0, endPc := 14, handlerPc := 21, catchType := 15 } : ExceptionTableEntry), ({ startPc := 0, endPc := 14, handlerPc := 25, catchType := 36 } : ExceptionTableEntry)] ({ startPc := 0, endPc := 14, handlerPc := 29, catchType := 24 } : ExceptionTableEntry) [] htab (fun z9 hz9 => by
          simp only [List.mem_cons, List.not_mem_nil, or_false] at hz9
          rcases hz9 with rfl | rfl | rfl
          · exact ⟨by decide, _, htb _ wd82, hN.2.2.1⟩
          · exact ⟨by decide, _, htb _ wd83, hN.2.2.2.2.1⟩
          · exact ⟨by decide, _, htb _ wd293, hN.2.2.2.2.2⟩) (by decide) (by decide) (htb _ wd190) (htb _ wd201) hx9 ho9 hf9 ?_
      have hP := hP9
      have hS := hS9
      refine lv_astore (lv' := [(6, .ref x9), (0, .ref (f0 f)), (1, .int st), (2, .int a), (3, .int x), (4, .int b), (5, .ref ot)]) hx hb dL_brackets_29 hl (by decide) rfl (fun ls hl => ?_)
      refine lv_iconst (v := 4) hx hb dL_brackets_31 (by decide) ?_
      exact mx_iret (v := 4) (M' := M) hx hb hr hlocks hP hS (lw_Wp.no (k := 3) hk9 hR hot) dL_brackets_32 (Nat.le_of_ble_eq_true rfl) (Nat.le_of_ble_eq_true rfl)
    · rw [List.getElem?_eq_none h9] at hE9
      cases hE9
-- L_row
set_option maxHeartbeats 4000000 in
set_option maxRecDepth 100000 in
theorem kL_row (l : Launch) (htr : l.stackTraces = false) (G : gx_G) (sz : Nat) (M : mw_M) (f : fs_A) (S : fs_S) (hR : fs_R G f M S) (hX : ∀ a, fX f a → M a ≠ none) (hA : ∀ q : Nat, sz ≤ q → gA G q) (ot : Nat) (g0 : Nat → Int64) (hot : M ot = some (.inl (gJ G, 1, .inr (.inl g0)))) (hnmu : ¬ fs_mu f ot) (hfx : fX f ot) (hAot : gA G ot)  (a gp b : Int32) : g_MetN l G yL_row (.codeWith yL_row cL_row 6 (some .int) [((0 : Nat), (12 : Nat), (15 : Nat), (13 : Nat)), ((0 : Nat), (12 : Nat), (19 : Nat), (15 : Nat)), ((0 : Nat), (12 : Nat), (23 : Nat), (24 : Nat))]) ({ frames := 10, cells := 20, slots := 900, locals := 350 } : Room) sz M [.ref (f0 f), .int a, .int gp, .int b, .ref ot] (lw_Wp G f ot M S (ex_row S a gp b) (nI (sN S)) (fs_push S (re_row S a gp b))) := by
  refine MetE.ofWW (cc := cL_row) (maxL := 6) (ret := (some .int)) (hh := [((0 : Nat), (12 : Nat), (15 : Nat), (13 : Nat)), ((0 : Nat), (12 : Nat), (19 : Nat), (15 : Nat)), ((0 : Nat), (12 : Nat), (23 : Nat), (24 : Nat))]) (by decide) rfl ?_
  intro p e s m args below meth c s₁ B hml hv
  obtain ⟨rfl, hsz, hP, hE, hN⟩ := hv
  have hx := B.exec
  have hb := B.bytes
  have hr := B.returns
  have hts := atoms_spec (ws := _ :: lw_big) B.pre
  have htb : ∀ w ∈ lw_big, w.before _ s = true := fun w h => hts w (List.mem_cons_of_mem _ h)
  have htab := tb_body B (hts _ List.mem_cons_self)
  have hown : s.vm.findClass RL = some m.cls := findClass_of_methodNamed B.named
  have hlocks := B.notSynchronized
  have hK := hE.1
  subst hsz
  have hAn : ∀ q : Nat, s.heap.size ≤ q → gA G q := hA
  have hS : va_S (gA G) s.heap s.heap [] := va_S.rf
  have hl := lv_entry ([.ref (f0 f), .int a, .int gp, .int b, .ref ot]) (n := 6) (Nat.le_of_ble_eq_true rfl)
  rw [lg_entry_eq]
  generalize (lg_sl ([.ref (f0 f), .int a, .int gp, .int b, .ref ot]) ++ List.replicate (6 - (lg_sl ([.ref (f0 f), .int a, .int gp, .int b, .ref ot])).length) Slot.unset).toArray = ls at hl ⊢
  have hl : lv_has ls 6 [(0, .ref (f0 f)), (1, .int a), (2, .int gp), (3, .int b), (4, .ref ot)] := hl
  refine lv_aload hx hb dL_row_0 (lv_at hl 4 rfl) ?_
  refine lv_iconst (v := 0) hx hb dL_row_2 (by decide) ?_
  refine lv_aload_n hx hb dL_row_3 rfl (lv_at hl 0 rfl) ?_
  refine lv_iload_n hx hb dL_row_4 rfl (lv_at hl 1 rfl) ?_
  refine lv_iload_n hx hb dL_row_5 rfl (lv_at hl 2 rfl) ?_
  refine lv_iload_n hx hb dL_row_6 rfl (lv_at hl 3 rfl) ?_
  refine mw_callV (C := RX3) (As := [.int a, .int gp, .int b]) (rest := [.int 0, .ref ot]) hx hb hml hown hl (kX3_row l htr G s.heap.size M f S hR hX (fun q h => hAn q (Nat.le_trans hS.1 h)) a gp b) (g_B (n := 3) htb wd493 wd1 wd490 (by decide +kernel) ⟨Nat.le_of_ble_eq_true rfl, Nat.le_of_ble_eq_true rfl⟩) (htb _ wd491) (htb _ wd492) hE hP hS (fs_R.this hR) rfl rfl rfl (Nat.le_of_ble_eq_true rfl) dL_row_7 ⟨Nat.le_of_ble_eq_true rfl, Nat.le_of_ble_eq_true rfl⟩ (fun v9 M9 H locs hpo hP hz hS => ?_) (fun x9 E9 cell9 H9 locs9 hE9 hx9 ho9 hf9 hP9 hz9 hS9 => ?_)
  · obtain ⟨hex, rfl, hR1, hk1⟩ := hpo
    refine W.eq (g2 := F0 m 10 ls [.int (nI (sN S)), .int 0, .ref ot]) rfl ?_
    refine lv_i2l hx hb dL_row_10 rfl ?_
    refine mw_last (x := (nI (sN S)).toInt64) hx hb hK hP hS 3 (hk1 _ _ hnmu hot) hAot rfl (by unfold vp_in; decide) dL_row_11 (fun H locs hP hS => ?_)
    refine lv_goto (tgt := 27) hx hb dL_row_12 (by decide) ?_
    refine lv_iconst (v := 0) hx hb dL_row_27 (by decide) ?_
    exact mx_iret (v := 0) (M' := (mw_up M9 ot (.inl (gJ G, 1, .inr (.inl (vp_updL g0 (0 : Int32).toNatClampNeg (nI (sN S)).toInt64)))))) hx hb hr hlocks hP hS (lw_Wp.ok hex hR1 hk1 hfx hnmu) dL_row_28 (Nat.le_of_ble_eq_true rfl) (Nat.le_of_ble_eq_true rfl)
  · obtain ⟨k9, hk9, hE9⟩ := hE9
    rcases (show k9 = 0 ∨ k9 = 1 ∨ k9 = 2 ∨ 3 ≤ k9 by omega) with rfl | rfl | rfl | h9
    · obtain rfl := Option.some.inj hE9
      refine mx_catch (E := "java/lang/IndexOutOfBoundsException") (name := "java/lang/IndexOutOfBoundsException") hown [] ({ startPc := 0, endPc := 12, handlerPc := 15, catchType := 13 } : ExceptionTableEntry) [({ startPc := 0, endPc := 12, handlerPc := 19, catchType := 15 } : ExceptionTableEntry), ({ startPc := 0, endPc := 12, handlerPc := 23, catchType := 24 } : ExceptionTableEntry)] htab (fun z9 hz9 => nomatch hz9) (by decide) (by decide) (htb _ wd82) (htb _ wd90) hx9 ho9 hf9 ?_
      have hP := hP9
      have hS := hS9
      refine lv_astore (lv' := [(5, .ref x9), (0, .ref (f0 f)), (1, .int a), (2, .int gp), (3, .int b), (4, .ref ot)]) hx hb dL_row_15 hl (by decide) rfl (fun ls hl => ?_)
      refine lv_iconst (v := 1) hx hb dL_row_17 (by decide) ?_
      exact mx_iret (v := 1) (M' := M) hx hb hr hlocks hP hS (lw_Wp.no (k := 0) hk9 hR hot) dL_row_18 (Nat.le_of_ble_eq_true rfl) (Nat.le_of_ble_eq_true rfl)
    · obtain rfl := Option.some.inj hE9
      refine mx_catch (E := "java/lang/IllegalArgumentException") (name := "java/lang/IllegalArgumentException") hown [({ startPc := 0, endPc := 12, handlerPc := 15, catchType := 13 } : ExceptionTableEntry)] ({ startPc := 0, endPc := 12, handlerPc := 19, catchType := 15 } : ExceptionTableEntry) [({ startPc := 0, endPc := 12, handlerPc := 23, catchType := 24 } : ExceptionTableEntry)] htab (fun z9 hz9 => by
          simp only [List.mem_cons, List.not_mem_nil, or_false] at hz9
          rcases hz9 with rfl
          · exact ⟨by decide, _, htb _ wd82, hN.1⟩) (by decide) (by decide) (htb _ wd83) (htb _ wd165) hx9 ho9 hf9 ?_
      have hP := hP9
      have hS := hS9
      refine lv_astore (lv' := [(5, .ref x9), (0, .ref (f0 f)), (1, .int a), (2, .int gp), (3, .int b), (4, .ref ot)]) hx hb dL_row_19 hl (by decide) rfl (fun ls hl => ?_)
      refine lv_iconst (v := 2) hx hb dL_row_21 (by decide) ?_
      exact mx_iret (v := 2) (M' := M) hx hb hr hlocks hP hS (lw_Wp.no (k := 1) hk9 hR hot) dL_row_22 (Nat.le_of_ble_eq_true rfl) (Nat.le_of_ble_eq_true rfl)
    · obtain rfl := Option.some.inj hE9
      refine mx_catch (E := "java/lang/UnsupportedOperationException") (name := "java/lang/UnsupportedOperationException") hown [({ startPc := 0, endPc := 12, handlerPc := 15, catchType := 13 } : ExceptionTableEntry), ({ startPc := 0, endPc := 12, handlerPc := 19, catchType := 15 } : ExceptionTableEntry)] ({ startPc := 0, endPc := 12, handlerPc := 23, catchType := 24 } : ExceptionTableEntry) [] htab (fun z9 hz9 => by
          simp only [List.mem_cons, List.not_mem_nil, or_false] at hz9
          rcases hz9 with rfl | rfl
          · exact ⟨by decide, _, htb _ wd82, hN.2.2.1⟩
          · exact ⟨by decide, _, htb _ wd83, hN.2.2.2.2.1⟩) (by decide) (by decide) (htb _ wd190) (htb _ wd201) hx9 ho9 hf9 ?_
      have hP := hP9
      have hS := hS9
      refine lv_astore (lv' := [(5, .ref x9), (0, .ref (f0 f)), (1, .int a), (2, .int gp), (3, .int b), (4, .ref ot)]) hx hb dL_row_23 hl (by decide) rfl (fun ls hl => ?_)
      refine lv_iconst (v := 3) hx hb dL_row_25 (by decide) ?_
      exact mx_iret (v := 3) (M' := M) hx hb hr hlocks hP hS (lw_Wp.no (k := 2) hk9 hR hot) dL_row_26 (Nat.le_of_ble_eq_true rfl) (Nat.le_of_ble_eq_true rfl)
    · rw [List.getElem?_eq_none h9] at hE9
      cases hE9
-- L_centre
set_option maxHeartbeats 4000000 in
set_option maxRecDepth 100000 in
theorem kL_centre (l : Launch) (htr : l.stackTraces = false) (G : gx_G) (sz : Nat) (M : mw_M) (f : fs_A) (S : fs_S) (hR : fs_R G f M S) (hX : ∀ a, fX f a → M a ≠ none) (hA : ∀ q : Nat, sz ≤ q → gA G q) (ot : Nat) (g0 : Nat → Int64) (hot : M ot = some (.inl (gJ G, 1, .inr (.inl g0)))) (hnmu : ¬ fs_mu f ot) (hfx : fX f ot) (hAot : gA G ot)  (st x : Int32) : g_MetN l G yL_centre (.codeWith yL_centre cL_centre 5 (some .int) [((0 : Nat), (10 : Nat), (13 : Nat), (13 : Nat)), ((0 : Nat), (10 : Nat), (17 : Nat), (15 : Nat)), ((0 : Nat), (10 : Nat), (21 : Nat), (24 : Nat))]) ({ frames := 10, cells := 20, slots := 900, locals := 350 } : Room) sz M [.ref (f0 f), .int st, .int x, .ref ot] (lw_Wp G f ot M S (ex_centre S st x) (nI (sN S)) (fs_push S (re_centre S st x))) := by
  refine MetE.ofWW (cc := cL_centre) (maxL := 5) (ret := (some .int)) (hh := [((0 : Nat), (10 : Nat), (13 : Nat), (13 : Nat)), ((0 : Nat), (10 : Nat), (17 : Nat), (15 : Nat)), ((0 : Nat), (10 : Nat), (21 : Nat), (24 : Nat))]) (by decide) rfl ?_
  intro p e s m args below meth c s₁ B hml hv
  obtain ⟨rfl, hsz, hP, hE, hN⟩ := hv
  have hx := B.exec
  have hb := B.bytes
  have hr := B.returns
  have hts := atoms_spec (ws := _ :: lw_big) B.pre
  have htb : ∀ w ∈ lw_big, w.before _ s = true := fun w h => hts w (List.mem_cons_of_mem _ h)
  have htab := tb_body B (hts _ List.mem_cons_self)
  have hown : s.vm.findClass RL = some m.cls := findClass_of_methodNamed B.named
  have hlocks := B.notSynchronized
  have hK := hE.1
  subst hsz
  have hAn : ∀ q : Nat, s.heap.size ≤ q → gA G q := hA
  have hS : va_S (gA G) s.heap s.heap [] := va_S.rf
  have hl := lv_entry ([.ref (f0 f), .int st, .int x, .ref ot]) (n := 5) (Nat.le_of_ble_eq_true rfl)
  rw [lg_entry_eq]
  generalize (lg_sl ([.ref (f0 f), .int st, .int x, .ref ot]) ++ List.replicate (5 - (lg_sl ([.ref (f0 f), .int st, .int x, .ref ot])).length) Slot.unset).toArray = ls at hl ⊢
  have hl : lv_has ls 5 [(0, .ref (f0 f)), (1, .int st), (2, .int x), (3, .ref ot)] := hl
  refine lv_aload_n hx hb dL_centre_0 rfl (lv_at hl 3 rfl) ?_
  refine lv_iconst (v := 0) hx hb dL_centre_1 (by decide) ?_
  refine lv_aload_n hx hb dL_centre_2 rfl (lv_at hl 0 rfl) ?_
  refine lv_iload_n hx hb dL_centre_3 rfl (lv_at hl 1 rfl) ?_
  refine lv_iload_n hx hb dL_centre_4 rfl (lv_at hl 2 rfl) ?_
  refine mw_callV (C := RX3) (As := [.int st, .int x]) (rest := [.int 0, .ref ot]) hx hb hml hown hl (kX3_centre l htr G s.heap.size M f S hR hX (fun q h => hAn q (Nat.le_trans hS.1 h)) st x) (g_B (n := 2) htb wd500 wd1 wd497 (by decide +kernel) ⟨Nat.le_of_ble_eq_true rfl, Nat.le_of_ble_eq_true rfl⟩) (htb _ wd498) (htb _ wd499) hE hP hS (fs_R.this hR) rfl rfl rfl (Nat.le_of_ble_eq_true rfl) dL_centre_5 ⟨Nat.le_of_ble_eq_true rfl, Nat.le_of_ble_eq_true rfl⟩ (fun v9 M9 H locs hpo hP hz hS => ?_) (fun x9 E9 cell9 H9 locs9 hE9 hx9 ho9 hf9 hP9 hz9 hS9 => ?_)
  · obtain ⟨hex, rfl, hR1, hk1⟩ := hpo
    refine W.eq (g2 := F0 m 8 ls [.int (nI (sN S)), .int 0, .ref ot]) rfl ?_
    refine lv_i2l hx hb dL_centre_8 rfl ?_
    refine mw_last (x := (nI (sN S)).toInt64) hx hb hK hP hS 3 (hk1 _ _ hnmu hot) hAot rfl (by unfold vp_in; decide) dL_centre_9 (fun H locs hP hS => ?_)
    refine lv_goto (tgt := 25) hx hb dL_centre_10 (by decide) ?_
    refine lv_iconst (v := 0) hx hb dL_centre_25 (by decide) ?_
    exact mx_iret (v := 0) (M' := (mw_up M9 ot (.inl (gJ G, 1, .inr (.inl (vp_updL g0 (0 : Int32).toNatClampNeg (nI (sN S)).toInt64)))))) hx hb hr hlocks hP hS (lw_Wp.ok hex hR1 hk1 hfx hnmu) dL_centre_26 (Nat.le_of_ble_eq_true rfl) (Nat.le_of_ble_eq_true rfl)
  · obtain ⟨k9, hk9, hE9⟩ := hE9
    rcases (show k9 = 0 ∨ k9 = 1 ∨ k9 = 2 ∨ 3 ≤ k9 by omega) with rfl | rfl | rfl | h9
    · obtain rfl := Option.some.inj hE9
      refine mx_catch (E := "java/lang/IndexOutOfBoundsException") (name := "java/lang/IndexOutOfBoundsException") hown [] ({ startPc := 0, endPc := 10, handlerPc := 13, catchType := 13 } : ExceptionTableEntry) [({ startPc := 0, endPc := 10, handlerPc := 17, catchType := 15 } : ExceptionTableEntry), ({ startPc := 0, endPc := 10, handlerPc := 21, catchType := 24 } : ExceptionTableEntry)] htab (fun z9 hz9 => nomatch hz9) (by decide) (by decide) (htb _ wd82) (htb _ wd90) hx9 ho9 hf9 ?_
      have hP := hP9
      have hS := hS9
      refine lv_astore (lv' := [(4, .ref x9), (0, .ref (f0 f)), (1, .int st), (2, .int x), (3, .ref ot)]) hx hb dL_centre_13 hl (by decide) rfl (fun ls hl => ?_)
      refine lv_iconst (v := 1) hx hb dL_centre_15 (by decide) ?_
      exact mx_iret (v := 1) (M' := M) hx hb hr hlocks hP hS (lw_Wp.no (k := 0) hk9 hR hot) dL_centre_16 (Nat.le_of_ble_eq_true rfl) (Nat.le_of_ble_eq_true rfl)
    · obtain rfl := Option.some.inj hE9
      refine mx_catch (E := "java/lang/IllegalArgumentException") (name := "java/lang/IllegalArgumentException") hown [({ startPc := 0, endPc := 10, handlerPc := 13, catchType := 13 } : ExceptionTableEntry)] ({ startPc := 0, endPc := 10, handlerPc := 17, catchType := 15 } : ExceptionTableEntry) [({ startPc := 0, endPc := 10, handlerPc := 21, catchType := 24 } : ExceptionTableEntry)] htab (fun z9 hz9 => by
          simp only [List.mem_cons, List.not_mem_nil, or_false] at hz9
          rcases hz9 with rfl
          · exact ⟨by decide, _, htb _ wd82, hN.1⟩) (by decide) (by decide) (htb _ wd83) (htb _ wd165) hx9 ho9 hf9 ?_
      have hP := hP9
      have hS := hS9
      refine lv_astore (lv' := [(4, .ref x9), (0, .ref (f0 f)), (1, .int st), (2, .int x), (3, .ref ot)]) hx hb dL_centre_17 hl (by decide) rfl (fun ls hl => ?_)
      refine lv_iconst (v := 2) hx hb dL_centre_19 (by decide) ?_
      exact mx_iret (v := 2) (M' := M) hx hb hr hlocks hP hS (lw_Wp.no (k := 1) hk9 hR hot) dL_centre_20 (Nat.le_of_ble_eq_true rfl) (Nat.le_of_ble_eq_true rfl)
    · obtain rfl := Option.some.inj hE9
      refine mx_catch (E := "java/lang/UnsupportedOperationException") (name := "java/lang/UnsupportedOperationException") hown [({ startPc := 0, endPc := 10, handlerPc := 13, catchType := 13 } : ExceptionTableEntry), ({ startPc := 0, endPc := 10, handlerPc := 17, catchType := 15 } : ExceptionTableEntry)] ({ startPc := 0, endPc := 10, handlerPc := 21, catchType := 24 } : ExceptionTableEntry) [] htab (fun z9 hz9 => by
          simp only [List.mem_cons, List.not_mem_nil, or_false] at hz9
          rcases hz9 with rfl | rfl
          · exact ⟨by decide, _, htb _ wd82, hN.2.2.1⟩
          · exact ⟨by decide, _, htb _ wd83, hN.2.2.2.2.1⟩) (by decide) (by decide) (htb _ wd190) (htb _ wd201) hx9 ho9 hf9 ?_
      have hP := hP9
      have hS := hS9
      refine lv_astore (lv' := [(4, .ref x9), (0, .ref (f0 f)), (1, .int st), (2, .int x), (3, .ref ot)]) hx hb dL_centre_21 hl (by decide) rfl (fun ls hl => ?_)
      refine lv_iconst (v := 3) hx hb dL_centre_23 (by decide) ?_
      exact mx_iret (v := 3) (M' := M) hx hb hr hlocks hP hS (lw_Wp.no (k := 2) hk9 hR hot) dL_centre_24 (Nat.le_of_ble_eq_true rfl) (Nat.le_of_ble_eq_true rfl)
    · rw [List.getElem?_eq_none h9] at hE9
      cases hE9
-- L_told
set_option maxHeartbeats 4000000 in
set_option maxRecDepth 100000 in
theorem kL_told (l : Launch) (htr : l.stackTraces = false) (G : gx_G) (sz : Nat) (M : mw_M) (f : fs_A) (S : fs_S) (hR : fs_R G f M S) (hX : ∀ a, fX f a → M a ≠ none) (hA : ∀ q : Nat, sz ≤ q → gA G q) (ot : Nat) (g0 : Nat → Int64) (hot : M ot = some (.inl (gJ G, 1, .inr (.inl g0)))) (hnmu : ¬ fs_mu f ot) (hfx : fX f ot) (hAot : gA G ot)  (b x : Int32) : g_MetN l G yL_told (.codeWith yL_told cL_told 5 (some .int) [((0 : Nat), (10 : Nat), (13 : Nat), (13 : Nat))]) ({ frames := 10, cells := 20, slots := 900, locals := 350 } : Room) sz M [.ref (f0 f), .int b, .int x, .ref ot] (lw_Wp G f ot M S (ex_told S b x) (re_told S b x) (S)) := by
  refine MetE.ofWW (cc := cL_told) (maxL := 5) (ret := (some .int)) (hh := [((0 : Nat), (10 : Nat), (13 : Nat), (13 : Nat))]) (by decide) rfl ?_
  intro p e s m args below meth c s₁ B hml hv
  obtain ⟨rfl, hsz, hP, hE, hN⟩ := hv
  have hx := B.exec
  have hb := B.bytes
  have hr := B.returns
  have hts := atoms_spec (ws := _ :: lw_big) B.pre
  have htb : ∀ w ∈ lw_big, w.before _ s = true := fun w h => hts w (List.mem_cons_of_mem _ h)
  have htab := tb_body B (hts _ List.mem_cons_self)
  have hown : s.vm.findClass RL = some m.cls := findClass_of_methodNamed B.named
  have hlocks := B.notSynchronized
  have hK := hE.1
  subst hsz
  have hAn : ∀ q : Nat, s.heap.size ≤ q → gA G q := hA
  have hS : va_S (gA G) s.heap s.heap [] := va_S.rf
  have hl := lv_entry ([.ref (f0 f), .int b, .int x, .ref ot]) (n := 5) (Nat.le_of_ble_eq_true rfl)
  rw [lg_entry_eq]
  generalize (lg_sl ([.ref (f0 f), .int b, .int x, .ref ot]) ++ List.replicate (5 - (lg_sl ([.ref (f0 f), .int b, .int x, .ref ot])).length) Slot.unset).toArray = ls at hl ⊢
  have hl : lv_has ls 5 [(0, .ref (f0 f)), (1, .int b), (2, .int x), (3, .ref ot)] := hl
  refine lv_aload_n hx hb dL_told_0 rfl (lv_at hl 3 rfl) ?_
  refine lv_iconst (v := 0) hx hb dL_told_1 (by decide) ?_
  refine lv_aload_n hx hb dL_told_2 rfl (lv_at hl 0 rfl) ?_
  refine lv_iload_n hx hb dL_told_3 rfl (lv_at hl 1 rfl) ?_
  refine lv_iload_n hx hb dL_told_4 rfl (lv_at hl 2 rfl) ?_
  refine mw_callV (C := RX3) (As := [.int b, .int x]) (rest := [.int 0, .ref ot]) hx hb hml hown hl (kX3_told l htr G s.heap.size M f S hR b x) (g_B (n := 2) htb wd507 wd1 wd504 (by decide +kernel) ⟨Nat.le_of_ble_eq_true rfl, Nat.le_of_ble_eq_true rfl⟩) (htb _ wd505) (htb _ wd506) hE hP hS (fs_R.this hR) rfl rfl rfl (Nat.le_of_ble_eq_true rfl) dL_told_5 ⟨Nat.le_of_ble_eq_true rfl, Nat.le_of_ble_eq_true rfl⟩ (fun v9 M9 H locs hpo hP hz hS => ?_) (fun x9 E9 cell9 H9 locs9 hE9 hx9 ho9 hf9 hP9 hz9 hS9 => ?_)
  · obtain ⟨hex, rfl, hR1, hk1⟩ := hpo
    refine W.eq (g2 := F0 m 8 ls [.int (re_told S b x), .int 0, .ref ot]) rfl ?_
    refine lv_i2l hx hb dL_told_8 rfl ?_
    refine mw_last (x := (re_told S b x).toInt64) hx hb hK hP hS 3 (hk1 _ _ hnmu hot) hAot rfl (by unfold vp_in; decide) dL_told_9 (fun H locs hP hS => ?_)
    refine lv_goto (tgt := 17) hx hb dL_told_10 (by decide) ?_
    refine lv_iconst (v := 0) hx hb dL_told_17 (by decide) ?_
    exact mx_iret (v := 0) (M' := (mw_up M9 ot (.inl (gJ G, 1, .inr (.inl (vp_updL g0 (0 : Int32).toNatClampNeg (re_told S b x).toInt64)))))) hx hb hr hlocks hP hS (lw_Wp.ok hex hR1 hk1 hfx hnmu) dL_told_18 (Nat.le_of_ble_eq_true rfl) (Nat.le_of_ble_eq_true rfl)
  · obtain ⟨k9, hk9, hE9⟩ := hE9
    rcases (show k9 = 0 ∨ 1 ≤ k9 by omega) with rfl | h9
    · obtain rfl := Option.some.inj hE9
      refine mx_catch (E := "java/lang/IndexOutOfBoundsException") (name := "java/lang/IndexOutOfBoundsException") hown [] ({ startPc := 0, endPc := 10, handlerPc := 13, catchType := 13 } : ExceptionTableEntry) [] htab (fun z9 hz9 => nomatch hz9) (by decide) (by decide) (htb _ wd82) (htb _ wd90) hx9 ho9 hf9 ?_
      have hP := hP9
      have hS := hS9
      refine lv_astore (lv' := [(4, .ref x9), (0, .ref (f0 f)), (1, .int b), (2, .int x), (3, .ref ot)]) hx hb dL_told_13 hl (by decide) rfl (fun ls hl => ?_)
      refine lv_iconst (v := 1) hx hb dL_told_15 (by decide) ?_
      exact mx_iret (v := 1) (M' := M) hx hb hr hlocks hP hS (lw_Wp.no (k := 0) hk9 hR hot) dL_told_16 (Nat.le_of_ble_eq_true rfl) (Nat.le_of_ble_eq_true rfl)
    · rw [List.getElem?_eq_none h9] at hE9
      cases hE9
-- L_part
set_option maxHeartbeats 4000000 in
set_option maxRecDepth 100000 in
theorem kL_part (l : Launch) (htr : l.stackTraces = false) (G : gx_G) (sz : Nat) (M : mw_M) (f : fs_A) (S : fs_S) (hR : fs_R G f M S) (hX : ∀ a, fX f a → M a ≠ none) (hA : ∀ q : Nat, sz ≤ q → gA G q) (ot : Nat) (g0 : Nat → Int64) (hot : M ot = some (.inl (gJ G, 1, .inr (.inl g0)))) (hnmu : ¬ fs_mu f ot) (hfx : fX f ot) (hAot : gA G ot)  (b i x : Int32) : g_MetN l G yL_part (.codeWith yL_part cL_part 6 (some .int) [((0 : Nat), (12 : Nat), (15 : Nat), (13 : Nat))]) ({ frames := 10, cells := 20, slots := 900, locals := 350 } : Room) sz M [.ref (f0 f), .int b, .int i, .int x, .ref ot] (lw_Wp G f ot M S (ex_part S b i x) (re_part S b i x) (S)) := by
  refine MetE.ofWW (cc := cL_part) (maxL := 6) (ret := (some .int)) (hh := [((0 : Nat), (12 : Nat), (15 : Nat), (13 : Nat))]) (by decide) rfl ?_
  intro p e s m args below meth c s₁ B hml hv
  obtain ⟨rfl, hsz, hP, hE, hN⟩ := hv
  have hx := B.exec
  have hb := B.bytes
  have hr := B.returns
  have hts := atoms_spec (ws := _ :: lw_big) B.pre
  have htb : ∀ w ∈ lw_big, w.before _ s = true := fun w h => hts w (List.mem_cons_of_mem _ h)
  have htab := tb_body B (hts _ List.mem_cons_self)
  have hown : s.vm.findClass RL = some m.cls := findClass_of_methodNamed B.named
  have hlocks := B.notSynchronized
  have hK := hE.1
  subst hsz
  have hAn : ∀ q : Nat, s.heap.size ≤ q → gA G q := hA
  have hS : va_S (gA G) s.heap s.heap [] := va_S.rf
  have hl := lv_entry ([.ref (f0 f), .int b, .int i, .int x, .ref ot]) (n := 6) (Nat.le_of_ble_eq_true rfl)
  rw [lg_entry_eq]
  generalize (lg_sl ([.ref (f0 f), .int b, .int i, .int x, .ref ot]) ++ List.replicate (6 - (lg_sl ([.ref (f0 f), .int b, .int i, .int x, .ref ot])).length) Slot.unset).toArray = ls at hl ⊢
  have hl : lv_has ls 6 [(0, .ref (f0 f)), (1, .int b), (2, .int i), (3, .int x), (4, .ref ot)] := hl
  refine lv_aload hx hb dL_part_0 (lv_at hl 4 rfl) ?_
  refine lv_iconst (v := 0) hx hb dL_part_2 (by decide) ?_
  refine lv_aload_n hx hb dL_part_3 rfl (lv_at hl 0 rfl) ?_
  refine lv_iload_n hx hb dL_part_4 rfl (lv_at hl 1 rfl) ?_
  refine lv_iload_n hx hb dL_part_5 rfl (lv_at hl 2 rfl) ?_
  refine lv_iload_n hx hb dL_part_6 rfl (lv_at hl 3 rfl) ?_
  refine mw_callV (C := RX3) (As := [.int b, .int i, .int x]) (rest := [.int 0, .ref ot]) hx hb hml hown hl (kX3_part l htr G s.heap.size M f S hR b i x) (g_B (n := 3) htb wd515 wd1 wd512 (by decide +kernel) ⟨Nat.le_of_ble_eq_true rfl, Nat.le_of_ble_eq_true rfl⟩) (htb _ wd513) (htb _ wd514) hE hP hS (fs_R.this hR) rfl rfl rfl (Nat.le_of_ble_eq_true rfl) dL_part_7 ⟨Nat.le_of_ble_eq_true rfl, Nat.le_of_ble_eq_true rfl⟩ (fun v9 M9 H locs hpo hP hz hS => ?_) (fun x9 E9 cell9 H9 locs9 hE9 hx9 ho9 hf9 hP9 hz9 hS9 => ?_)
  · obtain ⟨hex, rfl, hR1, hk1⟩ := hpo
    refine W.eq (g2 := F0 m 10 ls [.int (re_part S b i x), .int 0, .ref ot]) rfl ?_
    refine lv_i2l hx hb dL_part_10 rfl ?_
    refine mw_last (x := (re_part S b i x).toInt64) hx hb hK hP hS 3 (hk1 _ _ hnmu hot) hAot rfl (by unfold vp_in; decide) dL_part_11 (fun H locs hP hS => ?_)
    refine lv_goto (tgt := 19) hx hb dL_part_12 (by decide) ?_
    refine lv_iconst (v := 0) hx hb dL_part_19 (by decide) ?_
    exact mx_iret (v := 0) (M' := (mw_up M9 ot (.inl (gJ G, 1, .inr (.inl (vp_updL g0 (0 : Int32).toNatClampNeg (re_part S b i x).toInt64)))))) hx hb hr hlocks hP hS (lw_Wp.ok hex hR1 hk1 hfx hnmu) dL_part_20 (Nat.le_of_ble_eq_true rfl) (Nat.le_of_ble_eq_true rfl)
  · obtain ⟨k9, hk9, hE9⟩ := hE9
    rcases (show k9 = 0 ∨ 1 ≤ k9 by omega) with rfl | h9
    · obtain rfl := Option.some.inj hE9
      refine mx_catch (E := "java/lang/IndexOutOfBoundsException") (name := "java/lang/IndexOutOfBoundsException") hown [] ({ startPc := 0, endPc := 12, handlerPc := 15, catchType := 13 } : ExceptionTableEntry) [] htab (fun z9 hz9 => nomatch hz9) (by decide) (by decide) (htb _ wd82) (htb _ wd90) hx9 ho9 hf9 ?_
      have hP := hP9
      have hS := hS9
      refine lv_astore (lv' := [(5, .ref x9), (0, .ref (f0 f)), (1, .int b), (2, .int i), (3, .int x), (4, .ref ot)]) hx hb dL_part_15 hl (by decide) rfl (fun ls hl => ?_)
      refine lv_iconst (v := 1) hx hb dL_part_17 (by decide) ?_
      exact mx_iret (v := 1) (M' := M) hx hb hr hlocks hP hS (lw_Wp.no (k := 0) hk9 hR hot) dL_part_18 (Nat.le_of_ble_eq_true rfl) (Nat.le_of_ble_eq_true rfl)
    · rw [List.getElem?_eq_none h9] at hE9
      cases hE9
