/-! printed by wip/whole/spec*.py -/
-- X3_boxes
set_option maxHeartbeats 4000000 in
set_option maxRecDepth 100000 in
theorem kX3_boxes (l : Launch) (htr : l.stackTraces = false) (G : gx_G) (sz : Nat) (M : mw_M) (f : fs_A) (S : fs_S) (hR : fs_R G f M S) : g_Met l G yX3_boxes (.code yX3_boxes cX3_boxes 1 (some .int)) ({ frames := 1, cells := 0, slots := 0, locals := 60 } : Room) sz M [.ref (f0 f)] (fun v M9 => v = some (.int (nI (sN S))) ∧ M = M9) (fun _ => False) := by
  refine MetE.ofW (cc := cX3_boxes) (maxL := 1) (ret := (some .int)) (by decide) rfl ?_
  intro p e s m args below meth c s₁ B hml hv
  obtain ⟨rfl, hsz, hP, hE⟩ := hv
  have hx := B.exec
  have hb := B.bytes
  have hr := B.returns
  have hts := atoms_spec (ws := _ :: lw_big) B.pre
  have htb : ∀ w ∈ lw_big, w.before _ s = true := fun w h => hts w (List.mem_cons_of_mem _ h)
  have hno := B.noHandlers (hts _ List.mem_cons_self)
  have hown : s.vm.findClass RX3 = some m.cls := findClass_of_methodNamed B.named
  have hlocks := B.notSynchronized
  have hK := hE.1
  subst hsz
  have hS : va_S (gA G) s.heap s.heap [] := va_S.rf
  have hl := lv_entry ([.ref (f0 f)]) (n := 1) (Nat.le_of_ble_eq_true rfl)
  rw [lg_entry_eq]
  generalize (lg_sl ([.ref (f0 f)]) ++ List.replicate (1 - (lg_sl ([.ref (f0 f)])).length) Slot.unset).toArray = ls at hl ⊢
  have hl : lv_has ls 1 [(0, .ref (f0 f))] := hl
  refine lv_aload_n hx hb dX3_boxes_0 rfl (lv_at hl 0 rfl) ?_
  refine mw_get (D := gD G) (ci := 3) (v := .int (nI (sN S))) (C := RX3) (T := TX3) (N := 6) hx hb htb inX3 hown hK hP (hR.this) rfl 1 (by decide) (htb _ wd57) (fun _ h9 => h9) rfl dX3_boxes_1 ?_
  exact mx_iret (v := (nI (sN S))) (M' := M) hx hb hr hlocks hP hS ⟨rfl, rfl⟩ dX3_boxes_4 (Nat.le_of_ble_eq_true rfl) (Nat.le_of_ble_eq_true rfl)
-- X3_box
set_option maxHeartbeats 4000000 in
set_option maxRecDepth 100000 in
theorem kX3_box (l : Launch) (htr : l.stackTraces = false) (G : gx_G) (sz : Nat) (M : mw_M) (f : fs_A) (S : fs_S) (hR : fs_R G f M S) (hX : ∀ a, fX f a → M a ≠ none) (hA : ∀ q : Nat, sz ≤ q → gA G q) (g0 : Nat → Int32) (hN : M (gN G) = some (.inl (gI G, 0, .inl g0))) (hNx : ¬ fX f (gN G)) (w h d : Int32) : g_Met l G yX3_box (.code yX3_box cX3_box 4 (some .int)) ({ frames := 8, cells := 12, slots := 80, locals := 260 } : Room) sz M [.ref (f0 f), .int w, .int h, .int d] (fs_Mk G f M S (ex_box S w h d) (((w, h, d, [], 0, 0) : fs_B))) (fs_Th (ex_box S w h d) ["java/lang/IllegalArgumentException", "java/lang/UnsupportedOperationException"]) := by
  refine MetE.ofW (cc := cX3_box) (maxL := 4) (ret := (some .int)) (by decide) rfl ?_
  intro p e s m args below meth c s₁ B hml hv
  obtain ⟨rfl, hsz, hP, hE⟩ := hv
  have hx := B.exec
  have hb := B.bytes
  have hr := B.returns
  have hts := atoms_spec (ws := _ :: lw_big) B.pre
  have htb : ∀ w ∈ lw_big, w.before _ s = true := fun w h => hts w (List.mem_cons_of_mem _ h)
  have hno := B.noHandlers (hts _ List.mem_cons_self)
  have hown : s.vm.findClass RX3 = some m.cls := findClass_of_methodNamed B.named
  have hlocks := B.notSynchronized
  have hK := hE.1
  subst hsz
  have hAn : ∀ q : Nat, s.heap.size ≤ q → gA G q := hA
  have hS : va_S (gA G) s.heap s.heap [] := va_S.rf
  have hl := lv_entry ([.ref (f0 f), .int w, .int h, .int d]) (n := 4) (Nat.le_of_ble_eq_true rfl)
  rw [lg_entry_eq]
  generalize (lg_sl ([.ref (f0 f), .int w, .int h, .int d]) ++ List.replicate (4 - (lg_sl ([.ref (f0 f), .int w, .int h, .int d])).length) Slot.unset).toArray = ls at hl ⊢
  have hl : lv_has ls 4 [(0, .ref (f0 f)), (1, .int w), (2, .int h), (3, .int d)] := hl
  refine lv_iload_n hx hb dX3_box_0 rfl (lv_at hl 1 rfl) ?_
  refine lv_iconst (v := 0) hx hb dX3_box_1 (by decide) ?_
  refine lv_ldc (v := 1000000) hx hb hown (htb _ wd159) dX3_box_2 ?_
  refine mw_callS (As := [.int w, .int 0, .int 1000000]) (rest := []) hx hb hml hown hl (kX3_needWithin l htr G s.heap.size M w 0 1000000) (g_B (n := 3) htb wd162 wd1 wd160 (by decide +kernel) ⟨Nat.le_of_ble_eq_true rfl, Nat.le_of_ble_eq_true rfl⟩) (htb _ wd161) hE hP hS rfl rfl (Nat.le_of_ble_eq_true rfl) dX3_box_4 ⟨Nat.le_of_ble_eq_true rfl, Nat.le_of_ble_eq_true rfl⟩ (fun v9 M9 H locs hpo hP hz hS => ?_) (fun x9 E9 cell9 H9 locs9 hE9 hx9 ho9 hf9 hP9 hz9 hS9 => mx_outF (thr0 := fs_Th (ex_box S w h d) ["java/lang/IllegalArgumentException", "java/lang/UnsupportedOperationException"]) hno hlocks ⟨0, by rw [ex_box, if_pos (fun z9 => hE9.2 z9.1)], by rw [hE9.1]; rfl⟩ hx9 ho9 hf9 hP9 hS9 (Nat.le_of_ble_eq_true rfl) (Nat.le_of_ble_eq_true rfl))
  obtain ⟨rfl, rfl, k_1⟩ := hpo
  refine W.eq (g2 := F0 m 7 ls []) rfl ?_
  refine lv_iload_n hx hb dX3_box_7 rfl (lv_at hl 2 rfl) ?_
  refine lv_ldc (v := (-1000000)) hx hb hown (htb _ wd158) dX3_box_8 ?_
  refine lv_ldc (v := 1000000) hx hb hown (htb _ wd159) dX3_box_10 ?_
  refine mw_callS (As := [.int h, .int (-1000000), .int 1000000]) (rest := []) hx hb hml hown hl (kX3_needWithin l htr G H.size M h (-1000000) 1000000) (g_B (n := 3) htb wd162 wd1 wd160 (by decide +kernel) ⟨Nat.le_of_ble_eq_true rfl, Nat.le_of_ble_eq_true rfl⟩) (htb _ wd161) hE hP hS rfl rfl (Nat.le_of_ble_eq_true rfl) dX3_box_12 ⟨Nat.le_of_ble_eq_true rfl, Nat.le_of_ble_eq_true rfl⟩ (fun v9 M9 H locs hpo hP hz hS => ?_) (fun x9 E9 cell9 H9 locs9 hE9 hx9 ho9 hf9 hP9 hz9 hS9 => mx_outF (thr0 := fs_Th (ex_box S w h d) ["java/lang/IllegalArgumentException", "java/lang/UnsupportedOperationException"]) hno hlocks ⟨0, by rw [ex_box, if_pos (fun z9 => hE9.2 z9.2.1)], by rw [hE9.1]; rfl⟩ hx9 ho9 hf9 hP9 hS9 (Nat.le_of_ble_eq_true rfl) (Nat.le_of_ble_eq_true rfl))
  obtain ⟨rfl, rfl, k_2⟩ := hpo
  refine W.eq (g2 := F0 m 15 ls []) rfl ?_
  refine lv_iload_n hx hb dX3_box_15 rfl (lv_at hl 3 rfl) ?_
  refine lv_ldc (v := (-1000000)) hx hb hown (htb _ wd158) dX3_box_16 ?_
  refine lv_ldc (v := 1000000) hx hb hown (htb _ wd159) dX3_box_18 ?_
  refine mw_callS (As := [.int d, .int (-1000000), .int 1000000]) (rest := []) hx hb hml hown hl (kX3_needWithin l htr G H.size M d (-1000000) 1000000) (g_B (n := 3) htb wd162 wd1 wd160 (by decide +kernel) ⟨Nat.le_of_ble_eq_true rfl, Nat.le_of_ble_eq_true rfl⟩) (htb _ wd161) hE hP hS rfl rfl (Nat.le_of_ble_eq_true rfl) dX3_box_20 ⟨Nat.le_of_ble_eq_true rfl, Nat.le_of_ble_eq_true rfl⟩ (fun v9 M9 H locs hpo hP hz hS => ?_) (fun x9 E9 cell9 H9 locs9 hE9 hx9 ho9 hf9 hP9 hz9 hS9 => mx_outF (thr0 := fs_Th (ex_box S w h d) ["java/lang/IllegalArgumentException", "java/lang/UnsupportedOperationException"]) hno hlocks ⟨0, by rw [ex_box, if_pos (fun z9 => hE9.2 z9.2.2)], by rw [hE9.1]; rfl⟩ hx9 ho9 hf9 hP9 hS9 (Nat.le_of_ble_eq_true rfl) (Nat.le_of_ble_eq_true rfl))
  obtain ⟨rfl, rfl, k_3⟩ := hpo
  refine W.eq (g2 := F0 m 23 ls []) rfl ?_
  refine lv_aload_n hx hb dX3_box_23 rfl (lv_at hl 0 rfl) ?_
  refine lv_iconst (v := 1) hx hb dX3_box_24 (by decide) ?_
  refine mw_callV (C := RX3) (As := [.int 1]) (rest := []) hx hb hml hown hl (kX3_needRoom l htr G H.size M f S hR 1) (g_B (n := 1) htb wd198 wd1 wd195 (by decide +kernel) ⟨Nat.le_of_ble_eq_true rfl, Nat.le_of_ble_eq_true rfl⟩) (htb _ wd197) (htb _ ws1) hE hP hS (fs_R.this hR) rfl rfl rfl (Nat.le_of_ble_eq_true rfl) dX3_box_25 ⟨Nat.le_of_ble_eq_true rfl, Nat.le_of_ble_eq_true rfl⟩ (fun v9 M9 H locs hpo hP hz hS => ?_) (fun x9 E9 cell9 H9 locs9 hE9 hx9 ho9 hf9 hP9 hz9 hS9 => mx_outF (thr0 := fs_Th (ex_box S w h d) ["java/lang/IllegalArgumentException", "java/lang/UnsupportedOperationException"]) hno hlocks ⟨1, by rw [ex_box, if_neg (fun z9 => z9 ⟨k_1, k_2, k_3⟩), if_pos (fun z9 => hE9.2 z9)], by rw [hE9.1]; rfl⟩ hx9 ho9 hf9 hP9 hS9 (Nat.le_of_ble_eq_true rfl) (Nat.le_of_ble_eq_true rfl))
  obtain ⟨rfl, rfl, k_4⟩ := hpo
  refine W.eq (g2 := F0 m 28 ls []) rfl ?_
  refine lv_aload_n hx hb dX3_box_28 rfl (lv_at hl 0 rfl) ?_
  refine mw_new (ci := 0) (fs := [.int 0, .int 0, .int 0, .null, .int 0, .int 0]) (C := RX0) (T := TX0) (N := 6) hx hb htb inX0 tyX0 tyX0_ok hown (htb _ wd22) (htb _ wd215) (htb _ wd10) hK hP hS rfl (fun j hj => by rcases (show j = 0 ∨ j = 1 ∨ j = 2 ∨ j = 3 ∨ j = 4 ∨ j = 5 by omega) with rfl | rfl | rfl | rfl | rfl | rfl <;> rfl) (Nat.le_of_ble_eq_true rfl) (Nat.le_of_ble_eq_true rfl) dX3_box_29 (fun q_5 H hq_6 hs_7 hP hS => ?_)
  obtain ⟨M_8, hM_8⟩ : ∃ z9 : mw_M, z9 = mw_up M q_5 (.inr (0, [.int 0, .int 0, .int 0, .null, .int 0, .int 0])) := ⟨_, rfl⟩
  have hP : mw_P (gD G) gx_cl M_8 H := by rw [hM_8]; exact hP
  have n_9 : M q_5 = none := mw_ext.no (mw_ext.rf M) hq_6
  have f_10 : M_8 (f0 f) = some (.inr (3, [.ref (fM f), .int (nI (sN S)), .ref (fF f), .ref (fP f), .int (sSp S), .int (sSh S)])) := by rw [hM_8, mw_ne _ _ (fun z => by have z1 := (hR.this); rw [z, hq_6] at z1; cases z1)]; exact (hR.this)
  have ne_11 : (f0 f) ≠ q_5 := fun z => by have z1 := (hR.this); rw [z, hq_6] at z1; cases z1
  have f_12 : M_8 q_5 = some (.inr (0, [.int 0, .int 0, .int 0, .null, .int 0, .int 0])) := by rw [hM_8]; exact mw_self _ _ _
  have x_13 : mw_ext M M_8 := by rw [hM_8]; exact mw_ext.up (mw_ext.rf M) n_9 _
  refine lv_dup hx hb dX3_box_32 rfl ?_
  refine lv_iload_n hx hb dX3_box_33 rfl (lv_at hl 1 rfl) ?_
  refine lv_iload_n hx hb dX3_box_34 rfl (lv_at hl 2 rfl) ?_
  refine lv_iload_n hx hb dX3_box_35 rfl (lv_at hl 3 rfl) ?_
  refine va_gets hx hb (hE.2.1 _ List.mem_cons_self) hS hown (htb _ wd216) (fun _ h9 => h9) dX3_box_36 ?_
  refine mw_callI (As := [.int w, .int h, .int d, .ref (gN G)]) (rest := [.ref q_5, .ref (f0 f)]) hx hb hml hown hl (kX0_init_0 l htr G H.size M_8 q_5 (hAn _ hs_7) f_12 w h d (gN G)) (g_B (n := 4) htb wd220 wd10 wd218 (by decide +kernel) ⟨Nat.le_of_ble_eq_true rfl, Nat.le_of_ble_eq_true rfl⟩) (htb _ wd219) (htb _ wd220) rfl hE hP hS rfl rfl (Nat.le_of_ble_eq_true rfl) dX3_box_39 ⟨Nat.le_of_ble_eq_true rfl, Nat.le_of_ble_eq_true rfl⟩ (fun v9 M9 H locs hpo hP hz hS => ?_) (fun x9 E9 cell9 H9 locs9 hE9 => hE9.elim)
  obtain ⟨rfl, hM9⟩ := hpo
  obtain ⟨M_14, hM_14⟩ : ∃ z9 : mw_M, z9 = mw_up M_8 q_5 (.inr (0, [.int w, .int h, .int d, .ref (gN G), .int 0, .int 0])) := ⟨_, rfl⟩
  have hP : mw_P (gD G) gx_cl M_14 H := by rw [hM_14, hM9]; exact hP
  have f_15 : M_14 (f0 f) = some (.inr (3, [.ref (fM f), .int (nI (sN S)), .ref (fF f), .ref (fP f), .int (sSp S), .int (sSh S)])) := by rw [hM_14, mw_ne _ _ ne_11]; exact f_10
  have f_16 : M_14 q_5 = some (.inr (0, [.int w, .int h, .int d, .ref (gN G), .int 0, .int 0])) := by rw [hM_14]; exact mw_self _ _ _
  have x_17 : mw_ext M M_14 := by rw [hM_14]; exact mw_ext.up x_13 n_9 _
  refine W.eq (g2 := F0 m 42 ls [.ref q_5, .ref (f0 f)]) rfl ?_
  have b_18 : fs_bx G f M_14 q_5 (w, h, d, [], 0, 0) := fs_mk f_16 (x_17 _ _ hN) rfl (fun j hj => absurd hj (Nat.not_lt_zero j)) (fun z9 => hX _ z9 n_9) hNx
  refine mw_callV (C := RX3) (As := [.ref q_5]) (rest := []) hx hb hml hown hl (kX3_keep l htr G H.size M_14 f S (fs_R.ext hR x_17) (rmk_lt k_4 hR.ok.1) q_5 (((w, h, d, [], 0, 0) : fs_B)) b_18 fs_pl0) (g_B (n := 1) htb wd256 wd1 wd253 (by decide +kernel) ⟨Nat.le_of_ble_eq_true rfl, Nat.le_of_ble_eq_true rfl⟩) (htb _ wd255) (htb _ ws2) hE hP hS (fs_R.this (fs_R.ext hR x_17)) rfl rfl rfl (Nat.le_of_ble_eq_true rfl) dX3_box_42 ⟨Nat.le_of_ble_eq_true rfl, Nat.le_of_ble_eq_true rfl⟩ (fun v9 M9 H locs hpo hP hz hS => ?_) (fun x9 E9 cell9 H9 locs9 hE9 => hE9.elim)
  obtain ⟨rfl, hR9, hk9⟩ := hpo
  refine W.eq (g2 := F0 m 45 ls [.int (nI (sN S))]) rfl ?_
  have hre : ((w, h, d, [], 0, 0) : fs_B) = ((w, h, d, [], 0, 0) : fs_B) := rfl
  exact mx_iret (v := (nI (sN S))) (M' := M9) hx hb hr hlocks hP hS ⟨by rw [ex_box, if_neg (fun z9 => z9 ⟨k_1, k_2, k_3⟩), if_neg (fun z9 => z9 k_4)], rfl, by rw [hre]; exact hR9, fs_keeps.tr (fs_keeps.of x_17) hk9⟩ dX3_box_45 (Nat.le_of_ble_eq_true rfl) (Nat.le_of_ble_eq_true rfl)
-- X3_set
set_option maxHeartbeats 4000000 in
set_option maxRecDepth 100000 in
theorem kX3_set (l : Launch) (htr : l.stackTraces = false) (G : gx_G) (sz : Nat) (M : mw_M) (f : fs_A) (S : fs_S) (hR : fs_R G f M S) (x y : Int32) : g_Met l G yX3_set (.code yX3_set cX3_set 4 (some .int)) ({ frames := 8, cells := 8, slots := 60, locals := 260 } : Room) sz M [.ref (f0 f), .int x, .int y] (fs_Up G f M (ex_set x y) (some (.int (if x = 0 then sSp S else sSh S))) (if x = 0 then fs_sp S y else fs_sh S y)) (fs_Th (ex_set x y) ["java/lang/IndexOutOfBoundsException", "java/lang/IllegalArgumentException"]) := by
  refine MetE.ofW (cc := cX3_set) (maxL := 4) (ret := (some .int)) (by decide) rfl ?_
  intro p e s m args below meth c s₁ B hml hv
  obtain ⟨rfl, hsz, hP, hE⟩ := hv
  have hx := B.exec
  have hb := B.bytes
  have hr := B.returns
  have hts := atoms_spec (ws := _ :: lw_big) B.pre
  have htb : ∀ w ∈ lw_big, w.before _ s = true := fun w h => hts w (List.mem_cons_of_mem _ h)
  have hno := B.noHandlers (hts _ List.mem_cons_self)
  have hown : s.vm.findClass RX3 = some m.cls := findClass_of_methodNamed B.named
  have hlocks := B.notSynchronized
  have hK := hE.1
  subst hsz
  have hS : va_S (gA G) s.heap s.heap [] := va_S.rf
  have hl := lv_entry ([.ref (f0 f), .int x, .int y]) (n := 4) (Nat.le_of_ble_eq_true rfl)
  rw [lg_entry_eq]
  generalize (lg_sl ([.ref (f0 f), .int x, .int y]) ++ List.replicate (4 - (lg_sl ([.ref (f0 f), .int x, .int y])).length) Slot.unset).toArray = ls at hl ⊢
  have hl : lv_has ls 4 [(0, .ref (f0 f)), (1, .int x), (2, .int y)] := hl
  obtain ⟨gm, gf, g, h1, h2, h3, h4, h5, h6, h7, h8, h9⟩ := id hR
  refine lv_iload_n hx hb dX3_set_0 rfl (lv_at hl 1 rfl) ?_
  refine lv_if_eq (tgt := 19) hx hb dX3_set_1 (by decide) (fun c_1 => ?_) (fun c_1 => ?_)
  · refine lv_iload_n hx hb dX3_set_19 rfl (lv_at hl 2 rfl) ?_
    refine lv_iconst (v := 0) hx hb dX3_set_20 (by decide) ?_
    refine lv_ldc (v := 1000000) hx hb hown (htb _ wd159) dX3_set_21 ?_
    refine mw_callS (As := [.int y, .int 0, .int 1000000]) (rest := []) hx hb hml hown hl (kX3_needWithin l htr G s.heap.size M y 0 1000000) (g_B (n := 3) htb wd162 wd1 wd160 (by decide +kernel) ⟨Nat.le_of_ble_eq_true rfl, Nat.le_of_ble_eq_true rfl⟩) (htb _ wd161) hE hP hS rfl rfl (Nat.le_of_ble_eq_true rfl) dX3_set_23 ⟨Nat.le_of_ble_eq_true rfl, Nat.le_of_ble_eq_true rfl⟩ (fun v9 M9 H locs hpo hP hz hS => ?_) (fun x9 E9 cell9 H9 locs9 hE9 hx9 ho9 hf9 hP9 hz9 hS9 => mx_outF (thr0 := fs_Th (ex_set x y) ["java/lang/IndexOutOfBoundsException", "java/lang/IllegalArgumentException"]) hno hlocks ⟨1, by rw [ex_set, if_neg (fun z9 => z9 (Or.inl c_1)), if_pos hE9.2], by rw [hE9.1]; rfl⟩ hx9 ho9 hf9 hP9 hS9 (Nat.le_of_ble_eq_true rfl) (Nat.le_of_ble_eq_true rfl))
    obtain ⟨rfl, rfl, k_2⟩ := hpo
    refine W.eq (g2 := F0 m 26 ls []) rfl ?_
    refine lv_iload_n hx hb dX3_set_26 rfl (lv_at hl 1 rfl) ?_
    refine lv_if_ne (tgt := 42) hx hb dX3_set_27 (by decide) (fun c_3 => absurd c_1 c_3) (fun c_3 => ?_)
    refine lv_aload_n hx hb dX3_set_30 rfl (lv_at hl 0 rfl) ?_
    refine mw_get (D := gD G) (ci := 3) (v := .int (sSp S)) (C := RX3) (T := TX3) (N := 6) hx hb htb inX3 hown hK hP h1 rfl 4 (by decide) (htb _ wd60) (fun _ h9 => h9) rfl dX3_set_31 ?_
    refine lv_istore_n (lv' := [(3, .int (sSp S)), (0, .ref (f0 f)), (1, .int x), (2, .int y)]) hx hb dX3_set_34 rfl hl (by decide) rfl (fun ls hl => ?_)
    refine lv_aload_n hx hb dX3_set_35 rfl (lv_at hl 1 rfl) ?_
    refine lv_iload_n hx hb dX3_set_36 rfl (lv_at hl 3 rfl) ?_
    refine mw_put (D := gD G) (ci := 3) (v := .int y) (ty := .int) (C := RX3) (T := TX3) (N := 6) hx hb htb inX3 tyX3 tyX3_ok nmX3 hown hK hP hS h1 (h9.2.1 _ (Or.inl rfl)) rfl 4 (by decide) (htb _ wd60) (fun _ h9 => h9) rfl (by decide +kernel) rfl rfl (Nat.le_of_ble_eq_true rfl) dX3_set_37 (fun H locs hP hS => ?_)
    obtain ⟨M_4, hM_4⟩ : ∃ z9 : mw_M, z9 = mw_up M (f0 f) (.inr (3, [.ref (fM f), .int (nI (sN S)), .ref (fF f), .ref (fP f), .int y, .int (sSh S)])) := ⟨_, rfl⟩
    have hP : mw_P (gD G) gx_cl M_4 H := by rw [hM_4]; exact hP
    have f_5 : M_4 (f0 f) = some (.inr (3, [.ref (fM f), .int (nI (sN S)), .ref (fF f), .ref (fP f), .int y, .int (sSh S)])) := by rw [hM_4]; exact mw_self _ _ _
    refine lv_iload_n hx hb dX3_set_40 rfl (lv_at hl 0 rfl) ?_
    obtain ⟨hR9, hk9⟩ := fs_R.this_up hR hM_4
    exact mx_iret (v := (sSp S)) (M' := M_4) hx hb hr hlocks hP hS ⟨by rw [ex_set, if_neg (fun z9 => z9 (Or.inl c_1)), if_neg (fun z9 => z9 k_2)], by rw [if_pos c_1], by rw [if_pos c_1]; exact hR9, hk9⟩ dX3_set_41 (Nat.le_of_ble_eq_true rfl) (Nat.le_of_ble_eq_true rfl)
  · refine lv_iload_n hx hb dX3_set_4 rfl (lv_at hl 1 rfl) ?_
    refine lv_iconst (v := 1) hx hb dX3_set_5 (by decide) ?_
    refine lv_icmp_eq (tgt := 19) hx hb dX3_set_6 (by decide) (fun c_6 => ?_) (fun c_6 => ?_)
    · refine lv_iload_n hx hb dX3_set_19 rfl (lv_at hl 2 rfl) ?_
      refine lv_iconst (v := 0) hx hb dX3_set_20 (by decide) ?_
      refine lv_ldc (v := 1000000) hx hb hown (htb _ wd159) dX3_set_21 ?_
      refine mw_callS (As := [.int y, .int 0, .int 1000000]) (rest := []) hx hb hml hown hl (kX3_needWithin l htr G s.heap.size M y 0 1000000) (g_B (n := 3) htb wd162 wd1 wd160 (by decide +kernel) ⟨Nat.le_of_ble_eq_true rfl, Nat.le_of_ble_eq_true rfl⟩) (htb _ wd161) hE hP hS rfl rfl (Nat.le_of_ble_eq_true rfl) dX3_set_23 ⟨Nat.le_of_ble_eq_true rfl, Nat.le_of_ble_eq_true rfl⟩ (fun v9 M9 H locs hpo hP hz hS => ?_) (fun x9 E9 cell9 H9 locs9 hE9 hx9 ho9 hf9 hP9 hz9 hS9 => mx_outF (thr0 := fs_Th (ex_set x y) ["java/lang/IndexOutOfBoundsException", "java/lang/IllegalArgumentException"]) hno hlocks ⟨1, by rw [ex_set, if_neg (fun z9 => z9 (Or.inr c_6)), if_pos hE9.2], by rw [hE9.1]; rfl⟩ hx9 ho9 hf9 hP9 hS9 (Nat.le_of_ble_eq_true rfl) (Nat.le_of_ble_eq_true rfl))
      obtain ⟨rfl, rfl, k_7⟩ := hpo
      refine W.eq (g2 := F0 m 26 ls []) rfl ?_
      refine lv_iload_n hx hb dX3_set_26 rfl (lv_at hl 1 rfl) ?_
      refine lv_if_ne (tgt := 42) hx hb dX3_set_27 (by decide) (fun c_8 => ?_) (fun c_8 => absurd c_8 c_1)
      refine lv_aload_n hx hb dX3_set_42 rfl (lv_at hl 0 rfl) ?_
      refine mw_get (D := gD G) (ci := 3) (v := .int (sSh S)) (C := RX3) (T := TX3) (N := 6) hx hb htb inX3 hown hK hP h1 rfl 5 (by decide) (htb _ wd61) (fun _ h9 => h9) rfl dX3_set_43 ?_
      refine lv_istore_n (lv' := [(3, .int (sSh S)), (0, .ref (f0 f)), (1, .int x), (2, .int y)]) hx hb dX3_set_46 rfl hl (by decide) rfl (fun ls hl => ?_)
      refine lv_aload_n hx hb dX3_set_47 rfl (lv_at hl 1 rfl) ?_
      refine lv_iload_n hx hb dX3_set_48 rfl (lv_at hl 3 rfl) ?_
      refine mw_put (D := gD G) (ci := 3) (v := .int y) (ty := .int) (C := RX3) (T := TX3) (N := 6) hx hb htb inX3 tyX3 tyX3_ok nmX3 hown hK hP hS h1 (h9.2.1 _ (Or.inl rfl)) rfl 5 (by decide) (htb _ wd61) (fun _ h9 => h9) rfl (by decide +kernel) rfl rfl (Nat.le_of_ble_eq_true rfl) dX3_set_49 (fun H locs hP hS => ?_)
      obtain ⟨M_9, hM_9⟩ : ∃ z9 : mw_M, z9 = mw_up M (f0 f) (.inr (3, [.ref (fM f), .int (nI (sN S)), .ref (fF f), .ref (fP f), .int (sSp S), .int y])) := ⟨_, rfl⟩
      have hP : mw_P (gD G) gx_cl M_9 H := by rw [hM_9]; exact hP
      have f_10 : M_9 (f0 f) = some (.inr (3, [.ref (fM f), .int (nI (sN S)), .ref (fF f), .ref (fP f), .int (sSp S), .int y])) := by rw [hM_9]; exact mw_self _ _ _
      refine lv_iload_n hx hb dX3_set_52 rfl (lv_at hl 0 rfl) ?_
      obtain ⟨hR9, hk9⟩ := fs_R.this_up hR hM_9
      exact mx_iret (v := (sSh S)) (M' := M_9) hx hb hr hlocks hP hS ⟨by rw [ex_set, if_neg (fun z9 => z9 (Or.inr c_6)), if_neg (fun z9 => z9 k_7)], by rw [if_neg c_1], by rw [if_neg c_1]; exact hR9, hk9⟩ dX3_set_53 (Nat.le_of_ble_eq_true rfl) (Nat.le_of_ble_eq_true rfl)
    · exact g_thrIO (M := M) hx hb htr hno hlocks hml hl hown htb hE (List.mem_cons_of_mem _ (List.mem_cons_of_mem _ (List.mem_cons_of_mem _ List.mem_cons_self))) hS hP dX3_set_9 dX3_set_12 dX3_set_13 dX3_set_15 dX3_set_18 (Nat.le_of_ble_eq_true rfl) (Nat.le_of_ble_eq_true rfl) (Nat.le_of_ble_eq_true rfl) (Nat.le_of_ble_eq_true rfl) ⟨0, by rw [ex_set, if_pos (fun z9 => z9.elim c_1 c_6)], rfl⟩ (Nat.le_of_ble_eq_true rfl) (Nat.le_of_ble_eq_true rfl)
theorem ix_lt {x : Int32} {n : Nat} (hn : n < 2 ^ 31) (h0 : ¬ x < 0) (h : x < nI n) : fIx x < n := by
  obtain ⟨j, hj, e⟩ := nI_of h0
  rw [e, fIx_nI hj]
  rcases Nat.lt_or_ge j n with q | q
  · exact q
  · exact absurd h (by rw [e]; exact nI_nlt q hj)
-- X3_parameter
set_option maxHeartbeats 4000000 in
set_option maxRecDepth 100000 in
theorem kX3_parameter (l : Launch) (htr : l.stackTraces = false) (G : gx_G) (sz : Nat) (M : mw_M) (f : fs_A) (S : fs_S) (hR : fs_R G f M S) (z k x : Int32) : g_Met l G yX3_parameter (.code yX3_parameter cX3_parameter 6 (some .int)) ({ frames := 8, cells := 8, slots := 60, locals := 260 } : Room) sz M [.ref (f0 f), .int z, .int k, .int x] (fs_Up G f M (ex_par z k x) (some (.int (sP S (fIx z * 21 + fIx k)))) (fs_pa S (fIx z * 21 + fIx k) x)) (fs_Th (ex_par z k x) ["java/lang/IndexOutOfBoundsException", "java/lang/IllegalArgumentException"]) := by
  refine MetE.ofW (cc := cX3_parameter) (maxL := 6) (ret := (some .int)) (by decide) rfl ?_
  intro p e s m args below meth c s₁ B hml hv
  obtain ⟨rfl, hsz, hP, hE⟩ := hv
  have hx := B.exec
  have hb := B.bytes
  have hr := B.returns
  have hts := atoms_spec (ws := _ :: lw_big) B.pre
  have htb : ∀ w ∈ lw_big, w.before _ s = true := fun w h => hts w (List.mem_cons_of_mem _ h)
  have hno := B.noHandlers (hts _ List.mem_cons_self)
  have hown : s.vm.findClass RX3 = some m.cls := findClass_of_methodNamed B.named
  have hlocks := B.notSynchronized
  have hK := hE.1
  subst hsz
  have hS : va_S (gA G) s.heap s.heap [] := va_S.rf
  have hl := lv_entry ([.ref (f0 f), .int z, .int k, .int x]) (n := 6) (Nat.le_of_ble_eq_true rfl)
  rw [lg_entry_eq]
  generalize (lg_sl ([.ref (f0 f), .int z, .int k, .int x]) ++ List.replicate (6 - (lg_sl ([.ref (f0 f), .int z, .int k, .int x])).length) Slot.unset).toArray = ls at hl ⊢
  have hl : lv_has ls 6 [(0, .ref (f0 f)), (1, .int z), (2, .int k), (3, .int x)] := hl
  obtain ⟨gm, gf, g, h1, h2, h3, h4, h5, h6, h7, h8, h9⟩ := id hR
  refine lv_iload_n hx hb dX3_parameter_0 rfl (lv_at hl 1 rfl) ?_
  refine lv_if_lt (tgt := 9) hx hb dX3_parameter_1 (by decide) (fun c_1 => ?_) (fun c_1 => ?_)
  · exact g_thrIO (M := M) hx hb htr hno hlocks hml hl hown htb hE List.mem_cons_self hS hP dX3_parameter_9 dX3_parameter_12 dX3_parameter_13 dX3_parameter_15 dX3_parameter_18 (Nat.le_of_ble_eq_true rfl) (Nat.le_of_ble_eq_true rfl) (Nat.le_of_ble_eq_true rfl) (Nat.le_of_ble_eq_true rfl) ⟨0, by rw [ex_par, if_pos (fun z9 => z9.1.1 c_1)], rfl⟩ (Nat.le_of_ble_eq_true rfl) (Nat.le_of_ble_eq_true rfl)
  · refine lv_iload_n hx hb dX3_parameter_4 rfl (lv_at hl 1 rfl) ?_
    refine lv_iconst (v := 3) hx hb dX3_parameter_5 (by decide) ?_
    refine lv_icmp_lt (tgt := 19) hx hb dX3_parameter_6 (by decide) (fun c_2 => ?_) (fun c_2 => ?_)
    · refine lv_iload_n hx hb dX3_parameter_19 rfl (lv_at hl 2 rfl) ?_
      refine lv_if_lt (tgt := 29) hx hb dX3_parameter_20 (by decide) (fun c_3 => ?_) (fun c_3 => ?_)
      · exact g_thrIO (M := M) hx hb htr hno hlocks hml hl hown htb hE (List.mem_cons_of_mem _ List.mem_cons_self) hS hP dX3_parameter_29 dX3_parameter_32 dX3_parameter_33 dX3_parameter_35 dX3_parameter_38 (Nat.le_of_ble_eq_true rfl) (Nat.le_of_ble_eq_true rfl) (Nat.le_of_ble_eq_true rfl) (Nat.le_of_ble_eq_true rfl) ⟨0, by rw [ex_par, if_pos (fun z9 => z9.2.1 c_3)], rfl⟩ (Nat.le_of_ble_eq_true rfl) (Nat.le_of_ble_eq_true rfl)
      · refine lv_iload_n hx hb dX3_parameter_23 rfl (lv_at hl 2 rfl) ?_
        refine lv_bipush (v := 21) hx hb dX3_parameter_24 (by decide) ?_
        refine lv_icmp_lt (tgt := 39) hx hb dX3_parameter_26 (by decide) (fun c_4 => ?_) (fun c_4 => ?_)
        · refine lv_iload_n hx hb dX3_parameter_39 rfl (lv_at hl 3 rfl) ?_
          refine lv_ldc (v := (-1000000)) hx hb hown (htb _ wd158) dX3_parameter_40 ?_
          refine lv_ldc (v := 1000000) hx hb hown (htb _ wd159) dX3_parameter_42 ?_
          refine mw_callS (As := [.int x, .int (-1000000), .int 1000000]) (rest := []) hx hb hml hown hl (kX3_needWithin l htr G s.heap.size M x (-1000000) 1000000) (g_B (n := 3) htb wd162 wd1 wd160 (by decide +kernel) ⟨Nat.le_of_ble_eq_true rfl, Nat.le_of_ble_eq_true rfl⟩) (htb _ wd161) hE hP hS rfl rfl (Nat.le_of_ble_eq_true rfl) dX3_parameter_44 ⟨Nat.le_of_ble_eq_true rfl, Nat.le_of_ble_eq_true rfl⟩ (fun v9 M9 H locs hpo hP hz hS => ?_) (fun x9 E9 cell9 H9 locs9 hE9 hx9 ho9 hf9 hP9 hz9 hS9 => mx_outF (thr0 := fs_Th (ex_par z k x) ["java/lang/IndexOutOfBoundsException", "java/lang/IllegalArgumentException"]) hno hlocks ⟨1, by rw [ex_par, if_neg (fun z9 => z9 ⟨⟨c_1, c_2⟩, ⟨c_3, c_4⟩⟩), if_pos hE9.2], by rw [hE9.1]; rfl⟩ hx9 ho9 hf9 hP9 hS9 (Nat.le_of_ble_eq_true rfl) (Nat.le_of_ble_eq_true rfl))
          obtain ⟨rfl, rfl, k_5⟩ := hpo
          have h_z : fIx z < 3 := ix_lt (by decide) c_1 c_2
          have e_z := fIx_of c_1
          have h_k : fIx k < 21 := ix_lt (by decide) c_3 c_4
          have e_k := fIx_of c_3
          rw [e_z] at hl
          rw [e_k] at hl
          have e_i : nI (fIx z) * 21 + nI (fIx k) = nI (fIx z * 21 + fIx k) := by rw [show (21 : Int32) = nI 21 from rfl, pk_mul, nI_add]
          refine W.eq (g2 := F0 m 47 ls []) rfl ?_
          refine lv_iload_n hx hb dX3_parameter_47 rfl (lv_at hl 1 rfl) ?_
          refine lv_bipush (v := 21) hx hb dX3_parameter_48 (by decide) ?_
          refine lv_imul hx hb dX3_parameter_50 ?_
          refine lv_iload_n hx hb dX3_parameter_51 rfl (lv_at hl 2 rfl) ?_
          refine lv_iadd hx hb dX3_parameter_52 ?_
          refine lv_istore (lv' := [(4, .int (((nI (fIx z)) * 21) + (nI (fIx k)))), (0, .ref (f0 f)), (1, .int (nI (fIx z))), (2, .int (nI (fIx k))), (3, .int x)]) hx hb dX3_parameter_53 hl (by decide) rfl (fun ls hl => ?_)
          refine lv_aload_n hx hb dX3_parameter_55 rfl (lv_at hl 1 rfl) ?_
          refine mw_get (D := gD G) (ci := 3) (v := .ref (fP f)) (C := RX3) (T := TX3) (N := 6) hx hb htb inX3 hown hK hP h1 rfl 3 (by decide) (htb _ wd59) (fun _ h9 => h9) rfl dX3_parameter_56 ?_
          refine lv_iload hx hb dX3_parameter_59 (lv_at hl 0 rfl) ?_
          refine mw_iald hx hb hK hP 0 h4 rfl (by rw [e_i]; exact vp_in_nI (show fIx z * 21 + fIx k < 63 by omega) (by decide)) dX3_parameter_61 ?_
          refine W.eq (g2 := F0 m 62 ls [.int (sP S (fIx z * 21 + fIx k))]) (by rw [e_i, nI_clamp (show fIx z * 21 + fIx k < 2 ^ 31 by omega), h5 _ (show fIx z * 21 + fIx k < 63 by omega)]) ?_
          refine lv_istore (lv' := [(5, .int (sP S (fIx z * 21 + fIx k))), (4, .int (((nI (fIx z)) * 21) + (nI (fIx k)))), (0, .ref (f0 f)), (1, .int (nI (fIx z))), (2, .int (nI (fIx k))), (3, .int x)]) hx hb dX3_parameter_62 hl (by decide) rfl (fun ls hl => ?_)
          refine lv_aload_n hx hb dX3_parameter_64 rfl (lv_at hl 2 rfl) ?_
          refine mw_get (D := gD G) (ci := 3) (v := .ref (fP f)) (C := RX3) (T := TX3) (N := 6) hx hb htb inX3 hown hK hP h1 rfl 3 (by decide) (htb _ wd59) (fun _ h9 => h9) rfl dX3_parameter_65 ?_
          refine lv_iload hx hb dX3_parameter_68 (lv_at hl 1 rfl) ?_
          refine lv_iload_n hx hb dX3_parameter_70 rfl (lv_at hl 5 rfl) ?_
          refine mw_iast hx hb hK hP hS 0 h4 (h9.2.1 _ (Or.inr (Or.inr (Or.inr (Or.inl rfl))))) rfl (by rw [e_i]; exact vp_in_nI (show fIx z * 21 + fIx k < 63 by omega) (by decide)) dX3_parameter_71 (fun H locs hP hS => ?_)
          rw [e_i, nI_clamp (show fIx z * 21 + fIx k < 2 ^ 31 by omega)] at hP
          obtain ⟨M_6, hM_6⟩ : ∃ z9 : mw_M, z9 = mw_up M (fP f) (.inl (gI G, 63, .inl (upd g (fIx z * 21 + fIx k) x))) := ⟨_, rfl⟩
          have hP : mw_P (gD G) gx_cl M_6 H := by rw [hM_6]; exact hP
          have f_7 : M_6 (f0 f) = some (.inr (3, [.ref (fM f), .int (nI (sN S)), .ref (fF f), .ref (fP f), .int (sSp S), .int (sSh S)])) := by rw [hM_6, mw_ne _ _ (fun z => by have z1 := h1; rw [z, h4] at z1; simp at z1)]; exact h1
          have f_8 : M_6 (fP f) = some (.inl (gI G, 63, .inl (upd g (fIx z * 21 + fIx k) x))) := by rw [hM_6]; exact mw_self _ _ _
          refine lv_iload hx hb dX3_parameter_72 (lv_at hl 0 rfl) ?_
          obtain ⟨hR9, hk9⟩ := fs_R.par_up hR h4 hM_6
          exact mx_iret (v := (sP S (fIx z * 21 + fIx k))) (M' := M_6) hx hb hr hlocks hP hS ⟨by rw [ex_par, if_neg (fun z9 => z9 ⟨⟨c_1, c_2⟩, ⟨c_3, c_4⟩⟩), if_neg (fun z9 => z9 k_5)], rfl, hR9, hk9⟩ dX3_parameter_74 (Nat.le_of_ble_eq_true rfl) (Nat.le_of_ble_eq_true rfl)
        · exact g_thrIO (M := M) hx hb htr hno hlocks hml hl hown htb hE (List.mem_cons_of_mem _ List.mem_cons_self) hS hP dX3_parameter_29 dX3_parameter_32 dX3_parameter_33 dX3_parameter_35 dX3_parameter_38 (Nat.le_of_ble_eq_true rfl) (Nat.le_of_ble_eq_true rfl) (Nat.le_of_ble_eq_true rfl) (Nat.le_of_ble_eq_true rfl) ⟨0, by rw [ex_par, if_pos (fun z9 => c_4 z9.2.2)], rfl⟩ (Nat.le_of_ble_eq_true rfl) (Nat.le_of_ble_eq_true rfl)
    · exact g_thrIO (M := M) hx hb htr hno hlocks hml hl hown htb hE List.mem_cons_self hS hP dX3_parameter_9 dX3_parameter_12 dX3_parameter_13 dX3_parameter_15 dX3_parameter_18 (Nat.le_of_ble_eq_true rfl) (Nat.le_of_ble_eq_true rfl) (Nat.le_of_ble_eq_true rfl) (Nat.le_of_ble_eq_true rfl) ⟨0, by rw [ex_par, if_pos (fun z9 => c_2 z9.1.2)], rfl⟩ (Nat.le_of_ble_eq_true rfl) (Nat.le_of_ble_eq_true rfl)
