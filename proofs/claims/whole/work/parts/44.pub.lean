/-! printed by wip/whole/spec*.py -/
-- X3_fraction
set_option maxHeartbeats 4000000 in
set_option maxRecDepth 100000 in
theorem kX3_fraction (l : Launch) (htr : l.stackTraces = false) (G : gx_G) (sz : Nat) (M : mw_M) (f : fs_A) (S : fs_S) (hR : fs_R G f M S) (hX : ∀ a, fX f a → M a ≠ none) (hA : ∀ q : Nat, sz ≤ q → gA G q) (st n d t : Int32) : g_Met l G yX3_fraction (.code yX3_fraction cX3_fraction 5 (some .int)) ({ frames := 8, cells := 12, slots := 80, locals := 260 } : Room) sz M [.ref (f0 f), .int st, .int n, .int d, .int t] (fs_Mk G f M S (ex_fraction S st n d t) (re_fraction S st n d t)) (fs_Th (ex_fraction S st n d t) ["java/lang/IndexOutOfBoundsException", "java/lang/IllegalArgumentException", "java/lang/UnsupportedOperationException"]) := by
  refine MetE.ofW (cc := cX3_fraction) (maxL := 5) (ret := (some .int)) (by decide) rfl ?_
  intro p e s m args below meth c s₁ B hml hv
  obtain ⟨rfl, hsz, hP, hE⟩ := hv
  have hx := B.exec
  have hb := B.bytes
  have hr := B.returns
  have hts := atoms_spec (ws := _ :: lw_big) B.pre
  have htb : ∀ w ∈ lw_big, w.before _ s = true := fun w h => hts w (List.mem_cons_of_mem _ h)
  have hno := B.noHandlers (hts _ List.mem_cons_self)
  have hown : s.vm.findClass RX3 = some m.cls := findClass_of_methodNamed B.named
  have hlocks := B.notSynchronized
  have hK := hE.1
  subst hsz
  have hAn : ∀ q : Nat, s.heap.size ≤ q → gA G q := hA
  have hS : va_S (gA G) s.heap s.heap [] := va_S.rf
  have hl := lv_entry ([.ref (f0 f), .int st, .int n, .int d, .int t]) (n := 5) (Nat.le_of_ble_eq_true rfl)
  rw [lg_entry_eq]
  generalize (lg_sl ([.ref (f0 f), .int st, .int n, .int d, .int t]) ++ List.replicate (5 - (lg_sl ([.ref (f0 f), .int st, .int n, .int d, .int t])).length) Slot.unset).toArray = ls at hl ⊢
  have hl : lv_has ls 5 [(0, .ref (f0 f)), (1, .int st), (2, .int n), (3, .int d), (4, .int t)] := hl
  refine lv_aload_n hx hb dX3_fraction_0 rfl (lv_at hl 0 rfl) ?_
  refine lv_iload_n hx hb dX3_fraction_1 rfl (lv_at hl 2 rfl) ?_
  refine mw_callV (C := RX3) (As := [.int n]) (rest := []) hx hb hml hown hl (kX3_needBox l htr G s.heap.size M f S hR n) (g_B (n := 1) htb wd271 wd1 wd268 (by decide +kernel) ⟨Nat.le_of_ble_eq_true rfl, Nat.le_of_ble_eq_true rfl⟩) (htb _ wd270) (htb _ ws3) hE hP hS (fs_R.this hR) rfl rfl rfl (Nat.le_of_ble_eq_true rfl) dX3_fraction_2 ⟨Nat.le_of_ble_eq_true rfl, Nat.le_of_ble_eq_true rfl⟩ (fun v9 M9 H locs hpo hP hz hS => ?_) (fun x9 E9 cell9 H9 locs9 hE9 hx9 ho9 hf9 hP9 hz9 hS9 => mx_outF (thr0 := fs_Th (ex_fraction S st n d t) ["java/lang/IndexOutOfBoundsException", "java/lang/IllegalArgumentException", "java/lang/UnsupportedOperationException"]) hno hlocks ⟨0, by rw [ex_fraction, if_pos (fun z9 => hE9.2 z9.1)], by rw [hE9.1]; rfl⟩ hx9 ho9 hf9 hP9 hS9 (Nat.le_of_ble_eq_true rfl) (Nat.le_of_ble_eq_true rfl))
  obtain ⟨rfl, rfl, k_1⟩ := hpo
  have h_n := isB_lt k_1 hR.ok.1
  have e_n := fIx_of k_1.1
  rw [e_n] at hl
  refine W.eq (g2 := F0 m 5 ls []) rfl ?_
  refine lv_aload_n hx hb dX3_fraction_5 rfl (lv_at hl 0 rfl) ?_
  refine lv_iload_n hx hb dX3_fraction_6 rfl (lv_at hl 3 rfl) ?_
  refine mw_callV (C := RX3) (As := [.int d]) (rest := []) hx hb hml hown hl (kX3_needBox l htr G H.size M f S hR d) (g_B (n := 1) htb wd271 wd1 wd268 (by decide +kernel) ⟨Nat.le_of_ble_eq_true rfl, Nat.le_of_ble_eq_true rfl⟩) (htb _ wd270) (htb _ ws3) hE hP hS (fs_R.this hR) rfl rfl rfl (Nat.le_of_ble_eq_true rfl) dX3_fraction_7 ⟨Nat.le_of_ble_eq_true rfl, Nat.le_of_ble_eq_true rfl⟩ (fun v9 M9 H locs hpo hP hz hS => ?_) (fun x9 E9 cell9 H9 locs9 hE9 hx9 ho9 hf9 hP9 hz9 hS9 => mx_outF (thr0 := fs_Th (ex_fraction S st n d t) ["java/lang/IndexOutOfBoundsException", "java/lang/IllegalArgumentException", "java/lang/UnsupportedOperationException"]) hno hlocks ⟨0, by rw [ex_fraction, if_pos (fun z9 => hE9.2 z9.2)], by rw [hE9.1]; rfl⟩ hx9 ho9 hf9 hP9 hS9 (Nat.le_of_ble_eq_true rfl) (Nat.le_of_ble_eq_true rfl))
  obtain ⟨rfl, rfl, k_2⟩ := hpo
  have h_d := isB_lt k_2 hR.ok.1
  have e_d := fIx_of k_2.1
  rw [e_d] at hl
  refine W.eq (g2 := F0 m 10 ls []) rfl ?_
  refine lv_iload_n hx hb dX3_fraction_10 rfl (lv_at hl 1 rfl) ?_
  refine mw_callS (As := [.int st]) (rest := []) hx hb hml hown hl (kX3_needStyle l htr G H.size M st) (g_B (n := 1) htb wd381 wd1 wd379 (by decide +kernel) ⟨Nat.le_of_ble_eq_true rfl, Nat.le_of_ble_eq_true rfl⟩) (htb _ wd380) hE hP hS rfl rfl (Nat.le_of_ble_eq_true rfl) dX3_fraction_11 ⟨Nat.le_of_ble_eq_true rfl, Nat.le_of_ble_eq_true rfl⟩ (fun v9 M9 H locs hpo hP hz hS => ?_) (fun x9 E9 cell9 H9 locs9 hE9 hx9 ho9 hf9 hP9 hz9 hS9 => mx_outF (thr0 := fs_Th (ex_fraction S st n d t) ["java/lang/IndexOutOfBoundsException", "java/lang/IllegalArgumentException", "java/lang/UnsupportedOperationException"]) hno hlocks ⟨1, by rw [ex_fraction, if_neg (fun z9 => z9 ⟨k_1, k_2⟩), if_pos (fun z9 => hE9.2 z9.1)], by rw [hE9.1]; rfl⟩ hx9 ho9 hf9 hP9 hS9 (Nat.le_of_ble_eq_true rfl) (Nat.le_of_ble_eq_true rfl))
  obtain ⟨rfl, rfl, k_3⟩ := hpo
  have h_st := isT_lt k_3
  have e_st := fIx_of k_3.1
  rw [e_st] at hl
  refine W.eq (g2 := F0 m 14 ls []) rfl ?_
  refine lv_iload hx hb dX3_fraction_14 (lv_at hl 4 rfl) ?_
  refine lv_iconst (v := 0) hx hb dX3_fraction_16 (by decide) ?_
  refine lv_ldc (v := 1000000) hx hb hown (htb _ wd159) dX3_fraction_17 ?_
  refine mw_callS (As := [.int t, .int 0, .int 1000000]) (rest := []) hx hb hml hown hl (kX3_needWithin l htr G H.size M t 0 1000000) (g_B (n := 3) htb wd162 wd1 wd160 (by decide +kernel) ⟨Nat.le_of_ble_eq_true rfl, Nat.le_of_ble_eq_true rfl⟩) (htb _ wd161) hE hP hS rfl rfl (Nat.le_of_ble_eq_true rfl) dX3_fraction_19 ⟨Nat.le_of_ble_eq_true rfl, Nat.le_of_ble_eq_true rfl⟩ (fun v9 M9 H locs hpo hP hz hS => ?_) (fun x9 E9 cell9 H9 locs9 hE9 hx9 ho9 hf9 hP9 hz9 hS9 => mx_outF (thr0 := fs_Th (ex_fraction S st n d t) ["java/lang/IndexOutOfBoundsException", "java/lang/IllegalArgumentException", "java/lang/UnsupportedOperationException"]) hno hlocks ⟨1, by rw [ex_fraction, if_neg (fun z9 => z9 ⟨k_1, k_2⟩), if_pos (fun z9 => hE9.2 z9.2)], by rw [hE9.1]; rfl⟩ hx9 ho9 hf9 hP9 hS9 (Nat.le_of_ble_eq_true rfl) (Nat.le_of_ble_eq_true rfl))
  obtain ⟨rfl, rfl, k_4⟩ := hpo
  refine W.eq (g2 := F0 m 22 ls []) rfl ?_
  refine lv_aload_n hx hb dX3_fraction_22 rfl (lv_at hl 0 rfl) ?_
  refine lv_iconst (v := 1) hx hb dX3_fraction_23 (by decide) ?_
  refine mw_callV (C := RX3) (As := [.int 1]) (rest := []) hx hb hml hown hl (kX3_needRoom l htr G H.size M f S hR 1) (g_B (n := 1) htb wd198 wd1 wd195 (by decide +kernel) ⟨Nat.le_of_ble_eq_true rfl, Nat.le_of_ble_eq_true rfl⟩) (htb _ wd197) (htb _ ws1) hE hP hS (fs_R.this hR) rfl rfl rfl (Nat.le_of_ble_eq_true rfl) dX3_fraction_24 ⟨Nat.le_of_ble_eq_true rfl, Nat.le_of_ble_eq_true rfl⟩ (fun v9 M9 H locs hpo hP hz hS => ?_) (fun x9 E9 cell9 H9 locs9 hE9 hx9 ho9 hf9 hP9 hz9 hS9 => mx_outF (thr0 := fs_Th (ex_fraction S st n d t) ["java/lang/IndexOutOfBoundsException", "java/lang/IllegalArgumentException", "java/lang/UnsupportedOperationException"]) hno hlocks ⟨2, by rw [ex_fraction, if_neg (fun z9 => z9 ⟨k_1, k_2⟩), if_neg (fun z9 => z9 ⟨k_3, k_4⟩), if_pos (fun z9 => hE9.2 z9)], by rw [hE9.1]; rfl⟩ hx9 ho9 hf9 hP9 hS9 (Nat.le_of_ble_eq_true rfl) (Nat.le_of_ble_eq_true rfl))
  obtain ⟨rfl, rfl, k_5⟩ := hpo
  refine W.eq (g2 := F0 m 27 ls []) rfl ?_
  refine lv_aload_n hx hb dX3_fraction_27 rfl (lv_at hl 0 rfl) ?_
  refine lv_iload hx hb dX3_fraction_28 (lv_at hl 4 rfl) ?_
  refine lv_if_le (tgt := 45) hx hb dX3_fraction_30 (by decide) (fun c_6 => ?_) (fun c_6 => ?_)
  · refine lv_aload_n hx hb dX3_fraction_45 rfl (lv_at hl 0 rfl) ?_
    refine lv_iload_n hx hb dX3_fraction_46 rfl (lv_at hl 1 rfl) ?_
    refine lv_iload_n hx hb dX3_fraction_47 rfl (lv_at hl 2 rfl) ?_
    refine lv_iload_n hx hb dX3_fraction_48 rfl (lv_at hl 3 rfl) ?_
    refine mw_callV (C := RX3) (As := [.int (nI (fIx st)), .int (nI (fIx n)), .int (nI (fIx d))]) (rest := [.ref (f0 f)]) hx hb hml hown hl (kX3_fractionBare l htr G H.size M f S hR hX (fun q h => hAn q (Nat.le_trans hS.1 h)) (fIx st) (fIx n) (fIx d) h_st h_n h_d) (g_B (n := 3) htb wd411 wd1 wd408 (by decide +kernel) ⟨Nat.le_of_ble_eq_true rfl, Nat.le_of_ble_eq_true rfl⟩) (htb _ wd410) (htb _ ws15) hE hP hS (fs_R.this hR) rfl rfl rfl (Nat.le_of_ble_eq_true rfl) dX3_fraction_49 ⟨Nat.le_of_ble_eq_true rfl, Nat.le_of_ble_eq_true rfl⟩ (fun v9 M9 H locs hpo hP hz hS => ?_) (fun x9 E9 cell9 H9 locs9 hE9 => hE9.elim)
    obtain ⟨q_7, rfl, x_8, b_9⟩ := hpo
    obtain ⟨M_11, hM_11⟩ : ∃ z9 : mw_M, z9 = M9 := ⟨_, rfl⟩
    rw [← hM_11] at hP x_8 b_9
    have x_12 : mw_ext M M_11 := mw_ext.tr (mw_ext.rf M) x_8
    have f_13 : M_11 (f0 f) = some (.inr (3, [.ref (fM f), .int (nI (sN S)), .ref (fF f), .ref (fP f), .int (sSp S), .int (sSh S)])) := x_8 _ _ (hR.this)
    refine W.eq (g2 := F0 m 52 ls [.ref q_7, .ref (f0 f)]) rfl ?_
    refine mw_callV (C := RX3) (As := [.ref q_7]) (rest := []) hx hb hml hown hl (kX3_keep l htr G H.size M_11 f S (fs_R.ext hR x_12) (rmk_lt k_5 hR.ok.1) q_7 (fs_fb S (fIx st) (fIx n) (fIx d)) b_9 (fs_pl2 (on_i h_n) (on_i h_d))) (g_B (n := 1) htb wd256 wd1 wd253 (by decide +kernel) ⟨Nat.le_of_ble_eq_true rfl, Nat.le_of_ble_eq_true rfl⟩) (htb _ wd255) (htb _ ws2) hE hP hS (fs_R.this (fs_R.ext hR x_12)) rfl rfl rfl (Nat.le_of_ble_eq_true rfl) dX3_fraction_52 ⟨Nat.le_of_ble_eq_true rfl, Nat.le_of_ble_eq_true rfl⟩ (fun v9 M9 H locs hpo hP hz hS => ?_) (fun x9 E9 cell9 H9 locs9 hE9 => hE9.elim)
    obtain ⟨rfl, hR9, hk9⟩ := hpo
    refine W.eq (g2 := F0 m 55 ls [.int (nI (sN S))]) rfl ?_
    have hre : re_fraction S st n d t = fs_fb S (fIx st) (fIx n) (fIx d) := by simp only [re_fraction, if_pos c_6]
    exact mx_iret (v := (nI (sN S))) (M' := M9) hx hb hr hlocks hP hS ⟨by rw [ex_fraction, if_neg (fun z9 => z9 ⟨k_1, k_2⟩), if_neg (fun z9 => z9 ⟨k_3, k_4⟩), if_neg (fun z9 => z9 k_5)], rfl, by rw [hre]; exact hR9, fs_keeps.tr (fs_keeps.of x_12) hk9⟩ dX3_fraction_55 (Nat.le_of_ble_eq_true rfl) (Nat.le_of_ble_eq_true rfl)
  · refine lv_aload_n hx hb dX3_fraction_33 rfl (lv_at hl 0 rfl) ?_
    refine lv_iload_n hx hb dX3_fraction_34 rfl (lv_at hl 1 rfl) ?_
    refine lv_iload_n hx hb dX3_fraction_35 rfl (lv_at hl 2 rfl) ?_
    refine lv_iload_n hx hb dX3_fraction_36 rfl (lv_at hl 3 rfl) ?_
    refine lv_iload hx hb dX3_fraction_37 (lv_at hl 4 rfl) ?_
    refine mw_callV (C := RX3) (As := [.int (nI (fIx st)), .int (nI (fIx n)), .int (nI (fIx d)), .int t]) (rest := [.ref (f0 f)]) hx hb hml hown hl (kX3_fractionWithLine l htr G H.size M f S hR hX (fun q h => hAn q (Nat.le_trans hS.1 h)) (fIx st) (fIx n) (fIx d) h_st h_n h_d t) (g_B (n := 4) htb wd386 wd1 wd383 (by decide +kernel) ⟨Nat.le_of_ble_eq_true rfl, Nat.le_of_ble_eq_true rfl⟩) (htb _ wd385) (htb _ ws10) hE hP hS (fs_R.this hR) rfl rfl rfl (Nat.le_of_ble_eq_true rfl) dX3_fraction_39 ⟨Nat.le_of_ble_eq_true rfl, Nat.le_of_ble_eq_true rfl⟩ (fun v9 M9 H locs hpo hP hz hS => ?_) (fun x9 E9 cell9 H9 locs9 hE9 => hE9.elim)
    obtain ⟨q_14, rfl, x_15, b_16⟩ := hpo
    obtain ⟨M_18, hM_18⟩ : ∃ z9 : mw_M, z9 = M9 := ⟨_, rfl⟩
    rw [← hM_18] at hP x_15 b_16
    have x_19 : mw_ext M M_18 := mw_ext.tr (mw_ext.rf M) x_15
    have f_20 : M_18 (f0 f) = some (.inr (3, [.ref (fM f), .int (nI (sN S)), .ref (fF f), .ref (fP f), .int (sSp S), .int (sSh S)])) := x_15 _ _ (hR.this)
    refine W.eq (g2 := F0 m 42 ls [.ref q_14, .ref (f0 f)]) rfl ?_
    refine lv_goto (tgt := 52) hx hb dX3_fraction_42 (by decide) ?_
    refine mw_callV (C := RX3) (As := [.ref q_14]) (rest := []) hx hb hml hown hl (kX3_keep l htr G H.size M_18 f S (fs_R.ext hR x_19) (rmk_lt k_5 hR.ok.1) q_14 (fs_fl S (fIx st) (fIx n) (fIx d) t) b_16 (fs_pl3 (on_i h_n) (on_i h_d) (Or.inl rfl))) (g_B (n := 1) htb wd256 wd1 wd253 (by decide +kernel) ⟨Nat.le_of_ble_eq_true rfl, Nat.le_of_ble_eq_true rfl⟩) (htb _ wd255) (htb _ ws2) hE hP hS (fs_R.this (fs_R.ext hR x_19)) rfl rfl rfl (Nat.le_of_ble_eq_true rfl) dX3_fraction_52 ⟨Nat.le_of_ble_eq_true rfl, Nat.le_of_ble_eq_true rfl⟩ (fun v9 M9 H locs hpo hP hz hS => ?_) (fun x9 E9 cell9 H9 locs9 hE9 => hE9.elim)
    obtain ⟨rfl, hR9, hk9⟩ := hpo
    refine W.eq (g2 := F0 m 55 ls [.int (nI (sN S))]) rfl ?_
    have hre : re_fraction S st n d t = fs_fl S (fIx st) (fIx n) (fIx d) t := by simp only [re_fraction, if_neg c_6]
    exact mx_iret (v := (nI (sN S))) (M' := M9) hx hb hr hlocks hP hS ⟨by rw [ex_fraction, if_neg (fun z9 => z9 ⟨k_1, k_2⟩), if_neg (fun z9 => z9 ⟨k_3, k_4⟩), if_neg (fun z9 => z9 k_5)], rfl, by rw [hre]; exact hR9, fs_keeps.tr (fs_keeps.of x_19) hk9⟩ dX3_fraction_55 (Nat.le_of_ble_eq_true rfl) (Nat.le_of_ble_eq_true rfl)
-- X3_limits
set_option maxHeartbeats 4000000 in
set_option maxRecDepth 100000 in
theorem kX3_limits (l : Launch) (htr : l.stackTraces = false) (G : gx_G) (sz : Nat) (M : mw_M) (f : fs_A) (S : fs_S) (hR : fs_R G f M S) (hX : ∀ a, fX f a → M a ≠ none) (hA : ∀ q : Nat, sz ≤ q → gA G q) (st b a z : Int32) : g_Met l G yX3_limits (.code yX3_limits cX3_limits 5 (some .int)) ({ frames := 8, cells := 12, slots := 80, locals := 260 } : Room) sz M [.ref (f0 f), .int st, .int b, .int a, .int z] (fs_Mk G f M S (ex_lim S st b a z) (fs_lm S (fIx st) (fIx b) a z)) (fs_Th (ex_lim S st b a z) ["java/lang/IndexOutOfBoundsException", "java/lang/IllegalArgumentException", "java/lang/UnsupportedOperationException"]) := by
  refine MetE.ofW (cc := cX3_limits) (maxL := 5) (ret := (some .int)) (by decide) rfl ?_
  intro p e s m args below meth c s₁ B hml hv
  obtain ⟨rfl, hsz, hP, hE⟩ := hv
  have hx := B.exec
  have hb := B.bytes
  have hr := B.returns
  have hts := atoms_spec (ws := _ :: lw_big) B.pre
  have htb : ∀ w ∈ lw_big, w.before _ s = true := fun w h => hts w (List.mem_cons_of_mem _ h)
  have hno := B.noHandlers (hts _ List.mem_cons_self)
  have hown : s.vm.findClass RX3 = some m.cls := findClass_of_methodNamed B.named
  have hlocks := B.notSynchronized
  have hK := hE.1
  subst hsz
  have hAn : ∀ q : Nat, s.heap.size ≤ q → gA G q := hA
  have hS : va_S (gA G) s.heap s.heap [] := va_S.rf
  have hl := lv_entry ([.ref (f0 f), .int st, .int b, .int a, .int z]) (n := 5) (Nat.le_of_ble_eq_true rfl)
  rw [lg_entry_eq]
  generalize (lg_sl ([.ref (f0 f), .int st, .int b, .int a, .int z]) ++ List.replicate (5 - (lg_sl ([.ref (f0 f), .int st, .int b, .int a, .int z])).length) Slot.unset).toArray = ls at hl ⊢
  have hl : lv_has ls 5 [(0, .ref (f0 f)), (1, .int st), (2, .int b), (3, .int a), (4, .int z)] := hl
  refine lv_aload_n hx hb dX3_limits_0 rfl (lv_at hl 0 rfl) ?_
  refine lv_iload_n hx hb dX3_limits_1 rfl (lv_at hl 2 rfl) ?_
  refine mw_callV (C := RX3) (As := [.int b]) (rest := []) hx hb hml hown hl (kX3_needBox l htr G s.heap.size M f S hR b) (g_B (n := 1) htb wd271 wd1 wd268 (by decide +kernel) ⟨Nat.le_of_ble_eq_true rfl, Nat.le_of_ble_eq_true rfl⟩) (htb _ wd270) (htb _ ws3) hE hP hS (fs_R.this hR) rfl rfl rfl (Nat.le_of_ble_eq_true rfl) dX3_limits_2 ⟨Nat.le_of_ble_eq_true rfl, Nat.le_of_ble_eq_true rfl⟩ (fun v9 M9 H locs hpo hP hz hS => ?_) (fun x9 E9 cell9 H9 locs9 hE9 hx9 ho9 hf9 hP9 hz9 hS9 => mx_outF (thr0 := fs_Th (ex_lim S st b a z) ["java/lang/IndexOutOfBoundsException", "java/lang/IllegalArgumentException", "java/lang/UnsupportedOperationException"]) hno hlocks ⟨0, by rw [ex_lim, if_pos (fun z9 => hE9.2 z9.1)], by rw [hE9.1]; rfl⟩ hx9 ho9 hf9 hP9 hS9 (Nat.le_of_ble_eq_true rfl) (Nat.le_of_ble_eq_true rfl))
  obtain ⟨rfl, rfl, k_1⟩ := hpo
  have h_b := isB_lt k_1 hR.ok.1
  have e_b := fIx_of k_1.1
  rw [e_b] at hl
  refine W.eq (g2 := F0 m 5 ls []) rfl ?_
  refine lv_aload_n hx hb dX3_limits_5 rfl (lv_at hl 0 rfl) ?_
  refine lv_iload_n hx hb dX3_limits_6 rfl (lv_at hl 3 rfl) ?_
  refine mw_callV (C := RX3) (As := [.int a]) (rest := []) hx hb hml hown hl (kX3_needBoxOrNone l htr G H.size M f S hR a) (g_B (n := 1) htb wd284 wd1 wd281 (by decide +kernel) ⟨Nat.le_of_ble_eq_true rfl, Nat.le_of_ble_eq_true rfl⟩) (htb _ wd283) (htb _ ws4) hE hP hS (fs_R.this hR) rfl rfl rfl (Nat.le_of_ble_eq_true rfl) dX3_limits_7 ⟨Nat.le_of_ble_eq_true rfl, Nat.le_of_ble_eq_true rfl⟩ (fun v9 M9 H locs hpo hP hz hS => ?_) (fun x9 E9 cell9 H9 locs9 hE9 hx9 ho9 hf9 hP9 hz9 hS9 => mx_outF (thr0 := fs_Th (ex_lim S st b a z) ["java/lang/IndexOutOfBoundsException", "java/lang/IllegalArgumentException", "java/lang/UnsupportedOperationException"]) hno hlocks ⟨0, by rw [ex_lim, if_pos (fun z9 => hE9.2 z9.2.1)], by rw [hE9.1]; rfl⟩ hx9 ho9 hf9 hP9 hS9 (Nat.le_of_ble_eq_true rfl) (Nat.le_of_ble_eq_true rfl))
  obtain ⟨rfl, rfl, k_2⟩ := hpo
  have ho_a := isO_on k_2 hR.ok.1
  refine W.eq (g2 := F0 m 10 ls []) rfl ?_
  refine lv_aload_n hx hb dX3_limits_10 rfl (lv_at hl 0 rfl) ?_
  refine lv_iload hx hb dX3_limits_11 (lv_at hl 4 rfl) ?_
  refine mw_callV (C := RX3) (As := [.int z]) (rest := []) hx hb hml hown hl (kX3_needBoxOrNone l htr G H.size M f S hR z) (g_B (n := 1) htb wd284 wd1 wd281 (by decide +kernel) ⟨Nat.le_of_ble_eq_true rfl, Nat.le_of_ble_eq_true rfl⟩) (htb _ wd283) (htb _ ws4) hE hP hS (fs_R.this hR) rfl rfl rfl (Nat.le_of_ble_eq_true rfl) dX3_limits_13 ⟨Nat.le_of_ble_eq_true rfl, Nat.le_of_ble_eq_true rfl⟩ (fun v9 M9 H locs hpo hP hz hS => ?_) (fun x9 E9 cell9 H9 locs9 hE9 hx9 ho9 hf9 hP9 hz9 hS9 => mx_outF (thr0 := fs_Th (ex_lim S st b a z) ["java/lang/IndexOutOfBoundsException", "java/lang/IllegalArgumentException", "java/lang/UnsupportedOperationException"]) hno hlocks ⟨0, by rw [ex_lim, if_pos (fun z9 => hE9.2 z9.2.2)], by rw [hE9.1]; rfl⟩ hx9 ho9 hf9 hP9 hS9 (Nat.le_of_ble_eq_true rfl) (Nat.le_of_ble_eq_true rfl))
  obtain ⟨rfl, rfl, k_3⟩ := hpo
  have ho_z := isO_on k_3 hR.ok.1
  refine W.eq (g2 := F0 m 16 ls []) rfl ?_
  refine lv_iload_n hx hb dX3_limits_16 rfl (lv_at hl 1 rfl) ?_
  refine mw_callS (As := [.int st]) (rest := []) hx hb hml hown hl (kX3_needStyle l htr G H.size M st) (g_B (n := 1) htb wd381 wd1 wd379 (by decide +kernel) ⟨Nat.le_of_ble_eq_true rfl, Nat.le_of_ble_eq_true rfl⟩) (htb _ wd380) hE hP hS rfl rfl (Nat.le_of_ble_eq_true rfl) dX3_limits_17 ⟨Nat.le_of_ble_eq_true rfl, Nat.le_of_ble_eq_true rfl⟩ (fun v9 M9 H locs hpo hP hz hS => ?_) (fun x9 E9 cell9 H9 locs9 hE9 hx9 ho9 hf9 hP9 hz9 hS9 => mx_outF (thr0 := fs_Th (ex_lim S st b a z) ["java/lang/IndexOutOfBoundsException", "java/lang/IllegalArgumentException", "java/lang/UnsupportedOperationException"]) hno hlocks ⟨1, by rw [ex_lim, if_neg (fun z9 => z9 ⟨k_1, k_2, k_3⟩), if_pos (fun z9 => hE9.2 z9.1)], by rw [hE9.1]; rfl⟩ hx9 ho9 hf9 hP9 hS9 (Nat.le_of_ble_eq_true rfl) (Nat.le_of_ble_eq_true rfl))
  obtain ⟨rfl, rfl, k_4⟩ := hpo
  have h_st := isT_lt k_4
  have e_st := fIx_of k_4.1
  rw [e_st] at hl
  refine W.eq (g2 := F0 m 20 ls []) rfl ?_
  refine lv_iload_n hx hb dX3_limits_20 rfl (lv_at hl 3 rfl) ?_
  refine lv_iload hx hb dX3_limits_21 (lv_at hl 4 rfl) ?_
  refine mw_callS (As := [.int a, .int z]) (rest := []) hx hb hml hown hl (kX3_needOneOf l htr G H.size M a z) (g_B (n := 2) htb wd439 wd1 wd437 (by decide +kernel) ⟨Nat.le_of_ble_eq_true rfl, Nat.le_of_ble_eq_true rfl⟩) (htb _ wd438) hE hP hS rfl rfl (Nat.le_of_ble_eq_true rfl) dX3_limits_23 ⟨Nat.le_of_ble_eq_true rfl, Nat.le_of_ble_eq_true rfl⟩ (fun v9 M9 H locs hpo hP hz hS => ?_) (fun x9 E9 cell9 H9 locs9 hE9 hx9 ho9 hf9 hP9 hz9 hS9 => mx_outF (thr0 := fs_Th (ex_lim S st b a z) ["java/lang/IndexOutOfBoundsException", "java/lang/IllegalArgumentException", "java/lang/UnsupportedOperationException"]) hno hlocks ⟨1, by rw [ex_lim, if_neg (fun z9 => z9 ⟨k_1, k_2, k_3⟩), if_pos (fun z9 => hE9.2 z9.2)], by rw [hE9.1]; rfl⟩ hx9 ho9 hf9 hP9 hS9 (Nat.le_of_ble_eq_true rfl) (Nat.le_of_ble_eq_true rfl))
  obtain ⟨rfl, rfl, k_5⟩ := hpo
  refine W.eq (g2 := F0 m 26 ls []) rfl ?_
  refine lv_aload_n hx hb dX3_limits_26 rfl (lv_at hl 0 rfl) ?_
  refine lv_iconst (v := 1) hx hb dX3_limits_27 (by decide) ?_
  refine mw_callV (C := RX3) (As := [.int 1]) (rest := []) hx hb hml hown hl (kX3_needRoom l htr G H.size M f S hR 1) (g_B (n := 1) htb wd198 wd1 wd195 (by decide +kernel) ⟨Nat.le_of_ble_eq_true rfl, Nat.le_of_ble_eq_true rfl⟩) (htb _ wd197) (htb _ ws1) hE hP hS (fs_R.this hR) rfl rfl rfl (Nat.le_of_ble_eq_true rfl) dX3_limits_28 ⟨Nat.le_of_ble_eq_true rfl, Nat.le_of_ble_eq_true rfl⟩ (fun v9 M9 H locs hpo hP hz hS => ?_) (fun x9 E9 cell9 H9 locs9 hE9 hx9 ho9 hf9 hP9 hz9 hS9 => mx_outF (thr0 := fs_Th (ex_lim S st b a z) ["java/lang/IndexOutOfBoundsException", "java/lang/IllegalArgumentException", "java/lang/UnsupportedOperationException"]) hno hlocks ⟨2, by rw [ex_lim, if_neg (fun z9 => z9 ⟨k_1, k_2, k_3⟩), if_neg (fun z9 => z9 ⟨k_4, k_5⟩), if_pos (fun z9 => hE9.2 z9)], by rw [hE9.1]; rfl⟩ hx9 ho9 hf9 hP9 hS9 (Nat.le_of_ble_eq_true rfl) (Nat.le_of_ble_eq_true rfl))
  obtain ⟨rfl, rfl, k_6⟩ := hpo
  refine W.eq (g2 := F0 m 31 ls []) rfl ?_
  refine lv_aload_n hx hb dX3_limits_31 rfl (lv_at hl 0 rfl) ?_
  refine lv_aload_n hx hb dX3_limits_32 rfl (lv_at hl 0 rfl) ?_
  refine lv_iload_n hx hb dX3_limits_33 rfl (lv_at hl 1 rfl) ?_
  refine lv_iload_n hx hb dX3_limits_34 rfl (lv_at hl 2 rfl) ?_
  refine lv_iload_n hx hb dX3_limits_35 rfl (lv_at hl 3 rfl) ?_
  refine lv_iload hx hb dX3_limits_36 (lv_at hl 4 rfl) ?_
  refine mw_callV (C := RX3) (As := [.int (nI (fIx st)), .int (nI (fIx b)), .int a, .int z]) (rest := [.ref (f0 f)]) hx hb hml hown hl (kX3_limitsShape l htr G H.size M f S hR hX (fun q h => hAn q (Nat.le_trans hS.1 h)) (fIx st) (fIx b) h_st h_b a z ho_a ho_z k_5) (g_B (n := 4) htb wd471 wd1 wd468 (by decide +kernel) ⟨Nat.le_of_ble_eq_true rfl, Nat.le_of_ble_eq_true rfl⟩) (htb _ wd470) (htb _ ws23) hE hP hS (fs_R.this hR) rfl rfl rfl (Nat.le_of_ble_eq_true rfl) dX3_limits_38 ⟨Nat.le_of_ble_eq_true rfl, Nat.le_of_ble_eq_true rfl⟩ (fun v9 M9 H locs hpo hP hz hS => ?_) (fun x9 E9 cell9 H9 locs9 hE9 => hE9.elim)
  obtain ⟨q_7, rfl, x_8, b_9⟩ := hpo
  obtain ⟨M_11, hM_11⟩ : ∃ z9 : mw_M, z9 = M9 := ⟨_, rfl⟩
  rw [← hM_11] at hP x_8 b_9
  have x_12 : mw_ext M M_11 := mw_ext.tr (mw_ext.rf M) x_8
  have f_13 : M_11 (f0 f) = some (.inr (3, [.ref (fM f), .int (nI (sN S)), .ref (fF f), .ref (fP f), .int (sSp S), .int (sSh S)])) := x_8 _ _ (hR.this)
  refine W.eq (g2 := F0 m 41 ls [.ref q_7, .ref (f0 f)]) rfl ?_
  refine mw_callV (C := RX3) (As := [.ref q_7]) (rest := []) hx hb hml hown hl (kX3_keep l htr G H.size M_11 f S (fs_R.ext hR x_12) (rmk_lt k_6 hR.ok.1) q_7 (fs_lm S (fIx st) (fIx b) a z) b_9 (fs_lm_pl h_b ho_a ho_z)) (g_B (n := 1) htb wd256 wd1 wd253 (by decide +kernel) ⟨Nat.le_of_ble_eq_true rfl, Nat.le_of_ble_eq_true rfl⟩) (htb _ wd255) (htb _ ws2) hE hP hS (fs_R.this (fs_R.ext hR x_12)) rfl rfl rfl (Nat.le_of_ble_eq_true rfl) dX3_limits_41 ⟨Nat.le_of_ble_eq_true rfl, Nat.le_of_ble_eq_true rfl⟩ (fun v9 M9 H locs hpo hP hz hS => ?_) (fun x9 E9 cell9 H9 locs9 hE9 => hE9.elim)
  obtain ⟨rfl, hR9, hk9⟩ := hpo
  refine W.eq (g2 := F0 m 44 ls [.int (nI (sN S))]) rfl ?_
  have hre : fs_lm S (fIx st) (fIx b) a z = fs_lm S (fIx st) (fIx b) a z := rfl
  exact mx_iret (v := (nI (sN S))) (M' := M9) hx hb hr hlocks hP hS ⟨by rw [ex_lim, if_neg (fun z9 => z9 ⟨k_1, k_2, k_3⟩), if_neg (fun z9 => z9 ⟨k_4, k_5⟩), if_neg (fun z9 => z9 k_6)], rfl, by rw [hre]; exact hR9, fs_keeps.tr (fs_keeps.of x_12) hk9⟩ dX3_limits_44 (Nat.le_of_ble_eq_true rfl) (Nat.le_of_ble_eq_true rfl)
-- X3_row
set_option maxHeartbeats 4000000 in
set_option maxRecDepth 100000 in
theorem kX3_row (l : Launch) (htr : l.stackTraces = false) (G : gx_G) (sz : Nat) (M : mw_M) (f : fs_A) (S : fs_S) (hR : fs_R G f M S) (hX : ∀ a, fX f a → M a ≠ none) (hA : ∀ q : Nat, sz ≤ q → gA G q) (a g b : Int32) : g_Met l G yX3_row (.code yX3_row cX3_row 5 (some .int)) ({ frames := 8, cells := 12, slots := 80, locals := 260 } : Room) sz M [.ref (f0 f), .int a, .int g, .int b] (fs_Mk G f M S (ex_row S a g b) (re_row S a g b)) (fs_Th (ex_row S a g b) ["java/lang/IndexOutOfBoundsException", "java/lang/IllegalArgumentException", "java/lang/UnsupportedOperationException"]) := by
  refine MetE.ofW (cc := cX3_row) (maxL := 5) (ret := (some .int)) (by decide) rfl ?_
  intro p e s m args below meth c s₁ B hml hv
  obtain ⟨rfl, hsz, hP, hE⟩ := hv
  have hx := B.exec
  have hb := B.bytes
  have hr := B.returns
  have hts := atoms_spec (ws := _ :: lw_big) B.pre
  have htb : ∀ w ∈ lw_big, w.before _ s = true := fun w h => hts w (List.mem_cons_of_mem _ h)
  have hno := B.noHandlers (hts _ List.mem_cons_self)
  have hown : s.vm.findClass RX3 = some m.cls := findClass_of_methodNamed B.named
  have hlocks := B.notSynchronized
  have hK := hE.1
  subst hsz
  have hAn : ∀ q : Nat, s.heap.size ≤ q → gA G q := hA
  have hS : va_S (gA G) s.heap s.heap [] := va_S.rf
  have hl := lv_entry ([.ref (f0 f), .int a, .int g, .int b]) (n := 5) (Nat.le_of_ble_eq_true rfl)
  rw [lg_entry_eq]
  generalize (lg_sl ([.ref (f0 f), .int a, .int g, .int b]) ++ List.replicate (5 - (lg_sl ([.ref (f0 f), .int a, .int g, .int b])).length) Slot.unset).toArray = ls at hl ⊢
  have hl : lv_has ls 5 [(0, .ref (f0 f)), (1, .int a), (2, .int g), (3, .int b)] := hl
  refine lv_aload_n hx hb dX3_row_0 rfl (lv_at hl 0 rfl) ?_
  refine lv_iload_n hx hb dX3_row_1 rfl (lv_at hl 1 rfl) ?_
  refine mw_callV (C := RX3) (As := [.int a]) (rest := []) hx hb hml hown hl (kX3_needBox l htr G s.heap.size M f S hR a) (g_B (n := 1) htb wd271 wd1 wd268 (by decide +kernel) ⟨Nat.le_of_ble_eq_true rfl, Nat.le_of_ble_eq_true rfl⟩) (htb _ wd270) (htb _ ws3) hE hP hS (fs_R.this hR) rfl rfl rfl (Nat.le_of_ble_eq_true rfl) dX3_row_2 ⟨Nat.le_of_ble_eq_true rfl, Nat.le_of_ble_eq_true rfl⟩ (fun v9 M9 H locs hpo hP hz hS => ?_) (fun x9 E9 cell9 H9 locs9 hE9 hx9 ho9 hf9 hP9 hz9 hS9 => mx_outF (thr0 := fs_Th (ex_row S a g b) ["java/lang/IndexOutOfBoundsException", "java/lang/IllegalArgumentException", "java/lang/UnsupportedOperationException"]) hno hlocks ⟨0, by rw [ex_row, if_pos (fun z9 => hE9.2 z9.1)], by rw [hE9.1]; rfl⟩ hx9 ho9 hf9 hP9 hS9 (Nat.le_of_ble_eq_true rfl) (Nat.le_of_ble_eq_true rfl))
  obtain ⟨rfl, rfl, k_1⟩ := hpo
  have h_a := isB_lt k_1 hR.ok.1
  have e_a := fIx_of k_1.1
  rw [e_a] at hl
  refine W.eq (g2 := F0 m 5 ls []) rfl ?_
  refine lv_aload_n hx hb dX3_row_5 rfl (lv_at hl 0 rfl) ?_
  refine lv_iload_n hx hb dX3_row_6 rfl (lv_at hl 3 rfl) ?_
  refine mw_callV (C := RX3) (As := [.int b]) (rest := []) hx hb hml hown hl (kX3_needBox l htr G H.size M f S hR b) (g_B (n := 1) htb wd271 wd1 wd268 (by decide +kernel) ⟨Nat.le_of_ble_eq_true rfl, Nat.le_of_ble_eq_true rfl⟩) (htb _ wd270) (htb _ ws3) hE hP hS (fs_R.this hR) rfl rfl rfl (Nat.le_of_ble_eq_true rfl) dX3_row_7 ⟨Nat.le_of_ble_eq_true rfl, Nat.le_of_ble_eq_true rfl⟩ (fun v9 M9 H locs hpo hP hz hS => ?_) (fun x9 E9 cell9 H9 locs9 hE9 hx9 ho9 hf9 hP9 hz9 hS9 => mx_outF (thr0 := fs_Th (ex_row S a g b) ["java/lang/IndexOutOfBoundsException", "java/lang/IllegalArgumentException", "java/lang/UnsupportedOperationException"]) hno hlocks ⟨0, by rw [ex_row, if_pos (fun z9 => hE9.2 z9.2)], by rw [hE9.1]; rfl⟩ hx9 ho9 hf9 hP9 hS9 (Nat.le_of_ble_eq_true rfl) (Nat.le_of_ble_eq_true rfl))
  obtain ⟨rfl, rfl, k_2⟩ := hpo
  have h_b := isB_lt k_2 hR.ok.1
  have e_b := fIx_of k_2.1
  rw [e_b] at hl
  refine W.eq (g2 := F0 m 10 ls []) rfl ?_
  refine lv_iload_n hx hb dX3_row_10 rfl (lv_at hl 2 rfl) ?_
  refine lv_ldc (v := (-1000000)) hx hb hown (htb _ wd158) dX3_row_11 ?_
  refine lv_ldc (v := 1000000) hx hb hown (htb _ wd159) dX3_row_13 ?_
  refine mw_callS (As := [.int g, .int (-1000000), .int 1000000]) (rest := []) hx hb hml hown hl (kX3_needWithin l htr G H.size M g (-1000000) 1000000) (g_B (n := 3) htb wd162 wd1 wd160 (by decide +kernel) ⟨Nat.le_of_ble_eq_true rfl, Nat.le_of_ble_eq_true rfl⟩) (htb _ wd161) hE hP hS rfl rfl (Nat.le_of_ble_eq_true rfl) dX3_row_15 ⟨Nat.le_of_ble_eq_true rfl, Nat.le_of_ble_eq_true rfl⟩ (fun v9 M9 H locs hpo hP hz hS => ?_) (fun x9 E9 cell9 H9 locs9 hE9 hx9 ho9 hf9 hP9 hz9 hS9 => mx_outF (thr0 := fs_Th (ex_row S a g b) ["java/lang/IndexOutOfBoundsException", "java/lang/IllegalArgumentException", "java/lang/UnsupportedOperationException"]) hno hlocks ⟨1, by rw [ex_row, if_neg (fun z9 => z9 ⟨k_1, k_2⟩), if_pos (fun z9 => hE9.2 z9)], by rw [hE9.1]; rfl⟩ hx9 ho9 hf9 hP9 hS9 (Nat.le_of_ble_eq_true rfl) (Nat.le_of_ble_eq_true rfl))
  obtain ⟨rfl, rfl, k_3⟩ := hpo
  refine W.eq (g2 := F0 m 18 ls []) rfl ?_
  refine lv_aload_n hx hb dX3_row_18 rfl (lv_at hl 0 rfl) ?_
  refine lv_iconst (v := 1) hx hb dX3_row_19 (by decide) ?_
  refine mw_callV (C := RX3) (As := [.int 1]) (rest := []) hx hb hml hown hl (kX3_needRoom l htr G H.size M f S hR 1) (g_B (n := 1) htb wd198 wd1 wd195 (by decide +kernel) ⟨Nat.le_of_ble_eq_true rfl, Nat.le_of_ble_eq_true rfl⟩) (htb _ wd197) (htb _ ws1) hE hP hS (fs_R.this hR) rfl rfl rfl (Nat.le_of_ble_eq_true rfl) dX3_row_20 ⟨Nat.le_of_ble_eq_true rfl, Nat.le_of_ble_eq_true rfl⟩ (fun v9 M9 H locs hpo hP hz hS => ?_) (fun x9 E9 cell9 H9 locs9 hE9 hx9 ho9 hf9 hP9 hz9 hS9 => mx_outF (thr0 := fs_Th (ex_row S a g b) ["java/lang/IndexOutOfBoundsException", "java/lang/IllegalArgumentException", "java/lang/UnsupportedOperationException"]) hno hlocks ⟨2, by rw [ex_row, if_neg (fun z9 => z9 ⟨k_1, k_2⟩), if_neg (fun z9 => z9 k_3), if_pos (fun z9 => hE9.2 z9)], by rw [hE9.1]; rfl⟩ hx9 ho9 hf9 hP9 hS9 (Nat.le_of_ble_eq_true rfl) (Nat.le_of_ble_eq_true rfl))
  obtain ⟨rfl, rfl, k_4⟩ := hpo
  refine W.eq (g2 := F0 m 23 ls []) rfl ?_
  refine lv_aload_n hx hb dX3_row_23 rfl (lv_at hl 0 rfl) ?_
  refine lv_iload_n hx hb dX3_row_24 rfl (lv_at hl 1 rfl) ?_
  refine mw_callV (C := RX3) (As := [.int (nI (fIx a))]) (rest := []) hx hb hml hown hl (kX3_widthOf l htr G H.size M f S hR (fIx a) h_a) (g_B (n := 1) htb wd406 wd1 wd403 (by decide +kernel) ⟨Nat.le_of_ble_eq_true rfl, Nat.le_of_ble_eq_true rfl⟩) (htb _ wd405) (htb _ ws14) hE hP hS (fs_R.this hR) rfl rfl rfl (Nat.le_of_ble_eq_true rfl) dX3_row_25 ⟨Nat.le_of_ble_eq_true rfl, Nat.le_of_ble_eq_true rfl⟩ (fun v9 M9 H locs hpo hP hz hS => ?_) (fun x9 E9 cell9 H9 locs9 hE9 => hE9.elim)
  obtain ⟨rfl, rfl⟩ := hpo
  refine W.eq (g2 := F0 m 28 ls [.int (bW S (fIx a))]) rfl ?_
  refine lv_iload_n hx hb dX3_row_28 rfl (lv_at hl 2 rfl) ?_
  refine lv_iadd hx hb dX3_row_29 ?_
  refine lv_istore (lv' := [(4, .int ((bW S (fIx a)) + g)), (0, .ref (f0 f)), (1, .int (nI (fIx a))), (2, .int g), (3, .int (nI (fIx b)))]) hx hb dX3_row_30 hl (by decide) rfl (fun ls hl => ?_)
  refine lv_aload_n hx hb dX3_row_32 rfl (lv_at hl 1 rfl) ?_
  refine lv_aload_n hx hb dX3_row_33 rfl (lv_at hl 1 rfl) ?_
  refine lv_iload hx hb dX3_row_34 (lv_at hl 0 rfl) ?_
  refine lv_aload_n hx hb dX3_row_36 rfl (lv_at hl 1 rfl) ?_
  refine lv_iload_n hx hb dX3_row_37 rfl (lv_at hl 4 rfl) ?_
  refine mw_callV (C := RX3) (As := [.int (nI (fIx b))]) (rest := [.int ((bW S (fIx a)) + g), .ref (f0 f), .ref (f0 f)]) hx hb hml hown hl (kX3_widthOf l htr G H.size M f S hR (fIx b) h_b) (g_B (n := 1) htb wd406 wd1 wd403 (by decide +kernel) ⟨Nat.le_of_ble_eq_true rfl, Nat.le_of_ble_eq_true rfl⟩) (htb _ wd405) (htb _ ws14) hE hP hS (fs_R.this hR) rfl rfl rfl (Nat.le_of_ble_eq_true rfl) dX3_row_38 ⟨Nat.le_of_ble_eq_true rfl, Nat.le_of_ble_eq_true rfl⟩ (fun v9 M9 H locs hpo hP hz hS => ?_) (fun x9 E9 cell9 H9 locs9 hE9 => hE9.elim)
  obtain ⟨rfl, rfl⟩ := hpo
  refine W.eq (g2 := F0 m 41 ls [.int (bW S (fIx b)), .int ((bW S (fIx a)) + g), .ref (f0 f), .ref (f0 f)]) rfl ?_
  refine lv_iadd hx hb dX3_row_41 ?_
  refine lv_bipush (v := 6) hx hb dX3_row_42 (by decide) ?_
  refine mw_newi (N := 6) hx hb (htb _ wd55) hK hP hS 0 rfl (by decide) (by decide) (by decide) (Nat.le_of_ble_eq_true rfl) (Nat.le_of_ble_eq_true rfl) dX3_row_44 (fun q_5 H hq_6 hs_7 hP hS => ?_)
  obtain ⟨M_8, hM_8⟩ : ∃ z9 : mw_M, z9 = mw_up M q_5 (.inl (gI G, 6, .inl (fun _ => 0))) := ⟨_, rfl⟩
  have hP : mw_P (gD G) gx_cl M_8 H := by rw [hM_8]; exact hP
  have n_9 : M q_5 = none := mw_ext.no (mw_ext.rf M) hq_6
  have f_10 : M_8 (f0 f) = some (.inr (3, [.ref (fM f), .int (nI (sN S)), .ref (fF f), .ref (fP f), .int (sSp S), .int (sSh S)])) := by rw [hM_8, mw_ne _ _ (fun z => by have z1 := (hR.this); rw [z, hq_6] at z1; cases z1)]; exact (hR.this)
  have ne_11 : (f0 f) ≠ q_5 := fun z => by have z1 := (hR.this); rw [z, hq_6] at z1; cases z1
  have f_12 : M_8 q_5 = some (.inl (gI G, 6, .inl (fun _ => 0))) := by rw [hM_8]; exact mw_self _ _ _
  have x_13 : mw_ext M M_8 := by rw [hM_8]; exact mw_ext.up (mw_ext.rf M) n_9 _
  refine lv_dup hx hb dX3_row_46 rfl ?_
  refine lv_iconst (v := 0) hx hb dX3_row_47 (by decide) ?_
  refine lv_iload_n hx hb dX3_row_48 rfl (lv_at hl 2 rfl) ?_
  refine mw_iast hx hb hK hP hS 0 f_12 (hAn _ hs_7) rfl (by unfold vp_in; decide) dX3_row_49 (fun H locs hP hS => ?_)
  obtain ⟨M_14, hM_14⟩ : ∃ z9 : mw_M, z9 = mw_up M_8 q_5 (.inl (gI G, 6, .inl (upd (fun _ => 0) 0 (nI (fIx a))))) := ⟨_, rfl⟩
  have hP : mw_P (gD G) gx_cl M_14 H := by rw [hM_14]; exact hP
  have f_15 : M_14 (f0 f) = some (.inr (3, [.ref (fM f), .int (nI (sN S)), .ref (fF f), .ref (fP f), .int (sSp S), .int (sSh S)])) := by rw [hM_14, mw_ne _ _ ne_11]; exact f_10
  have f_16 : M_14 q_5 = some (.inl (gI G, 6, .inl (upd (fun _ => 0) 0 (nI (fIx a))))) := by rw [hM_14]; exact mw_self _ _ _
  have x_17 : mw_ext M M_14 := by rw [hM_14]; exact mw_ext.up x_13 n_9 _
  refine lv_dup hx hb dX3_row_50 rfl ?_
  refine lv_iconst (v := 1) hx hb dX3_row_51 (by decide) ?_
  refine lv_iconst (v := 0) hx hb dX3_row_52 (by decide) ?_
  refine mw_iast hx hb hK hP hS 0 f_16 (hAn _ hs_7) rfl (by unfold vp_in; decide) dX3_row_53 (fun H locs hP hS => ?_)
  obtain ⟨M_18, hM_18⟩ : ∃ z9 : mw_M, z9 = mw_up M_14 q_5 (.inl (gI G, 6, .inl (upd (upd (fun _ => 0) 0 (nI (fIx a))) 1 0))) := ⟨_, rfl⟩
  have hP : mw_P (gD G) gx_cl M_18 H := by rw [hM_18]; exact hP
  have f_19 : M_18 (f0 f) = some (.inr (3, [.ref (fM f), .int (nI (sN S)), .ref (fF f), .ref (fP f), .int (sSp S), .int (sSh S)])) := by rw [hM_18, mw_ne _ _ ne_11]; exact f_15
  have f_20 : M_18 q_5 = some (.inl (gI G, 6, .inl (upd (upd (fun _ => 0) 0 (nI (fIx a))) 1 0))) := by rw [hM_18]; exact mw_self _ _ _
  have x_21 : mw_ext M M_18 := by rw [hM_18]; exact mw_ext.up x_17 n_9 _
  refine lv_dup hx hb dX3_row_54 rfl ?_
  refine lv_iconst (v := 2) hx hb dX3_row_55 (by decide) ?_
  refine lv_iconst (v := 0) hx hb dX3_row_56 (by decide) ?_
  refine mw_iast hx hb hK hP hS 0 f_20 (hAn _ hs_7) rfl (by unfold vp_in; decide) dX3_row_57 (fun H locs hP hS => ?_)
  obtain ⟨M_22, hM_22⟩ : ∃ z9 : mw_M, z9 = mw_up M_18 q_5 (.inl (gI G, 6, .inl (upd (upd (upd (fun _ => 0) 0 (nI (fIx a))) 1 0) 2 0))) := ⟨_, rfl⟩
  have hP : mw_P (gD G) gx_cl M_22 H := by rw [hM_22]; exact hP
  have f_23 : M_22 (f0 f) = some (.inr (3, [.ref (fM f), .int (nI (sN S)), .ref (fF f), .ref (fP f), .int (sSp S), .int (sSh S)])) := by rw [hM_22, mw_ne _ _ ne_11]; exact f_19
  have f_24 : M_22 q_5 = some (.inl (gI G, 6, .inl (upd (upd (upd (fun _ => 0) 0 (nI (fIx a))) 1 0) 2 0))) := by rw [hM_22]; exact mw_self _ _ _
  have x_25 : mw_ext M M_22 := by rw [hM_22]; exact mw_ext.up x_21 n_9 _
  refine lv_dup hx hb dX3_row_58 rfl ?_
  refine lv_iconst (v := 3) hx hb dX3_row_59 (by decide) ?_
  refine lv_iload_n hx hb dX3_row_60 rfl (lv_at hl 4 rfl) ?_
  refine mw_iast hx hb hK hP hS 0 f_24 (hAn _ hs_7) rfl (by unfold vp_in; decide) dX3_row_61 (fun H locs hP hS => ?_)
  obtain ⟨M_26, hM_26⟩ : ∃ z9 : mw_M, z9 = mw_up M_22 q_5 (.inl (gI G, 6, .inl (upd (upd (upd (upd (fun _ => 0) 0 (nI (fIx a))) 1 0) 2 0) 3 (nI (fIx b))))) := ⟨_, rfl⟩
  have hP : mw_P (gD G) gx_cl M_26 H := by rw [hM_26]; exact hP
  have f_27 : M_26 (f0 f) = some (.inr (3, [.ref (fM f), .int (nI (sN S)), .ref (fF f), .ref (fP f), .int (sSp S), .int (sSh S)])) := by rw [hM_26, mw_ne _ _ ne_11]; exact f_23
  have f_28 : M_26 q_5 = some (.inl (gI G, 6, .inl (upd (upd (upd (upd (fun _ => 0) 0 (nI (fIx a))) 1 0) 2 0) 3 (nI (fIx b))))) := by rw [hM_26]; exact mw_self _ _ _
  have x_29 : mw_ext M M_26 := by rw [hM_26]; exact mw_ext.up x_25 n_9 _
  refine lv_dup hx hb dX3_row_62 rfl ?_
  refine lv_iconst (v := 4) hx hb dX3_row_63 (by decide) ?_
  refine lv_iload hx hb dX3_row_64 (lv_at hl 0 rfl) ?_
  refine mw_iast hx hb hK hP hS 0 f_28 (hAn _ hs_7) rfl (by unfold vp_in; decide) dX3_row_66 (fun H locs hP hS => ?_)
  obtain ⟨M_30, hM_30⟩ : ∃ z9 : mw_M, z9 = mw_up M_26 q_5 (.inl (gI G, 6, .inl (upd (upd (upd (upd (upd (fun _ => 0) 0 (nI (fIx a))) 1 0) 2 0) 3 (nI (fIx b))) 4 ((bW S (fIx a)) + g)))) := ⟨_, rfl⟩
  have hP : mw_P (gD G) gx_cl M_30 H := by rw [hM_30]; exact hP
  have f_31 : M_30 (f0 f) = some (.inr (3, [.ref (fM f), .int (nI (sN S)), .ref (fF f), .ref (fP f), .int (sSp S), .int (sSh S)])) := by rw [hM_30, mw_ne _ _ ne_11]; exact f_27
  have f_32 : M_30 q_5 = some (.inl (gI G, 6, .inl (upd (upd (upd (upd (upd (fun _ => 0) 0 (nI (fIx a))) 1 0) 2 0) 3 (nI (fIx b))) 4 ((bW S (fIx a)) + g)))) := by rw [hM_30]; exact mw_self _ _ _
  have x_33 : mw_ext M M_30 := by rw [hM_30]; exact mw_ext.up x_29 n_9 _
  refine lv_dup hx hb dX3_row_67 rfl ?_
  refine lv_iconst (v := 5) hx hb dX3_row_68 (by decide) ?_
  refine lv_iconst (v := 0) hx hb dX3_row_69 (by decide) ?_
  refine mw_iast hx hb hK hP hS 0 f_32 (hAn _ hs_7) rfl (by unfold vp_in; decide) dX3_row_70 (fun H locs hP hS => ?_)
  obtain ⟨M_34, hM_34⟩ : ∃ z9 : mw_M, z9 = mw_up M_30 q_5 (.inl (gI G, 6, .inl (upd (upd (upd (upd (upd (upd (fun _ => 0) 0 (nI (fIx a))) 1 0) 2 0) 3 (nI (fIx b))) 4 ((bW S (fIx a)) + g)) 5 0))) := ⟨_, rfl⟩
  have hP : mw_P (gD G) gx_cl M_34 H := by rw [hM_34]; exact hP
  have f_35 : M_34 (f0 f) = some (.inr (3, [.ref (fM f), .int (nI (sN S)), .ref (fF f), .ref (fP f), .int (sSp S), .int (sSh S)])) := by rw [hM_34, mw_ne _ _ ne_11]; exact f_31
  have f_36 : M_34 q_5 = some (.inl (gI G, 6, .inl (upd (upd (upd (upd (upd (upd (fun _ => 0) 0 (nI (fIx a))) 1 0) 2 0) 3 (nI (fIx b))) 4 ((bW S (fIx a)) + g)) 5 0))) := by rw [hM_34]; exact mw_self _ _ _
  have x_37 : mw_ext M M_34 := by rw [hM_34]; exact mw_ext.up x_33 n_9 _
  refine mw_callV (C := RX3) (As := [.int (((bW S (fIx a)) + g) + (bW S (fIx b))), .ref q_5]) (rest := [.ref (f0 f)]) hx hb hml hown hl (kX3_enclosing l htr G H.size M_34 f S (fs_R.ext hR x_37) (fs_hXe x_37 hX) (fun q h => hAn q (Nat.le_trans hS.1 h)) q_5 (upd (upd (upd (upd (upd (upd (fun _ => 0) 0 (nI (fIx a))) 1 0) 2 0) 3 (nI (fIx b))) 4 ((bW S (fIx a)) + g)) 5 0) (((bW S (fIx a)) + g) + (bW S (fIx b))) [(nI (fIx a)), 0, 0, (nI (fIx b)), ((bW S (fIx a)) + g), 0] f_36 (fun z => hX _ z n_9) (fun j hj => by rcases (show j = 0 ∨ j = 1 ∨ j = 2 ∨ j = 3 ∨ j = 4 ∨ j = 5 by simp at hj; omega) with rfl | rfl | rfl | rfl | rfl | rfl <;> rfl) (by simp) (by simp) (fun j hj => by
      rcases (show j = 0 ∨ j = 1 by simp at hj; omega) with rfl | rfl
      · exact ⟨(fIx a), h_a, rfl⟩
      · exact ⟨(fIx b), h_b, rfl⟩)) (g_B (n := 2) htb wd452 wd1 wd449 (by decide +kernel) ⟨Nat.le_of_ble_eq_true rfl, Nat.le_of_ble_eq_true rfl⟩) (htb _ wd451) (htb _ ws20) hE hP hS (fs_R.this (fs_R.ext hR x_37)) rfl rfl rfl (Nat.le_of_ble_eq_true rfl) dX3_row_71 ⟨Nat.le_of_ble_eq_true rfl, Nat.le_of_ble_eq_true rfl⟩ (fun v9 M9 H locs hpo hP hz hS => ?_) (fun x9 E9 cell9 H9 locs9 hE9 => hE9.elim)
  obtain ⟨q_38, rfl, x_39, b_40⟩ := hpo
  obtain ⟨M_42, hM_42⟩ : ∃ z9 : mw_M, z9 = M9 := ⟨_, rfl⟩
  rw [← hM_42] at hP x_39 b_40
  have x_43 : mw_ext M M_42 := mw_ext.tr x_37 x_39
  have f_44 : M_42 (f0 f) = some (.inr (3, [.ref (fM f), .int (nI (sN S)), .ref (fF f), .ref (fP f), .int (sSp S), .int (sSh S)])) := x_39 _ _ f_35
  have f_45 : M_42 q_5 = some (.inl (gI G, 6, .inl (upd (upd (upd (upd (upd (upd (fun _ => 0) 0 (nI (fIx a))) 1 0) 2 0) 3 (nI (fIx b))) 4 ((bW S (fIx a)) + g)) 5 0))) := x_39 _ _ f_36
  refine W.eq (g2 := F0 m 74 ls [.ref q_38, .ref (f0 f)]) rfl ?_
  refine mw_callV (C := RX3) (As := [.ref q_38]) (rest := []) hx hb hml hown hl (kX3_keep l htr G H.size M_42 f S (fs_R.ext hR x_43) (rmk_lt k_4 hR.ok.1) q_38 (fs_en S (((bW S (fIx a)) + g) + (bW S (fIx b))) [(nI (fIx a)), 0, 0, (nI (fIx b)), ((bW S (fIx a)) + g), 0]) b_40 (fs_pl2 (on_i h_a) (on_i h_b))) (g_B (n := 1) htb wd256 wd1 wd253 (by decide +kernel) ⟨Nat.le_of_ble_eq_true rfl, Nat.le_of_ble_eq_true rfl⟩) (htb _ wd255) (htb _ ws2) hE hP hS (fs_R.this (fs_R.ext hR x_43)) rfl rfl rfl (Nat.le_of_ble_eq_true rfl) dX3_row_74 ⟨Nat.le_of_ble_eq_true rfl, Nat.le_of_ble_eq_true rfl⟩ (fun v9 M9 H locs hpo hP hz hS => ?_) (fun x9 E9 cell9 H9 locs9 hE9 => hE9.elim)
  obtain ⟨rfl, hR9, hk9⟩ := hpo
  refine W.eq (g2 := F0 m 77 ls [.int (nI (sN S))]) rfl ?_
  have hre : re_row S a g b = fs_en S (((bW S (fIx a)) + g) + (bW S (fIx b))) [(nI (fIx a)), 0, 0, (nI (fIx b)), ((bW S (fIx a)) + g), 0] := rfl
  exact mx_iret (v := (nI (sN S))) (M' := M9) hx hb hr hlocks hP hS ⟨by rw [ex_row, if_neg (fun z9 => z9 ⟨k_1, k_2⟩), if_neg (fun z9 => z9 k_3), if_neg (fun z9 => z9 k_4)], rfl, by rw [hre]; exact hR9, fs_keeps.tr (fs_keeps.of x_43) hk9⟩ dX3_row_77 (Nat.le_of_ble_eq_true rfl) (Nat.le_of_ble_eq_true rfl)
-- X3_centre
set_option maxHeartbeats 4000000 in
set_option maxRecDepth 100000 in
theorem kX3_centre (l : Launch) (htr : l.stackTraces = false) (G : gx_G) (sz : Nat) (M : mw_M) (f : fs_A) (S : fs_S) (hR : fs_R G f M S) (hX : ∀ a, fX f a → M a ≠ none) (hA : ∀ q : Nat, sz ≤ q → gA G q) (st x : Int32) : g_Met l G yX3_centre (.code yX3_centre cX3_centre 3 (some .int)) ({ frames := 8, cells := 12, slots := 80, locals := 260 } : Room) sz M [.ref (f0 f), .int st, .int x] (fs_Mk G f M S (ex_centre S st x) (re_centre S st x)) (fs_Th (ex_centre S st x) ["java/lang/IndexOutOfBoundsException", "java/lang/IllegalArgumentException", "java/lang/UnsupportedOperationException"]) := by
  refine MetE.ofW (cc := cX3_centre) (maxL := 3) (ret := (some .int)) (by decide) rfl ?_
  intro p e s m args below meth c s₁ B hml hv
  obtain ⟨rfl, hsz, hP, hE⟩ := hv
  have hx := B.exec
  have hb := B.bytes
  have hr := B.returns
  have hts := atoms_spec (ws := _ :: lw_big) B.pre
  have htb : ∀ w ∈ lw_big, w.before _ s = true := fun w h => hts w (List.mem_cons_of_mem _ h)
  have hno := B.noHandlers (hts _ List.mem_cons_self)
  have hown : s.vm.findClass RX3 = some m.cls := findClass_of_methodNamed B.named
  have hlocks := B.notSynchronized
  have hK := hE.1
  subst hsz
  have hAn : ∀ q : Nat, s.heap.size ≤ q → gA G q := hA
  have hS : va_S (gA G) s.heap s.heap [] := va_S.rf
  have hl := lv_entry ([.ref (f0 f), .int st, .int x]) (n := 3) (Nat.le_of_ble_eq_true rfl)
  rw [lg_entry_eq]
  generalize (lg_sl ([.ref (f0 f), .int st, .int x]) ++ List.replicate (3 - (lg_sl ([.ref (f0 f), .int st, .int x])).length) Slot.unset).toArray = ls at hl ⊢
  have hl : lv_has ls 3 [(0, .ref (f0 f)), (1, .int st), (2, .int x)] := hl
  refine lv_aload_n hx hb dX3_centre_0 rfl (lv_at hl 0 rfl) ?_
  refine lv_iload_n hx hb dX3_centre_1 rfl (lv_at hl 2 rfl) ?_
  refine mw_callV (C := RX3) (As := [.int x]) (rest := []) hx hb hml hown hl (kX3_needBox l htr G s.heap.size M f S hR x) (g_B (n := 1) htb wd271 wd1 wd268 (by decide +kernel) ⟨Nat.le_of_ble_eq_true rfl, Nat.le_of_ble_eq_true rfl⟩) (htb _ wd270) (htb _ ws3) hE hP hS (fs_R.this hR) rfl rfl rfl (Nat.le_of_ble_eq_true rfl) dX3_centre_2 ⟨Nat.le_of_ble_eq_true rfl, Nat.le_of_ble_eq_true rfl⟩ (fun v9 M9 H locs hpo hP hz hS => ?_) (fun x9 E9 cell9 H9 locs9 hE9 hx9 ho9 hf9 hP9 hz9 hS9 => mx_outF (thr0 := fs_Th (ex_centre S st x) ["java/lang/IndexOutOfBoundsException", "java/lang/IllegalArgumentException", "java/lang/UnsupportedOperationException"]) hno hlocks ⟨0, by rw [ex_centre, if_pos (fun z9 => hE9.2 z9)], by rw [hE9.1]; rfl⟩ hx9 ho9 hf9 hP9 hS9 (Nat.le_of_ble_eq_true rfl) (Nat.le_of_ble_eq_true rfl))
  obtain ⟨rfl, rfl, k_1⟩ := hpo
  have h_x := isB_lt k_1 hR.ok.1
  have e_x := fIx_of k_1.1
  rw [e_x] at hl
  refine W.eq (g2 := F0 m 5 ls []) rfl ?_
  refine lv_iload_n hx hb dX3_centre_5 rfl (lv_at hl 1 rfl) ?_
  refine mw_callS (As := [.int st]) (rest := []) hx hb hml hown hl (kX3_needStyle l htr G H.size M st) (g_B (n := 1) htb wd381 wd1 wd379 (by decide +kernel) ⟨Nat.le_of_ble_eq_true rfl, Nat.le_of_ble_eq_true rfl⟩) (htb _ wd380) hE hP hS rfl rfl (Nat.le_of_ble_eq_true rfl) dX3_centre_6 ⟨Nat.le_of_ble_eq_true rfl, Nat.le_of_ble_eq_true rfl⟩ (fun v9 M9 H locs hpo hP hz hS => ?_) (fun x9 E9 cell9 H9 locs9 hE9 hx9 ho9 hf9 hP9 hz9 hS9 => mx_outF (thr0 := fs_Th (ex_centre S st x) ["java/lang/IndexOutOfBoundsException", "java/lang/IllegalArgumentException", "java/lang/UnsupportedOperationException"]) hno hlocks ⟨1, by rw [ex_centre, if_neg (fun z9 => z9 k_1), if_pos (fun z9 => hE9.2 z9)], by rw [hE9.1]; rfl⟩ hx9 ho9 hf9 hP9 hS9 (Nat.le_of_ble_eq_true rfl) (Nat.le_of_ble_eq_true rfl))
  obtain ⟨rfl, rfl, k_2⟩ := hpo
  have h_st := isT_lt k_2
  have e_st := fIx_of k_2.1
  rw [e_st] at hl
  refine W.eq (g2 := F0 m 9 ls []) rfl ?_
  refine lv_aload_n hx hb dX3_centre_9 rfl (lv_at hl 0 rfl) ?_
  refine lv_iconst (v := 1) hx hb dX3_centre_10 (by decide) ?_
  refine mw_callV (C := RX3) (As := [.int 1]) (rest := []) hx hb hml hown hl (kX3_needRoom l htr G H.size M f S hR 1) (g_B (n := 1) htb wd198 wd1 wd195 (by decide +kernel) ⟨Nat.le_of_ble_eq_true rfl, Nat.le_of_ble_eq_true rfl⟩) (htb _ wd197) (htb _ ws1) hE hP hS (fs_R.this hR) rfl rfl rfl (Nat.le_of_ble_eq_true rfl) dX3_centre_11 ⟨Nat.le_of_ble_eq_true rfl, Nat.le_of_ble_eq_true rfl⟩ (fun v9 M9 H locs hpo hP hz hS => ?_) (fun x9 E9 cell9 H9 locs9 hE9 hx9 ho9 hf9 hP9 hz9 hS9 => mx_outF (thr0 := fs_Th (ex_centre S st x) ["java/lang/IndexOutOfBoundsException", "java/lang/IllegalArgumentException", "java/lang/UnsupportedOperationException"]) hno hlocks ⟨2, by rw [ex_centre, if_neg (fun z9 => z9 k_1), if_neg (fun z9 => z9 k_2), if_pos (fun z9 => hE9.2 z9)], by rw [hE9.1]; rfl⟩ hx9 ho9 hf9 hP9 hS9 (Nat.le_of_ble_eq_true rfl) (Nat.le_of_ble_eq_true rfl))
  obtain ⟨rfl, rfl, k_3⟩ := hpo
  refine W.eq (g2 := F0 m 14 ls []) rfl ?_
  refine lv_aload_n hx hb dX3_centre_14 rfl (lv_at hl 0 rfl) ?_
  refine lv_aload_n hx hb dX3_centre_15 rfl (lv_at hl 0 rfl) ?_
  refine lv_aload_n hx hb dX3_centre_16 rfl (lv_at hl 0 rfl) ?_
  refine lv_iload_n hx hb dX3_centre_17 rfl (lv_at hl 2 rfl) ?_
  refine mw_callV (C := RX3) (As := [.int (nI (fIx x))]) (rest := [.ref (f0 f), .ref (f0 f)]) hx hb hml hown hl (kX3_widthOf l htr G H.size M f S hR (fIx x) h_x) (g_B (n := 1) htb wd406 wd1 wd403 (by decide +kernel) ⟨Nat.le_of_ble_eq_true rfl, Nat.le_of_ble_eq_true rfl⟩) (htb _ wd405) (htb _ ws14) hE hP hS (fs_R.this hR) rfl rfl rfl (Nat.le_of_ble_eq_true rfl) dX3_centre_18 ⟨Nat.le_of_ble_eq_true rfl, Nat.le_of_ble_eq_true rfl⟩ (fun v9 M9 H locs hpo hP hz hS => ?_) (fun x9 E9 cell9 H9 locs9 hE9 => hE9.elim)
  obtain ⟨rfl, rfl⟩ := hpo
  refine W.eq (g2 := F0 m 21 ls [.int (bW S (fIx x)), .ref (f0 f), .ref (f0 f)]) rfl ?_
  refine lv_iconst (v := 3) hx hb dX3_centre_21 (by decide) ?_
  refine mw_newi (N := 3) hx hb (htb _ wd55) hK hP hS 0 rfl (by decide) (by decide) (by decide) (Nat.le_of_ble_eq_true rfl) (Nat.le_of_ble_eq_true rfl) dX3_centre_22 (fun q_4 H hq_5 hs_6 hP hS => ?_)
  obtain ⟨M_7, hM_7⟩ : ∃ z9 : mw_M, z9 = mw_up M q_4 (.inl (gI G, 3, .inl (fun _ => 0))) := ⟨_, rfl⟩
  have hP : mw_P (gD G) gx_cl M_7 H := by rw [hM_7]; exact hP
  have n_8 : M q_4 = none := mw_ext.no (mw_ext.rf M) hq_5
  have f_9 : M_7 (f0 f) = some (.inr (3, [.ref (fM f), .int (nI (sN S)), .ref (fF f), .ref (fP f), .int (sSp S), .int (sSh S)])) := by rw [hM_7, mw_ne _ _ (fun z => by have z1 := (hR.this); rw [z, hq_5] at z1; cases z1)]; exact (hR.this)
  have ne_10 : (f0 f) ≠ q_4 := fun z => by have z1 := (hR.this); rw [z, hq_5] at z1; cases z1
  have f_11 : M_7 q_4 = some (.inl (gI G, 3, .inl (fun _ => 0))) := by rw [hM_7]; exact mw_self _ _ _
  have x_12 : mw_ext M M_7 := by rw [hM_7]; exact mw_ext.up (mw_ext.rf M) n_8 _
  refine lv_dup hx hb dX3_centre_24 rfl ?_
  refine lv_iconst (v := 0) hx hb dX3_centre_25 (by decide) ?_
  refine lv_iload_n hx hb dX3_centre_26 rfl (lv_at hl 2 rfl) ?_
  refine mw_iast hx hb hK hP hS 0 f_11 (hAn _ hs_6) rfl (by unfold vp_in; decide) dX3_centre_27 (fun H locs hP hS => ?_)
  obtain ⟨M_13, hM_13⟩ : ∃ z9 : mw_M, z9 = mw_up M_7 q_4 (.inl (gI G, 3, .inl (upd (fun _ => 0) 0 (nI (fIx x))))) := ⟨_, rfl⟩
  have hP : mw_P (gD G) gx_cl M_13 H := by rw [hM_13]; exact hP
  have f_14 : M_13 (f0 f) = some (.inr (3, [.ref (fM f), .int (nI (sN S)), .ref (fF f), .ref (fP f), .int (sSp S), .int (sSh S)])) := by rw [hM_13, mw_ne _ _ ne_10]; exact f_9
  have f_15 : M_13 q_4 = some (.inl (gI G, 3, .inl (upd (fun _ => 0) 0 (nI (fIx x))))) := by rw [hM_13]; exact mw_self _ _ _
  have x_16 : mw_ext M M_13 := by rw [hM_13]; exact mw_ext.up x_12 n_8 _
  refine lv_dup hx hb dX3_centre_28 rfl ?_
  refine lv_iconst (v := 1) hx hb dX3_centre_29 (by decide) ?_
  refine lv_iconst (v := 0) hx hb dX3_centre_30 (by decide) ?_
  refine mw_iast hx hb hK hP hS 0 f_15 (hAn _ hs_6) rfl (by unfold vp_in; decide) dX3_centre_31 (fun H locs hP hS => ?_)
  obtain ⟨M_17, hM_17⟩ : ∃ z9 : mw_M, z9 = mw_up M_13 q_4 (.inl (gI G, 3, .inl (upd (upd (fun _ => 0) 0 (nI (fIx x))) 1 0))) := ⟨_, rfl⟩
  have hP : mw_P (gD G) gx_cl M_17 H := by rw [hM_17]; exact hP
  have f_18 : M_17 (f0 f) = some (.inr (3, [.ref (fM f), .int (nI (sN S)), .ref (fF f), .ref (fP f), .int (sSp S), .int (sSh S)])) := by rw [hM_17, mw_ne _ _ ne_10]; exact f_14
  have f_19 : M_17 q_4 = some (.inl (gI G, 3, .inl (upd (upd (fun _ => 0) 0 (nI (fIx x))) 1 0))) := by rw [hM_17]; exact mw_self _ _ _
  have x_20 : mw_ext M M_17 := by rw [hM_17]; exact mw_ext.up x_16 n_8 _
  refine lv_dup hx hb dX3_centre_32 rfl ?_
  refine lv_iconst (v := 2) hx hb dX3_centre_33 (by decide) ?_
  refine lv_aload_n hx hb dX3_centre_34 rfl (lv_at hl 0 rfl) ?_
  refine lv_iload_n hx hb dX3_centre_35 rfl (lv_at hl 1 rfl) ?_
  refine lv_iload_n hx hb dX3_centre_36 rfl (lv_at hl 2 rfl) ?_
  refine mw_callV (C := RX3) (As := [.int (nI (fIx st)), .int (nI (fIx x))]) (rest := [.int 2, .ref q_4, .ref q_4, .int (bW S (fIx x)), .ref (f0 f), .ref (f0 f)]) hx hb hml hown hl (kX3_onAxis l htr G H.size M_17 f S (fs_R.ext hR x_20) (fIx st) (fIx x) h_st h_x) (g_B (n := 2) htb wd486 wd1 wd483 (by decide +kernel) ⟨Nat.le_of_ble_eq_true rfl, Nat.le_of_ble_eq_true rfl⟩) (htb _ wd485) (htb _ ws25) hE hP hS (fs_R.this (fs_R.ext hR x_20)) rfl rfl rfl (Nat.le_of_ble_eq_true rfl) dX3_centre_37 ⟨Nat.le_of_ble_eq_true rfl, Nat.le_of_ble_eq_true rfl⟩ (fun v9 M9 H locs hpo hP hz hS => ?_) (fun x9 E9 cell9 H9 locs9 hE9 => hE9.elim)
  obtain ⟨rfl, rfl⟩ := hpo
  refine W.eq (g2 := F0 m 40 ls [.int (fs_ax S (fIx st) (fIx x)), .int 2, .ref q_4, .ref q_4, .int (bW S (fIx x)), .ref (f0 f), .ref (f0 f)]) rfl ?_
  refine mw_iast hx hb hK hP hS 0 f_19 (hAn _ hs_6) rfl (by unfold vp_in; decide) dX3_centre_40 (fun H locs hP hS => ?_)
  obtain ⟨M_21, hM_21⟩ : ∃ z9 : mw_M, z9 = mw_up M_17 q_4 (.inl (gI G, 3, .inl (upd (upd (upd (fun _ => 0) 0 (nI (fIx x))) 1 0) 2 (fs_ax S (fIx st) (fIx x))))) := ⟨_, rfl⟩
  have hP : mw_P (gD G) gx_cl M_21 H := by rw [hM_21]; exact hP
  have f_22 : M_21 (f0 f) = some (.inr (3, [.ref (fM f), .int (nI (sN S)), .ref (fF f), .ref (fP f), .int (sSp S), .int (sSh S)])) := by rw [hM_21, mw_ne _ _ ne_10]; exact f_18
  have f_23 : M_21 q_4 = some (.inl (gI G, 3, .inl (upd (upd (upd (fun _ => 0) 0 (nI (fIx x))) 1 0) 2 (fs_ax S (fIx st) (fIx x))))) := by rw [hM_21]; exact mw_self _ _ _
  have x_24 : mw_ext M M_21 := by rw [hM_21]; exact mw_ext.up x_20 n_8 _
  refine mw_callV (C := RX3) (As := [.int (bW S (fIx x)), .ref q_4]) (rest := [.ref (f0 f)]) hx hb hml hown hl (kX3_enclosing l htr G H.size M_21 f S (fs_R.ext hR x_24) (fs_hXe x_24 hX) (fun q h => hAn q (Nat.le_trans hS.1 h)) q_4 (upd (upd (upd (fun _ => 0) 0 (nI (fIx x))) 1 0) 2 (fs_ax S (fIx st) (fIx x))) (bW S (fIx x)) [(nI (fIx x)), 0, (fs_ax S (fIx st) (fIx x))] f_23 (fun z => hX _ z n_8) (fun j hj => by rcases (show j = 0 ∨ j = 1 ∨ j = 2 by simp at hj; omega) with rfl | rfl | rfl <;> rfl) (by simp) (by simp) (fun j hj => by
      rcases (show j = 0 by simp at hj; omega) with rfl
      · exact ⟨(fIx x), h_x, rfl⟩)) (g_B (n := 2) htb wd452 wd1 wd449 (by decide +kernel) ⟨Nat.le_of_ble_eq_true rfl, Nat.le_of_ble_eq_true rfl⟩) (htb _ wd451) (htb _ ws20) hE hP hS (fs_R.this (fs_R.ext hR x_24)) rfl rfl rfl (Nat.le_of_ble_eq_true rfl) dX3_centre_41 ⟨Nat.le_of_ble_eq_true rfl, Nat.le_of_ble_eq_true rfl⟩ (fun v9 M9 H locs hpo hP hz hS => ?_) (fun x9 E9 cell9 H9 locs9 hE9 => hE9.elim)
  obtain ⟨q_25, rfl, x_26, b_27⟩ := hpo
  obtain ⟨M_29, hM_29⟩ : ∃ z9 : mw_M, z9 = M9 := ⟨_, rfl⟩
  rw [← hM_29] at hP x_26 b_27
  have x_30 : mw_ext M M_29 := mw_ext.tr x_24 x_26
  have f_31 : M_29 (f0 f) = some (.inr (3, [.ref (fM f), .int (nI (sN S)), .ref (fF f), .ref (fP f), .int (sSp S), .int (sSh S)])) := x_26 _ _ f_22
  have f_32 : M_29 q_4 = some (.inl (gI G, 3, .inl (upd (upd (upd (fun _ => 0) 0 (nI (fIx x))) 1 0) 2 (fs_ax S (fIx st) (fIx x))))) := x_26 _ _ f_23
  refine W.eq (g2 := F0 m 44 ls [.ref q_25, .ref (f0 f)]) rfl ?_
  refine mw_callV (C := RX3) (As := [.ref q_25]) (rest := []) hx hb hml hown hl (kX3_keep l htr G H.size M_29 f S (fs_R.ext hR x_30) (rmk_lt k_3 hR.ok.1) q_25 (fs_en S (bW S (fIx x)) [(nI (fIx x)), 0, (fs_ax S (fIx st) (fIx x))]) b_27 (fs_pl1 (on_i h_x))) (g_B (n := 1) htb wd256 wd1 wd253 (by decide +kernel) ⟨Nat.le_of_ble_eq_true rfl, Nat.le_of_ble_eq_true rfl⟩) (htb _ wd255) (htb _ ws2) hE hP hS (fs_R.this (fs_R.ext hR x_30)) rfl rfl rfl (Nat.le_of_ble_eq_true rfl) dX3_centre_44 ⟨Nat.le_of_ble_eq_true rfl, Nat.le_of_ble_eq_true rfl⟩ (fun v9 M9 H locs hpo hP hz hS => ?_) (fun x9 E9 cell9 H9 locs9 hE9 => hE9.elim)
  obtain ⟨rfl, hR9, hk9⟩ := hpo
  refine W.eq (g2 := F0 m 47 ls [.int (nI (sN S))]) rfl ?_
  have hre : re_centre S st x = fs_en S (bW S (fIx x)) [(nI (fIx x)), 0, (fs_ax S (fIx st) (fIx x))] := rfl
  exact mx_iret (v := (nI (sN S))) (M' := M9) hx hb hr hlocks hP hS ⟨by rw [ex_centre, if_neg (fun z9 => z9 k_1), if_neg (fun z9 => z9 k_2), if_neg (fun z9 => z9 k_3)], rfl, by rw [hre]; exact hR9, fs_keeps.tr (fs_keeps.of x_30) hk9⟩ dX3_centre_47 (Nat.le_of_ble_eq_true rfl) (Nat.le_of_ble_eq_true rfl)
