/-! printed by wip/whole/spec*.py -/
-- X3_brackets
set_option maxHeartbeats 4000000 in
set_option maxRecDepth 100000 in
theorem kX3_brackets (l : Launch) (htr : l.stackTraces = false) (G : gx_G) (sz : Nat) (M : mw_M) (f : fs_A) (S : fs_S) (hR : fs_R G f M S) (hX : ∀ a, fX f a → M a ≠ none) (hA : ∀ q : Nat, sz ≤ q → gA G q) (st a x b : Int32) : g_Met l G yX3_brackets (.code yX3_brackets cX3_brackets 14 (some .int)) ({ frames := 9, cells := 20, slots := 900, locals := 300 } : Room) sz M [.ref (f0 f), .int st, .int a, .int x, .int b] (fs_Up G f M (ex_brackets S st a x b) (some (.int (nI (sN (br_S S st a x b))))) (fs_push (br_S S st a x b) (re_brackets S st a x b))) (fs_Th (ex_brackets S st a x b) ["java/lang/IndexOutOfBoundsException", "java/lang/IllegalArgumentException", "java/lang/IllegalStateException", "java/lang/UnsupportedOperationException"]) := by
  refine MetE.ofW (cc := cX3_brackets) (maxL := 14) (ret := (some .int)) (by decide) rfl ?_
  intro p e s m args below meth c s₁ B hml hv
  obtain ⟨rfl, hsz, hP, hE⟩ := hv
  have hx := B.exec
  have hb := B.bytes
  have hr := B.returns
  have hts := atoms_spec (ws := _ :: lw_big) B.pre
  have htb : ∀ w ∈ lw_big, w.before _ s = true := fun w h => hts w (List.mem_cons_of_mem _ h)
  have hno := B.noHandlers (hts _ List.mem_cons_self)
  have hown : s.vm.findClass RX3 = some m.cls := findClass_of_methodNamed B.named
  have hlocks := B.notSynchronized
  have hK := hE.1
  subst hsz
  have hAn : ∀ q : Nat, s.heap.size ≤ q → gA G q := hA
  have hS : va_S (gA G) s.heap s.heap [] := va_S.rf
  have hl := lv_entry ([.ref (f0 f), .int st, .int a, .int x, .int b]) (n := 14) (Nat.le_of_ble_eq_true rfl)
  rw [lg_entry_eq]
  generalize (lg_sl ([.ref (f0 f), .int st, .int a, .int x, .int b]) ++ List.replicate (14 - (lg_sl ([.ref (f0 f), .int st, .int a, .int x, .int b])).length) Slot.unset).toArray = ls at hl ⊢
  have hl : lv_has ls 14 [(0, .ref (f0 f)), (1, .int st), (2, .int a), (3, .int x), (4, .int b)] := hl
  obtain ⟨gm, gf, g, h1, h2, h3, h4, h5, h6, h7, h8, h9⟩ := id hR
  refine lv_iload_n hx hb dX3_brackets_0 rfl (lv_at hl 2 rfl) ?_
  refine mw_callS (As := [.int a]) (rest := []) hx hb hml hown hl (kX3_needFamily l htr G s.heap.size M a) (g_B (n := 1) htb wd266 wd1 wd264 (by decide +kernel) ⟨Nat.le_of_ble_eq_true rfl, Nat.le_of_ble_eq_true rfl⟩) (htb _ wd265) hE hP hS rfl rfl (Nat.le_of_ble_eq_true rfl) dX3_brackets_1 ⟨Nat.le_of_ble_eq_true rfl, Nat.le_of_ble_eq_true rfl⟩ (fun v9 M9 H locs hpo hP hz hS => ?_) (fun x9 E9 cell9 H9 locs9 hE9 hx9 ho9 hf9 hP9 hz9 hS9 => mx_outF (thr0 := fs_Th (ex_brackets S st a x b) ["java/lang/IndexOutOfBoundsException", "java/lang/IllegalArgumentException", "java/lang/IllegalStateException", "java/lang/UnsupportedOperationException"]) hno hlocks ⟨0, by rw [ex_brackets, if_pos (fun z9 => hE9.2 z9.1)], by rw [hE9.1]; rfl⟩ hx9 ho9 hf9 hP9 hS9 (Nat.le_of_ble_eq_true rfl) (Nat.le_of_ble_eq_true rfl))
  obtain ⟨rfl, rfl, k_1⟩ := hpo
  have h_a := isF_lt k_1
  have e_a := fIx_of k_1.1
  rw [e_a] at hl
  refine W.eq (g2 := F0 m 4 ls []) rfl ?_
  refine lv_aload_n hx hb dX3_brackets_4 rfl (lv_at hl 0 rfl) ?_
  refine lv_iload_n hx hb dX3_brackets_5 rfl (lv_at hl 3 rfl) ?_
  refine mw_callV (C := RX3) (As := [.int x]) (rest := []) hx hb hml hown hl (kX3_needBox l htr G H.size M f S hR x) (g_B (n := 1) htb wd271 wd1 wd268 (by decide +kernel) ⟨Nat.le_of_ble_eq_true rfl, Nat.le_of_ble_eq_true rfl⟩) (htb _ wd270) (htb _ ws3) hE hP hS (fs_R.this hR) rfl rfl rfl (Nat.le_of_ble_eq_true rfl) dX3_brackets_6 ⟨Nat.le_of_ble_eq_true rfl, Nat.le_of_ble_eq_true rfl⟩ (fun v9 M9 H locs hpo hP hz hS => ?_) (fun x9 E9 cell9 H9 locs9 hE9 hx9 ho9 hf9 hP9 hz9 hS9 => mx_outF (thr0 := fs_Th (ex_brackets S st a x b) ["java/lang/IndexOutOfBoundsException", "java/lang/IllegalArgumentException", "java/lang/IllegalStateException", "java/lang/UnsupportedOperationException"]) hno hlocks ⟨0, by rw [ex_brackets, if_pos (fun z9 => hE9.2 z9.2.1)], by rw [hE9.1]; rfl⟩ hx9 ho9 hf9 hP9 hS9 (Nat.le_of_ble_eq_true rfl) (Nat.le_of_ble_eq_true rfl))
  obtain ⟨rfl, rfl, k_2⟩ := hpo
  have h_x := isB_lt k_2 hR.ok.1
  have e_x := fIx_of k_2.1
  rw [e_x] at hl
  refine W.eq (g2 := F0 m 9 ls []) rfl ?_
  refine lv_iload hx hb dX3_brackets_9 (lv_at hl 4 rfl) ?_
  refine mw_callS (As := [.int b]) (rest := []) hx hb hml hown hl (kX3_needFamily l htr G H.size M b) (g_B (n := 1) htb wd266 wd1 wd264 (by decide +kernel) ⟨Nat.le_of_ble_eq_true rfl, Nat.le_of_ble_eq_true rfl⟩) (htb _ wd265) hE hP hS rfl rfl (Nat.le_of_ble_eq_true rfl) dX3_brackets_11 ⟨Nat.le_of_ble_eq_true rfl, Nat.le_of_ble_eq_true rfl⟩ (fun v9 M9 H locs hpo hP hz hS => ?_) (fun x9 E9 cell9 H9 locs9 hE9 hx9 ho9 hf9 hP9 hz9 hS9 => mx_outF (thr0 := fs_Th (ex_brackets S st a x b) ["java/lang/IndexOutOfBoundsException", "java/lang/IllegalArgumentException", "java/lang/IllegalStateException", "java/lang/UnsupportedOperationException"]) hno hlocks ⟨0, by rw [ex_brackets, if_pos (fun z9 => hE9.2 z9.2.2)], by rw [hE9.1]; rfl⟩ hx9 ho9 hf9 hP9 hS9 (Nat.le_of_ble_eq_true rfl) (Nat.le_of_ble_eq_true rfl))
  obtain ⟨rfl, rfl, k_3⟩ := hpo
  have h_b := isF_lt k_3
  have e_b := fIx_of k_3.1
  rw [e_b] at hl
  refine W.eq (g2 := F0 m 14 ls []) rfl ?_
  refine lv_iload_n hx hb dX3_brackets_14 rfl (lv_at hl 1 rfl) ?_
  refine mw_callS (As := [.int st]) (rest := []) hx hb hml hown hl (kX3_needStyle l htr G H.size M st) (g_B (n := 1) htb wd381 wd1 wd379 (by decide +kernel) ⟨Nat.le_of_ble_eq_true rfl, Nat.le_of_ble_eq_true rfl⟩) (htb _ wd380) hE hP hS rfl rfl (Nat.le_of_ble_eq_true rfl) dX3_brackets_15 ⟨Nat.le_of_ble_eq_true rfl, Nat.le_of_ble_eq_true rfl⟩ (fun v9 M9 H locs hpo hP hz hS => ?_) (fun x9 E9 cell9 H9 locs9 hE9 hx9 ho9 hf9 hP9 hz9 hS9 => mx_outF (thr0 := fs_Th (ex_brackets S st a x b) ["java/lang/IndexOutOfBoundsException", "java/lang/IllegalArgumentException", "java/lang/IllegalStateException", "java/lang/UnsupportedOperationException"]) hno hlocks ⟨1, by rw [ex_brackets, if_neg (fun z9 => z9 ⟨k_1, k_2, k_3⟩), if_pos (fun z9 => hE9.2 z9)], by rw [hE9.1]; rfl⟩ hx9 ho9 hf9 hP9 hS9 (Nat.le_of_ble_eq_true rfl) (Nat.le_of_ble_eq_true rfl))
  obtain ⟨rfl, rfl, k_4⟩ := hpo
  have h_st := isT_lt k_4
  have e_st := fIx_of k_4.1
  rw [e_st] at hl
  obtain ⟨hgf_a, gr_a, hf1_a, hf2_a, hf3_a⟩ := h7 (fIx a) h_a
  obtain ⟨hgf_b, gr_b, hf1_b, hf2_b, hf3_b⟩ := h7 (fIx b) h_b
  refine W.eq (g2 := F0 m 18 ls []) rfl ?_
  refine lv_aload_n hx hb dX3_brackets_18 rfl (lv_at hl 0 rfl) ?_
  refine mw_get (D := gD G) (ci := 3) (v := .ref (fF f)) (C := RX3) (T := TX3) (N := 6) hx hb htb inX3 hown hK hP h1 rfl 2 (by decide) (htb _ wd58) (fun _ h9 => h9) rfl dX3_brackets_19 ?_
  refine lv_iload_n hx hb dX3_brackets_22 rfl (lv_at hl 2 rfl) ?_
  refine mw_aald hx hb hK hP 2 h3 rfl (vp_in_nI h_a (by decide)) dX3_brackets_23 ?_
  refine W.eq (g2 := F0 m 24 ls [.ref (fQ f (fIx a))]) (by rw [nI_clamp (show (fIx a) < 2 ^ 31 by omega), hgf_a]; rfl) ?_
  refine lv_astore (lv' := [(5, .ref (fQ f (fIx a))), (0, .ref (f0 f)), (1, .int (nI (fIx st))), (2, .int (nI (fIx a))), (3, .int (nI (fIx x))), (4, .int (nI (fIx b)))]) hx hb dX3_brackets_24 hl (by decide) rfl (fun ls hl => ?_)
  refine lv_aload_n hx hb dX3_brackets_26 rfl (lv_at hl 1 rfl) ?_
  refine mw_get (D := gD G) (ci := 3) (v := .ref (fF f)) (C := RX3) (T := TX3) (N := 6) hx hb htb inX3 hown hK hP h1 rfl 2 (by decide) (htb _ wd58) (fun _ h9 => h9) rfl dX3_brackets_27 ?_
  refine lv_iload hx hb dX3_brackets_30 (lv_at hl 5 rfl) ?_
  refine mw_aald hx hb hK hP 2 h3 rfl (vp_in_nI h_b (by decide)) dX3_brackets_32 ?_
  refine W.eq (g2 := F0 m 33 ls [.ref (fQ f (fIx b))]) (by rw [nI_clamp (show (fIx b) < 2 ^ 31 by omega), hgf_b]; rfl) ?_
  refine lv_astore (lv' := [(6, .ref (fQ f (fIx b))), (5, .ref (fQ f (fIx a))), (0, .ref (f0 f)), (1, .int (nI (fIx st))), (2, .int (nI (fIx a))), (3, .int (nI (fIx x))), (4, .int (nI (fIx b)))]) hx hb dX3_brackets_33 hl (by decide) rfl (fun ls hl => ?_)
  refine lv_aload hx hb dX3_brackets_35 (lv_at hl 1 rfl) ?_
  refine mw_callS (As := [.ref (fQ f (fIx a))]) (rest := []) hx hb hml hown hl (kX3_needSign l htr G H.size M f S hR (fIx a) h_a) (g_B (n := 1) htb wd301 wd1 wd299 (by decide +kernel) ⟨Nat.le_of_ble_eq_true rfl, Nat.le_of_ble_eq_true rfl⟩) (htb _ wd300) hE hP hS rfl rfl (Nat.le_of_ble_eq_true rfl) dX3_brackets_37 ⟨Nat.le_of_ble_eq_true rfl, Nat.le_of_ble_eq_true rfl⟩ (fun v9 M9 H locs hpo hP hz hS => ?_) (fun x9 E9 cell9 H9 locs9 hE9 hx9 ho9 hf9 hP9 hz9 hS9 => mx_outF (thr0 := fs_Th (ex_brackets S st a x b) ["java/lang/IndexOutOfBoundsException", "java/lang/IllegalArgumentException", "java/lang/IllegalStateException", "java/lang/UnsupportedOperationException"]) hno hlocks ⟨2, by rw [ex_brackets, if_neg (fun z9 => z9 ⟨k_1, k_2, k_3⟩), if_neg (fun z9 => z9 k_4), if_pos (fun z9 => hE9.2 z9.1)], by rw [hE9.1]; rfl⟩ hx9 ho9 hf9 hP9 hS9 (Nat.le_of_ble_eq_true rfl) (Nat.le_of_ble_eq_true rfl))
  obtain ⟨rfl, rfl, k_5⟩ := hpo
  refine W.eq (g2 := F0 m 40 ls []) rfl ?_
  refine lv_aload hx hb dX3_brackets_40 (lv_at hl 0 rfl) ?_
  refine mw_callS (As := [.ref (fQ f (fIx b))]) (rest := []) hx hb hml hown hl (kX3_needSign l htr G H.size M f S hR (fIx b) h_b) (g_B (n := 1) htb wd301 wd1 wd299 (by decide +kernel) ⟨Nat.le_of_ble_eq_true rfl, Nat.le_of_ble_eq_true rfl⟩) (htb _ wd300) hE hP hS rfl rfl (Nat.le_of_ble_eq_true rfl) dX3_brackets_42 ⟨Nat.le_of_ble_eq_true rfl, Nat.le_of_ble_eq_true rfl⟩ (fun v9 M9 H locs hpo hP hz hS => ?_) (fun x9 E9 cell9 H9 locs9 hE9 hx9 ho9 hf9 hP9 hz9 hS9 => mx_outF (thr0 := fs_Th (ex_brackets S st a x b) ["java/lang/IndexOutOfBoundsException", "java/lang/IllegalArgumentException", "java/lang/IllegalStateException", "java/lang/UnsupportedOperationException"]) hno hlocks ⟨2, by rw [ex_brackets, if_neg (fun z9 => z9 ⟨k_1, k_2, k_3⟩), if_neg (fun z9 => z9 k_4), if_pos (fun z9 => hE9.2 z9.2)], by rw [hE9.1]; rfl⟩ hx9 ho9 hf9 hP9 hS9 (Nat.le_of_ble_eq_true rfl) (Nat.le_of_ble_eq_true rfl))
  obtain ⟨rfl, rfl, k_6⟩ := hpo
  refine W.eq (g2 := F0 m 45 ls []) rfl ?_
  refine lv_aload_n hx hb dX3_brackets_45 rfl (lv_at hl 2 rfl) ?_
  refine lv_iload_n hx hb dX3_brackets_46 rfl (lv_at hl 3 rfl) ?_
  refine lv_iload_n hx hb dX3_brackets_47 rfl (lv_at hl 5 rfl) ?_
  refine mw_callV (C := RX3) (As := [.int (nI (fIx st)), .int (nI (fIx x))]) (rest := []) hx hb hml hown hl (kX3_bracketsLeast l htr G H.size M f S hR (fIx st) h_st (fIx x) h_x) (g_B (n := 2) htb wd482 wd1 wd479 (by decide +kernel) ⟨Nat.le_of_ble_eq_true rfl, Nat.le_of_ble_eq_true rfl⟩) (htb _ wd481) (htb _ ws24) hE hP hS (fs_R.this hR) rfl rfl rfl (Nat.le_of_ble_eq_true rfl) dX3_brackets_48 ⟨Nat.le_of_ble_eq_true rfl, Nat.le_of_ble_eq_true rfl⟩ (fun v9 M9 H locs hpo hP hz hS => ?_) (fun x9 E9 cell9 H9 locs9 hE9 => hE9.elim)
  obtain ⟨rfl, rfl⟩ := hpo
  refine W.eq (g2 := F0 m 51 ls [.int (fs_bl S (fIx st) (fIx x))]) rfl ?_
  refine lv_istore (lv' := [(7, .int (fs_bl S (fIx st) (fIx x))), (6, .ref (fQ f (fIx b))), (5, .ref (fQ f (fIx a))), (0, .ref (f0 f)), (1, .int (nI (fIx st))), (2, .int (nI (fIx a))), (3, .int (nI (fIx x))), (4, .int (nI (fIx b)))]) hx hb dX3_brackets_51 hl (by decide) rfl (fun ls hl => ?_)
  refine lv_aload_n hx hb dX3_brackets_53 rfl (lv_at hl 3 rfl) ?_
  refine lv_aload hx hb dX3_brackets_54 (lv_at hl 2 rfl) ?_
  refine lv_iload hx hb dX3_brackets_56 (lv_at hl 0 rfl) ?_
  refine mw_callV (C := RX3) (As := [.ref (fQ f (fIx a)), .int (fs_bl S (fIx st) (fIx x))]) (rest := []) hx hb hml hown hl (kX3_readySign l htr G H.size M f S hR (fIx a) h_a (fs_bl S (fIx st) (fIx x))) (g_B (n := 2) htb wd321 wd1 wd318 (by decide +kernel) ⟨Nat.le_of_ble_eq_true rfl, Nat.le_of_ble_eq_true rfl⟩) (htb _ wd320) (htb _ ws6) hE hP hS (fs_R.this hR) rfl rfl rfl (Nat.le_of_ble_eq_true rfl) dX3_brackets_58 ⟨Nat.le_of_ble_eq_true rfl, Nat.le_of_ble_eq_true rfl⟩ (fun v9 M9 H locs hpo hP hz hS => ?_) (fun x9 E9 cell9 H9 locs9 hE9 => hE9.elim)
  obtain ⟨rfl, rfl⟩ := hpo
  obtain ⟨r_7, er_7⟩ : ∃ z9, z9 = (fs_rd S (sF S (fIx a)) (fs_bl S (fIx st) (fIx x))) := ⟨_, rfl⟩
  have onr_7 : fs_on S r_7 := by rw [er_7]; exact fs_rd_on _ (hR.ok.2.2 _ h_a).2.1
  refine W.eq (g2 := F0 m 61 ls [.int r_7]) (by subst er_7; rfl) ?_
  refine lv_istore (lv' := [(8, .int r_7), (7, .int (fs_bl S (fIx st) (fIx x))), (6, .ref (fQ f (fIx b))), (5, .ref (fQ f (fIx a))), (0, .ref (f0 f)), (1, .int (nI (fIx st))), (2, .int (nI (fIx a))), (3, .int (nI (fIx x))), (4, .int (nI (fIx b)))]) hx hb dX3_brackets_61 hl (by decide) rfl (fun ls hl => ?_)
  refine lv_aload_n hx hb dX3_brackets_63 rfl (lv_at hl 4 rfl) ?_
  refine lv_aload hx hb dX3_brackets_64 (lv_at hl 2 rfl) ?_
  refine lv_iload hx hb dX3_brackets_66 (lv_at hl 1 rfl) ?_
  refine mw_callV (C := RX3) (As := [.ref (fQ f (fIx b)), .int (fs_bl S (fIx st) (fIx x))]) (rest := []) hx hb hml hown hl (kX3_readySign l htr G H.size M f S hR (fIx b) h_b (fs_bl S (fIx st) (fIx x))) (g_B (n := 2) htb wd321 wd1 wd318 (by decide +kernel) ⟨Nat.le_of_ble_eq_true rfl, Nat.le_of_ble_eq_true rfl⟩) (htb _ wd320) (htb _ ws6) hE hP hS (fs_R.this hR) rfl rfl rfl (Nat.le_of_ble_eq_true rfl) dX3_brackets_68 ⟨Nat.le_of_ble_eq_true rfl, Nat.le_of_ble_eq_true rfl⟩ (fun v9 M9 H locs hpo hP hz hS => ?_) (fun x9 E9 cell9 H9 locs9 hE9 => hE9.elim)
  obtain ⟨rfl, rfl⟩ := hpo
  obtain ⟨r_8, er_8⟩ : ∃ z9, z9 = (fs_rd S (sF S (fIx b)) (fs_bl S (fIx st) (fIx x))) := ⟨_, rfl⟩
  have onr_8 : fs_on S r_8 := by rw [er_8]; exact fs_rd_on _ (hR.ok.2.2 _ h_b).2.1
  refine W.eq (g2 := F0 m 71 ls [.int r_8]) (by subst er_8; rfl) ?_
  refine lv_istore (lv' := [(9, .int r_8), (8, .int r_7), (7, .int (fs_bl S (fIx st) (fIx x))), (6, .ref (fQ f (fIx b))), (5, .ref (fQ f (fIx a))), (0, .ref (f0 f)), (1, .int (nI (fIx st))), (2, .int (nI (fIx a))), (3, .int (nI (fIx x))), (4, .int (nI (fIx b)))]) hx hb dX3_brackets_71 hl (by decide) rfl (fun ls hl => ?_)
  refine lv_aload_n hx hb dX3_brackets_73 rfl (lv_at hl 5 rfl) ?_
  refine lv_iload hx hb dX3_brackets_74 (lv_at hl 1 rfl) ?_
  refine mw_callS (As := [.int r_7]) (rest := [.ref (f0 f)]) hx hb hml hown hl (kX3_newBoxesFor l htr G H.size M r_7) (g_B (n := 1) htb wd324 wd1 wd322 (by decide +kernel) ⟨Nat.le_of_ble_eq_true rfl, Nat.le_of_ble_eq_true rfl⟩) (htb _ wd323) hE hP hS rfl rfl (Nat.le_of_ble_eq_true rfl) dX3_brackets_76 ⟨Nat.le_of_ble_eq_true rfl, Nat.le_of_ble_eq_true rfl⟩ (fun v9 M9 H locs hpo hP hz hS => ?_) (fun x9 E9 cell9 H9 locs9 hE9 => hE9.elim)
  obtain ⟨rfl, rfl⟩ := hpo
  refine W.eq (g2 := F0 m 79 ls [.int (if r_7 = (-1) then 1 else 0), .ref (f0 f)]) rfl ?_
  refine lv_iload hx hb dX3_brackets_79 (lv_at hl 0 rfl) ?_
  refine mw_callS (As := [.int r_8]) (rest := [.int (if r_7 = (-1) then 1 else 0), .ref (f0 f)]) hx hb hml hown hl (kX3_newBoxesFor l htr G H.size M r_8) (g_B (n := 1) htb wd324 wd1 wd322 (by decide +kernel) ⟨Nat.le_of_ble_eq_true rfl, Nat.le_of_ble_eq_true rfl⟩) (htb _ wd323) hE hP hS rfl rfl (Nat.le_of_ble_eq_true rfl) dX3_brackets_81 ⟨Nat.le_of_ble_eq_true rfl, Nat.le_of_ble_eq_true rfl⟩ (fun v9 M9 H locs hpo hP hz hS => ?_) (fun x9 E9 cell9 H9 locs9 hE9 => hE9.elim)
  obtain ⟨rfl, rfl⟩ := hpo
  refine W.eq (g2 := F0 m 84 ls [.int (if r_8 = (-1) then 1 else 0), .int (if r_7 = (-1) then 1 else 0), .ref (f0 f)]) rfl ?_
  refine lv_iadd hx hb dX3_brackets_84 ?_
  refine lv_iconst (v := 1) hx hb dX3_brackets_85 (by decide) ?_
  refine lv_iadd hx hb dX3_brackets_86 ?_
  refine mw_callV (C := RX3) (As := [.int (((if r_7 = (-1) then 1 else 0) + (if r_8 = (-1) then 1 else 0)) + 1)]) (rest := []) hx hb hml hown hl (kX3_needRoom l htr G H.size M f S hR (((if r_7 = (-1) then 1 else 0) + (if r_8 = (-1) then 1 else 0)) + 1)) (g_B (n := 1) htb wd198 wd1 wd195 (by decide +kernel) ⟨Nat.le_of_ble_eq_true rfl, Nat.le_of_ble_eq_true rfl⟩) (htb _ wd197) (htb _ ws1) hE hP hS (fs_R.this hR) rfl rfl rfl (Nat.le_of_ble_eq_true rfl) dX3_brackets_87 ⟨Nat.le_of_ble_eq_true rfl, Nat.le_of_ble_eq_true rfl⟩ (fun v9 M9 H locs hpo hP hz hS => ?_) (fun x9 E9 cell9 H9 locs9 hE9 hx9 ho9 hf9 hP9 hz9 hS9 => mx_outF (thr0 := fs_Th (ex_brackets S st a x b) ["java/lang/IndexOutOfBoundsException", "java/lang/IllegalArgumentException", "java/lang/IllegalStateException", "java/lang/UnsupportedOperationException"]) hno hlocks ⟨3, by rw [ex_brackets, if_neg (fun z9 => z9 ⟨k_1, k_2, k_3⟩), if_neg (fun z9 => z9 k_4), if_neg (fun z9 => z9 ⟨k_5, k_6⟩), if_pos (by simp only [br_r, br_l, ← er_7, ← er_8]; exact hE9.2)], by rw [hE9.1]; rfl⟩ hx9 ho9 hf9 hP9 hS9 (Nat.le_of_ble_eq_true rfl) (Nat.le_of_ble_eq_true rfl))
  obtain ⟨rfl, rfl, k_9⟩ := hpo
  have hrm : sN S + ((if r_7 = (-1) then 1 else 0) + (if r_8 = (-1) then 1 else 0) + 1) ≤ 120 := rmk_le (by have := fs_le10 r_7; have := fs_le10 r_8; omega) hR.ok.1 (by rw [← nI_1, ← nI_add, ← fs_c10, ← fs_c10]; exact k_9)
  have hR0 := hR
  refine W.eq (g2 := F0 m 90 ls []) rfl ?_
  refine lv_aload_n hx hb dX3_brackets_90 rfl (lv_at hl 5 rfl) ?_
  refine lv_aload hx hb dX3_brackets_91 (lv_at hl 4 rfl) ?_
  refine lv_iload hx hb dX3_brackets_93 (lv_at hl 1 rfl) ?_
  refine lv_iload hx hb dX3_brackets_95 (lv_at hl 2 rfl) ?_
  refine mw_callV (C := RX3) (As := [.ref (fQ f (fIx a)), .int r_7, .int (fs_bl S (fIx st) (fIx x))]) (rest := []) hx hb hml hown hl (kX3_keptSign l htr G H.size M f S hR hX (fun q h => hAn q (Nat.le_trans hS.1 h)) (fIx a) h_a r_7 (fs_bl S (fIx st) (fIx x)) (fun z9 => by have h9 := hrm; rw [show (if r_7 = (-1) then 1 else 0) = 1 from if_pos z9] at h9; omega) (fun z9 => fs_rd_rep (least := (fs_bl S (fIx st) (fIx x))) hR0.ok.1 (hR0.ok.2.2 _ h_a).2.1 k_5 (er_7.symm.trans z9))) (g_B (n := 3) htb wd328 wd1 wd325 (by decide +kernel) ⟨Nat.le_of_ble_eq_true rfl, Nat.le_of_ble_eq_true rfl⟩) (htb _ wd327) (htb _ ws7) hE hP hS (fs_R.this hR) rfl rfl rfl (Nat.le_of_ble_eq_true rfl) dX3_brackets_97 ⟨Nat.le_of_ble_eq_true rfl, Nat.le_of_ble_eq_true rfl⟩ (fun v9 M9 H locs hpo hP hz hS => ?_) (fun x9 E9 cell9 H9 locs9 hE9 => hE9.elim)
  obtain ⟨rfl, hRn, hkn⟩ := hpo
  obtain ⟨S1, hS1⟩ : ∃ z9 : fs_S, z9 = kt_S S (sF S (fIx a)) r_7 (fs_bl S (fIx st) (fIx x)) := ⟨_, rfl⟩
  obtain ⟨M_10, hM_10⟩ : ∃ z9 : mw_M, z9 = M9 := ⟨_, rfl⟩
  rw [← hS1] at hRn
  rw [← hM_10] at hP hRn hkn
  have hX := fs_hX hRn hkn hX
  have hleS1 : sN S ≤ sN S1 := by rw [hS1]; exact kt_le _ _ _ _
  obtain ⟨hy1, hy2⟩ := kt_in (sF S (fIx a)) (fs_bl S (fIx st) (fIx x)) hR.ok.1 onr_7
  obtain ⟨y_11, ey_11⟩ : ∃ z9, z9 = fIx (kt_y S r_7) := ⟨_, rfl⟩
  rw [← ey_11, ← hS1] at hy1
  rw [← ey_11] at hy2
  have h_y_11 := hy1
  have h_x := Nat.lt_of_lt_of_le h_x hleS1
  have hkn := hkn
  have kp_12 := hkn
  have hR := hRn
  refine W.eq (g2 := F0 m 100 ls [.int (nI y_11)]) (show F0 m 100 ls [.int (kt_y S r_7)] = F0 m 100 ls [.int (nI y_11)] from by rw [hy2]) ?_
  refine lv_istore (lv' := [(10, .int (nI y_11)), (9, .int r_8), (8, .int r_7), (7, .int (fs_bl S (fIx st) (fIx x))), (6, .ref (fQ f (fIx b))), (5, .ref (fQ f (fIx a))), (0, .ref (f0 f)), (1, .int (nI (fIx st))), (2, .int (nI (fIx a))), (3, .int (nI (fIx x))), (4, .int (nI (fIx b)))]) hx hb dX3_brackets_100 hl (by decide) rfl (fun ls hl => ?_)
  refine lv_aload_n hx hb dX3_brackets_102 rfl (lv_at hl 6 rfl) ?_
  refine lv_aload hx hb dX3_brackets_103 (lv_at hl 4 rfl) ?_
  refine lv_iload hx hb dX3_brackets_105 (lv_at hl 1 rfl) ?_
  refine lv_iload hx hb dX3_brackets_107 (lv_at hl 3 rfl) ?_
  refine mw_callV (C := RX3) (As := [.ref (fQ f (fIx b)), .int r_8, .int (fs_bl S (fIx st) (fIx x))]) (rest := []) hx hb hml hown hl (kX3_keptSign l htr G H.size M_10 f S1 hR (fs_hXe (mw_ext.rf M_10) hX) (fun q h => hAn q (Nat.le_trans hS.1 h)) (fIx b) h_b r_8 (fs_bl S (fIx st) (fIx x)) (fun z9 => by have h9 := hrm; rw [show (if r_8 = (-1) then 1 else 0) = 1 from if_pos z9] at h9; rw [hS1, kt_n]; omega) (fun z9 => by rw [hS1, kt_F]; exact (fun z9 => fs_rd_rep (least := (fs_bl S (fIx st) (fIx x))) hR0.ok.1 (hR0.ok.2.2 _ h_b).2.1 k_6 (er_8.symm.trans z9)) z9)) (g_B (n := 3) htb wd328 wd1 wd325 (by decide +kernel) ⟨Nat.le_of_ble_eq_true rfl, Nat.le_of_ble_eq_true rfl⟩) (htb _ wd327) (htb _ ws7) hE hP hS (fs_R.this hR) rfl rfl rfl (Nat.le_of_ble_eq_true rfl) dX3_brackets_109 ⟨Nat.le_of_ble_eq_true rfl, Nat.le_of_ble_eq_true rfl⟩ (fun v9 M9 H locs hpo hP hz hS => ?_) (fun x9 E9 cell9 H9 locs9 hE9 => hE9.elim)
  obtain ⟨rfl, hRn, hkn⟩ := hpo
  obtain ⟨S2, hS2⟩ : ∃ z9 : fs_S, z9 = kt_S S1 (sF S1 (fIx b)) r_8 (fs_bl S (fIx st) (fIx x)) := ⟨_, rfl⟩
  obtain ⟨M_13, hM_13⟩ : ∃ z9 : mw_M, z9 = M9 := ⟨_, rfl⟩
  rw [← hS2] at hRn
  rw [← hM_13] at hP hRn hkn
  have hX := fs_hX hRn hkn (fs_hXe (mw_ext.rf M_10) hX)
  have hleS2 : sN S1 ≤ sN S2 := by rw [hS2]; exact kt_le _ _ _ _
  obtain ⟨hy1, hy2⟩ := kt_in (sF S1 (fIx b)) (fs_bl S (fIx st) (fIx x)) hR.ok.1 (by rw [hS1]; exact kt_on _ _ _ onr_8)
  obtain ⟨y_14, ey_14⟩ : ∃ z9, z9 = fIx (kt_y S1 r_8) := ⟨_, rfl⟩
  rw [← ey_14, ← hS2] at hy1
  rw [← ey_14] at hy2
  have h_y_14 := hy1
  have h_x := Nat.lt_of_lt_of_le h_x hleS2
  have h_y_11 := Nat.lt_of_lt_of_le h_y_11 hleS2
  have hkn := fs_keeps.tr kp_12 hkn
  have kp_15 := hkn
  have hR := hRn
  refine W.eq (g2 := F0 m 112 ls [.int (nI y_14)]) (show F0 m 112 ls [.int (kt_y S1 r_8)] = F0 m 112 ls [.int (nI y_14)] from by rw [hy2]) ?_
  refine lv_istore (lv' := [(11, .int (nI y_14)), (10, .int (nI y_11)), (9, .int r_8), (8, .int r_7), (7, .int (fs_bl S (fIx st) (fIx x))), (6, .ref (fQ f (fIx b))), (5, .ref (fQ f (fIx a))), (0, .ref (f0 f)), (1, .int (nI (fIx st))), (2, .int (nI (fIx a))), (3, .int (nI (fIx x))), (4, .int (nI (fIx b)))]) hx hb dX3_brackets_112 hl (by decide) rfl (fun ls hl => ?_)
  refine lv_aload_n hx hb dX3_brackets_114 rfl (lv_at hl 7 rfl) ?_
  refine lv_iload hx hb dX3_brackets_115 (lv_at hl 1 rfl) ?_
  refine mw_callV (C := RX3) (As := [.int (nI y_11)]) (rest := []) hx hb hml hown hl (kX3_widthOf l htr G H.size M_13 f S2 hR y_11 h_y_11) (g_B (n := 1) htb wd406 wd1 wd403 (by decide +kernel) ⟨Nat.le_of_ble_eq_true rfl, Nat.le_of_ble_eq_true rfl⟩) (htb _ wd405) (htb _ ws14) hE hP hS (fs_R.this hR) rfl rfl rfl (Nat.le_of_ble_eq_true rfl) dX3_brackets_117 ⟨Nat.le_of_ble_eq_true rfl, Nat.le_of_ble_eq_true rfl⟩ (fun v9 M9 H locs hpo hP hz hS => ?_) (fun x9 E9 cell9 H9 locs9 hE9 => hE9.elim)
  obtain ⟨rfl, rfl⟩ := hpo
  refine W.eq (g2 := F0 m 120 ls [.int (bW S2 y_11)]) rfl ?_
  refine lv_istore (lv' := [(12, .int (bW S2 y_11)), (11, .int (nI y_14)), (10, .int (nI y_11)), (9, .int r_8), (8, .int r_7), (7, .int (fs_bl S (fIx st) (fIx x))), (6, .ref (fQ f (fIx b))), (5, .ref (fQ f (fIx a))), (0, .ref (f0 f)), (1, .int (nI (fIx st))), (2, .int (nI (fIx a))), (3, .int (nI (fIx x))), (4, .int (nI (fIx b)))]) hx hb dX3_brackets_120 hl (by decide) rfl (fun ls hl => ?_)
  refine lv_iload hx hb dX3_brackets_122 (lv_at hl 0 rfl) ?_
  refine lv_aload_n hx hb dX3_brackets_124 rfl (lv_at hl 8 rfl) ?_
  refine lv_iload_n hx hb dX3_brackets_125 rfl (lv_at hl 11 rfl) ?_
  refine mw_callV (C := RX3) (As := [.int (nI (fIx x))]) (rest := [.int (bW S2 y_11)]) hx hb hml hown hl (kX3_widthOf l htr G H.size M_13 f S2 hR (fIx x) h_x) (g_B (n := 1) htb wd406 wd1 wd403 (by decide +kernel) ⟨Nat.le_of_ble_eq_true rfl, Nat.le_of_ble_eq_true rfl⟩) (htb _ wd405) (htb _ ws14) hE hP hS (fs_R.this hR) rfl rfl rfl (Nat.le_of_ble_eq_true rfl) dX3_brackets_126 ⟨Nat.le_of_ble_eq_true rfl, Nat.le_of_ble_eq_true rfl⟩ (fun v9 M9 H locs hpo hP hz hS => ?_) (fun x9 E9 cell9 H9 locs9 hE9 => hE9.elim)
  obtain ⟨rfl, rfl⟩ := hpo
  refine W.eq (g2 := F0 m 129 ls [.int (bW S2 (fIx x)), .int (bW S2 y_11)]) rfl ?_
  refine lv_iadd hx hb dX3_brackets_129 ?_
  refine lv_istore (lv' := [(13, .int ((bW S2 y_11) + (bW S2 (fIx x)))), (12, .int (bW S2 y_11)), (11, .int (nI y_14)), (10, .int (nI y_11)), (9, .int r_8), (8, .int r_7), (7, .int (fs_bl S (fIx st) (fIx x))), (6, .ref (fQ f (fIx b))), (5, .ref (fQ f (fIx a))), (0, .ref (f0 f)), (1, .int (nI (fIx st))), (2, .int (nI (fIx a))), (3, .int (nI (fIx x))), (4, .int (nI (fIx b)))]) hx hb dX3_brackets_130 hl (by decide) rfl (fun ls hl => ?_)
  refine lv_aload_n hx hb dX3_brackets_132 rfl (lv_at hl 9 rfl) ?_
  refine lv_aload_n hx hb dX3_brackets_133 rfl (lv_at hl 9 rfl) ?_
  refine lv_iload hx hb dX3_brackets_134 (lv_at hl 0 rfl) ?_
  refine lv_aload_n hx hb dX3_brackets_136 rfl (lv_at hl 9 rfl) ?_
  refine lv_iload hx hb dX3_brackets_137 (lv_at hl 2 rfl) ?_
  refine mw_callV (C := RX3) (As := [.int (nI y_14)]) (rest := [.int ((bW S2 y_11) + (bW S2 (fIx x))), .ref (f0 f), .ref (f0 f)]) hx hb hml hown hl (kX3_widthOf l htr G H.size M_13 f S2 hR y_14 h_y_14) (g_B (n := 1) htb wd406 wd1 wd403 (by decide +kernel) ⟨Nat.le_of_ble_eq_true rfl, Nat.le_of_ble_eq_true rfl⟩) (htb _ wd405) (htb _ ws14) hE hP hS (fs_R.this hR) rfl rfl rfl (Nat.le_of_ble_eq_true rfl) dX3_brackets_139 ⟨Nat.le_of_ble_eq_true rfl, Nat.le_of_ble_eq_true rfl⟩ (fun v9 M9 H locs hpo hP hz hS => ?_) (fun x9 E9 cell9 H9 locs9 hE9 => hE9.elim)
  obtain ⟨rfl, rfl⟩ := hpo
  refine W.eq (g2 := F0 m 142 ls [.int (bW S2 y_14), .int ((bW S2 y_11) + (bW S2 (fIx x))), .ref (f0 f), .ref (f0 f)]) rfl ?_
  refine lv_iadd hx hb dX3_brackets_142 ?_
  refine lv_bipush (v := 9) hx hb dX3_brackets_143 (by decide) ?_
  refine mw_newi (N := 9) hx hb (htb _ wd55) hK hP hS 0 rfl (by decide) (by decide) (by decide) (Nat.le_of_ble_eq_true rfl) (Nat.le_of_ble_eq_true rfl) dX3_brackets_145 (fun q_16 H hq_17 hs_18 hP hS => ?_)
  obtain ⟨M_19, hM_19⟩ : ∃ z9 : mw_M, z9 = mw_up M_13 q_16 (.inl (gI G, 9, .inl (fun _ => 0))) := ⟨_, rfl⟩
  have hP : mw_P (gD G) gx_cl M_19 H := by rw [hM_19]; exact hP
  have n_20 : M_13 q_16 = none := mw_ext.no (mw_ext.rf M_13) hq_17
  have f_21 : M_19 (f0 f) = some (.inr (3, [.ref (fM f), .int (nI (sN S2)), .ref (fF f), .ref (fP f), .int (sSp S2), .int (sSh S2)])) := by rw [hM_19, mw_ne _ _ (fun z => by have z1 := (fs_R.this hR); rw [z, hq_17] at z1; cases z1)]; exact (fs_R.this hR)
  have ne_22 : (f0 f) ≠ q_16 := fun z => by have z1 := (fs_R.this hR); rw [z, hq_17] at z1; cases z1
  have f_23 : M_19 q_16 = some (.inl (gI G, 9, .inl (fun _ => 0))) := by rw [hM_19]; exact mw_self _ _ _
  have x_24 : mw_ext M_13 M_19 := by rw [hM_19]; exact mw_ext.up (mw_ext.rf M_13) n_20 _
  refine lv_dup hx hb dX3_brackets_147 rfl ?_
  refine lv_iconst (v := 0) hx hb dX3_brackets_148 (by decide) ?_
  refine lv_iload hx hb dX3_brackets_149 (lv_at hl 3 rfl) ?_
  refine mw_iast hx hb hK hP hS 0 f_23 (hAn _ hs_18) rfl (by unfold vp_in; decide) dX3_brackets_151 (fun H locs hP hS => ?_)
  obtain ⟨M_25, hM_25⟩ : ∃ z9 : mw_M, z9 = mw_up M_19 q_16 (.inl (gI G, 9, .inl (upd (fun _ => 0) 0 (nI y_11)))) := ⟨_, rfl⟩
  have hP : mw_P (gD G) gx_cl M_25 H := by rw [hM_25]; exact hP
  have f_26 : M_25 (f0 f) = some (.inr (3, [.ref (fM f), .int (nI (sN S2)), .ref (fF f), .ref (fP f), .int (sSp S2), .int (sSh S2)])) := by rw [hM_25, mw_ne _ _ ne_22]; exact f_21
  have f_27 : M_25 q_16 = some (.inl (gI G, 9, .inl (upd (fun _ => 0) 0 (nI y_11)))) := by rw [hM_25]; exact mw_self _ _ _
  have x_28 : mw_ext M_13 M_25 := by rw [hM_25]; exact mw_ext.up x_24 n_20 _
  refine lv_dup hx hb dX3_brackets_152 rfl ?_
  refine lv_iconst (v := 1) hx hb dX3_brackets_153 (by decide) ?_
  refine lv_iconst (v := 0) hx hb dX3_brackets_154 (by decide) ?_
  refine mw_iast hx hb hK hP hS 0 f_27 (hAn _ hs_18) rfl (by unfold vp_in; decide) dX3_brackets_155 (fun H locs hP hS => ?_)
  obtain ⟨M_29, hM_29⟩ : ∃ z9 : mw_M, z9 = mw_up M_25 q_16 (.inl (gI G, 9, .inl (upd (upd (fun _ => 0) 0 (nI y_11)) 1 0))) := ⟨_, rfl⟩
  have hP : mw_P (gD G) gx_cl M_29 H := by rw [hM_29]; exact hP
  have f_30 : M_29 (f0 f) = some (.inr (3, [.ref (fM f), .int (nI (sN S2)), .ref (fF f), .ref (fP f), .int (sSp S2), .int (sSh S2)])) := by rw [hM_29, mw_ne _ _ ne_22]; exact f_26
  have f_31 : M_29 q_16 = some (.inl (gI G, 9, .inl (upd (upd (fun _ => 0) 0 (nI y_11)) 1 0))) := by rw [hM_29]; exact mw_self _ _ _
  have x_32 : mw_ext M_13 M_29 := by rw [hM_29]; exact mw_ext.up x_28 n_20 _
  refine lv_dup hx hb dX3_brackets_156 rfl ?_
  refine lv_iconst (v := 2) hx hb dX3_brackets_157 (by decide) ?_
  refine lv_aload_n hx hb dX3_brackets_158 rfl (lv_at hl 9 rfl) ?_
  refine lv_iload_n hx hb dX3_brackets_159 rfl (lv_at hl 10 rfl) ?_
  refine lv_iload hx hb dX3_brackets_160 (lv_at hl 3 rfl) ?_
  refine mw_callV (C := RX3) (As := [.int (nI (fIx st)), .int (nI y_11)]) (rest := [.int 2, .ref q_16, .ref q_16, .int (((bW S2 y_11) + (bW S2 (fIx x))) + (bW S2 y_14)), .ref (f0 f), .ref (f0 f)]) hx hb hml hown hl (kX3_onAxis l htr G H.size M_29 f S2 (fs_R.ext hR x_32) (fIx st) y_11 h_st h_y_11) (g_B (n := 2) htb wd486 wd1 wd483 (by decide +kernel) ⟨Nat.le_of_ble_eq_true rfl, Nat.le_of_ble_eq_true rfl⟩) (htb _ wd485) (htb _ ws25) hE hP hS (fs_R.this (fs_R.ext hR x_32)) rfl rfl rfl (Nat.le_of_ble_eq_true rfl) dX3_brackets_162 ⟨Nat.le_of_ble_eq_true rfl, Nat.le_of_ble_eq_true rfl⟩ (fun v9 M9 H locs hpo hP hz hS => ?_) (fun x9 E9 cell9 H9 locs9 hE9 => hE9.elim)
  obtain ⟨rfl, rfl⟩ := hpo
  refine W.eq (g2 := F0 m 165 ls [.int (fs_ax S2 (fIx st) y_11), .int 2, .ref q_16, .ref q_16, .int (((bW S2 y_11) + (bW S2 (fIx x))) + (bW S2 y_14)), .ref (f0 f), .ref (f0 f)]) rfl ?_
  refine mw_iast hx hb hK hP hS 0 f_31 (hAn _ hs_18) rfl (by unfold vp_in; decide) dX3_brackets_165 (fun H locs hP hS => ?_)
  obtain ⟨M_33, hM_33⟩ : ∃ z9 : mw_M, z9 = mw_up M_29 q_16 (.inl (gI G, 9, .inl (upd (upd (upd (fun _ => 0) 0 (nI y_11)) 1 0) 2 (fs_ax S2 (fIx st) y_11)))) := ⟨_, rfl⟩
  have hP : mw_P (gD G) gx_cl M_33 H := by rw [hM_33]; exact hP
  have f_34 : M_33 (f0 f) = some (.inr (3, [.ref (fM f), .int (nI (sN S2)), .ref (fF f), .ref (fP f), .int (sSp S2), .int (sSh S2)])) := by rw [hM_33, mw_ne _ _ ne_22]; exact f_30
  have f_35 : M_33 q_16 = some (.inl (gI G, 9, .inl (upd (upd (upd (fun _ => 0) 0 (nI y_11)) 1 0) 2 (fs_ax S2 (fIx st) y_11)))) := by rw [hM_33]; exact mw_self _ _ _
  have x_36 : mw_ext M_13 M_33 := by rw [hM_33]; exact mw_ext.up x_32 n_20 _
  refine lv_dup hx hb dX3_brackets_166 rfl ?_
  refine lv_iconst (v := 3) hx hb dX3_brackets_167 (by decide) ?_
  refine lv_iload_n hx hb dX3_brackets_168 rfl (lv_at hl 12 rfl) ?_
  refine mw_iast hx hb hK hP hS 0 f_35 (hAn _ hs_18) rfl (by unfold vp_in; decide) dX3_brackets_169 (fun H locs hP hS => ?_)
  obtain ⟨M_37, hM_37⟩ : ∃ z9 : mw_M, z9 = mw_up M_33 q_16 (.inl (gI G, 9, .inl (upd (upd (upd (upd (fun _ => 0) 0 (nI y_11)) 1 0) 2 (fs_ax S2 (fIx st) y_11)) 3 (nI (fIx x))))) := ⟨_, rfl⟩
  have hP : mw_P (gD G) gx_cl M_37 H := by rw [hM_37]; exact hP
  have f_38 : M_37 (f0 f) = some (.inr (3, [.ref (fM f), .int (nI (sN S2)), .ref (fF f), .ref (fP f), .int (sSp S2), .int (sSh S2)])) := by rw [hM_37, mw_ne _ _ ne_22]; exact f_34
  have f_39 : M_37 q_16 = some (.inl (gI G, 9, .inl (upd (upd (upd (upd (fun _ => 0) 0 (nI y_11)) 1 0) 2 (fs_ax S2 (fIx st) y_11)) 3 (nI (fIx x))))) := by rw [hM_37]; exact mw_self _ _ _
  have x_40 : mw_ext M_13 M_37 := by rw [hM_37]; exact mw_ext.up x_36 n_20 _
  refine lv_dup hx hb dX3_brackets_170 rfl ?_
  refine lv_iconst (v := 4) hx hb dX3_brackets_171 (by decide) ?_
  refine lv_iload hx hb dX3_brackets_172 (lv_at hl 1 rfl) ?_
  refine mw_iast hx hb hK hP hS 0 f_39 (hAn _ hs_18) rfl (by unfold vp_in; decide) dX3_brackets_174 (fun H locs hP hS => ?_)
  obtain ⟨M_41, hM_41⟩ : ∃ z9 : mw_M, z9 = mw_up M_37 q_16 (.inl (gI G, 9, .inl (upd (upd (upd (upd (upd (fun _ => 0) 0 (nI y_11)) 1 0) 2 (fs_ax S2 (fIx st) y_11)) 3 (nI (fIx x))) 4 (bW S2 y_11)))) := ⟨_, rfl⟩
  have hP : mw_P (gD G) gx_cl M_41 H := by rw [hM_41]; exact hP
  have f_42 : M_41 (f0 f) = some (.inr (3, [.ref (fM f), .int (nI (sN S2)), .ref (fF f), .ref (fP f), .int (sSp S2), .int (sSh S2)])) := by rw [hM_41, mw_ne _ _ ne_22]; exact f_38
  have f_43 : M_41 q_16 = some (.inl (gI G, 9, .inl (upd (upd (upd (upd (upd (fun _ => 0) 0 (nI y_11)) 1 0) 2 (fs_ax S2 (fIx st) y_11)) 3 (nI (fIx x))) 4 (bW S2 y_11)))) := by rw [hM_41]; exact mw_self _ _ _
  have x_44 : mw_ext M_13 M_41 := by rw [hM_41]; exact mw_ext.up x_40 n_20 _
  refine lv_dup hx hb dX3_brackets_175 rfl ?_
  refine lv_iconst (v := 5) hx hb dX3_brackets_176 (by decide) ?_
  refine lv_iconst (v := 0) hx hb dX3_brackets_177 (by decide) ?_
  refine mw_iast hx hb hK hP hS 0 f_43 (hAn _ hs_18) rfl (by unfold vp_in; decide) dX3_brackets_178 (fun H locs hP hS => ?_)
  obtain ⟨M_45, hM_45⟩ : ∃ z9 : mw_M, z9 = mw_up M_41 q_16 (.inl (gI G, 9, .inl (upd (upd (upd (upd (upd (upd (fun _ => 0) 0 (nI y_11)) 1 0) 2 (fs_ax S2 (fIx st) y_11)) 3 (nI (fIx x))) 4 (bW S2 y_11)) 5 0))) := ⟨_, rfl⟩
  have hP : mw_P (gD G) gx_cl M_45 H := by rw [hM_45]; exact hP
  have f_46 : M_45 (f0 f) = some (.inr (3, [.ref (fM f), .int (nI (sN S2)), .ref (fF f), .ref (fP f), .int (sSp S2), .int (sSh S2)])) := by rw [hM_45, mw_ne _ _ ne_22]; exact f_42
  have f_47 : M_45 q_16 = some (.inl (gI G, 9, .inl (upd (upd (upd (upd (upd (upd (fun _ => 0) 0 (nI y_11)) 1 0) 2 (fs_ax S2 (fIx st) y_11)) 3 (nI (fIx x))) 4 (bW S2 y_11)) 5 0))) := by rw [hM_45]; exact mw_self _ _ _
  have x_48 : mw_ext M_13 M_45 := by rw [hM_45]; exact mw_ext.up x_44 n_20 _
  refine lv_dup hx hb dX3_brackets_179 rfl ?_
  refine lv_bipush (v := 6) hx hb dX3_brackets_180 (by decide) ?_
  refine lv_iload hx hb dX3_brackets_182 (lv_at hl 2 rfl) ?_
  refine mw_iast hx hb hK hP hS 0 f_47 (hAn _ hs_18) rfl (by unfold vp_in; decide) dX3_brackets_184 (fun H locs hP hS => ?_)
  obtain ⟨M_49, hM_49⟩ : ∃ z9 : mw_M, z9 = mw_up M_45 q_16 (.inl (gI G, 9, .inl (upd (upd (upd (upd (upd (upd (upd (fun _ => 0) 0 (nI y_11)) 1 0) 2 (fs_ax S2 (fIx st) y_11)) 3 (nI (fIx x))) 4 (bW S2 y_11)) 5 0) 6 (nI y_14)))) := ⟨_, rfl⟩
  have hP : mw_P (gD G) gx_cl M_49 H := by rw [hM_49]; exact hP
  have f_50 : M_49 (f0 f) = some (.inr (3, [.ref (fM f), .int (nI (sN S2)), .ref (fF f), .ref (fP f), .int (sSp S2), .int (sSh S2)])) := by rw [hM_49, mw_ne _ _ ne_22]; exact f_46
  have f_51 : M_49 q_16 = some (.inl (gI G, 9, .inl (upd (upd (upd (upd (upd (upd (upd (fun _ => 0) 0 (nI y_11)) 1 0) 2 (fs_ax S2 (fIx st) y_11)) 3 (nI (fIx x))) 4 (bW S2 y_11)) 5 0) 6 (nI y_14)))) := by rw [hM_49]; exact mw_self _ _ _
  have x_52 : mw_ext M_13 M_49 := by rw [hM_49]; exact mw_ext.up x_48 n_20 _
  refine lv_dup hx hb dX3_brackets_185 rfl ?_
  refine lv_bipush (v := 7) hx hb dX3_brackets_186 (by decide) ?_
  refine lv_iload hx hb dX3_brackets_188 (lv_at hl 0 rfl) ?_
  refine mw_iast hx hb hK hP hS 0 f_51 (hAn _ hs_18) rfl (by unfold vp_in; decide) dX3_brackets_190 (fun H locs hP hS => ?_)
  obtain ⟨M_53, hM_53⟩ : ∃ z9 : mw_M, z9 = mw_up M_49 q_16 (.inl (gI G, 9, .inl (upd (upd (upd (upd (upd (upd (upd (upd (fun _ => 0) 0 (nI y_11)) 1 0) 2 (fs_ax S2 (fIx st) y_11)) 3 (nI (fIx x))) 4 (bW S2 y_11)) 5 0) 6 (nI y_14)) 7 ((bW S2 y_11) + (bW S2 (fIx x)))))) := ⟨_, rfl⟩
  have hP : mw_P (gD G) gx_cl M_53 H := by rw [hM_53]; exact hP
  have f_54 : M_53 (f0 f) = some (.inr (3, [.ref (fM f), .int (nI (sN S2)), .ref (fF f), .ref (fP f), .int (sSp S2), .int (sSh S2)])) := by rw [hM_53, mw_ne _ _ ne_22]; exact f_50
  have f_55 : M_53 q_16 = some (.inl (gI G, 9, .inl (upd (upd (upd (upd (upd (upd (upd (upd (fun _ => 0) 0 (nI y_11)) 1 0) 2 (fs_ax S2 (fIx st) y_11)) 3 (nI (fIx x))) 4 (bW S2 y_11)) 5 0) 6 (nI y_14)) 7 ((bW S2 y_11) + (bW S2 (fIx x)))))) := by rw [hM_53]; exact mw_self _ _ _
  have x_56 : mw_ext M_13 M_53 := by rw [hM_53]; exact mw_ext.up x_52 n_20 _
  refine lv_dup hx hb dX3_brackets_191 rfl ?_
  refine lv_bipush (v := 8) hx hb dX3_brackets_192 (by decide) ?_
  refine lv_aload_n hx hb dX3_brackets_194 rfl (lv_at hl 9 rfl) ?_
  refine lv_iload_n hx hb dX3_brackets_195 rfl (lv_at hl 10 rfl) ?_
  refine lv_iload hx hb dX3_brackets_196 (lv_at hl 2 rfl) ?_
  refine mw_callV (C := RX3) (As := [.int (nI (fIx st)), .int (nI y_14)]) (rest := [.int 8, .ref q_16, .ref q_16, .int (((bW S2 y_11) + (bW S2 (fIx x))) + (bW S2 y_14)), .ref (f0 f), .ref (f0 f)]) hx hb hml hown hl (kX3_onAxis l htr G H.size M_53 f S2 (fs_R.ext hR x_56) (fIx st) y_14 h_st h_y_14) (g_B (n := 2) htb wd486 wd1 wd483 (by decide +kernel) ⟨Nat.le_of_ble_eq_true rfl, Nat.le_of_ble_eq_true rfl⟩) (htb _ wd485) (htb _ ws25) hE hP hS (fs_R.this (fs_R.ext hR x_56)) rfl rfl rfl (Nat.le_of_ble_eq_true rfl) dX3_brackets_198 ⟨Nat.le_of_ble_eq_true rfl, Nat.le_of_ble_eq_true rfl⟩ (fun v9 M9 H locs hpo hP hz hS => ?_) (fun x9 E9 cell9 H9 locs9 hE9 => hE9.elim)
  obtain ⟨rfl, rfl⟩ := hpo
  refine W.eq (g2 := F0 m 201 ls [.int (fs_ax S2 (fIx st) y_14), .int 8, .ref q_16, .ref q_16, .int (((bW S2 y_11) + (bW S2 (fIx x))) + (bW S2 y_14)), .ref (f0 f), .ref (f0 f)]) rfl ?_
  refine mw_iast hx hb hK hP hS 0 f_55 (hAn _ hs_18) rfl (by unfold vp_in; decide) dX3_brackets_201 (fun H locs hP hS => ?_)
  obtain ⟨M_57, hM_57⟩ : ∃ z9 : mw_M, z9 = mw_up M_53 q_16 (.inl (gI G, 9, .inl (upd (upd (upd (upd (upd (upd (upd (upd (upd (fun _ => 0) 0 (nI y_11)) 1 0) 2 (fs_ax S2 (fIx st) y_11)) 3 (nI (fIx x))) 4 (bW S2 y_11)) 5 0) 6 (nI y_14)) 7 ((bW S2 y_11) + (bW S2 (fIx x)))) 8 (fs_ax S2 (fIx st) y_14)))) := ⟨_, rfl⟩
  have hP : mw_P (gD G) gx_cl M_57 H := by rw [hM_57]; exact hP
  have f_58 : M_57 (f0 f) = some (.inr (3, [.ref (fM f), .int (nI (sN S2)), .ref (fF f), .ref (fP f), .int (sSp S2), .int (sSh S2)])) := by rw [hM_57, mw_ne _ _ ne_22]; exact f_54
  have f_59 : M_57 q_16 = some (.inl (gI G, 9, .inl (upd (upd (upd (upd (upd (upd (upd (upd (upd (fun _ => 0) 0 (nI y_11)) 1 0) 2 (fs_ax S2 (fIx st) y_11)) 3 (nI (fIx x))) 4 (bW S2 y_11)) 5 0) 6 (nI y_14)) 7 ((bW S2 y_11) + (bW S2 (fIx x)))) 8 (fs_ax S2 (fIx st) y_14)))) := by rw [hM_57]; exact mw_self _ _ _
  have x_60 : mw_ext M_13 M_57 := by rw [hM_57]; exact mw_ext.up x_56 n_20 _
  refine mw_callV (C := RX3) (As := [.int (((bW S2 y_11) + (bW S2 (fIx x))) + (bW S2 y_14)), .ref q_16]) (rest := [.ref (f0 f)]) hx hb hml hown hl (kX3_enclosing l htr G H.size M_57 f S2 (fs_R.ext hR x_60) (fs_hXe x_60 hX) (fun q h => hAn q (Nat.le_trans hS.1 h)) q_16 (upd (upd (upd (upd (upd (upd (upd (upd (upd (fun _ => 0) 0 (nI y_11)) 1 0) 2 (fs_ax S2 (fIx st) y_11)) 3 (nI (fIx x))) 4 (bW S2 y_11)) 5 0) 6 (nI y_14)) 7 ((bW S2 y_11) + (bW S2 (fIx x)))) 8 (fs_ax S2 (fIx st) y_14)) (((bW S2 y_11) + (bW S2 (fIx x))) + (bW S2 y_14)) [(nI y_11), 0, (fs_ax S2 (fIx st) y_11), (nI (fIx x)), (bW S2 y_11), 0, (nI y_14), ((bW S2 y_11) + (bW S2 (fIx x))), (fs_ax S2 (fIx st) y_14)] f_59 (fun z => hX _ z n_20) (fun j hj => by rcases (show j = 0 ∨ j = 1 ∨ j = 2 ∨ j = 3 ∨ j = 4 ∨ j = 5 ∨ j = 6 ∨ j = 7 ∨ j = 8 by simp at hj; omega) with rfl | rfl | rfl | rfl | rfl | rfl | rfl | rfl | rfl <;> rfl) (by simp) (by simp) (fun j hj => by
      rcases (show j = 0 ∨ j = 1 ∨ j = 2 by simp at hj; omega) with rfl | rfl | rfl
      · exact ⟨y_11, h_y_11, rfl⟩
      · exact ⟨(fIx x), h_x, rfl⟩
      · exact ⟨y_14, h_y_14, rfl⟩)) (g_B (n := 2) htb wd452 wd1 wd449 (by decide +kernel) ⟨Nat.le_of_ble_eq_true rfl, Nat.le_of_ble_eq_true rfl⟩) (htb _ wd451) (htb _ ws20) hE hP hS (fs_R.this (fs_R.ext hR x_60)) rfl rfl rfl (Nat.le_of_ble_eq_true rfl) dX3_brackets_202 ⟨Nat.le_of_ble_eq_true rfl, Nat.le_of_ble_eq_true rfl⟩ (fun v9 M9 H locs hpo hP hz hS => ?_) (fun x9 E9 cell9 H9 locs9 hE9 => hE9.elim)
  obtain ⟨q_61, rfl, x_62, b_63⟩ := hpo
  obtain ⟨M_65, hM_65⟩ : ∃ z9 : mw_M, z9 = M9 := ⟨_, rfl⟩
  rw [← hM_65] at hP x_62 b_63
  have x_66 : mw_ext M_13 M_65 := mw_ext.tr x_60 x_62
  have f_67 : M_65 (f0 f) = some (.inr (3, [.ref (fM f), .int (nI (sN S2)), .ref (fF f), .ref (fP f), .int (sSp S2), .int (sSh S2)])) := x_62 _ _ f_58
  have f_68 : M_65 q_16 = some (.inl (gI G, 9, .inl (upd (upd (upd (upd (upd (upd (upd (upd (upd (fun _ => 0) 0 (nI y_11)) 1 0) 2 (fs_ax S2 (fIx st) y_11)) 3 (nI (fIx x))) 4 (bW S2 y_11)) 5 0) 6 (nI y_14)) 7 ((bW S2 y_11) + (bW S2 (fIx x)))) 8 (fs_ax S2 (fIx st) y_14)))) := x_62 _ _ f_59
  refine W.eq (g2 := F0 m 205 ls [.ref q_61, .ref (f0 f)]) rfl ?_
  refine mw_callV (C := RX3) (As := [.ref q_61]) (rest := []) hx hb hml hown hl (kX3_keep l htr G H.size M_65 f S2 (fs_R.ext hR x_66) (show sN S2 < 120 from by rw [hS2, kt_n, hS1, kt_n]; omega) q_61 (fs_en S2 (((bW S2 y_11) + (bW S2 (fIx x))) + (bW S2 y_14)) [(nI y_11), 0, (fs_ax S2 (fIx st) y_11), (nI (fIx x)), (bW S2 y_11), 0, (nI y_14), ((bW S2 y_11) + (bW S2 (fIx x))), (fs_ax S2 (fIx st) y_14)]) b_63 (fs_pl3 (on_i h_y_11) (on_i h_x) (on_i h_y_14))) (g_B (n := 1) htb wd256 wd1 wd253 (by decide +kernel) ⟨Nat.le_of_ble_eq_true rfl, Nat.le_of_ble_eq_true rfl⟩) (htb _ wd255) (htb _ ws2) hE hP hS (fs_R.this (fs_R.ext hR x_66)) rfl rfl rfl (Nat.le_of_ble_eq_true rfl) dX3_brackets_205 ⟨Nat.le_of_ble_eq_true rfl, Nat.le_of_ble_eq_true rfl⟩ (fun v9 M9 H locs hpo hP hz hS => ?_) (fun x9 E9 cell9 H9 locs9 hE9 => hE9.elim)
  obtain ⟨rfl, hR9, hk9⟩ := hpo
  refine W.eq (g2 := F0 m 208 ls [.int (nI (sN S2))]) rfl ?_
  have hr1 : br_r S st x a = r_7 := by rw [er_7]; rfl
  have hr2 : br_r S st x b = r_8 := by rw [er_8]; rfl
  have hs1 : br_S1 S st a x = S1 := by rw [hS1, br_S1, hr1]; rfl
  have eF : sF S1 (fIx b) = sF S (fIx b) := by rw [hS1, kt_F]
  have hs2 : br_S S st a x b = S2 := by rw [hS2, br_S, hs1, hr2, eF]; rfl
  have hb1 : br_y S st a x = y_11 := by rw [br_y, hr1, ← ey_11]
  have hb2 : br_z S st a x b = y_14 := by rw [br_z, hs1, hr2, ← ey_14]
  have hre : re_brackets S st a x b = fs_en S2 (((bW S2 y_11) + (bW S2 (fIx x))) + (bW S2 y_14)) [(nI y_11), 0, (fs_ax S2 (fIx st) y_11), (nI (fIx x)), (bW S2 y_11), 0, (nI y_14), ((bW S2 y_11) + (bW S2 (fIx x))), (fs_ax S2 (fIx st) y_14)] := by rw [re_brackets, hs2, hb1, hb2]; rfl
  exact mx_iret (v := (nI (sN S2))) (M' := M9) hx hb hr hlocks hP hS ⟨by rw [ex_brackets, if_neg (fun z9 => z9 ⟨k_1, k_2, k_3⟩), if_neg (fun z9 => z9 k_4), if_neg (fun z9 => z9 ⟨k_5, k_6⟩), if_neg (fun z9 => z9 (by rw [hr1, hr2]; exact k_9))], by rw [hs2], by rw [hs2, hre]; exact hR9, fs_keeps.tr kp_15 (fs_keeps.tr (fs_keeps.of x_66) hk9)⟩ dX3_brackets_208 (Nat.le_of_ble_eq_true rfl) (Nat.le_of_ble_eq_true rfl)
