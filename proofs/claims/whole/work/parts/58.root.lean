/-! printed by wip/whole/spec*.py -/
-- X3_root
set_option maxHeartbeats 4000000 in
set_option maxRecDepth 100000 in
theorem kX3_root (l : Launch) (htr : l.stackTraces = false) (G : gx_G) (sz : Nat) (M : mw_M) (f : fs_A) (S : fs_S) (hR : fs_R G f M S) (hX : ∀ a, fX f a → M a ≠ none) (hA : ∀ q : Nat, sz ≤ q → gA G q) (st x k : Int32) : g_Met l G yX3_root (.code yX3_root cX3_root 9 (some .int)) ({ frames := 9, cells := 20, slots := 900, locals := 300 } : Room) sz M [.ref (f0 f), .int st, .int x, .int k] (fs_Up G f M (ex_root S st x k) (some (.int (nI (sN (ro_S S st x k))))) (fs_push (ro_S S st x k) (re_root S st x k))) (fs_Th (ex_root S st x k) ["java/lang/IndexOutOfBoundsException", "java/lang/IllegalArgumentException", "java/lang/IllegalStateException", "java/lang/UnsupportedOperationException"]) := by
  refine MetE.ofW (cc := cX3_root) (maxL := 9) (ret := (some .int)) (by decide) rfl ?_
  intro p e s m args below meth c s₁ B hml hv
  obtain ⟨rfl, hsz, hP, hE⟩ := hv
  have hx := B.exec
  have hb := B.bytes
  have hr := B.returns
  have hts := atoms_spec (ws := _ :: lw_big) B.pre
  have htb : ∀ w ∈ lw_big, w.before _ s = true := fun w h => hts w (List.mem_cons_of_mem _ h)
  have hno := B.noHandlers (hts _ List.mem_cons_self)
  have hown : s.vm.findClass RX3 = some m.cls := findClass_of_methodNamed B.named
  have hlocks := B.notSynchronized
  have hK := hE.1
  subst hsz
  have hAn : ∀ q : Nat, s.heap.size ≤ q → gA G q := hA
  have hS : va_S (gA G) s.heap s.heap [] := va_S.rf
  have hl := lv_entry ([.ref (f0 f), .int st, .int x, .int k]) (n := 9) (Nat.le_of_ble_eq_true rfl)
  rw [lg_entry_eq]
  generalize (lg_sl ([.ref (f0 f), .int st, .int x, .int k]) ++ List.replicate (9 - (lg_sl ([.ref (f0 f), .int st, .int x, .int k])).length) Slot.unset).toArray = ls at hl ⊢
  have hl : lv_has ls 9 [(0, .ref (f0 f)), (1, .int st), (2, .int x), (3, .int k)] := hl
  obtain ⟨gm, gf, g, h1, h2, h3, h4, h5, h6, h7, h8, h9⟩ := id hR
  refine lv_aload_n hx hb dX3_root_0 rfl (lv_at hl 0 rfl) ?_
  refine lv_iload_n hx hb dX3_root_1 rfl (lv_at hl 2 rfl) ?_
  refine mw_callV (C := RX3) (As := [.int x]) (rest := []) hx hb hml hown hl (kX3_needBox l htr G s.heap.size M f S hR x) (g_B (n := 1) htb wd271 wd1 wd268 (by decide +kernel) ⟨Nat.le_of_ble_eq_true rfl, Nat.le_of_ble_eq_true rfl⟩) (htb _ wd270) (htb _ ws3) hE hP hS (fs_R.this hR) rfl rfl rfl (Nat.le_of_ble_eq_true rfl) dX3_root_2 ⟨Nat.le_of_ble_eq_true rfl, Nat.le_of_ble_eq_true rfl⟩ (fun v9 M9 H locs hpo hP hz hS => ?_) (fun x9 E9 cell9 H9 locs9 hE9 hx9 ho9 hf9 hP9 hz9 hS9 => mx_outF (thr0 := fs_Th (ex_root S st x k) ["java/lang/IndexOutOfBoundsException", "java/lang/IllegalArgumentException", "java/lang/IllegalStateException", "java/lang/UnsupportedOperationException"]) hno hlocks ⟨0, by rw [ex_root, if_pos (fun z9 => hE9.2 z9.1)], by rw [hE9.1]; rfl⟩ hx9 ho9 hf9 hP9 hS9 (Nat.le_of_ble_eq_true rfl) (Nat.le_of_ble_eq_true rfl))
  obtain ⟨rfl, rfl, k_1⟩ := hpo
  have h_x := isB_lt k_1 hR.ok.1
  have e_x := fIx_of k_1.1
  rw [e_x] at hl
  refine W.eq (g2 := F0 m 5 ls []) rfl ?_
  refine lv_iload_n hx hb dX3_root_5 rfl (lv_at hl 3 rfl) ?_
  refine mw_callS (As := [.int k]) (rest := []) hx hb hml hown hl (kX3_needFamily l htr G H.size M k) (g_B (n := 1) htb wd266 wd1 wd264 (by decide +kernel) ⟨Nat.le_of_ble_eq_true rfl, Nat.le_of_ble_eq_true rfl⟩) (htb _ wd265) hE hP hS rfl rfl (Nat.le_of_ble_eq_true rfl) dX3_root_6 ⟨Nat.le_of_ble_eq_true rfl, Nat.le_of_ble_eq_true rfl⟩ (fun v9 M9 H locs hpo hP hz hS => ?_) (fun x9 E9 cell9 H9 locs9 hE9 hx9 ho9 hf9 hP9 hz9 hS9 => mx_outF (thr0 := fs_Th (ex_root S st x k) ["java/lang/IndexOutOfBoundsException", "java/lang/IllegalArgumentException", "java/lang/IllegalStateException", "java/lang/UnsupportedOperationException"]) hno hlocks ⟨0, by rw [ex_root, if_pos (fun z9 => hE9.2 z9.2)], by rw [hE9.1]; rfl⟩ hx9 ho9 hf9 hP9 hS9 (Nat.le_of_ble_eq_true rfl) (Nat.le_of_ble_eq_true rfl))
  obtain ⟨rfl, rfl, k_2⟩ := hpo
  have h_k := isF_lt k_2
  have e_k := fIx_of k_2.1
  rw [e_k] at hl
  refine W.eq (g2 := F0 m 9 ls []) rfl ?_
  refine lv_iload_n hx hb dX3_root_9 rfl (lv_at hl 1 rfl) ?_
  refine mw_callS (As := [.int st]) (rest := []) hx hb hml hown hl (kX3_needStyle l htr G H.size M st) (g_B (n := 1) htb wd381 wd1 wd379 (by decide +kernel) ⟨Nat.le_of_ble_eq_true rfl, Nat.le_of_ble_eq_true rfl⟩) (htb _ wd380) hE hP hS rfl rfl (Nat.le_of_ble_eq_true rfl) dX3_root_10 ⟨Nat.le_of_ble_eq_true rfl, Nat.le_of_ble_eq_true rfl⟩ (fun v9 M9 H locs hpo hP hz hS => ?_) (fun x9 E9 cell9 H9 locs9 hE9 hx9 ho9 hf9 hP9 hz9 hS9 => mx_outF (thr0 := fs_Th (ex_root S st x k) ["java/lang/IndexOutOfBoundsException", "java/lang/IllegalArgumentException", "java/lang/IllegalStateException", "java/lang/UnsupportedOperationException"]) hno hlocks ⟨1, by rw [ex_root, if_neg (fun z9 => z9 ⟨k_1, k_2⟩), if_pos (fun z9 => hE9.2 z9)], by rw [hE9.1]; rfl⟩ hx9 ho9 hf9 hP9 hS9 (Nat.le_of_ble_eq_true rfl) (Nat.le_of_ble_eq_true rfl))
  obtain ⟨rfl, rfl, k_3⟩ := hpo
  have h_st := isT_lt k_3
  have e_st := fIx_of k_3.1
  rw [e_st] at hl
  obtain ⟨hgf_k, gr_k, hf1_k, hf2_k, hf3_k⟩ := h7 (fIx k) h_k
  refine W.eq (g2 := F0 m 13 ls []) rfl ?_
  refine lv_aload_n hx hb dX3_root_13 rfl (lv_at hl 0 rfl) ?_
  refine mw_get (D := gD G) (ci := 3) (v := .ref (fF f)) (C := RX3) (T := TX3) (N := 6) hx hb htb inX3 hown hK hP h1 rfl 2 (by decide) (htb _ wd58) (fun _ h9 => h9) rfl dX3_root_14 ?_
  refine lv_iload_n hx hb dX3_root_17 rfl (lv_at hl 3 rfl) ?_
  refine mw_aald hx hb hK hP 2 h3 rfl (vp_in_nI h_k (by decide)) dX3_root_18 ?_
  refine W.eq (g2 := F0 m 19 ls [.ref (fQ f (fIx k))]) (by rw [nI_clamp (show (fIx k) < 2 ^ 31 by omega), hgf_k]; rfl) ?_
  refine lv_astore (lv' := [(4, .ref (fQ f (fIx k))), (0, .ref (f0 f)), (1, .int (nI (fIx st))), (2, .int (nI (fIx x))), (3, .int (nI (fIx k)))]) hx hb dX3_root_19 hl (by decide) rfl (fun ls hl => ?_)
  refine lv_aload hx hb dX3_root_21 (lv_at hl 0 rfl) ?_
  refine mw_callS (As := [.ref (fQ f (fIx k))]) (rest := []) hx hb hml hown hl (kX3_needSign l htr G H.size M f S hR (fIx k) h_k) (g_B (n := 1) htb wd301 wd1 wd299 (by decide +kernel) ⟨Nat.le_of_ble_eq_true rfl, Nat.le_of_ble_eq_true rfl⟩) (htb _ wd300) hE hP hS rfl rfl (Nat.le_of_ble_eq_true rfl) dX3_root_23 ⟨Nat.le_of_ble_eq_true rfl, Nat.le_of_ble_eq_true rfl⟩ (fun v9 M9 H locs hpo hP hz hS => ?_) (fun x9 E9 cell9 H9 locs9 hE9 hx9 ho9 hf9 hP9 hz9 hS9 => mx_outF (thr0 := fs_Th (ex_root S st x k) ["java/lang/IndexOutOfBoundsException", "java/lang/IllegalArgumentException", "java/lang/IllegalStateException", "java/lang/UnsupportedOperationException"]) hno hlocks ⟨2, by rw [ex_root, if_neg (fun z9 => z9 ⟨k_1, k_2⟩), if_neg (fun z9 => z9 k_3), if_pos (fun z9 => hE9.2 z9)], by rw [hE9.1]; rfl⟩ hx9 ho9 hf9 hP9 hS9 (Nat.le_of_ble_eq_true rfl) (Nat.le_of_ble_eq_true rfl))
  obtain ⟨rfl, rfl, k_4⟩ := hpo
  refine W.eq (g2 := F0 m 26 ls []) rfl ?_
  refine lv_aload_n hx hb dX3_root_26 rfl (lv_at hl 1 rfl) ?_
  refine lv_iload_n hx hb dX3_root_27 rfl (lv_at hl 2 rfl) ?_
  refine mw_callV (C := RX3) (As := [.int (nI (fIx st))]) (rest := []) hx hb hml hown hl (kX3_rootClearance l htr G H.size M f S hR (fIx st) h_st) (g_B (n := 1) htb wd422 wd1 wd419 (by decide +kernel) ⟨Nat.le_of_ble_eq_true rfl, Nat.le_of_ble_eq_true rfl⟩) (htb _ wd421) (htb _ ws16) hE hP hS (fs_R.this hR) rfl rfl rfl (Nat.le_of_ble_eq_true rfl) dX3_root_28 ⟨Nat.le_of_ble_eq_true rfl, Nat.le_of_ble_eq_true rfl⟩ (fun v9 M9 H locs hpo hP hz hS => ?_) (fun x9 E9 cell9 H9 locs9 hE9 => hE9.elim)
  obtain ⟨rfl, rfl⟩ := hpo
  refine W.eq (g2 := F0 m 31 ls [.int (fs_rc S (fIx st))]) rfl ?_
  refine lv_istore (lv' := [(5, .int (fs_rc S (fIx st))), (4, .ref (fQ f (fIx k))), (0, .ref (f0 f)), (1, .int (nI (fIx st))), (2, .int (nI (fIx x))), (3, .int (nI (fIx k)))]) hx hb dX3_root_31 hl (by decide) rfl (fun ls hl => ?_)
  refine lv_iconst (v := 0) hx hb dX3_root_33 (by decide) ?_
  refine lv_aload_n hx hb dX3_root_34 rfl (lv_at hl 2 rfl) ?_
  refine lv_iload_n hx hb dX3_root_35 rfl (lv_at hl 4 rfl) ?_
  refine mw_callV (C := RX3) (As := [.int (nI (fIx x))]) (rest := [.int 0]) hx hb hml hown hl (kX3_extentOf l htr G H.size M f S hR (nI (fIx x)) (Or.inr ⟨(fIx x), h_x, rfl⟩)) (g_B (n := 1) htb wd288 wd1 wd285 (by decide +kernel) ⟨Nat.le_of_ble_eq_true rfl, Nat.le_of_ble_eq_true rfl⟩) (htb _ wd287) (htb _ ws5) hE hP hS (fs_R.this hR) rfl rfl rfl (Nat.le_of_ble_eq_true rfl) dX3_root_36 ⟨Nat.le_of_ble_eq_true rfl, Nat.le_of_ble_eq_true rfl⟩ (fun v9 M9 H locs hpo hP hz hS => ?_) (fun x9 E9 cell9 H9 locs9 hE9 => hE9.elim)
  obtain ⟨rfl, rfl⟩ := hpo
  refine W.eq (g2 := F0 m 39 ls [.int (fEx S (nI (fIx x))), .int 0]) rfl ?_
  refine lv_iload hx hb dX3_root_39 (lv_at hl 0 rfl) ?_
  refine lv_iadd hx hb dX3_root_41 ?_
  refine lv_aload_n hx hb dX3_root_42 rfl (lv_at hl 2 rfl) ?_
  refine lv_iload_n hx hb dX3_root_43 rfl (lv_at hl 3 rfl) ?_
  refine lv_bipush (v := 13) hx hb dX3_root_44 (by decide) ?_
  refine mw_callV (C := RX3) (As := [.int (nI (fIx st)), .int 13]) (rest := [.int ((fEx S (nI (fIx x))) + (fs_rc S (fIx st))), .int 0]) hx hb hml hown hl (kX3_valueOf l htr G H.size M f S hR (fIx st) 13 h_st (by decide)) (g_B (n := 2) htb wd390 wd1 wd387 (by decide +kernel) ⟨Nat.le_of_ble_eq_true rfl, Nat.le_of_ble_eq_true rfl⟩) (htb _ wd389) (htb _ ws11) hE hP hS (fs_R.this hR) rfl rfl rfl (Nat.le_of_ble_eq_true rfl) dX3_root_46 ⟨Nat.le_of_ble_eq_true rfl, Nat.le_of_ble_eq_true rfl⟩ (fun v9 M9 H locs hpo hP hz hS => ?_) (fun x9 E9 cell9 H9 locs9 hE9 => hE9.elim)
  obtain ⟨rfl, rfl⟩ := hpo
  refine W.eq (g2 := F0 m 49 ls [.int (pV S (fIx st) 13), .int ((fEx S (nI (fIx x))) + (fs_rc S (fIx st))), .int 0]) rfl ?_
  refine lv_iadd hx hb dX3_root_49 ?_
  refine va_mmax hx hb (hml.trans hl.1.symm) hown (htb _ wd398) (htb _ wd364) (htb _ wd13) (htb _ wd365) (Nat.le_of_ble_eq_true rfl) (Nat.le_of_ble_eq_true rfl) (Nat.le_of_ble_eq_true rfl) (Nat.le_of_ble_eq_true rfl) dX3_root_50 ?_
  refine W.eq (g2 := F0 m 53 ls [.int (fMx 0 (((fEx S (nI (fIx x))) + (fs_rc S (fIx st))) + (pV S (fIx st) 13)))]) rfl ?_
  refine lv_istore (lv' := [(6, .int (fMx 0 (((fEx S (nI (fIx x))) + (fs_rc S (fIx st))) + (pV S (fIx st) 13)))), (5, .int (fs_rc S (fIx st))), (4, .ref (fQ f (fIx k))), (0, .ref (f0 f)), (1, .int (nI (fIx st))), (2, .int (nI (fIx x))), (3, .int (nI (fIx k)))]) hx hb dX3_root_53 hl (by decide) rfl (fun ls hl => ?_)
  refine lv_aload_n hx hb dX3_root_55 rfl (lv_at hl 3 rfl) ?_
  refine lv_aload hx hb dX3_root_56 (lv_at hl 2 rfl) ?_
  refine lv_iload hx hb dX3_root_58 (lv_at hl 0 rfl) ?_
  refine mw_callV (C := RX3) (As := [.ref (fQ f (fIx k)), .int (fMx 0 (((fEx S (nI (fIx x))) + (fs_rc S (fIx st))) + (pV S (fIx st) 13)))]) (rest := []) hx hb hml hown hl (kX3_readySign l htr G H.size M f S hR (fIx k) h_k (fMx 0 (((fEx S (nI (fIx x))) + (fs_rc S (fIx st))) + (pV S (fIx st) 13)))) (g_B (n := 2) htb wd321 wd1 wd318 (by decide +kernel) ⟨Nat.le_of_ble_eq_true rfl, Nat.le_of_ble_eq_true rfl⟩) (htb _ wd320) (htb _ ws6) hE hP hS (fs_R.this hR) rfl rfl rfl (Nat.le_of_ble_eq_true rfl) dX3_root_60 ⟨Nat.le_of_ble_eq_true rfl, Nat.le_of_ble_eq_true rfl⟩ (fun v9 M9 H locs hpo hP hz hS => ?_) (fun x9 E9 cell9 H9 locs9 hE9 => hE9.elim)
  obtain ⟨rfl, rfl⟩ := hpo
  obtain ⟨r_5, er_5⟩ : ∃ z9, z9 = (fs_rd S (sF S (fIx k)) (fMx 0 (((fEx S (nI (fIx x))) + (fs_rc S (fIx st))) + (pV S (fIx st) 13)))) := ⟨_, rfl⟩
  have onr_5 : fs_on S r_5 := by rw [er_5]; exact fs_rd_on _ (hR.ok.2.2 _ h_k).2.1
  refine W.eq (g2 := F0 m 63 ls [.int r_5]) (by subst er_5; rfl) ?_
  refine lv_istore (lv' := [(7, .int r_5), (6, .int (fMx 0 (((fEx S (nI (fIx x))) + (fs_rc S (fIx st))) + (pV S (fIx st) 13)))), (5, .int (fs_rc S (fIx st))), (4, .ref (fQ f (fIx k))), (0, .ref (f0 f)), (1, .int (nI (fIx st))), (2, .int (nI (fIx x))), (3, .int (nI (fIx k)))]) hx hb dX3_root_63 hl (by decide) rfl (fun ls hl => ?_)
  refine lv_aload_n hx hb dX3_root_65 rfl (lv_at hl 4 rfl) ?_
  refine lv_iload hx hb dX3_root_66 (lv_at hl 0 rfl) ?_
  refine mw_callS (As := [.int r_5]) (rest := [.ref (f0 f)]) hx hb hml hown hl (kX3_newBoxesFor l htr G H.size M r_5) (g_B (n := 1) htb wd324 wd1 wd322 (by decide +kernel) ⟨Nat.le_of_ble_eq_true rfl, Nat.le_of_ble_eq_true rfl⟩) (htb _ wd323) hE hP hS rfl rfl (Nat.le_of_ble_eq_true rfl) dX3_root_68 ⟨Nat.le_of_ble_eq_true rfl, Nat.le_of_ble_eq_true rfl⟩ (fun v9 M9 H locs hpo hP hz hS => ?_) (fun x9 E9 cell9 H9 locs9 hE9 => hE9.elim)
  obtain ⟨rfl, rfl⟩ := hpo
  refine W.eq (g2 := F0 m 71 ls [.int (if r_5 = (-1) then 1 else 0), .ref (f0 f)]) rfl ?_
  refine lv_iconst (v := 1) hx hb dX3_root_71 (by decide) ?_
  refine lv_iadd hx hb dX3_root_72 ?_
  refine mw_callV (C := RX3) (As := [.int ((if r_5 = (-1) then 1 else 0) + 1)]) (rest := []) hx hb hml hown hl (kX3_needRoom l htr G H.size M f S hR ((if r_5 = (-1) then 1 else 0) + 1)) (g_B (n := 1) htb wd198 wd1 wd195 (by decide +kernel) ⟨Nat.le_of_ble_eq_true rfl, Nat.le_of_ble_eq_true rfl⟩) (htb _ wd197) (htb _ ws1) hE hP hS (fs_R.this hR) rfl rfl rfl (Nat.le_of_ble_eq_true rfl) dX3_root_73 ⟨Nat.le_of_ble_eq_true rfl, Nat.le_of_ble_eq_true rfl⟩ (fun v9 M9 H locs hpo hP hz hS => ?_) (fun x9 E9 cell9 H9 locs9 hE9 hx9 ho9 hf9 hP9 hz9 hS9 => mx_outF (thr0 := fs_Th (ex_root S st x k) ["java/lang/IndexOutOfBoundsException", "java/lang/IllegalArgumentException", "java/lang/IllegalStateException", "java/lang/UnsupportedOperationException"]) hno hlocks ⟨3, by rw [ex_root, if_neg (fun z9 => z9 ⟨k_1, k_2⟩), if_neg (fun z9 => z9 k_3), if_neg (fun z9 => z9 k_4), if_pos (by simp only [ro_r, ro_l, ← er_5]; exact hE9.2)], by rw [hE9.1]; rfl⟩ hx9 ho9 hf9 hP9 hS9 (Nat.le_of_ble_eq_true rfl) (Nat.le_of_ble_eq_true rfl))
  obtain ⟨rfl, rfl, k_6⟩ := hpo
  have hrm : sN S + ((if r_5 = (-1) then 1 else 0) + 1) ≤ 120 := rmk_le (by have := fs_le10 r_5; omega) hR.ok.1 (by rw [← nI_1, ← fs_c10]; exact k_6)
  have hR0 := hR
  refine W.eq (g2 := F0 m 76 ls []) rfl ?_
  refine lv_aload_n hx hb dX3_root_76 rfl (lv_at hl 4 rfl) ?_
  refine lv_aload hx hb dX3_root_77 (lv_at hl 3 rfl) ?_
  refine lv_iload hx hb dX3_root_79 (lv_at hl 0 rfl) ?_
  refine lv_iload hx hb dX3_root_81 (lv_at hl 1 rfl) ?_
  refine mw_callV (C := RX3) (As := [.ref (fQ f (fIx k)), .int r_5, .int (fMx 0 (((fEx S (nI (fIx x))) + (fs_rc S (fIx st))) + (pV S (fIx st) 13)))]) (rest := []) hx hb hml hown hl (kX3_keptSign l htr G H.size M f S hR hX (fun q h => hAn q (Nat.le_trans hS.1 h)) (fIx k) h_k r_5 (fMx 0 (((fEx S (nI (fIx x))) + (fs_rc S (fIx st))) + (pV S (fIx st) 13))) (fun z9 => by have h9 := hrm; rw [show (if r_5 = (-1) then 1 else 0) = 1 from if_pos z9] at h9; omega) (fun z9 => fs_rd_rep (least := (fMx 0 (((fEx S (nI (fIx x))) + (fs_rc S (fIx st))) + (pV S (fIx st) 13)))) hR0.ok.1 (hR0.ok.2.2 _ h_k).2.1 k_4 (er_5.symm.trans z9))) (g_B (n := 3) htb wd328 wd1 wd325 (by decide +kernel) ⟨Nat.le_of_ble_eq_true rfl, Nat.le_of_ble_eq_true rfl⟩) (htb _ wd327) (htb _ ws7) hE hP hS (fs_R.this hR) rfl rfl rfl (Nat.le_of_ble_eq_true rfl) dX3_root_83 ⟨Nat.le_of_ble_eq_true rfl, Nat.le_of_ble_eq_true rfl⟩ (fun v9 M9 H locs hpo hP hz hS => ?_) (fun x9 E9 cell9 H9 locs9 hE9 => hE9.elim)
  obtain ⟨rfl, hRn, hkn⟩ := hpo
  obtain ⟨S1, hS1⟩ : ∃ z9 : fs_S, z9 = kt_S S (sF S (fIx k)) r_5 (fMx 0 (((fEx S (nI (fIx x))) + (fs_rc S (fIx st))) + (pV S (fIx st) 13))) := ⟨_, rfl⟩
  obtain ⟨M_7, hM_7⟩ : ∃ z9 : mw_M, z9 = M9 := ⟨_, rfl⟩
  rw [← hS1] at hRn
  rw [← hM_7] at hP hRn hkn
  have hX := fs_hX hRn hkn hX
  have hleS1 : sN S ≤ sN S1 := by rw [hS1]; exact kt_le _ _ _ _
  obtain ⟨hy1, hy2⟩ := kt_in (sF S (fIx k)) (fMx 0 (((fEx S (nI (fIx x))) + (fs_rc S (fIx st))) + (pV S (fIx st) 13))) hR.ok.1 onr_5
  obtain ⟨y_8, ey_8⟩ : ∃ z9, z9 = fIx (kt_y S r_5) := ⟨_, rfl⟩
  rw [← ey_8, ← hS1] at hy1
  rw [← ey_8] at hy2
  have h_y_8 := hy1
  have h_x := Nat.lt_of_lt_of_le h_x hleS1
  have hkn := hkn
  have kp_9 := hkn
  have hR := hRn
  refine W.eq (g2 := F0 m 86 ls [.int (nI y_8)]) (show F0 m 86 ls [.int (kt_y S r_5)] = F0 m 86 ls [.int (nI y_8)] from by rw [hy2]) ?_
  refine lv_istore (lv' := [(8, .int (nI y_8)), (7, .int r_5), (6, .int (fMx 0 (((fEx S (nI (fIx x))) + (fs_rc S (fIx st))) + (pV S (fIx st) 13)))), (5, .int (fs_rc S (fIx st))), (4, .ref (fQ f (fIx k))), (0, .ref (f0 f)), (1, .int (nI (fIx st))), (2, .int (nI (fIx x))), (3, .int (nI (fIx k)))]) hx hb dX3_root_86 hl (by decide) rfl (fun ls hl => ?_)
  refine lv_aload_n hx hb dX3_root_88 rfl (lv_at hl 5 rfl) ?_
  refine lv_aload_n hx hb dX3_root_89 rfl (lv_at hl 5 rfl) ?_
  refine lv_iload_n hx hb dX3_root_90 rfl (lv_at hl 7 rfl) ?_
  refine lv_iload hx hb dX3_root_91 (lv_at hl 0 rfl) ?_
  refine lv_iload hx hb dX3_root_93 (lv_at hl 3 rfl) ?_
  refine lv_iload hx hb dX3_root_95 (lv_at hl 1 rfl) ?_
  refine lv_iconst (v := (-1)) hx hb dX3_root_97 (by decide) ?_
  refine lv_icmp_ne (tgt := 105) hx hb dX3_root_98 (by decide) (fun c_10 => ?_) (fun c_10 => ?_)
  · refine lv_iconst (v := 0) hx hb dX3_root_105 (by decide) ?_
    refine mw_callV (C := RX3) (As := [.int (nI (fIx x)), .int (nI y_8), .int (fs_rc S (fIx st)), .int 0]) (rest := [.ref (f0 f)]) hx hb hml hown hl (kX3_rootShape l htr G H.size M_7 f S1 hR (fs_hXe (mw_ext.rf M_7) hX) (fun q h => hAn q (Nat.le_trans hS.1 h)) (fIx x) y_8 h_x h_y_8 (fs_rc S (fIx st)) 0) (g_B (n := 4) htb wd429 wd1 wd426 (by decide +kernel) ⟨Nat.le_of_ble_eq_true rfl, Nat.le_of_ble_eq_true rfl⟩) (htb _ wd428) (htb _ ws17) hE hP hS (fs_R.this hR) rfl rfl rfl (Nat.le_of_ble_eq_true rfl) dX3_root_106 ⟨Nat.le_of_ble_eq_true rfl, Nat.le_of_ble_eq_true rfl⟩ (fun v9 M9 H locs hpo hP hz hS => ?_) (fun x9 E9 cell9 H9 locs9 hE9 => hE9.elim)
    obtain ⟨q_11, rfl, x_12, b_13⟩ := hpo
    obtain ⟨M_15, hM_15⟩ : ∃ z9 : mw_M, z9 = M9 := ⟨_, rfl⟩
    rw [← hM_15] at hP x_12 b_13
    have x_16 : mw_ext M_7 M_15 := mw_ext.tr (mw_ext.rf M_7) x_12
    have f_17 : M_15 (f0 f) = some (.inr (3, [.ref (fM f), .int (nI (sN S1)), .ref (fF f), .ref (fP f), .int (sSp S1), .int (sSh S1)])) := x_12 _ _ (fs_R.this hR)
    refine W.eq (g2 := F0 m 109 ls [.ref q_11, .ref (f0 f)]) rfl ?_
    refine mw_callV (C := RX3) (As := [.ref q_11]) (rest := []) hx hb hml hown hl (kX3_keep l htr G H.size M_15 f S1 (fs_R.ext hR x_16) (show sN S1 < 120 from by rw [hS1, kt_n]; omega) q_11 (fs_rs S1 (fIx x) y_8 (fs_rc S (fIx st)) 0) b_13 (fs_pl3 (on_i h_y_8) (on_i h_x) (Or.inl rfl))) (g_B (n := 1) htb wd256 wd1 wd253 (by decide +kernel) ⟨Nat.le_of_ble_eq_true rfl, Nat.le_of_ble_eq_true rfl⟩) (htb _ wd255) (htb _ ws2) hE hP hS (fs_R.this (fs_R.ext hR x_16)) rfl rfl rfl (Nat.le_of_ble_eq_true rfl) dX3_root_109 ⟨Nat.le_of_ble_eq_true rfl, Nat.le_of_ble_eq_true rfl⟩ (fun v9 M9 H locs hpo hP hz hS => ?_) (fun x9 E9 cell9 H9 locs9 hE9 => hE9.elim)
    obtain ⟨rfl, hR9, hk9⟩ := hpo
    refine W.eq (g2 := F0 m 112 ls [.int (nI (sN S1))]) rfl ?_
    have hrr : ro_r S st x k = r_5 := by rw [er_5]; rfl
    have hro : ro_S S st x k = S1 := by rw [hS1, ro_S, hrr]; rfl
    have hre : re_root S st x k = fs_rs S1 (fIx x) y_8 (fs_rc S (fIx st)) 0 := by rw [re_root, hro, hrr, ← ey_8, if_neg c_10]
    exact mx_iret (v := (nI (sN S1))) (M' := M9) hx hb hr hlocks hP hS ⟨by rw [ex_root, if_neg (fun z9 => z9 ⟨k_1, k_2⟩), if_neg (fun z9 => z9 k_3), if_neg (fun z9 => z9 k_4), if_neg (fun z9 => z9 (by rw [hrr]; exact k_6))], by rw [hro], by rw [hro, hre]; exact hR9, fs_keeps.tr kp_9 (fs_keeps.tr (fs_keeps.of x_16) hk9)⟩ dX3_root_112 (Nat.le_of_ble_eq_true rfl) (Nat.le_of_ble_eq_true rfl)
  · refine lv_iconst (v := 1) hx hb dX3_root_101 (by decide) ?_
    refine lv_goto (tgt := 106) hx hb dX3_root_102 (by decide) ?_
    refine mw_callV (C := RX3) (As := [.int (nI (fIx x)), .int (nI y_8), .int (fs_rc S (fIx st)), .int 1]) (rest := [.ref (f0 f)]) hx hb hml hown hl (kX3_rootShape l htr G H.size M_7 f S1 hR (fs_hXe (mw_ext.rf M_7) hX) (fun q h => hAn q (Nat.le_trans hS.1 h)) (fIx x) y_8 h_x h_y_8 (fs_rc S (fIx st)) 1) (g_B (n := 4) htb wd429 wd1 wd426 (by decide +kernel) ⟨Nat.le_of_ble_eq_true rfl, Nat.le_of_ble_eq_true rfl⟩) (htb _ wd428) (htb _ ws17) hE hP hS (fs_R.this hR) rfl rfl rfl (Nat.le_of_ble_eq_true rfl) dX3_root_106 ⟨Nat.le_of_ble_eq_true rfl, Nat.le_of_ble_eq_true rfl⟩ (fun v9 M9 H locs hpo hP hz hS => ?_) (fun x9 E9 cell9 H9 locs9 hE9 => hE9.elim)
    obtain ⟨q_18, rfl, x_19, b_20⟩ := hpo
    obtain ⟨M_22, hM_22⟩ : ∃ z9 : mw_M, z9 = M9 := ⟨_, rfl⟩
    rw [← hM_22] at hP x_19 b_20
    have x_23 : mw_ext M_7 M_22 := mw_ext.tr (mw_ext.rf M_7) x_19
    have f_24 : M_22 (f0 f) = some (.inr (3, [.ref (fM f), .int (nI (sN S1)), .ref (fF f), .ref (fP f), .int (sSp S1), .int (sSh S1)])) := x_19 _ _ (fs_R.this hR)
    refine W.eq (g2 := F0 m 109 ls [.ref q_18, .ref (f0 f)]) rfl ?_
    refine mw_callV (C := RX3) (As := [.ref q_18]) (rest := []) hx hb hml hown hl (kX3_keep l htr G H.size M_22 f S1 (fs_R.ext hR x_23) (show sN S1 < 120 from by rw [hS1, kt_n]; omega) q_18 (fs_rs S1 (fIx x) y_8 (fs_rc S (fIx st)) 1) b_20 (fs_pl3 (on_i h_y_8) (on_i h_x) (Or.inl rfl))) (g_B (n := 1) htb wd256 wd1 wd253 (by decide +kernel) ⟨Nat.le_of_ble_eq_true rfl, Nat.le_of_ble_eq_true rfl⟩) (htb _ wd255) (htb _ ws2) hE hP hS (fs_R.this (fs_R.ext hR x_23)) rfl rfl rfl (Nat.le_of_ble_eq_true rfl) dX3_root_109 ⟨Nat.le_of_ble_eq_true rfl, Nat.le_of_ble_eq_true rfl⟩ (fun v9 M9 H locs hpo hP hz hS => ?_) (fun x9 E9 cell9 H9 locs9 hE9 => hE9.elim)
    obtain ⟨rfl, hR9, hk9⟩ := hpo
    refine W.eq (g2 := F0 m 112 ls [.int (nI (sN S1))]) rfl ?_
    have hrr : ro_r S st x k = r_5 := by rw [er_5]; rfl
    have hro : ro_S S st x k = S1 := by rw [hS1, ro_S, hrr]; rfl
    have hre : re_root S st x k = fs_rs S1 (fIx x) y_8 (fs_rc S (fIx st)) 1 := by rw [re_root, hro, hrr, ← ey_8, if_pos c_10]
    exact mx_iret (v := (nI (sN S1))) (M' := M9) hx hb hr hlocks hP hS ⟨by rw [ex_root, if_neg (fun z9 => z9 ⟨k_1, k_2⟩), if_neg (fun z9 => z9 k_3), if_neg (fun z9 => z9 k_4), if_neg (fun z9 => z9 (by rw [hrr]; exact k_6))], by rw [hro], by rw [hro, hre]; exact hR9, fs_keeps.tr kp_9 (fs_keeps.tr (fs_keeps.of x_23) hk9)⟩ dX3_root_112 (Nat.le_of_ble_eq_true rfl) (Nat.le_of_ble_eq_true rfl)
