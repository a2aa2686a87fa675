/-! printed by wip/whole/spec*.py -/
-- X3_keptSign
set_option maxHeartbeats 4000000 in
set_option maxRecDepth 100000 in
theorem kX3_keptSign (l : Launch) (htr : l.stackTraces = false) (G : gx_G) (sz : Nat) (M : mw_M) (f : fs_A) (S : fs_S) (hR : fs_R G f M S) (hX : ∀ a, fX f a → M a ≠ none) (hA : ∀ q : Nat, sz ≤ q → gA G q) (k : Nat) (hk : k < 8) (r least : Int32) (hroom : r = (-1) → sN S < 120) (hrep : r = (-1) → ¬ (sF S k).2.2.2.2 = (-1)) : g_Met l G yX3_keptSign (.code yX3_keptSign cX3_keptSign 4 (some .int)) ({ frames := 5, cells := 3, slots := 379, locals := 250 } : Room) sz M [.ref (f0 f), .ref (fQ f k), .int r, .int least] (fun v M9 => v = some (.int (kt_y S r)) ∧ fs_R G f M9 (kt_S S (sF S k) r least) ∧ fs_keeps f M M9) (fun _ => False) := by
  refine MetE.ofW (cc := cX3_keptSign) (maxL := 4) (ret := (some .int)) (by decide) rfl ?_
  intro p e s m args below meth c s₁ B hml hv
  obtain ⟨rfl, hsz, hP, hE⟩ := hv
  have hx := B.exec
  have hb := B.bytes
  have hr := B.returns
  have hts := atoms_spec (ws := _ :: lw_big) B.pre
  have htb : ∀ w ∈ lw_big, w.before _ s = true := fun w h => hts w (List.mem_cons_of_mem _ h)
  have hno := B.noHandlers (hts _ List.mem_cons_self)
  have hown : s.vm.findClass RX3 = some m.cls := findClass_of_methodNamed B.named
  have hlocks := B.notSynchronized
  have hK := hE.1
  subst hsz
  have hAn : ∀ q : Nat, s.heap.size ≤ q → gA G q := hA
  have hS : va_S (gA G) s.heap s.heap [] := va_S.rf
  have hl := lv_entry ([.ref (f0 f), .ref (fQ f k), .int r, .int least]) (n := 4) (Nat.le_of_ble_eq_true rfl)
  rw [lg_entry_eq]
  generalize (lg_sl ([.ref (f0 f), .ref (fQ f k), .int r, .int least]) ++ List.replicate (4 - (lg_sl ([.ref (f0 f), .ref (fQ f k), .int r, .int least])).length) Slot.unset).toArray = ls at hl ⊢
  have hl : lv_has ls 4 [(0, .ref (f0 f)), (1, .ref (fQ f k)), (2, .int r), (3, .int least)] := hl
  refine lv_iload_n hx hb dX3_keptSign_0 rfl (lv_at hl 2 rfl) ?_
  refine lv_iconst (v := (-1)) hx hb dX3_keptSign_1 (by decide) ?_
  refine lv_icmp_ne (tgt := 18) hx hb dX3_keptSign_2 (by decide) (fun c_1 => ?_) (fun c_1 => ?_)
  · refine lv_iload_n hx hb dX3_keptSign_18 rfl (lv_at hl 2 rfl) ?_
    exact mx_iret (v := r) (M' := M) hx hb hr hlocks hP hS ⟨by rw [kt_y, if_neg c_1], by rw [kt_S, if_neg c_1]; exact hR, fs_keeps.of (mw_ext.rf M)⟩ dX3_keptSign_19 (Nat.le_of_ble_eq_true rfl) (Nat.le_of_ble_eq_true rfl)
  · refine lv_aload_n hx hb dX3_keptSign_5 rfl (lv_at hl 0 rfl) ?_
    refine lv_aload_n hx hb dX3_keptSign_6 rfl (lv_at hl 0 rfl) ?_
    refine lv_aload_n hx hb dX3_keptSign_7 rfl (lv_at hl 1 rfl) ?_
    refine lv_iload_n hx hb dX3_keptSign_8 rfl (lv_at hl 3 rfl) ?_
    refine mw_callV (C := RX3) (As := [.ref (fQ f k), .int least]) (rest := [.ref (f0 f)]) hx hb hml hown hl (kX3_putTogether l htr G s.heap.size M f S hR hX (fun q h => hAn q (Nat.le_trans hS.1 h)) k hk least (hrep c_1)) (g_B (n := 2) htb wd332 wd1 wd329 (by decide +kernel) ⟨Nat.le_of_ble_eq_true rfl, Nat.le_of_ble_eq_true rfl⟩) (htb _ wd331) (htb _ ws8) hE hP hS (fs_R.this hR) rfl rfl rfl (Nat.le_of_ble_eq_true rfl) dX3_keptSign_9 ⟨Nat.le_of_ble_eq_true rfl, Nat.le_of_ble_eq_true rfl⟩ (fun v9 M9 H locs hpo hP hz hS => ?_) (fun x9 E9 cell9 H9 locs9 hE9 => hE9.elim)
    obtain ⟨q_2, rfl, x_3, b_4⟩ := hpo
    obtain ⟨M_6, hM_6⟩ : ∃ z9 : mw_M, z9 = M9 := ⟨_, rfl⟩
    rw [← hM_6] at hP x_3 b_4
    have x_7 : mw_ext M M_6 := mw_ext.tr (mw_ext.rf M) x_3
    have f_8 : M_6 (f0 f) = some (.inr (3, [.ref (fM f), .int (nI (sN S)), .ref (fF f), .ref (fP f), .int (sSp S), .int (sSh S)])) := x_3 _ _ (hR.this)
    refine W.eq (g2 := F0 m 12 ls [.ref q_2, .ref (f0 f)]) rfl ?_
    refine mw_callV (C := RX3) (As := [.ref q_2]) (rest := []) hx hb hml hown hl (kX3_keep l htr G H.size M_6 f S (fs_R.ext hR x_7) (hroom c_1) q_2 (fs_tg S (sF S k) least) b_4 (fs_tg_pl hR.ok.1 (hR.ok.2.2 k hk).2.2.1 (hR.ok.2.2 k hk).2.2.2.1 (hR.ok.2.2 k hk).2.2.2.2.1 (hR.ok.2.2 k hk).2.2.2.2.2)) (g_B (n := 1) htb wd256 wd1 wd253 (by decide +kernel) ⟨Nat.le_of_ble_eq_true rfl, Nat.le_of_ble_eq_true rfl⟩) (htb _ wd255) (htb _ ws2) hE hP hS (fs_R.this (fs_R.ext hR x_7)) rfl rfl rfl (Nat.le_of_ble_eq_true rfl) dX3_keptSign_12 ⟨Nat.le_of_ble_eq_true rfl, Nat.le_of_ble_eq_true rfl⟩ (fun v9 M9 H locs hpo hP hz hS => ?_) (fun x9 E9 cell9 H9 locs9 hE9 => hE9.elim)
    obtain ⟨rfl, hR9, hk9⟩ := hpo
    refine W.eq (g2 := F0 m 15 ls [.int (nI (sN S))]) rfl ?_
    refine lv_goto (tgt := 19) hx hb dX3_keptSign_15 (by decide) ?_
    exact mx_iret (v := (nI (sN S))) (M' := M9) hx hb hr hlocks hP hS ⟨by rw [kt_y, if_pos c_1], by rw [kt_S, if_pos c_1]; exact hR9, fs_keeps.tr (fs_keeps.of x_7) hk9⟩ dX3_keptSign_19 (Nat.le_of_ble_eq_true rfl) (Nat.le_of_ble_eq_true rfl)
theorem kt_on {S : fs_S} {x : Int32} (u : fs_F) (r least : Int32) (h : fs_on S x) : fs_on (kt_S S u r least) x := by
  unfold kt_S
  split
  · exact h.push _
  · exact h
-- X3_signOf
set_option maxHeartbeats 4000000 in
set_option maxRecDepth 100000 in
theorem kX3_signOf (l : Launch) (htr : l.stackTraces = false) (G : gx_G) (sz : Nat) (M : mw_M) (f : fs_A) (S : fs_S) (hR : fs_R G f M S) (hX : ∀ a, fX f a → M a ≠ none) (hA : ∀ q : Nat, sz ≤ q → gA G q) (k least : Int32) : g_Met l G yX3_signOf (.code yX3_signOf cX3_signOf 5 (some .int)) ({ frames := 9, cells := 20, slots := 900, locals := 300 } : Room) sz M [.ref (f0 f), .int k, .int least] (fs_Up G f M (ex_signOf S k least) (some (.int (kt_y S (fs_rd S (sF S (fIx k)) least)))) (kt_S S (sF S (fIx k)) (fs_rd S (sF S (fIx k)) least) least)) (fs_Th (ex_signOf S k least) ["java/lang/IndexOutOfBoundsException", "java/lang/IllegalArgumentException", "java/lang/IllegalStateException", "java/lang/UnsupportedOperationException"]) := by
  refine MetE.ofW (cc := cX3_signOf) (maxL := 5) (ret := (some .int)) (by decide) rfl ?_
  intro p e s m args below meth c s₁ B hml hv
  obtain ⟨rfl, hsz, hP, hE⟩ := hv
  have hx := B.exec
  have hb := B.bytes
  have hr := B.returns
  have hts := atoms_spec (ws := _ :: lw_big) B.pre
  have htb : ∀ w ∈ lw_big, w.before _ s = true := fun w h => hts w (List.mem_cons_of_mem _ h)
  have hno := B.noHandlers (hts _ List.mem_cons_self)
  have hown : s.vm.findClass RX3 = some m.cls := findClass_of_methodNamed B.named
  have hlocks := B.notSynchronized
  have hK := hE.1
  subst hsz
  have hAn : ∀ q : Nat, s.heap.size ≤ q → gA G q := hA
  have hS : va_S (gA G) s.heap s.heap [] := va_S.rf
  have hl := lv_entry ([.ref (f0 f), .int k, .int least]) (n := 5) (Nat.le_of_ble_eq_true rfl)
  rw [lg_entry_eq]
  generalize (lg_sl ([.ref (f0 f), .int k, .int least]) ++ List.replicate (5 - (lg_sl ([.ref (f0 f), .int k, .int least])).length) Slot.unset).toArray = ls at hl ⊢
  have hl : lv_has ls 5 [(0, .ref (f0 f)), (1, .int k), (2, .int least)] := hl
  obtain ⟨gm, gf, g, h1, h2, h3, h4, h5, h6, h7, h8, h9⟩ := id hR
  refine lv_iload_n hx hb dX3_signOf_0 rfl (lv_at hl 1 rfl) ?_
  refine mw_callS (As := [.int k]) (rest := []) hx hb hml hown hl (kX3_needFamily l htr G s.heap.size M k) (g_B (n := 1) htb wd266 wd1 wd264 (by decide +kernel) ⟨Nat.le_of_ble_eq_true rfl, Nat.le_of_ble_eq_true rfl⟩) (htb _ wd265) hE hP hS rfl rfl (Nat.le_of_ble_eq_true rfl) dX3_signOf_1 ⟨Nat.le_of_ble_eq_true rfl, Nat.le_of_ble_eq_true rfl⟩ (fun v9 M9 H locs hpo hP hz hS => ?_) (fun x9 E9 cell9 H9 locs9 hE9 hx9 ho9 hf9 hP9 hz9 hS9 => mx_outF (thr0 := fs_Th (ex_signOf S k least) ["java/lang/IndexOutOfBoundsException", "java/lang/IllegalArgumentException", "java/lang/IllegalStateException", "java/lang/UnsupportedOperationException"]) hno hlocks ⟨0, by rw [ex_signOf, if_pos (fun z9 => hE9.2 z9)], by rw [hE9.1]; rfl⟩ hx9 ho9 hf9 hP9 hS9 (Nat.le_of_ble_eq_true rfl) (Nat.le_of_ble_eq_true rfl))
  obtain ⟨rfl, rfl, k_1⟩ := hpo
  have h_k := isF_lt k_1
  have e_k := fIx_of k_1.1
  rw [e_k] at hl
  refine W.eq (g2 := F0 m 4 ls []) rfl ?_
  refine lv_iload_n hx hb dX3_signOf_4 rfl (lv_at hl 2 rfl) ?_
  refine lv_iconst (v := 0) hx hb dX3_signOf_5 (by decide) ?_
  refine lv_ldc (v := 100000000) hx hb hown (htb _ wd298) dX3_signOf_6 ?_
  refine mw_callS (As := [.int least, .int 0, .int 100000000]) (rest := []) hx hb hml hown hl (kX3_needWithin l htr G H.size M least 0 100000000) (g_B (n := 3) htb wd162 wd1 wd160 (by decide +kernel) ⟨Nat.le_of_ble_eq_true rfl, Nat.le_of_ble_eq_true rfl⟩) (htb _ wd161) hE hP hS rfl rfl (Nat.le_of_ble_eq_true rfl) dX3_signOf_8 ⟨Nat.le_of_ble_eq_true rfl, Nat.le_of_ble_eq_true rfl⟩ (fun v9 M9 H locs hpo hP hz hS => ?_) (fun x9 E9 cell9 H9 locs9 hE9 hx9 ho9 hf9 hP9 hz9 hS9 => mx_outF (thr0 := fs_Th (ex_signOf S k least) ["java/lang/IndexOutOfBoundsException", "java/lang/IllegalArgumentException", "java/lang/IllegalStateException", "java/lang/UnsupportedOperationException"]) hno hlocks ⟨1, by rw [ex_signOf, if_neg (fun z9 => z9 k_1), if_pos (fun z9 => hE9.2 z9)], by rw [hE9.1]; rfl⟩ hx9 ho9 hf9 hP9 hS9 (Nat.le_of_ble_eq_true rfl) (Nat.le_of_ble_eq_true rfl))
  obtain ⟨rfl, rfl, k_2⟩ := hpo
  obtain ⟨hgf_k, gr_k, hf1_k, hf2_k, hf3_k⟩ := h7 (fIx k) h_k
  refine W.eq (g2 := F0 m 11 ls []) rfl ?_
  refine lv_aload_n hx hb dX3_signOf_11 rfl (lv_at hl 0 rfl) ?_
  refine mw_get (D := gD G) (ci := 3) (v := .ref (fF f)) (C := RX3) (T := TX3) (N := 6) hx hb htb inX3 hown hK hP h1 rfl 2 (by decide) (htb _ wd58) (fun _ h9 => h9) rfl dX3_signOf_12 ?_
  refine lv_iload_n hx hb dX3_signOf_15 rfl (lv_at hl 1 rfl) ?_
  refine mw_aald hx hb hK hP 2 h3 rfl (vp_in_nI h_k (by decide)) dX3_signOf_16 ?_
  refine W.eq (g2 := F0 m 17 ls [.ref (fQ f (fIx k))]) (by rw [nI_clamp (show (fIx k) < 2 ^ 31 by omega), hgf_k]; rfl) ?_
  refine lv_astore_n (lv' := [(3, .ref (fQ f (fIx k))), (0, .ref (f0 f)), (1, .int (nI (fIx k))), (2, .int least)]) hx hb dX3_signOf_17 rfl hl (by decide) rfl (fun ls hl => ?_)
  refine lv_aload_n hx hb dX3_signOf_18 rfl (lv_at hl 0 rfl) ?_
  refine mw_callS (As := [.ref (fQ f (fIx k))]) (rest := []) hx hb hml hown hl (kX3_needSign l htr G H.size M f S hR (fIx k) h_k) (g_B (n := 1) htb wd301 wd1 wd299 (by decide +kernel) ⟨Nat.le_of_ble_eq_true rfl, Nat.le_of_ble_eq_true rfl⟩) (htb _ wd300) hE hP hS rfl rfl (Nat.le_of_ble_eq_true rfl) dX3_signOf_19 ⟨Nat.le_of_ble_eq_true rfl, Nat.le_of_ble_eq_true rfl⟩ (fun v9 M9 H locs hpo hP hz hS => ?_) (fun x9 E9 cell9 H9 locs9 hE9 hx9 ho9 hf9 hP9 hz9 hS9 => mx_outF (thr0 := fs_Th (ex_signOf S k least) ["java/lang/IndexOutOfBoundsException", "java/lang/IllegalArgumentException", "java/lang/IllegalStateException", "java/lang/UnsupportedOperationException"]) hno hlocks ⟨2, by rw [ex_signOf, if_neg (fun z9 => z9 k_1), if_neg (fun z9 => z9 k_2), if_pos (fun z9 => hE9.2 z9)], by rw [hE9.1]; rfl⟩ hx9 ho9 hf9 hP9 hS9 (Nat.le_of_ble_eq_true rfl) (Nat.le_of_ble_eq_true rfl))
  obtain ⟨rfl, rfl, k_3⟩ := hpo
  refine W.eq (g2 := F0 m 22 ls []) rfl ?_
  refine lv_aload_n hx hb dX3_signOf_22 rfl (lv_at hl 1 rfl) ?_
  refine lv_aload_n hx hb dX3_signOf_23 rfl (lv_at hl 0 rfl) ?_
  refine lv_iload_n hx hb dX3_signOf_24 rfl (lv_at hl 3 rfl) ?_
  refine mw_callV (C := RX3) (As := [.ref (fQ f (fIx k)), .int least]) (rest := []) hx hb hml hown hl (kX3_readySign l htr G H.size M f S hR (fIx k) h_k least) (g_B (n := 2) htb wd321 wd1 wd318 (by decide +kernel) ⟨Nat.le_of_ble_eq_true rfl, Nat.le_of_ble_eq_true rfl⟩) (htb _ wd320) (htb _ ws6) hE hP hS (fs_R.this hR) rfl rfl rfl (Nat.le_of_ble_eq_true rfl) dX3_signOf_25 ⟨Nat.le_of_ble_eq_true rfl, Nat.le_of_ble_eq_true rfl⟩ (fun v9 M9 H locs hpo hP hz hS => ?_) (fun x9 E9 cell9 H9 locs9 hE9 => hE9.elim)
  obtain ⟨rfl, rfl⟩ := hpo
  obtain ⟨r_4, er_4⟩ : ∃ z9, z9 = (fs_rd S (sF S (fIx k)) least) := ⟨_, rfl⟩
  have onr_4 : fs_on S r_4 := by rw [er_4]; exact fs_rd_on _ (hR.ok.2.2 _ h_k).2.1
  refine W.eq (g2 := F0 m 28 ls [.int r_4]) (by subst er_4; rfl) ?_
  refine lv_istore (lv' := [(4, .int r_4), (3, .ref (fQ f (fIx k))), (0, .ref (f0 f)), (1, .int (nI (fIx k))), (2, .int least)]) hx hb dX3_signOf_28 hl (by decide) rfl (fun ls hl => ?_)
  refine lv_aload_n hx hb dX3_signOf_30 rfl (lv_at hl 2 rfl) ?_
  refine lv_iload hx hb dX3_signOf_31 (lv_at hl 0 rfl) ?_
  refine mw_callS (As := [.int r_4]) (rest := [.ref (f0 f)]) hx hb hml hown hl (kX3_newBoxesFor l htr G H.size M r_4) (g_B (n := 1) htb wd324 wd1 wd322 (by decide +kernel) ⟨Nat.le_of_ble_eq_true rfl, Nat.le_of_ble_eq_true rfl⟩) (htb _ wd323) hE hP hS rfl rfl (Nat.le_of_ble_eq_true rfl) dX3_signOf_33 ⟨Nat.le_of_ble_eq_true rfl, Nat.le_of_ble_eq_true rfl⟩ (fun v9 M9 H locs hpo hP hz hS => ?_) (fun x9 E9 cell9 H9 locs9 hE9 => hE9.elim)
  obtain ⟨rfl, rfl⟩ := hpo
  refine W.eq (g2 := F0 m 36 ls [.int (if r_4 = (-1) then 1 else 0), .ref (f0 f)]) rfl ?_
  refine mw_callV (C := RX3) (As := [.int (if r_4 = (-1) then 1 else 0)]) (rest := []) hx hb hml hown hl (kX3_needRoom l htr G H.size M f S hR (if r_4 = (-1) then 1 else 0)) (g_B (n := 1) htb wd198 wd1 wd195 (by decide +kernel) ⟨Nat.le_of_ble_eq_true rfl, Nat.le_of_ble_eq_true rfl⟩) (htb _ wd197) (htb _ ws1) hE hP hS (fs_R.this hR) rfl rfl rfl (Nat.le_of_ble_eq_true rfl) dX3_signOf_36 ⟨Nat.le_of_ble_eq_true rfl, Nat.le_of_ble_eq_true rfl⟩ (fun v9 M9 H locs hpo hP hz hS => ?_) (fun x9 E9 cell9 H9 locs9 hE9 hx9 ho9 hf9 hP9 hz9 hS9 => mx_outF (thr0 := fs_Th (ex_signOf S k least) ["java/lang/IndexOutOfBoundsException", "java/lang/IllegalArgumentException", "java/lang/IllegalStateException", "java/lang/UnsupportedOperationException"]) hno hlocks ⟨3, by rw [ex_signOf, if_neg (fun z9 => z9 k_1), if_neg (fun z9 => z9 k_2), if_neg (fun z9 => z9 k_3), if_pos (by simp only [← er_4]; exact hE9.2)], by rw [hE9.1]; rfl⟩ hx9 ho9 hf9 hP9 hS9 (Nat.le_of_ble_eq_true rfl) (Nat.le_of_ble_eq_true rfl))
  obtain ⟨rfl, rfl, k_5⟩ := hpo
  have hrm : sN S + ((if r_4 = (-1) then 1 else 0)) ≤ 120 := rmk_le (by have := fs_le10 r_4; omega) hR.ok.1 (by rw [← fs_c10]; exact k_5)
  have hR0 := hR
  refine W.eq (g2 := F0 m 39 ls []) rfl ?_
  refine lv_aload_n hx hb dX3_signOf_39 rfl (lv_at hl 2 rfl) ?_
  refine lv_aload_n hx hb dX3_signOf_40 rfl (lv_at hl 1 rfl) ?_
  refine lv_iload hx hb dX3_signOf_41 (lv_at hl 0 rfl) ?_
  refine lv_iload_n hx hb dX3_signOf_43 rfl (lv_at hl 4 rfl) ?_
  refine mw_callV (C := RX3) (As := [.ref (fQ f (fIx k)), .int r_4, .int least]) (rest := []) hx hb hml hown hl (kX3_keptSign l htr G H.size M f S hR hX (fun q h => hAn q (Nat.le_trans hS.1 h)) (fIx k) h_k r_4 least (fun z9 => by have h9 := hrm; rw [show (if r_4 = (-1) then 1 else 0) = 1 from if_pos z9] at h9; omega) (fun z9 => fs_rd_rep (least := least) hR0.ok.1 (hR0.ok.2.2 _ h_k).2.1 k_3 (er_4.symm.trans z9))) (g_B (n := 3) htb wd328 wd1 wd325 (by decide +kernel) ⟨Nat.le_of_ble_eq_true rfl, Nat.le_of_ble_eq_true rfl⟩) (htb _ wd327) (htb _ ws7) hE hP hS (fs_R.this hR) rfl rfl rfl (Nat.le_of_ble_eq_true rfl) dX3_signOf_44 ⟨Nat.le_of_ble_eq_true rfl, Nat.le_of_ble_eq_true rfl⟩ (fun v9 M9 H locs hpo hP hz hS => ?_) (fun x9 E9 cell9 H9 locs9 hE9 => hE9.elim)
  obtain ⟨rfl, hRn, hkn⟩ := hpo
  obtain ⟨S1, hS1⟩ : ∃ z9 : fs_S, z9 = kt_S S (sF S (fIx k)) r_4 least := ⟨_, rfl⟩
  obtain ⟨M_6, hM_6⟩ : ∃ z9 : mw_M, z9 = M9 := ⟨_, rfl⟩
  rw [← hS1] at hRn
  rw [← hM_6] at hP hRn hkn
  have hX := fs_hX hRn hkn hX
  have hleS1 : sN S ≤ sN S1 := by rw [hS1]; exact kt_le _ _ _ _
  obtain ⟨hy1, hy2⟩ := kt_in (sF S (fIx k)) least hR.ok.1 onr_4
  obtain ⟨y_7, ey_7⟩ : ∃ z9, z9 = fIx (kt_y S r_4) := ⟨_, rfl⟩
  rw [← ey_7, ← hS1] at hy1
  rw [← ey_7] at hy2
  have h_y_7 := hy1
  have hkn := hkn
  have kp_8 := hkn
  have hR := hRn
  refine W.eq (g2 := F0 m 47 ls [.int (nI y_7)]) (show F0 m 47 ls [.int (kt_y S r_4)] = F0 m 47 ls [.int (nI y_7)] from by rw [hy2]) ?_
  have e9 : kt_y S r_4 = nI y_7 := hy2
  exact mx_iret (v := (nI y_7)) (M' := M_6) hx hb hr hlocks hP hS ⟨by rw [ex_signOf, if_neg (fun z9 => z9 k_1), if_neg (fun z9 => z9 k_2), if_neg (fun z9 => z9 k_3), if_neg (fun z9 => z9 (by rw [← er_4]; exact k_5))], by rw [← er_4, e9], by rw [← er_4, ← hS1]; exact hR, kp_8⟩ dX3_signOf_47 (Nat.le_of_ble_eq_true rfl) (Nat.le_of_ble_eq_true rfl)
