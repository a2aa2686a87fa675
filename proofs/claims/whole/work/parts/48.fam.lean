/-! printed by wip/whole/spec*.py -/
-- X3_sign
set_option maxHeartbeats 4000000 in
set_option maxRecDepth 100000 in
theorem kX3_sign (l : Launch) (htr : l.stackTraces = false) (G : gx_G) (sz : Nat) (M : mw_M) (f : fs_A) (S : fs_S) (hR : fs_R G f M S) (k b : Int32) : g_Met l G yX3_sign (.code yX3_sign cX3_sign 4 (some .int)) ({ frames := 8, cells := 8, slots := 60, locals := 260 } : Room) sz M [.ref (f0 f), .int k, .int b] (fs_Up G f M (ex_sign S k b) (some (.int (nI (sF S (fIx k)).1.length + 1))) (fs_fa S (fIx k) ((sF S (fIx k)).1 ++ [nI (fIx b)], (sF S (fIx k)).2))) (fs_Th (ex_sign S k b) ["java/lang/IndexOutOfBoundsException", "java/lang/UnsupportedOperationException"]) := by
  refine MetE.ofW (cc := cX3_sign) (maxL := 4) (ret := (some .int)) (by decide) rfl ?_
  intro p e s m args below meth c s₁ B hml hv
  obtain ⟨rfl, hsz, hP, hE⟩ := hv
  have hx := B.exec
  have hb := B.bytes
  have hr := B.returns
  have hts := atoms_spec (ws := _ :: lw_big) B.pre
  have htb : ∀ w ∈ lw_big, w.before _ s = true := fun w h => hts w (List.mem_cons_of_mem _ h)
  have hno := B.noHandlers (hts _ List.mem_cons_self)
  have hown : s.vm.findClass RX3 = some m.cls := findClass_of_methodNamed B.named
  have hlocks := B.notSynchronized
  have hK := hE.1
  subst hsz
  have hS : va_S (gA G) s.heap s.heap [] := va_S.rf
  have hl := lv_entry ([.ref (f0 f), .int k, .int b]) (n := 4) (Nat.le_of_ble_eq_true rfl)
  rw [lg_entry_eq]
  generalize (lg_sl ([.ref (f0 f), .int k, .int b]) ++ List.replicate (4 - (lg_sl ([.ref (f0 f), .int k, .int b])).length) Slot.unset).toArray = ls at hl ⊢
  have hl : lv_has ls 4 [(0, .ref (f0 f)), (1, .int k), (2, .int b)] := hl
  obtain ⟨gm, gf, g, h1, h2, h3, h4, h5, h6, h7, h8, h9⟩ := id hR
  refine lv_iload_n hx hb dX3_sign_0 rfl (lv_at hl 1 rfl) ?_
  refine mw_callS (As := [.int k]) (rest := []) hx hb hml hown hl (kX3_needFamily l htr G s.heap.size M k) (g_B (n := 1) htb wd266 wd1 wd264 (by decide +kernel) ⟨Nat.le_of_ble_eq_true rfl, Nat.le_of_ble_eq_true rfl⟩) (htb _ wd265) hE hP hS rfl rfl (Nat.le_of_ble_eq_true rfl) dX3_sign_1 ⟨Nat.le_of_ble_eq_true rfl, Nat.le_of_ble_eq_true rfl⟩ (fun v9 M9 H locs hpo hP hz hS => ?_) (fun x9 E9 cell9 H9 locs9 hE9 hx9 ho9 hf9 hP9 hz9 hS9 => mx_outF (thr0 := fs_Th (ex_sign S k b) ["java/lang/IndexOutOfBoundsException", "java/lang/UnsupportedOperationException"]) hno hlocks ⟨0, by rw [ex_sign, if_pos (fun z9 => hE9.2 z9.1)], by rw [hE9.1]; rfl⟩ hx9 ho9 hf9 hP9 hS9 (Nat.le_of_ble_eq_true rfl) (Nat.le_of_ble_eq_true rfl))
  obtain ⟨rfl, rfl, k_1⟩ := hpo
  have h_k := isF_lt k_1
  have e_k := fIx_of k_1.1
  rw [e_k] at hl
  refine W.eq (g2 := F0 m 4 ls []) rfl ?_
  refine lv_aload_n hx hb dX3_sign_4 rfl (lv_at hl 0 rfl) ?_
  refine lv_iload_n hx hb dX3_sign_5 rfl (lv_at hl 2 rfl) ?_
  refine mw_callV (C := RX3) (As := [.int b]) (rest := []) hx hb hml hown hl (kX3_needBox l htr G H.size M f S hR b) (g_B (n := 1) htb wd271 wd1 wd268 (by decide +kernel) ⟨Nat.le_of_ble_eq_true rfl, Nat.le_of_ble_eq_true rfl⟩) (htb _ wd270) (htb _ ws3) hE hP hS (fs_R.this hR) rfl rfl rfl (Nat.le_of_ble_eq_true rfl) dX3_sign_6 ⟨Nat.le_of_ble_eq_true rfl, Nat.le_of_ble_eq_true rfl⟩ (fun v9 M9 H locs hpo hP hz hS => ?_) (fun x9 E9 cell9 H9 locs9 hE9 hx9 ho9 hf9 hP9 hz9 hS9 => mx_outF (thr0 := fs_Th (ex_sign S k b) ["java/lang/IndexOutOfBoundsException", "java/lang/UnsupportedOperationException"]) hno hlocks ⟨0, by rw [ex_sign, if_pos (fun z9 => hE9.2 z9.2)], by rw [hE9.1]; rfl⟩ hx9 ho9 hf9 hP9 hS9 (Nat.le_of_ble_eq_true rfl) (Nat.le_of_ble_eq_true rfl))
  obtain ⟨rfl, rfl, k_2⟩ := hpo
  have h_b := isB_lt k_2 hR.ok.1
  have e_b := fIx_of k_2.1
  rw [e_b] at hl
  obtain ⟨hgf_k, gr_k, hf1_k, hf2_k, hf3_k⟩ := h7 (fIx k) h_k
  refine W.eq (g2 := F0 m 9 ls []) rfl ?_
  refine lv_aload_n hx hb dX3_sign_9 rfl (lv_at hl 0 rfl) ?_
  refine mw_get (D := gD G) (ci := 3) (v := .ref (fF f)) (C := RX3) (T := TX3) (N := 6) hx hb htb inX3 hown hK hP h1 rfl 2 (by decide) (htb _ wd58) (fun _ h9 => h9) rfl dX3_sign_10 ?_
  refine lv_iload_n hx hb dX3_sign_13 rfl (lv_at hl 1 rfl) ?_
  refine mw_aald hx hb hK hP 2 h3 rfl (vp_in_nI h_k (by decide)) dX3_sign_14 ?_
  refine W.eq (g2 := F0 m 15 ls [.ref (fQ f (fIx k))]) (by rw [nI_clamp (show (fIx k) < 2 ^ 31 by omega), hgf_k]; rfl) ?_
  refine lv_astore_n (lv' := [(3, .ref (fQ f (fIx k))), (0, .ref (f0 f)), (1, .int (nI (fIx k))), (2, .int (nI (fIx b)))]) hx hb dX3_sign_15 rfl hl (by decide) rfl (fun ls hl => ?_)
  refine lv_aload_n hx hb dX3_sign_16 rfl (lv_at hl 0 rfl) ?_
  refine mw_get (D := gD G) (ci := 1) (v := .int (nI (sF S (fIx k)).1.length)) (C := RX1) (T := TX1) (N := 6) hx hb htb inX1 hown hK hP hf1_k rfl 1 (by decide) (htb _ wd33) (fun _ h9 => h9) rfl dX3_sign_17 ?_
  refine lv_iconst (v := 4) hx hb dX3_sign_20 (by decide) ?_
  refine lv_icmp_lt (tgt := 34) hx hb dX3_sign_21 (by decide) (fun c_3 => ?_) (fun c_3 => ?_)
  · have hlen : (sF S (fIx k)).1.length < 4 := by
      rcases Nat.lt_or_ge (sF S (fIx k)).1.length 4 with q | q
      · exact q
      · exact absurd c_3 (nI_nlt (b := 4) q (by have := (h8.2.2 (fIx k) h_k).1; omega))
    refine lv_aload_n hx hb dX3_sign_34 rfl (lv_at hl 0 rfl) ?_
    refine mw_get (D := gD G) (ci := 1) (v := .ref (fR f (fIx k))) (C := RX1) (T := TX1) (N := 6) hx hb htb inX1 hown hK hP hf1_k rfl 0 (by decide) (htb _ wd32) (fun _ h9 => h9) rfl dX3_sign_35 ?_
    refine lv_aload_n hx hb dX3_sign_38 rfl (lv_at hl 0 rfl) ?_
    refine mw_get (D := gD G) (ci := 1) (v := .int (nI (sF S (fIx k)).1.length)) (C := RX1) (T := TX1) (N := 6) hx hb htb inX1 hown hK hP hf1_k rfl 1 (by decide) (htb _ wd33) (fun _ h9 => h9) rfl dX3_sign_39 ?_
    refine lv_iload_n hx hb dX3_sign_42 rfl (lv_at hl 3 rfl) ?_
    refine mw_iast hx hb hK hP hS 0 hf2_k (h9.2.1 _ (Or.inr (Or.inr (Or.inr (Or.inr ⟨(fIx k), h_k, Or.inr rfl⟩))))) rfl (vp_in_nI hlen (by decide)) dX3_sign_43 (fun H locs hP hS => ?_)
    rw [nI_clamp (show (sF S (fIx k)).1.length < 2 ^ 31 by omega)] at hP
    obtain ⟨M_4, hM_4⟩ : ∃ z9 : mw_M, z9 = mw_up M (fR f (fIx k)) (.inl (gI G, 4, .inl (upd gr_k (sF S (fIx k)).1.length (nI (fIx b))))) := ⟨_, rfl⟩
    have hP : mw_P (gD G) gx_cl M_4 H := by rw [hM_4]; exact hP
    have f_5 : M_4 (f0 f) = some (.inr (3, [.ref (fM f), .int (nI (sN S)), .ref (fF f), .ref (fP f), .int (sSp S), .int (sSh S)])) := by rw [hM_4, mw_ne _ _ (fun z => by have z1 := h1; rw [z, hf2_k] at z1; simp at z1)]; exact h1
    have f_6 : M_4 (fF f) = some (.inl (gF G, 8, .inr (.inr (.inr (.inr gf))))) := by rw [hM_4, mw_ne _ _ (fun z => by have z1 := h3; rw [z, hf2_k] at z1; simp at z1)]; exact h3
    have f_7 : M_4 (fQ f (fIx k)) = some (.inr (1, [.ref (fR f (fIx k)), .int (nI (sF S (fIx k)).1.length), .int (sF S (fIx k)).2.1, .int (sF S (fIx k)).2.2.1, .int (sF S (fIx k)).2.2.2.1, .int (sF S (fIx k)).2.2.2.2])) := by rw [hM_4, mw_ne _ _ (fun z => by have z1 := hf1_k; rw [z, hf2_k] at z1; simp at z1)]; exact hf1_k
    have f_8 : M_4 (fR f (fIx k)) = some (.inl (gI G, 4, .inl (upd gr_k (sF S (fIx k)).1.length (nI (fIx b))))) := by rw [hM_4]; exact mw_self _ _ _
    refine lv_aload_n hx hb dX3_sign_44 rfl (lv_at hl 0 rfl) ?_
    refine lv_dup hx hb dX3_sign_45 rfl ?_
    refine mw_get (D := gD G) (ci := 1) (v := .int (nI (sF S (fIx k)).1.length)) (C := RX1) (T := TX1) (N := 6) hx hb htb inX1 hown hK hP f_7 rfl 1 (by decide) (htb _ wd33) (fun _ h9 => h9) rfl dX3_sign_46 ?_
    refine lv_iconst (v := 1) hx hb dX3_sign_49 (by decide) ?_
    refine lv_iadd hx hb dX3_sign_50 ?_
    refine mw_put (D := gD G) (ci := 1) (v := .int ((nI (sF S (fIx k)).1.length) + 1)) (ty := .int) (C := RX1) (T := TX1) (N := 6) hx hb htb inX1 tyX1 tyX1_ok nmX1 hown hK hP hS f_7 (h9.2.1 _ (Or.inr (Or.inr (Or.inr (Or.inr ⟨(fIx k), h_k, Or.inl rfl⟩))))) rfl 1 (by decide) (htb _ wd33) (fun _ h9 => h9) rfl (by decide +kernel) rfl rfl (Nat.le_of_ble_eq_true rfl) dX3_sign_51 (fun H locs hP hS => ?_)
    obtain ⟨M_9, hM_9⟩ : ∃ z9 : mw_M, z9 = mw_up M_4 (fQ f (fIx k)) (.inr (1, [.ref (fR f (fIx k)), .int ((nI (sF S (fIx k)).1.length) + 1), .int (sF S (fIx k)).2.1, .int (sF S (fIx k)).2.2.1, .int (sF S (fIx k)).2.2.2.1, .int (sF S (fIx k)).2.2.2.2])) := ⟨_, rfl⟩
    have hP : mw_P (gD G) gx_cl M_9 H := by rw [hM_9]; exact hP
    have f_10 : M_9 (f0 f) = some (.inr (3, [.ref (fM f), .int (nI (sN S)), .ref (fF f), .ref (fP f), .int (sSp S), .int (sSh S)])) := by rw [hM_9, mw_ne _ _ (fun z => by have z1 := f_5; rw [z, f_7] at z1; simp at z1)]; exact f_5
    have f_11 : M_9 (fF f) = some (.inl (gF G, 8, .inr (.inr (.inr (.inr gf))))) := by rw [hM_9, mw_ne _ _ (fun z => by have z1 := f_6; rw [z, f_7] at z1; simp at z1)]; exact f_6
    have f_12 : M_9 (fQ f (fIx k)) = some (.inr (1, [.ref (fR f (fIx k)), .int ((nI (sF S (fIx k)).1.length) + 1), .int (sF S (fIx k)).2.1, .int (sF S (fIx k)).2.2.1, .int (sF S (fIx k)).2.2.2.1, .int (sF S (fIx k)).2.2.2.2])) := by rw [hM_9]; exact mw_self _ _ _
    have f_13 : M_9 (fR f (fIx k)) = some (.inl (gI G, 4, .inl (upd gr_k (sF S (fIx k)).1.length (nI (fIx b))))) := by rw [hM_9, mw_ne _ _ (fun z => by have z1 := f_8; rw [z, f_7] at z1; simp at z1)]; exact f_8
    refine lv_aload_n hx hb dX3_sign_54 rfl (lv_at hl 0 rfl) ?_
    refine mw_get (D := gD G) (ci := 1) (v := .int ((nI (sF S (fIx k)).1.length) + 1)) (C := RX1) (T := TX1) (N := 6) hx hb htb inX1 hown hK hP f_12 rfl 1 (by decide) (htb _ wd33) (fun _ h9 => h9) rfl dX3_sign_55 ?_
    have hlen1 : nI (sF S (fIx k)).1.length + 1 = nI ((sF S (fIx k)).1 ++ [nI (fIx b)]).length := by rw [nI_1, List.length_append]; rfl
    have hfm : fs_fm G f M_9 (fIx k) ((sF S (fIx k)).1 ++ [nI (fIx b)], (sF S (fIx k)).2) := by
      refine ⟨_, by rw [f_12, hlen1], f_13, fun j hj => ?_⟩
      have hj2 : j < (sF S (fIx k)).1.length + 1 := by simpa using hj
      by_cases e : j = (sF S (fIx k)).1.length
      · subst e; simp [upd, List.getD_eq_getElem?_getD]
      · have hj3 : j < (sF S (fIx k)).1.length := by omega
        simp only [upd, if_neg e]; rw [hf3_k j hj3]; simp [List.getD_eq_getElem?_getD, List.getElem?_append_left hj3]
    have hold : ∀ a e, a ≠ fQ f (fIx k) → a ≠ fR f (fIx k) → M a = some e → M_9 a = some e := fun a e n1 n2 h => by rw [hM_9, mw_ne _ _ n1, hM_4, mw_ne _ _ n2]; exact h
    obtain ⟨o1, o2, o3⟩ := h8.2.2 (fIx k) h_k
    obtain ⟨hR9, hk9⟩ := fs_R.fam_up hR h_k hfm hold ⟨by simp only [List.length_append, List.length_cons, List.length_nil]; omega, fun j hj => by
      by_cases e : j = (sF S (fIx k)).1.length
      · subst e; simp [List.getD_eq_getElem?_getD]; exact ⟨fIx b, h_b, rfl⟩
      · have hj3 : j < (sF S (fIx k)).1.length := by simp at hj; omega
        have := o2 j hj3; simpa [List.getD_eq_getElem?_getD, List.getElem?_append_left hj3] using this, o3⟩
    exact mx_iret (v := ((nI (sF S (fIx k)).1.length) + 1)) (M' := M_9) hx hb hr hlocks hP hS ⟨by rw [ex_sign, if_neg (fun z9 => z9 ⟨k_1, k_2⟩), if_neg (fun z9 => z9 c_3)], rfl, hR9, hk9⟩ dX3_sign_58 (Nat.le_of_ble_eq_true rfl) (Nat.le_of_ble_eq_true rfl)
  · exact g_thrUO (M := M) hx hb htr hno hlocks hml hl hown htb hE (List.mem_cons_of_mem _ (List.mem_cons_of_mem _ (List.mem_cons_of_mem _ (List.mem_cons_of_mem _ (List.mem_cons_of_mem _ (List.mem_cons_of_mem _ (List.mem_cons_of_mem _ List.mem_cons_self))))))) hS hP dX3_sign_24 dX3_sign_27 dX3_sign_28 dX3_sign_30 dX3_sign_33 (Nat.le_of_ble_eq_true rfl) (Nat.le_of_ble_eq_true rfl) (Nat.le_of_ble_eq_true rfl) (Nat.le_of_ble_eq_true rfl) ⟨1, by rw [ex_sign, if_neg (fun z9 => z9 ⟨k_1, k_2⟩), if_pos c_3], rfl⟩ (Nat.le_of_ble_eq_true rfl) (Nat.le_of_ble_eq_true rfl)
-- X3_pieces
set_option maxHeartbeats 4000000 in
set_option maxRecDepth 100000 in
theorem kX3_pieces (l : Launch) (htr : l.stackTraces = false) (G : gx_G) (sz : Nat) (M : mw_M) (f : fs_A) (S : fs_S) (hR : fs_R G f M S) (k u d lo r : Int32) : g_Met l G yX3_pieces (.code yX3_pieces cX3_pieces 7 none) ({ frames := 8, cells := 8, slots := 60, locals := 260 } : Room) sz M [.ref (f0 f), .int k, .int u, .int d, .int lo, .int r] (fs_Up G f M (ex_pieces S k u d lo r) (none) (fs_fa S (fIx k) ((sF S (fIx k)).1, u, d, lo, nI (fIx r)))) (fs_Th (ex_pieces S k u d lo r) ["java/lang/IndexOutOfBoundsException", "java/lang/IllegalArgumentException"]) := by
  refine MetE.ofW (cc := cX3_pieces) (maxL := 7) (ret := none) (by decide) rfl ?_
  intro p e s m args below meth c s₁ B hml hv
  obtain ⟨rfl, hsz, hP, hE⟩ := hv
  have hx := B.exec
  have hb := B.bytes
  have hr := B.returns
  have hts := atoms_spec (ws := _ :: lw_big) B.pre
  have htb : ∀ w ∈ lw_big, w.before _ s = true := fun w h => hts w (List.mem_cons_of_mem _ h)
  have hno := B.noHandlers (hts _ List.mem_cons_self)
  have hown : s.vm.findClass RX3 = some m.cls := findClass_of_methodNamed B.named
  have hlocks := B.notSynchronized
  have hK := hE.1
  subst hsz
  have hS : va_S (gA G) s.heap s.heap [] := va_S.rf
  have hl := lv_entry ([.ref (f0 f), .int k, .int u, .int d, .int lo, .int r]) (n := 7) (Nat.le_of_ble_eq_true rfl)
  rw [lg_entry_eq]
  generalize (lg_sl ([.ref (f0 f), .int k, .int u, .int d, .int lo, .int r]) ++ List.replicate (7 - (lg_sl ([.ref (f0 f), .int k, .int u, .int d, .int lo, .int r])).length) Slot.unset).toArray = ls at hl ⊢
  have hl : lv_has ls 7 [(0, .ref (f0 f)), (1, .int k), (2, .int u), (3, .int d), (4, .int lo), (5, .int r)] := hl
  obtain ⟨gm, gf, g, h1, h2, h3, h4, h5, h6, h7, h8, h9⟩ := id hR
  refine lv_iload_n hx hb dX3_pieces_0 rfl (lv_at hl 1 rfl) ?_
  refine mw_callS (As := [.int k]) (rest := []) hx hb hml hown hl (kX3_needFamily l htr G s.heap.size M k) (g_B (n := 1) htb wd266 wd1 wd264 (by decide +kernel) ⟨Nat.le_of_ble_eq_true rfl, Nat.le_of_ble_eq_true rfl⟩) (htb _ wd265) hE hP hS rfl rfl (Nat.le_of_ble_eq_true rfl) dX3_pieces_1 ⟨Nat.le_of_ble_eq_true rfl, Nat.le_of_ble_eq_true rfl⟩ (fun v9 M9 H locs hpo hP hz hS => ?_) (fun x9 E9 cell9 H9 locs9 hE9 hx9 ho9 hf9 hP9 hz9 hS9 => mx_outF (thr0 := fs_Th (ex_pieces S k u d lo r) ["java/lang/IndexOutOfBoundsException", "java/lang/IllegalArgumentException"]) hno hlocks ⟨0, by rw [ex_pieces, if_pos (fun z9 => hE9.2 z9.1)], by rw [hE9.1]; rfl⟩ hx9 ho9 hf9 hP9 hS9 (Nat.le_of_ble_eq_true rfl) (Nat.le_of_ble_eq_true rfl))
  obtain ⟨rfl, rfl, k_1⟩ := hpo
  have h_k := isF_lt k_1
  have e_k := fIx_of k_1.1
  rw [e_k] at hl
  refine W.eq (g2 := F0 m 4 ls []) rfl ?_
  refine lv_aload_n hx hb dX3_pieces_4 rfl (lv_at hl 0 rfl) ?_
  refine lv_iload_n hx hb dX3_pieces_5 rfl (lv_at hl 2 rfl) ?_
  refine mw_callV (C := RX3) (As := [.int u]) (rest := []) hx hb hml hown hl (kX3_needBoxOrNone l htr G H.size M f S hR u) (g_B (n := 1) htb wd284 wd1 wd281 (by decide +kernel) ⟨Nat.le_of_ble_eq_true rfl, Nat.le_of_ble_eq_true rfl⟩) (htb _ wd283) (htb _ ws4) hE hP hS (fs_R.this hR) rfl rfl rfl (Nat.le_of_ble_eq_true rfl) dX3_pieces_6 ⟨Nat.le_of_ble_eq_true rfl, Nat.le_of_ble_eq_true rfl⟩ (fun v9 M9 H locs hpo hP hz hS => ?_) (fun x9 E9 cell9 H9 locs9 hE9 hx9 ho9 hf9 hP9 hz9 hS9 => mx_outF (thr0 := fs_Th (ex_pieces S k u d lo r) ["java/lang/IndexOutOfBoundsException", "java/lang/IllegalArgumentException"]) hno hlocks ⟨0, by rw [ex_pieces, if_pos (fun z9 => hE9.2 z9.2.1)], by rw [hE9.1]; rfl⟩ hx9 ho9 hf9 hP9 hS9 (Nat.le_of_ble_eq_true rfl) (Nat.le_of_ble_eq_true rfl))
  obtain ⟨rfl, rfl, k_2⟩ := hpo
  have ho_u := isO_on k_2 hR.ok.1
  refine W.eq (g2 := F0 m 9 ls []) rfl ?_
  refine lv_aload_n hx hb dX3_pieces_9 rfl (lv_at hl 0 rfl) ?_
  refine lv_iload_n hx hb dX3_pieces_10 rfl (lv_at hl 3 rfl) ?_
  refine mw_callV (C := RX3) (As := [.int d]) (rest := []) hx hb hml hown hl (kX3_needBoxOrNone l htr G H.size M f S hR d) (g_B (n := 1) htb wd284 wd1 wd281 (by decide +kernel) ⟨Nat.le_of_ble_eq_true rfl, Nat.le_of_ble_eq_true rfl⟩) (htb _ wd283) (htb _ ws4) hE hP hS (fs_R.this hR) rfl rfl rfl (Nat.le_of_ble_eq_true rfl) dX3_pieces_11 ⟨Nat.le_of_ble_eq_true rfl, Nat.le_of_ble_eq_true rfl⟩ (fun v9 M9 H locs hpo hP hz hS => ?_) (fun x9 E9 cell9 H9 locs9 hE9 hx9 ho9 hf9 hP9 hz9 hS9 => mx_outF (thr0 := fs_Th (ex_pieces S k u d lo r) ["java/lang/IndexOutOfBoundsException", "java/lang/IllegalArgumentException"]) hno hlocks ⟨0, by rw [ex_pieces, if_pos (fun z9 => hE9.2 z9.2.2.1)], by rw [hE9.1]; rfl⟩ hx9 ho9 hf9 hP9 hS9 (Nat.le_of_ble_eq_true rfl) (Nat.le_of_ble_eq_true rfl))
  obtain ⟨rfl, rfl, k_3⟩ := hpo
  have ho_d := isO_on k_3 hR.ok.1
  refine W.eq (g2 := F0 m 14 ls []) rfl ?_
  refine lv_aload_n hx hb dX3_pieces_14 rfl (lv_at hl 0 rfl) ?_
  refine lv_iload hx hb dX3_pieces_15 (lv_at hl 4 rfl) ?_
  refine mw_callV (C := RX3) (As := [.int lo]) (rest := []) hx hb hml hown hl (kX3_needBoxOrNone l htr G H.size M f S hR lo) (g_B (n := 1) htb wd284 wd1 wd281 (by decide +kernel) ⟨Nat.le_of_ble_eq_true rfl, Nat.le_of_ble_eq_true rfl⟩) (htb _ wd283) (htb _ ws4) hE hP hS (fs_R.this hR) rfl rfl rfl (Nat.le_of_ble_eq_true rfl) dX3_pieces_17 ⟨Nat.le_of_ble_eq_true rfl, Nat.le_of_ble_eq_true rfl⟩ (fun v9 M9 H locs hpo hP hz hS => ?_) (fun x9 E9 cell9 H9 locs9 hE9 hx9 ho9 hf9 hP9 hz9 hS9 => mx_outF (thr0 := fs_Th (ex_pieces S k u d lo r) ["java/lang/IndexOutOfBoundsException", "java/lang/IllegalArgumentException"]) hno hlocks ⟨0, by rw [ex_pieces, if_pos (fun z9 => hE9.2 z9.2.2.2.1)], by rw [hE9.1]; rfl⟩ hx9 ho9 hf9 hP9 hS9 (Nat.le_of_ble_eq_true rfl) (Nat.le_of_ble_eq_true rfl))
  obtain ⟨rfl, rfl, k_4⟩ := hpo
  have ho_lo := isO_on k_4 hR.ok.1
  refine W.eq (g2 := F0 m 20 ls []) rfl ?_
  refine lv_aload_n hx hb dX3_pieces_20 rfl (lv_at hl 0 rfl) ?_
  refine lv_iload hx hb dX3_pieces_21 (lv_at hl 5 rfl) ?_
  refine mw_callV (C := RX3) (As := [.int r]) (rest := []) hx hb hml hown hl (kX3_needBox l htr G H.size M f S hR r) (g_B (n := 1) htb wd271 wd1 wd268 (by decide +kernel) ⟨Nat.le_of_ble_eq_true rfl, Nat.le_of_ble_eq_true rfl⟩) (htb _ wd270) (htb _ ws3) hE hP hS (fs_R.this hR) rfl rfl rfl (Nat.le_of_ble_eq_true rfl) dX3_pieces_23 ⟨Nat.le_of_ble_eq_true rfl, Nat.le_of_ble_eq_true rfl⟩ (fun v9 M9 H locs hpo hP hz hS => ?_) (fun x9 E9 cell9 H9 locs9 hE9 hx9 ho9 hf9 hP9 hz9 hS9 => mx_outF (thr0 := fs_Th (ex_pieces S k u d lo r) ["java/lang/IndexOutOfBoundsException", "java/lang/IllegalArgumentException"]) hno hlocks ⟨0, by rw [ex_pieces, if_pos (fun z9 => hE9.2 z9.2.2.2.2)], by rw [hE9.1]; rfl⟩ hx9 ho9 hf9 hP9 hS9 (Nat.le_of_ble_eq_true rfl) (Nat.le_of_ble_eq_true rfl))
  obtain ⟨rfl, rfl, k_5⟩ := hpo
  have h_r := isB_lt k_5 hR.ok.1
  have e_r := fIx_of k_5.1
  rw [e_r] at hl
  obtain ⟨hgf_k, gr_k, hf1_k, hf2_k, hf3_k⟩ := h7 (fIx k) h_k
  refine W.eq (g2 := F0 m 26 ls []) rfl ?_
  refine lv_aload_n hx hb dX3_pieces_26 rfl (lv_at hl 0 rfl) ?_
  refine lv_iload hx hb dX3_pieces_27 (lv_at hl 5 rfl) ?_
  refine mw_callV (C := RX3) (As := [.int (nI (fIx r))]) (rest := []) hx hb hml hown hl (kX3_extentOf l htr G H.size M f S hR (nI (fIx r)) (Or.inr ⟨(fIx r), h_r, rfl⟩)) (g_B (n := 1) htb wd288 wd1 wd285 (by decide +kernel) ⟨Nat.le_of_ble_eq_true rfl, Nat.le_of_ble_eq_true rfl⟩) (htb _ wd287) (htb _ ws5) hE hP hS (fs_R.this hR) rfl rfl rfl (Nat.le_of_ble_eq_true rfl) dX3_pieces_29 ⟨Nat.le_of_ble_eq_true rfl, Nat.le_of_ble_eq_true rfl⟩ (fun v9 M9 H locs hpo hP hz hS => ?_) (fun x9 E9 cell9 H9 locs9 hE9 => hE9.elim)
  obtain ⟨rfl, rfl⟩ := hpo
  refine W.eq (g2 := F0 m 32 ls [.int (fEx S (nI (fIx r)))]) rfl ?_
  refine lv_if_gt (tgt := 45) hx hb dX3_pieces_32 (by decide) (fun c_6 => ?_) (fun c_6 => ?_)
  · refine lv_aload_n hx hb dX3_pieces_45 rfl (lv_at hl 0 rfl) ?_
    refine mw_get (D := gD G) (ci := 3) (v := .ref (fF f)) (C := RX3) (T := TX3) (N := 6) hx hb htb inX3 hown hK hP h1 rfl 2 (by decide) (htb _ wd58) (fun _ h9 => h9) rfl dX3_pieces_46 ?_
    refine lv_iload_n hx hb dX3_pieces_49 rfl (lv_at hl 1 rfl) ?_
    refine mw_aald hx hb hK hP 2 h3 rfl (vp_in_nI h_k (by decide)) dX3_pieces_50 ?_
    refine W.eq (g2 := F0 m 51 ls [.ref (fQ f (fIx k))]) (by rw [nI_clamp (show (fIx k) < 2 ^ 31 by omega), hgf_k]; rfl) ?_
    refine lv_astore (lv' := [(6, .ref (fQ f (fIx k))), (0, .ref (f0 f)), (1, .int (nI (fIx k))), (2, .int u), (3, .int d), (4, .int lo), (5, .int (nI (fIx r)))]) hx hb dX3_pieces_51 hl (by decide) rfl (fun ls hl => ?_)
    refine lv_aload hx hb dX3_pieces_53 (lv_at hl 0 rfl) ?_
    refine lv_iload_n hx hb dX3_pieces_55 rfl (lv_at hl 3 rfl) ?_
    refine mw_put (D := gD G) (ci := 1) (v := .int u) (ty := .int) (C := RX1) (T := TX1) (N := 6) hx hb htb inX1 tyX1 tyX1_ok nmX1 hown hK hP hS hf1_k (h9.2.1 _ (Or.inr (Or.inr (Or.inr (Or.inr ⟨(fIx k), h_k, Or.inl rfl⟩))))) rfl 2 (by decide) (htb _ wd35) (fun _ h9 => h9) rfl (by decide +kernel) rfl rfl (Nat.le_of_ble_eq_true rfl) dX3_pieces_56 (fun H locs hP hS => ?_)
    obtain ⟨M_7, hM_7⟩ : ∃ z9 : mw_M, z9 = mw_up M (fQ f (fIx k)) (.inr (1, [.ref (fR f (fIx k)), .int (nI (sF S (fIx k)).1.length), .int u, .int (sF S (fIx k)).2.2.1, .int (sF S (fIx k)).2.2.2.1, .int (sF S (fIx k)).2.2.2.2])) := ⟨_, rfl⟩
    have hP : mw_P (gD G) gx_cl M_7 H := by rw [hM_7]; exact hP
    have f_8 : M_7 (f0 f) = some (.inr (3, [.ref (fM f), .int (nI (sN S)), .ref (fF f), .ref (fP f), .int (sSp S), .int (sSh S)])) := by rw [hM_7, mw_ne _ _ (fun z => by have z1 := h1; rw [z, hf1_k] at z1; simp at z1)]; exact h1
    have f_9 : M_7 (fF f) = some (.inl (gF G, 8, .inr (.inr (.inr (.inr gf))))) := by rw [hM_7, mw_ne _ _ (fun z => by have z1 := h3; rw [z, hf1_k] at z1; simp at z1)]; exact h3
    have f_10 : M_7 (fQ f (fIx k)) = some (.inr (1, [.ref (fR f (fIx k)), .int (nI (sF S (fIx k)).1.length), .int u, .int (sF S (fIx k)).2.2.1, .int (sF S (fIx k)).2.2.2.1, .int (sF S (fIx k)).2.2.2.2])) := by rw [hM_7]; exact mw_self _ _ _
    have f_11 : M_7 (fR f (fIx k)) = some (.inl (gI G, 4, .inl gr_k)) := by rw [hM_7, mw_ne _ _ (fun z => by have z1 := hf2_k; rw [z, hf1_k] at z1; simp at z1)]; exact hf2_k
    refine lv_aload hx hb dX3_pieces_59 (lv_at hl 0 rfl) ?_
    refine lv_iload_n hx hb dX3_pieces_61 rfl (lv_at hl 4 rfl) ?_
    refine mw_put (D := gD G) (ci := 1) (v := .int d) (ty := .int) (C := RX1) (T := TX1) (N := 6) hx hb htb inX1 tyX1 tyX1_ok nmX1 hown hK hP hS f_10 (h9.2.1 _ (Or.inr (Or.inr (Or.inr (Or.inr ⟨(fIx k), h_k, Or.inl rfl⟩))))) rfl 3 (by decide) (htb _ wd37) (fun _ h9 => h9) rfl (by decide +kernel) rfl rfl (Nat.le_of_ble_eq_true rfl) dX3_pieces_62 (fun H locs hP hS => ?_)
    obtain ⟨M_12, hM_12⟩ : ∃ z9 : mw_M, z9 = mw_up M_7 (fQ f (fIx k)) (.inr (1, [.ref (fR f (fIx k)), .int (nI (sF S (fIx k)).1.length), .int u, .int d, .int (sF S (fIx k)).2.2.2.1, .int (sF S (fIx k)).2.2.2.2])) := ⟨_, rfl⟩
    have hP : mw_P (gD G) gx_cl M_12 H := by rw [hM_12]; exact hP
    have f_13 : M_12 (f0 f) = some (.inr (3, [.ref (fM f), .int (nI (sN S)), .ref (fF f), .ref (fP f), .int (sSp S), .int (sSh S)])) := by rw [hM_12, mw_ne _ _ (fun z => by have z1 := f_8; rw [z, f_10] at z1; simp at z1)]; exact f_8
    have f_14 : M_12 (fF f) = some (.inl (gF G, 8, .inr (.inr (.inr (.inr gf))))) := by rw [hM_12, mw_ne _ _ (fun z => by have z1 := f_9; rw [z, f_10] at z1; simp at z1)]; exact f_9
    have f_15 : M_12 (fQ f (fIx k)) = some (.inr (1, [.ref (fR f (fIx k)), .int (nI (sF S (fIx k)).1.length), .int u, .int d, .int (sF S (fIx k)).2.2.2.1, .int (sF S (fIx k)).2.2.2.2])) := by rw [hM_12]; exact mw_self _ _ _
    have f_16 : M_12 (fR f (fIx k)) = some (.inl (gI G, 4, .inl gr_k)) := by rw [hM_12, mw_ne _ _ (fun z => by have z1 := f_11; rw [z, f_10] at z1; simp at z1)]; exact f_11
    refine lv_aload hx hb dX3_pieces_65 (lv_at hl 0 rfl) ?_
    refine lv_iload hx hb dX3_pieces_67 (lv_at hl 5 rfl) ?_
    refine mw_put (D := gD G) (ci := 1) (v := .int lo) (ty := .int) (C := RX1) (T := TX1) (N := 6) hx hb htb inX1 tyX1 tyX1_ok nmX1 hown hK hP hS f_15 (h9.2.1 _ (Or.inr (Or.inr (Or.inr (Or.inr ⟨(fIx k), h_k, Or.inl rfl⟩))))) rfl 4 (by decide) (htb _ wd39) (fun _ h9 => h9) rfl (by decide +kernel) rfl rfl (Nat.le_of_ble_eq_true rfl) dX3_pieces_69 (fun H locs hP hS => ?_)
    obtain ⟨M_17, hM_17⟩ : ∃ z9 : mw_M, z9 = mw_up M_12 (fQ f (fIx k)) (.inr (1, [.ref (fR f (fIx k)), .int (nI (sF S (fIx k)).1.length), .int u, .int d, .int lo, .int (sF S (fIx k)).2.2.2.2])) := ⟨_, rfl⟩
    have hP : mw_P (gD G) gx_cl M_17 H := by rw [hM_17]; exact hP
    have f_18 : M_17 (f0 f) = some (.inr (3, [.ref (fM f), .int (nI (sN S)), .ref (fF f), .ref (fP f), .int (sSp S), .int (sSh S)])) := by rw [hM_17, mw_ne _ _ (fun z => by have z1 := f_13; rw [z, f_15] at z1; simp at z1)]; exact f_13
    have f_19 : M_17 (fF f) = some (.inl (gF G, 8, .inr (.inr (.inr (.inr gf))))) := by rw [hM_17, mw_ne _ _ (fun z => by have z1 := f_14; rw [z, f_15] at z1; simp at z1)]; exact f_14
    have f_20 : M_17 (fQ f (fIx k)) = some (.inr (1, [.ref (fR f (fIx k)), .int (nI (sF S (fIx k)).1.length), .int u, .int d, .int lo, .int (sF S (fIx k)).2.2.2.2])) := by rw [hM_17]; exact mw_self _ _ _
    have f_21 : M_17 (fR f (fIx k)) = some (.inl (gI G, 4, .inl gr_k)) := by rw [hM_17, mw_ne _ _ (fun z => by have z1 := f_16; rw [z, f_15] at z1; simp at z1)]; exact f_16
    refine lv_aload hx hb dX3_pieces_72 (lv_at hl 0 rfl) ?_
    refine lv_iload hx hb dX3_pieces_74 (lv_at hl 6 rfl) ?_
    refine mw_put (D := gD G) (ci := 1) (v := .int (nI (fIx r))) (ty := .int) (C := RX1) (T := TX1) (N := 6) hx hb htb inX1 tyX1 tyX1_ok nmX1 hown hK hP hS f_20 (h9.2.1 _ (Or.inr (Or.inr (Or.inr (Or.inr ⟨(fIx k), h_k, Or.inl rfl⟩))))) rfl 5 (by decide) (htb _ wd41) (fun _ h9 => h9) rfl (by decide +kernel) rfl rfl (Nat.le_of_ble_eq_true rfl) dX3_pieces_76 (fun H locs hP hS => ?_)
    obtain ⟨M_22, hM_22⟩ : ∃ z9 : mw_M, z9 = mw_up M_17 (fQ f (fIx k)) (.inr (1, [.ref (fR f (fIx k)), .int (nI (sF S (fIx k)).1.length), .int u, .int d, .int lo, .int (nI (fIx r))])) := ⟨_, rfl⟩
    have hP : mw_P (gD G) gx_cl M_22 H := by rw [hM_22]; exact hP
    have f_23 : M_22 (f0 f) = some (.inr (3, [.ref (fM f), .int (nI (sN S)), .ref (fF f), .ref (fP f), .int (sSp S), .int (sSh S)])) := by rw [hM_22, mw_ne _ _ (fun z => by have z1 := f_18; rw [z, f_20] at z1; simp at z1)]; exact f_18
    have f_24 : M_22 (fF f) = some (.inl (gF G, 8, .inr (.inr (.inr (.inr gf))))) := by rw [hM_22, mw_ne _ _ (fun z => by have z1 := f_19; rw [z, f_20] at z1; simp at z1)]; exact f_19
    have f_25 : M_22 (fQ f (fIx k)) = some (.inr (1, [.ref (fR f (fIx k)), .int (nI (sF S (fIx k)).1.length), .int u, .int d, .int lo, .int (nI (fIx r))])) := by rw [hM_22]; exact mw_self _ _ _
    have f_26 : M_22 (fR f (fIx k)) = some (.inl (gI G, 4, .inl gr_k)) := by rw [hM_22, mw_ne _ _ (fun z => by have z1 := f_21; rw [z, f_20] at z1; simp at z1)]; exact f_21
    have hfm : fs_fm G f M_22 (fIx k) ((sF S (fIx k)).1, u, d, lo, nI (fIx r)) := ⟨_, f_25, f_26, hf3_k⟩
    have hold : ∀ a e, a ≠ fQ f (fIx k) → a ≠ fR f (fIx k) → M a = some e → M_22 a = some e := fun a e n1 n2 h => by rw [hM_22, mw_ne _ _ n1, hM_17, mw_ne _ _ n1, hM_12, mw_ne _ _ n1, hM_7, mw_ne _ _ n1]; exact h
    obtain ⟨o1, o2, o3⟩ := h8.2.2 (fIx k) h_k
    obtain ⟨hR9, hk9⟩ := fs_R.fam_up hR h_k hfm hold ⟨o1, o2, ho_u, ho_d, ho_lo, on_i h_r⟩
    exact mx_vret (M' := M_22) hx hb hr hlocks hP hS ⟨by rw [ex_pieces, if_neg (fun z9 => z9 ⟨k_1, k_2, k_3, k_4, k_5⟩), e_r, if_neg (fun z9 => Int32.not_lt.mpr z9 c_6)], rfl, hR9, hk9⟩ dX3_pieces_79 (Nat.le_of_ble_eq_true rfl) (Nat.le_of_ble_eq_true rfl)
  · exact g_thrIA (M := M) hx hb htr hno hlocks hml hl hown htb hE (List.mem_cons_of_mem _ (List.mem_cons_of_mem _ (List.mem_cons_of_mem _ (List.mem_cons_of_mem _ (List.mem_cons_of_mem _ (List.mem_cons_of_mem _ (List.mem_cons_of_mem _ (List.mem_cons_of_mem _ List.mem_cons_self)))))))) hS hP dX3_pieces_35 dX3_pieces_38 dX3_pieces_39 dX3_pieces_41 dX3_pieces_44 (Nat.le_of_ble_eq_true rfl) (Nat.le_of_ble_eq_true rfl) (Nat.le_of_ble_eq_true rfl) (Nat.le_of_ble_eq_true rfl) ⟨1, by rw [ex_pieces, if_neg (fun z9 => z9 ⟨k_1, k_2, k_3, k_4, k_5⟩), e_r, if_pos (Int32.not_lt.mp c_6)], rfl⟩ (Nat.le_of_ble_eq_true rfl) (Nat.le_of_ble_eq_true rfl)
