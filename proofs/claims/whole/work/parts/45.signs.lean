/-! printed by wip/whole/spec*.py -/
-- X3_signs
set_option maxHeartbeats 4000000 in
set_option maxRecDepth 100000 in
theorem kX3_signs (l : Launch) (htr : l.stackTraces = false) (G : gx_G) (sz : Nat) (M : mw_M) (f : fs_A) (S : fs_S) (hR : fs_R G f M S) (hX : ∀ a, fX f a → M a ≠ none) (hA : ∀ q : Nat, sz ≤ q → gA G q) (st cr b lt a z : Int32) : g_Met l G yX3_signs (.code yX3_signs cX3_signs 10 (some .int)) ({ frames := 8, cells := 14, slots := 100, locals := 300 } : Room) sz M [.ref (f0 f), .int st, .int cr, .int b, .int lt, .int a, .int z] (fs_Mk G f M S (ex_lim S st b a z) (re_signs S st cr b lt a z)) (fs_Th (ex_lim S st b a z) ["java/lang/IndexOutOfBoundsException", "java/lang/IllegalArgumentException", "java/lang/UnsupportedOperationException"]) := by
  refine MetE.ofW (cc := cX3_signs) (maxL := 10) (ret := (some .int)) (by decide) rfl ?_
  intro p e s m args below meth c s₁ B hml hv
  obtain ⟨rfl, hsz, hP, hE⟩ := hv
  have hx := B.exec
  have hb := B.bytes
  have hr := B.returns
  have hts := atoms_spec (ws := _ :: lw_big) B.pre
  have htb : ∀ w ∈ lw_big, w.before _ s = true := fun w h => hts w (List.mem_cons_of_mem _ h)
  have hno := B.noHandlers (hts _ List.mem_cons_self)
  have hown : s.vm.findClass RX3 = some m.cls := findClass_of_methodNamed B.named
  have hlocks := B.notSynchronized
  have hK := hE.1
  subst hsz
  have hAn : ∀ q : Nat, s.heap.size ≤ q → gA G q := hA
  have hS : va_S (gA G) s.heap s.heap [] := va_S.rf
  have hl := lv_entry ([.ref (f0 f), .int st, .int cr, .int b, .int lt, .int a, .int z]) (n := 10) (Nat.le_of_ble_eq_true rfl)
  rw [lg_entry_eq]
  generalize (lg_sl ([.ref (f0 f), .int st, .int cr, .int b, .int lt, .int a, .int z]) ++ List.replicate (10 - (lg_sl ([.ref (f0 f), .int st, .int cr, .int b, .int lt, .int a, .int z])).length) Slot.unset).toArray = ls at hl ⊢
  have hl : lv_has ls 10 [(0, .ref (f0 f)), (1, .int st), (2, .int cr), (3, .int b), (4, .int lt), (5, .int a), (6, .int z)] := hl
  refine lv_aload_n hx hb dX3_signs_0 rfl (lv_at hl 0 rfl) ?_
  refine lv_iload_n hx hb dX3_signs_1 rfl (lv_at hl 3 rfl) ?_
  refine mw_callV (C := RX3) (As := [.int b]) (rest := []) hx hb hml hown hl (kX3_needBox l htr G s.heap.size M f S hR b) (g_B (n := 1) htb wd271 wd1 wd268 (by decide +kernel) ⟨Nat.le_of_ble_eq_true rfl, Nat.le_of_ble_eq_true rfl⟩) (htb _ wd270) (htb _ ws3) hE hP hS (fs_R.this hR) rfl rfl rfl (Nat.le_of_ble_eq_true rfl) dX3_signs_2 ⟨Nat.le_of_ble_eq_true rfl, Nat.le_of_ble_eq_true rfl⟩ (fun v9 M9 H locs hpo hP hz hS => ?_) (fun x9 E9 cell9 H9 locs9 hE9 hx9 ho9 hf9 hP9 hz9 hS9 => mx_outF (thr0 := fs_Th (ex_lim S st b a z) ["java/lang/IndexOutOfBoundsException", "java/lang/IllegalArgumentException", "java/lang/UnsupportedOperationException"]) hno hlocks ⟨0, by rw [ex_lim, if_pos (fun z9 => hE9.2 z9.1)], by rw [hE9.1]; rfl⟩ hx9 ho9 hf9 hP9 hS9 (Nat.le_of_ble_eq_true rfl) (Nat.le_of_ble_eq_true rfl))
  obtain ⟨rfl, rfl, k_1⟩ := hpo
  have h_b := isB_lt k_1 hR.ok.1
  have e_b := fIx_of k_1.1
  rw [e_b] at hl
  refine W.eq (g2 := F0 m 5 ls []) rfl ?_
  refine lv_aload_n hx hb dX3_signs_5 rfl (lv_at hl 0 rfl) ?_
  refine lv_iload hx hb dX3_signs_6 (lv_at hl 5 rfl) ?_
  refine mw_callV (C := RX3) (As := [.int a]) (rest := []) hx hb hml hown hl (kX3_needBoxOrNone l htr G H.size M f S hR a) (g_B (n := 1) htb wd284 wd1 wd281 (by decide +kernel) ⟨Nat.le_of_ble_eq_true rfl, Nat.le_of_ble_eq_true rfl⟩) (htb _ wd283) (htb _ ws4) hE hP hS (fs_R.this hR) rfl rfl rfl (Nat.le_of_ble_eq_true rfl) dX3_signs_8 ⟨Nat.le_of_ble_eq_true rfl, Nat.le_of_ble_eq_true rfl⟩ (fun v9 M9 H locs hpo hP hz hS => ?_) (fun x9 E9 cell9 H9 locs9 hE9 hx9 ho9 hf9 hP9 hz9 hS9 => mx_outF (thr0 := fs_Th (ex_lim S st b a z) ["java/lang/IndexOutOfBoundsException", "java/lang/IllegalArgumentException", "java/lang/UnsupportedOperationException"]) hno hlocks ⟨0, by rw [ex_lim, if_pos (fun z9 => hE9.2 z9.2.1)], by rw [hE9.1]; rfl⟩ hx9 ho9 hf9 hP9 hS9 (Nat.le_of_ble_eq_true rfl) (Nat.le_of_ble_eq_true rfl))
  obtain ⟨rfl, rfl, k_2⟩ := hpo
  have ho_a := isO_on k_2 hR.ok.1
  refine W.eq (g2 := F0 m 11 ls []) rfl ?_
  refine lv_aload_n hx hb dX3_signs_11 rfl (lv_at hl 0 rfl) ?_
  refine lv_iload hx hb dX3_signs_12 (lv_at hl 6 rfl) ?_
  refine mw_callV (C := RX3) (As := [.int z]) (rest := []) hx hb hml hown hl (kX3_needBoxOrNone l htr G H.size M f S hR z) (g_B (n := 1) htb wd284 wd1 wd281 (by decide +kernel) ⟨Nat.le_of_ble_eq_true rfl, Nat.le_of_ble_eq_true rfl⟩) (htb _ wd283) (htb _ ws4) hE hP hS (fs_R.this hR) rfl rfl rfl (Nat.le_of_ble_eq_true rfl) dX3_signs_14 ⟨Nat.le_of_ble_eq_true rfl, Nat.le_of_ble_eq_true rfl⟩ (fun v9 M9 H locs hpo hP hz hS => ?_) (fun x9 E9 cell9 H9 locs9 hE9 hx9 ho9 hf9 hP9 hz9 hS9 => mx_outF (thr0 := fs_Th (ex_lim S st b a z) ["java/lang/IndexOutOfBoundsException", "java/lang/IllegalArgumentException", "java/lang/UnsupportedOperationException"]) hno hlocks ⟨0, by rw [ex_lim, if_pos (fun z9 => hE9.2 z9.2.2)], by rw [hE9.1]; rfl⟩ hx9 ho9 hf9 hP9 hS9 (Nat.le_of_ble_eq_true rfl) (Nat.le_of_ble_eq_true rfl))
  obtain ⟨rfl, rfl, k_3⟩ := hpo
  have ho_z := isO_on k_3 hR.ok.1
  refine W.eq (g2 := F0 m 17 ls []) rfl ?_
  refine lv_iload_n hx hb dX3_signs_17 rfl (lv_at hl 1 rfl) ?_
  refine mw_callS (As := [.int st]) (rest := []) hx hb hml hown hl (kX3_needStyle l htr G H.size M st) (g_B (n := 1) htb wd381 wd1 wd379 (by decide +kernel) ⟨Nat.le_of_ble_eq_true rfl, Nat.le_of_ble_eq_true rfl⟩) (htb _ wd380) hE hP hS rfl rfl (Nat.le_of_ble_eq_true rfl) dX3_signs_18 ⟨Nat.le_of_ble_eq_true rfl, Nat.le_of_ble_eq_true rfl⟩ (fun v9 M9 H locs hpo hP hz hS => ?_) (fun x9 E9 cell9 H9 locs9 hE9 hx9 ho9 hf9 hP9 hz9 hS9 => mx_outF (thr0 := fs_Th (ex_lim S st b a z) ["java/lang/IndexOutOfBoundsException", "java/lang/IllegalArgumentException", "java/lang/UnsupportedOperationException"]) hno hlocks ⟨1, by rw [ex_lim, if_neg (fun z9 => z9 ⟨k_1, k_2, k_3⟩), if_pos (fun z9 => hE9.2 z9.1)], by rw [hE9.1]; rfl⟩ hx9 ho9 hf9 hP9 hS9 (Nat.le_of_ble_eq_true rfl) (Nat.le_of_ble_eq_true rfl))
  obtain ⟨rfl, rfl, k_4⟩ := hpo
  have h_st := isT_lt k_4
  have e_st := fIx_of k_4.1
  rw [e_st] at hl
  refine W.eq (g2 := F0 m 21 ls []) rfl ?_
  refine lv_iload hx hb dX3_signs_21 (lv_at hl 5 rfl) ?_
  refine lv_iload hx hb dX3_signs_23 (lv_at hl 6 rfl) ?_
  refine mw_callS (As := [.int a, .int z]) (rest := []) hx hb hml hown hl (kX3_needOneOf l htr G H.size M a z) (g_B (n := 2) htb wd439 wd1 wd437 (by decide +kernel) ⟨Nat.le_of_ble_eq_true rfl, Nat.le_of_ble_eq_true rfl⟩) (htb _ wd438) hE hP hS rfl rfl (Nat.le_of_ble_eq_true rfl) dX3_signs_25 ⟨Nat.le_of_ble_eq_true rfl, Nat.le_of_ble_eq_true rfl⟩ (fun v9 M9 H locs hpo hP hz hS => ?_) (fun x9 E9 cell9 H9 locs9 hE9 hx9 ho9 hf9 hP9 hz9 hS9 => mx_outF (thr0 := fs_Th (ex_lim S st b a z) ["java/lang/IndexOutOfBoundsException", "java/lang/IllegalArgumentException", "java/lang/UnsupportedOperationException"]) hno hlocks ⟨1, by rw [ex_lim, if_neg (fun z9 => z9 ⟨k_1, k_2, k_3⟩), if_pos (fun z9 => hE9.2 z9.2)], by rw [hE9.1]; rfl⟩ hx9 ho9 hf9 hP9 hS9 (Nat.le_of_ble_eq_true rfl) (Nat.le_of_ble_eq_true rfl))
  obtain ⟨rfl, rfl, k_5⟩ := hpo
  refine W.eq (g2 := F0 m 28 ls []) rfl ?_
  refine lv_aload_n hx hb dX3_signs_28 rfl (lv_at hl 0 rfl) ?_
  refine lv_iconst (v := 1) hx hb dX3_signs_29 (by decide) ?_
  refine mw_callV (C := RX3) (As := [.int 1]) (rest := []) hx hb hml hown hl (kX3_needRoom l htr G H.size M f S hR 1) (g_B (n := 1) htb wd198 wd1 wd195 (by decide +kernel) ⟨Nat.le_of_ble_eq_true rfl, Nat.le_of_ble_eq_true rfl⟩) (htb _ wd197) (htb _ ws1) hE hP hS (fs_R.this hR) rfl rfl rfl (Nat.le_of_ble_eq_true rfl) dX3_signs_30 ⟨Nat.le_of_ble_eq_true rfl, Nat.le_of_ble_eq_true rfl⟩ (fun v9 M9 H locs hpo hP hz hS => ?_) (fun x9 E9 cell9 H9 locs9 hE9 hx9 ho9 hf9 hP9 hz9 hS9 => mx_outF (thr0 := fs_Th (ex_lim S st b a z) ["java/lang/IndexOutOfBoundsException", "java/lang/IllegalArgumentException", "java/lang/UnsupportedOperationException"]) hno hlocks ⟨2, by rw [ex_lim, if_neg (fun z9 => z9 ⟨k_1, k_2, k_3⟩), if_neg (fun z9 => z9 ⟨k_4, k_5⟩), if_pos (fun z9 => hE9.2 z9)], by rw [hE9.1]; rfl⟩ hx9 ho9 hf9 hP9 hS9 (Nat.le_of_ble_eq_true rfl) (Nat.le_of_ble_eq_true rfl))
  obtain ⟨rfl, rfl, k_6⟩ := hpo
  refine W.eq (g2 := F0 m 33 ls []) rfl ?_
  refine lv_iload_n hx hb dX3_signs_33 rfl (lv_at hl 1 rfl) ?_
  refine lv_if_eq (tgt := 42) hx hb dX3_signs_34 (by decide) (fun c_7 => ?_) (fun c_7 => ?_)
  · refine lv_iconst (v := 2) hx hb dX3_signs_42 (by decide) ?_
    refine lv_goto (tgt := 47) hx hb dX3_signs_43 (by decide) ?_
    refine lv_istore (lv' := [(7, .int 2), (0, .ref (f0 f)), (1, .int (nI (fIx st))), (2, .int cr), (3, .int (nI (fIx b))), (4, .int lt), (5, .int a), (6, .int z)]) hx hb dX3_signs_47 hl (by decide) rfl (fun ls hl => ?_)
    refine lv_iload hx hb dX3_signs_49 (lv_at hl 5 rfl) ?_
    refine lv_if_eq (tgt := 58) hx hb dX3_signs_51 (by decide) (fun c_8 => ?_) (fun c_8 => ?_)
    · refine lv_aload_n hx hb dX3_signs_58 rfl (lv_at hl 1 rfl) ?_
      refine lv_iload_n hx hb dX3_signs_59 rfl (lv_at hl 4 rfl) ?_
      refine mw_callV (C := RX3) (As := [.int (nI (fIx b))]) (rest := []) hx hb hml hown hl (kX3_heightOf l htr G H.size M f S hR (fIx b) h_b) (g_B (n := 1) htb wd402 wd1 wd399 (by decide +kernel) ⟨Nat.le_of_ble_eq_true rfl, Nat.le_of_ble_eq_true rfl⟩) (htb _ wd401) (htb _ ws13) hE hP hS (fs_R.this hR) rfl rfl rfl (Nat.le_of_ble_eq_true rfl) dX3_signs_60 ⟨Nat.le_of_ble_eq_true rfl, Nat.le_of_ble_eq_true rfl⟩ (fun v9 M9 H locs hpo hP hz hS => ?_) (fun x9 E9 cell9 H9 locs9 hE9 => hE9.elim)
      obtain ⟨rfl, rfl⟩ := hpo
      refine W.eq (g2 := F0 m 63 ls [.int (bH S (fIx b))]) rfl ?_
      refine lv_aload_n hx hb dX3_signs_63 rfl (lv_at hl 1 rfl) ?_
      refine lv_iload hx hb dX3_signs_64 (lv_at hl 0 rfl) ?_
      refine lv_bipush (v := 11) hx hb dX3_signs_66 (by decide) ?_
      refine mw_callV (C := RX3) (As := [.int 2, .int 11]) (rest := [.int (bH S (fIx b))]) hx hb hml hown hl (kX3_valueOf l htr G H.size M f S hR 2 11 (by decide) (by decide)) (g_B (n := 2) htb wd390 wd1 wd387 (by decide +kernel) ⟨Nat.le_of_ble_eq_true rfl, Nat.le_of_ble_eq_true rfl⟩) (htb _ wd389) (htb _ ws11) hE hP hS (fs_R.this hR) rfl rfl rfl (Nat.le_of_ble_eq_true rfl) dX3_signs_68 ⟨Nat.le_of_ble_eq_true rfl, Nat.le_of_ble_eq_true rfl⟩ (fun v9 M9 H locs hpo hP hz hS => ?_) (fun x9 E9 cell9 H9 locs9 hE9 => hE9.elim)
      obtain ⟨rfl, rfl⟩ := hpo
      refine W.eq (g2 := F0 m 71 ls [.int (pV S 2 11), .int (bH S (fIx b))]) rfl ?_
      refine lv_isub hx hb dX3_signs_71 ?_
      refine lv_istore (lv' := [(8, .int ((bH S (fIx b)) - (pV S 2 11))), (7, .int 2), (0, .ref (f0 f)), (1, .int (nI (fIx st))), (2, .int cr), (3, .int (nI (fIx b))), (4, .int lt), (5, .int a), (6, .int z)]) hx hb dX3_signs_72 hl (by decide) rfl (fun ls hl => ?_)
      refine lv_iload hx hb dX3_signs_74 (lv_at hl 6 rfl) ?_
      refine lv_if_eq (tgt := 83) hx hb dX3_signs_76 (by decide) (fun c_9 => ?_) (fun c_9 => absurd c_8 c_9)
      refine lv_aload_n hx hb dX3_signs_83 rfl (lv_at hl 2 rfl) ?_
      refine lv_iload_n hx hb dX3_signs_84 rfl (lv_at hl 5 rfl) ?_
      refine mw_callV (C := RX3) (As := [.int (nI (fIx b))]) (rest := []) hx hb hml hown hl (kX3_depthOf l htr G H.size M f S hR (fIx b) h_b) (g_B (n := 1) htb wd397 wd1 wd394 (by decide +kernel) ⟨Nat.le_of_ble_eq_true rfl, Nat.le_of_ble_eq_true rfl⟩) (htb _ wd396) (htb _ ws12) hE hP hS (fs_R.this hR) rfl rfl rfl (Nat.le_of_ble_eq_true rfl) dX3_signs_85 ⟨Nat.le_of_ble_eq_true rfl, Nat.le_of_ble_eq_true rfl⟩ (fun v9 M9 H locs hpo hP hz hS => ?_) (fun x9 E9 cell9 H9 locs9 hE9 => hE9.elim)
      obtain ⟨rfl, rfl⟩ := hpo
      refine W.eq (g2 := F0 m 88 ls [.int (bD S (fIx b))]) rfl ?_
      refine lv_aload_n hx hb dX3_signs_88 rfl (lv_at hl 2 rfl) ?_
      refine lv_iload hx hb dX3_signs_89 (lv_at hl 1 rfl) ?_
      refine lv_bipush (v := 12) hx hb dX3_signs_91 (by decide) ?_
      refine mw_callV (C := RX3) (As := [.int 2, .int 12]) (rest := [.int (bD S (fIx b))]) hx hb hml hown hl (kX3_valueOf l htr G H.size M f S hR 2 12 (by decide) (by decide)) (g_B (n := 2) htb wd390 wd1 wd387 (by decide +kernel) ⟨Nat.le_of_ble_eq_true rfl, Nat.le_of_ble_eq_true rfl⟩) (htb _ wd389) (htb _ ws11) hE hP hS (fs_R.this hR) rfl rfl rfl (Nat.le_of_ble_eq_true rfl) dX3_signs_93 ⟨Nat.le_of_ble_eq_true rfl, Nat.le_of_ble_eq_true rfl⟩ (fun v9 M9 H locs hpo hP hz hS => ?_) (fun x9 E9 cell9 H9 locs9 hE9 => hE9.elim)
      obtain ⟨rfl, rfl⟩ := hpo
      refine W.eq (g2 := F0 m 96 ls [.int (pV S 2 12), .int (bD S (fIx b))]) rfl ?_
      refine lv_iadd hx hb dX3_signs_96 ?_
      refine lv_istore (lv' := [(9, .int ((bD S (fIx b)) + (pV S 2 12))), (8, .int ((bH S (fIx b)) - (pV S 2 11))), (7, .int 2), (0, .ref (f0 f)), (1, .int (nI (fIx st))), (2, .int cr), (3, .int (nI (fIx b))), (4, .int lt), (5, .int a), (6, .int z)]) hx hb dX3_signs_97 hl (by decide) rfl (fun ls hl => ?_)
      refine lv_iload hx hb dX3_signs_99 (lv_at hl 8 rfl) ?_
      refine lv_iconst (v := (-1)) hx hb dX3_signs_101 (by decide) ?_
      refine lv_icmp_ne (tgt := 177) hx hb dX3_signs_102 (by decide) (fun c_10 => ?_) (fun c_10 => ?_)
      · have hb_a := k_2.resolve_left c_10
        have h_a := isB_lt hb_a hR.ok.1
        have e_a := fIx_of hb_a.1
        rw [e_a] at hl
        refine lv_aload_n hx hb dX3_signs_177 rfl (lv_at hl 3 rfl) ?_
        refine lv_iload_n hx hb dX3_signs_178 rfl (lv_at hl 4 rfl) ?_
        refine lv_iload_n hx hb dX3_signs_179 rfl (lv_at hl 5 rfl) ?_
        refine lv_iload hx hb dX3_signs_180 (lv_at hl 1 rfl) ?_
        refine lv_iload hx hb dX3_signs_182 (lv_at hl 8 rfl) ?_
        refine mw_callV (C := RX3) (As := [.int (nI (fIx st)), .int cr, .int ((bH S (fIx b)) - (pV S 2 11)), .int (nI (fIx a))]) (rest := []) hx hb hml hown hl (kX3_upShift l htr G H.size M f S hR (fIx st) h_st cr ((bH S (fIx b)) - (pV S 2 11)) (fIx a) h_a) (g_B (n := 4) htb wd456 wd1 wd453 (by decide +kernel) ⟨Nat.le_of_ble_eq_true rfl, Nat.le_of_ble_eq_true rfl⟩) (htb _ wd455) (htb _ ws21) hE hP hS (fs_R.this hR) rfl rfl rfl (Nat.le_of_ble_eq_true rfl) dX3_signs_184 ⟨Nat.le_of_ble_eq_true rfl, Nat.le_of_ble_eq_true rfl⟩ (fun v9 M9 H locs hpo hP hz hS => ?_) (fun x9 E9 cell9 H9 locs9 hE9 => hE9.elim)
        obtain ⟨rfl, rfl⟩ := hpo
        refine W.eq (g2 := F0 m 187 ls [.int (fs_us S (fIx st) cr ((bH S (fIx b)) - (pV S 2 11)) (fIx a))]) rfl ?_
        refine lv_istore (lv' := [(8, .int (fs_us S (fIx st) cr ((bH S (fIx b)) - (pV S 2 11)) (fIx a))), (9, .int ((bD S (fIx b)) + (pV S 2 12))), (7, .int 2), (0, .ref (f0 f)), (1, .int (nI (fIx st))), (2, .int cr), (3, .int (nI (fIx b))), (4, .int lt), (5, .int (nI (fIx a))), (6, .int z)]) hx hb dX3_signs_187 hl (by decide) rfl (fun ls hl => ?_)
        refine lv_iload hx hb dX3_signs_189 (lv_at hl 9 rfl) ?_
        refine lv_iconst (v := (-1)) hx hb dX3_signs_191 (by decide) ?_
        refine lv_icmp_ne (tgt := 255) hx hb dX3_signs_192 (by decide) (fun c_11 => ?_) (fun c_11 => ?_)
        · have hb_z := k_3.resolve_left c_11
          have h_z := isB_lt hb_z hR.ok.1
          have e_z := fIx_of hb_z.1
          rw [e_z] at hl
          refine lv_aload_n hx hb dX3_signs_255 rfl (lv_at hl 3 rfl) ?_
          refine lv_aload_n hx hb dX3_signs_256 rfl (lv_at hl 3 rfl) ?_
          refine lv_iload_n hx hb dX3_signs_257 rfl (lv_at hl 4 rfl) ?_
          refine lv_iload hx hb dX3_signs_258 (lv_at hl 0 rfl) ?_
          refine lv_iload hx hb dX3_signs_260 (lv_at hl 1 rfl) ?_
          refine lv_iload_n hx hb dX3_signs_262 rfl (lv_at hl 6 rfl) ?_
          refine lv_iload hx hb dX3_signs_263 (lv_at hl 8 rfl) ?_
          refine lv_iload hx hb dX3_signs_265 (lv_at hl 9 rfl) ?_
          refine mw_callV (C := RX3) (As := [.int (nI (fIx st)), .int (fs_us S (fIx st) cr ((bH S (fIx b)) - (pV S 2 11)) (fIx a)), .int ((bD S (fIx b)) + (pV S 2 12)), .int (nI (fIx b)), .int (nI (fIx a)), .int (nI (fIx z))]) (rest := [.ref (f0 f)]) hx hb hml hown hl (kX3_signsOnBothSides l htr G H.size M f S hR hX (fun q h => hAn q (Nat.le_trans hS.1 h)) (fIx st) h_st (fs_us S (fIx st) cr ((bH S (fIx b)) - (pV S 2 11)) (fIx a)) ((bD S (fIx b)) + (pV S 2 12)) (fIx b) (fIx a) (fIx z) h_b h_a h_z) (g_B (n := 6) htb wd460 wd1 wd457 (by decide +kernel) ⟨Nat.le_of_ble_eq_true rfl, Nat.le_of_ble_eq_true rfl⟩) (htb _ wd459) (htb _ ws22) hE hP hS (fs_R.this hR) rfl rfl rfl (Nat.le_of_ble_eq_true rfl) dX3_signs_267 ⟨Nat.le_of_ble_eq_true rfl, Nat.le_of_ble_eq_true rfl⟩ (fun v9 M9 H locs hpo hP hz hS => ?_) (fun x9 E9 cell9 H9 locs9 hE9 => hE9.elim)
          obtain ⟨q_12, rfl, x_13, b_14⟩ := hpo
          obtain ⟨M_16, hM_16⟩ : ∃ z9 : mw_M, z9 = M9 := ⟨_, rfl⟩
          rw [← hM_16] at hP x_13 b_14
          have x_17 : mw_ext M M_16 := mw_ext.tr (mw_ext.rf M) x_13
          have f_18 : M_16 (f0 f) = some (.inr (3, [.ref (fM f), .int (nI (sN S)), .ref (fF f), .ref (fP f), .int (sSp S), .int (sSh S)])) := x_13 _ _ (hR.this)
          refine W.eq (g2 := F0 m 270 ls [.ref q_12, .ref (f0 f)]) rfl ?_
          refine mw_callV (C := RX3) (As := [.ref q_12]) (rest := []) hx hb hml hown hl (kX3_keep l htr G H.size M_16 f S (fs_R.ext hR x_17) (rmk_lt k_6 hR.ok.1) q_12 (fs_sb S (fIx st) (fs_us S (fIx st) cr ((bH S (fIx b)) - (pV S 2 11)) (fIx a)) ((bD S (fIx b)) + (pV S 2 12)) (fIx b) (fIx a) (fIx z)) b_14 (fs_pl3 (on_i h_b) (on_i h_a) (on_i h_z))) (g_B (n := 1) htb wd256 wd1 wd253 (by decide +kernel) ⟨Nat.le_of_ble_eq_true rfl, Nat.le_of_ble_eq_true rfl⟩) (htb _ wd255) (htb _ ws2) hE hP hS (fs_R.this (fs_R.ext hR x_17)) rfl rfl rfl (Nat.le_of_ble_eq_true rfl) dX3_signs_270 ⟨Nat.le_of_ble_eq_true rfl, Nat.le_of_ble_eq_true rfl⟩ (fun v9 M9 H locs hpo hP hz hS => ?_) (fun x9 E9 cell9 H9 locs9 hE9 => hE9.elim)
          obtain ⟨rfl, hR9, hk9⟩ := hpo
          refine W.eq (g2 := F0 m 273 ls [.int (nI (sN S))]) rfl ?_
          have hre : re_signs S st cr b lt a z = fs_sb S (fIx st) (fs_us S (fIx st) cr ((bH S (fIx b)) - (pV S 2 11)) (fIx a)) ((bD S (fIx b)) + (pV S 2 12)) (fIx b) (fIx a) (fIx z) := by simp only [re_signs, si_u, si_v, if_pos c_7 , if_pos c_8 , if_neg c_10 , if_neg c_11]
          exact mx_iret (v := (nI (sN S))) (M' := M9) hx hb hr hlocks hP hS ⟨by rw [ex_lim, if_neg (fun z9 => z9 ⟨k_1, k_2, k_3⟩), if_neg (fun z9 => z9 ⟨k_4, k_5⟩), if_neg (fun z9 => z9 k_6)], rfl, by rw [hre]; exact hR9, fs_keeps.tr (fs_keeps.of x_17) hk9⟩ dX3_signs_273 (Nat.le_of_ble_eq_true rfl) (Nat.le_of_ble_eq_true rfl)
        · refine lv_aload_n hx hb dX3_signs_195 rfl (lv_at hl 3 rfl) ?_
          refine lv_aload_n hx hb dX3_signs_196 rfl (lv_at hl 3 rfl) ?_
          refine lv_aload_n hx hb dX3_signs_197 rfl (lv_at hl 3 rfl) ?_
          refine lv_iload_n hx hb dX3_signs_198 rfl (lv_at hl 6 rfl) ?_
          refine mw_callV (C := RX3) (As := [.int (nI (fIx b))]) (rest := [.ref (f0 f), .ref (f0 f)]) hx hb hml hown hl (kX3_widthOf l htr G H.size M f S hR (fIx b) h_b) (g_B (n := 1) htb wd406 wd1 wd403 (by decide +kernel) ⟨Nat.le_of_ble_eq_true rfl, Nat.le_of_ble_eq_true rfl⟩) (htb _ wd405) (htb _ ws14) hE hP hS (fs_R.this hR) rfl rfl rfl (Nat.le_of_ble_eq_true rfl) dX3_signs_199 ⟨Nat.le_of_ble_eq_true rfl, Nat.le_of_ble_eq_true rfl⟩ (fun v9 M9 H locs hpo hP hz hS => ?_) (fun x9 E9 cell9 H9 locs9 hE9 => hE9.elim)
          obtain ⟨rfl, rfl⟩ := hpo
          refine W.eq (g2 := F0 m 202 ls [.int (bW S (fIx b)), .ref (f0 f), .ref (f0 f)]) rfl ?_
          refine lv_aload_n hx hb dX3_signs_202 rfl (lv_at hl 3 rfl) ?_
          refine lv_iload hx hb dX3_signs_203 (lv_at hl 8 rfl) ?_
          refine mw_callV (C := RX3) (As := [.int (nI (fIx a))]) (rest := [.int (bW S (fIx b)), .ref (f0 f), .ref (f0 f)]) hx hb hml hown hl (kX3_widthOf l htr G H.size M f S hR (fIx a) h_a) (g_B (n := 1) htb wd406 wd1 wd403 (by decide +kernel) ⟨Nat.le_of_ble_eq_true rfl, Nat.le_of_ble_eq_true rfl⟩) (htb _ wd405) (htb _ ws14) hE hP hS (fs_R.this hR) rfl rfl rfl (Nat.le_of_ble_eq_true rfl) dX3_signs_205 ⟨Nat.le_of_ble_eq_true rfl, Nat.le_of_ble_eq_true rfl⟩ (fun v9 M9 H locs hpo hP hz hS => ?_) (fun x9 E9 cell9 H9 locs9 hE9 => hE9.elim)
          obtain ⟨rfl, rfl⟩ := hpo
          refine W.eq (g2 := F0 m 208 ls [.int (bW S (fIx a)), .int (bW S (fIx b)), .ref (f0 f), .ref (f0 f)]) rfl ?_
          refine lv_iadd hx hb dX3_signs_208 ?_
          refine lv_aload_n hx hb dX3_signs_209 rfl (lv_at hl 3 rfl) ?_
          refine mw_get (D := gD G) (ci := 3) (v := .int (sSp S)) (C := RX3) (T := TX3) (N := 6) hx hb htb inX3 hown hK hP (hR.this) rfl 4 (by decide) (htb _ wd60) (fun _ h9 => h9) rfl dX3_signs_210 ?_
          refine lv_iadd hx hb dX3_signs_213 ?_
          refine lv_bipush (v := 6) hx hb dX3_signs_214 (by decide) ?_
          refine mw_newi (N := 6) hx hb (htb _ wd55) hK hP hS 0 rfl (by decide) (by decide) (by decide) (Nat.le_of_ble_eq_true rfl) (Nat.le_of_ble_eq_true rfl) dX3_signs_216 (fun q_19 H hq_20 hs_21 hP hS => ?_)
          obtain ⟨M_22, hM_22⟩ : ∃ z9 : mw_M, z9 = mw_up M q_19 (.inl (gI G, 6, .inl (fun _ => 0))) := ⟨_, rfl⟩
          have hP : mw_P (gD G) gx_cl M_22 H := by rw [hM_22]; exact hP
          have n_23 : M q_19 = none := mw_ext.no (mw_ext.rf M) hq_20
          have f_24 : M_22 (f0 f) = some (.inr (3, [.ref (fM f), .int (nI (sN S)), .ref (fF f), .ref (fP f), .int (sSp S), .int (sSh S)])) := by rw [hM_22, mw_ne _ _ (fun z => by have z1 := (hR.this); rw [z, hq_20] at z1; cases z1)]; exact (hR.this)
          have ne_25 : (f0 f) ≠ q_19 := fun z => by have z1 := (hR.this); rw [z, hq_20] at z1; cases z1
          have f_26 : M_22 q_19 = some (.inl (gI G, 6, .inl (fun _ => 0))) := by rw [hM_22]; exact mw_self _ _ _
          have x_27 : mw_ext M M_22 := by rw [hM_22]; exact mw_ext.up (mw_ext.rf M) n_23 _
          refine lv_dup hx hb dX3_signs_218 rfl ?_
          refine lv_iconst (v := 0) hx hb dX3_signs_219 (by decide) ?_
          refine lv_iload_n hx hb dX3_signs_220 rfl (lv_at hl 6 rfl) ?_
          refine mw_iast hx hb hK hP hS 0 f_26 (hAn _ hs_21) rfl (by unfold vp_in; decide) dX3_signs_221 (fun H locs hP hS => ?_)
          obtain ⟨M_28, hM_28⟩ : ∃ z9 : mw_M, z9 = mw_up M_22 q_19 (.inl (gI G, 6, .inl (upd (fun _ => 0) 0 (nI (fIx b))))) := ⟨_, rfl⟩
          have hP : mw_P (gD G) gx_cl M_28 H := by rw [hM_28]; exact hP
          have f_29 : M_28 (f0 f) = some (.inr (3, [.ref (fM f), .int (nI (sN S)), .ref (fF f), .ref (fP f), .int (sSp S), .int (sSh S)])) := by rw [hM_28, mw_ne _ _ ne_25]; exact f_24
          have f_30 : M_28 q_19 = some (.inl (gI G, 6, .inl (upd (fun _ => 0) 0 (nI (fIx b))))) := by rw [hM_28]; exact mw_self _ _ _
          have x_31 : mw_ext M M_28 := by rw [hM_28]; exact mw_ext.up x_27 n_23 _
          refine lv_dup hx hb dX3_signs_222 rfl ?_
          refine lv_iconst (v := 1) hx hb dX3_signs_223 (by decide) ?_
          refine lv_iconst (v := 0) hx hb dX3_signs_224 (by decide) ?_
          refine mw_iast hx hb hK hP hS 0 f_30 (hAn _ hs_21) rfl (by unfold vp_in; decide) dX3_signs_225 (fun H locs hP hS => ?_)
          obtain ⟨M_32, hM_32⟩ : ∃ z9 : mw_M, z9 = mw_up M_28 q_19 (.inl (gI G, 6, .inl (upd (upd (fun _ => 0) 0 (nI (fIx b))) 1 0))) := ⟨_, rfl⟩
          have hP : mw_P (gD G) gx_cl M_32 H := by rw [hM_32]; exact hP
          have f_33 : M_32 (f0 f) = some (.inr (3, [.ref (fM f), .int (nI (sN S)), .ref (fF f), .ref (fP f), .int (sSp S), .int (sSh S)])) := by rw [hM_32, mw_ne _ _ ne_25]; exact f_29
          have f_34 : M_32 q_19 = some (.inl (gI G, 6, .inl (upd (upd (fun _ => 0) 0 (nI (fIx b))) 1 0))) := by rw [hM_32]; exact mw_self _ _ _
          have x_35 : mw_ext M M_32 := by rw [hM_32]; exact mw_ext.up x_31 n_23 _
          refine lv_dup hx hb dX3_signs_226 rfl ?_
          refine lv_iconst (v := 2) hx hb dX3_signs_227 (by decide) ?_
          refine lv_iconst (v := 0) hx hb dX3_signs_228 (by decide) ?_
          refine mw_iast hx hb hK hP hS 0 f_34 (hAn _ hs_21) rfl (by unfold vp_in; decide) dX3_signs_229 (fun H locs hP hS => ?_)
          obtain ⟨M_36, hM_36⟩ : ∃ z9 : mw_M, z9 = mw_up M_32 q_19 (.inl (gI G, 6, .inl (upd (upd (upd (fun _ => 0) 0 (nI (fIx b))) 1 0) 2 0))) := ⟨_, rfl⟩
          have hP : mw_P (gD G) gx_cl M_36 H := by rw [hM_36]; exact hP
          have f_37 : M_36 (f0 f) = some (.inr (3, [.ref (fM f), .int (nI (sN S)), .ref (fF f), .ref (fP f), .int (sSp S), .int (sSh S)])) := by rw [hM_36, mw_ne _ _ ne_25]; exact f_33
          have f_38 : M_36 q_19 = some (.inl (gI G, 6, .inl (upd (upd (upd (fun _ => 0) 0 (nI (fIx b))) 1 0) 2 0))) := by rw [hM_36]; exact mw_self _ _ _
          have x_39 : mw_ext M M_36 := by rw [hM_36]; exact mw_ext.up x_35 n_23 _
          refine lv_dup hx hb dX3_signs_230 rfl ?_
          refine lv_iconst (v := 3) hx hb dX3_signs_231 (by decide) ?_
          refine lv_iload hx hb dX3_signs_232 (lv_at hl 8 rfl) ?_
          refine mw_iast hx hb hK hP hS 0 f_38 (hAn _ hs_21) rfl (by unfold vp_in; decide) dX3_signs_234 (fun H locs hP hS => ?_)
          obtain ⟨M_40, hM_40⟩ : ∃ z9 : mw_M, z9 = mw_up M_36 q_19 (.inl (gI G, 6, .inl (upd (upd (upd (upd (fun _ => 0) 0 (nI (fIx b))) 1 0) 2 0) 3 (nI (fIx a))))) := ⟨_, rfl⟩
          have hP : mw_P (gD G) gx_cl M_40 H := by rw [hM_40]; exact hP
          have f_41 : M_40 (f0 f) = some (.inr (3, [.ref (fM f), .int (nI (sN S)), .ref (fF f), .ref (fP f), .int (sSp S), .int (sSh S)])) := by rw [hM_40, mw_ne _ _ ne_25]; exact f_37
          have f_42 : M_40 q_19 = some (.inl (gI G, 6, .inl (upd (upd (upd (upd (fun _ => 0) 0 (nI (fIx b))) 1 0) 2 0) 3 (nI (fIx a))))) := by rw [hM_40]; exact mw_self _ _ _
          have x_43 : mw_ext M M_40 := by rw [hM_40]; exact mw_ext.up x_39 n_23 _
          refine lv_dup hx hb dX3_signs_235 rfl ?_
          refine lv_iconst (v := 4) hx hb dX3_signs_236 (by decide) ?_
          refine lv_aload_n hx hb dX3_signs_237 rfl (lv_at hl 3 rfl) ?_
          refine lv_iload_n hx hb dX3_signs_238 rfl (lv_at hl 6 rfl) ?_
          refine mw_callV (C := RX3) (As := [.int (nI (fIx b))]) (rest := [.int 4, .ref q_19, .ref q_19, .int (((bW S (fIx b)) + (bW S (fIx a))) + (sSp S)), .ref (f0 f), .ref (f0 f)]) hx hb hml hown hl (kX3_widthOf l htr G H.size M_40 f S (fs_R.ext hR x_43) (fIx b) h_b) (g_B (n := 1) htb wd406 wd1 wd403 (by decide +kernel) ⟨Nat.le_of_ble_eq_true rfl, Nat.le_of_ble_eq_true rfl⟩) (htb _ wd405) (htb _ ws14) hE hP hS (fs_R.this (fs_R.ext hR x_43)) rfl rfl rfl (Nat.le_of_ble_eq_true rfl) dX3_signs_239 ⟨Nat.le_of_ble_eq_true rfl, Nat.le_of_ble_eq_true rfl⟩ (fun v9 M9 H locs hpo hP hz hS => ?_) (fun x9 E9 cell9 H9 locs9 hE9 => hE9.elim)
          obtain ⟨rfl, rfl⟩ := hpo
          refine W.eq (g2 := F0 m 242 ls [.int (bW S (fIx b)), .int 4, .ref q_19, .ref q_19, .int (((bW S (fIx b)) + (bW S (fIx a))) + (sSp S)), .ref (f0 f), .ref (f0 f)]) rfl ?_
          refine mw_iast hx hb hK hP hS 0 f_42 (hAn _ hs_21) rfl (by unfold vp_in; decide) dX3_signs_242 (fun H locs hP hS => ?_)
          obtain ⟨M_44, hM_44⟩ : ∃ z9 : mw_M, z9 = mw_up M_40 q_19 (.inl (gI G, 6, .inl (upd (upd (upd (upd (upd (fun _ => 0) 0 (nI (fIx b))) 1 0) 2 0) 3 (nI (fIx a))) 4 (bW S (fIx b))))) := ⟨_, rfl⟩
          have hP : mw_P (gD G) gx_cl M_44 H := by rw [hM_44]; exact hP
          have f_45 : M_44 (f0 f) = some (.inr (3, [.ref (fM f), .int (nI (sN S)), .ref (fF f), .ref (fP f), .int (sSp S), .int (sSh S)])) := by rw [hM_44, mw_ne _ _ ne_25]; exact f_41
          have f_46 : M_44 q_19 = some (.inl (gI G, 6, .inl (upd (upd (upd (upd (upd (fun _ => 0) 0 (nI (fIx b))) 1 0) 2 0) 3 (nI (fIx a))) 4 (bW S (fIx b))))) := by rw [hM_44]; exact mw_self _ _ _
          have x_47 : mw_ext M M_44 := by rw [hM_44]; exact mw_ext.up x_43 n_23 _
          refine lv_dup hx hb dX3_signs_243 rfl ?_
          refine lv_iconst (v := 5) hx hb dX3_signs_244 (by decide) ?_
          refine lv_iload hx hb dX3_signs_245 (lv_at hl 0 rfl) ?_
          refine mw_iast hx hb hK hP hS 0 f_46 (hAn _ hs_21) rfl (by unfold vp_in; decide) dX3_signs_247 (fun H locs hP hS => ?_)
          obtain ⟨M_48, hM_48⟩ : ∃ z9 : mw_M, z9 = mw_up M_44 q_19 (.inl (gI G, 6, .inl (upd (upd (upd (upd (upd (upd (fun _ => 0) 0 (nI (fIx b))) 1 0) 2 0) 3 (nI (fIx a))) 4 (bW S (fIx b))) 5 (fs_us S (fIx st) cr ((bH S (fIx b)) - (pV S 2 11)) (fIx a))))) := ⟨_, rfl⟩
          have hP : mw_P (gD G) gx_cl M_48 H := by rw [hM_48]; exact hP
          have f_49 : M_48 (f0 f) = some (.inr (3, [.ref (fM f), .int (nI (sN S)), .ref (fF f), .ref (fP f), .int (sSp S), .int (sSh S)])) := by rw [hM_48, mw_ne _ _ ne_25]; exact f_45
          have f_50 : M_48 q_19 = some (.inl (gI G, 6, .inl (upd (upd (upd (upd (upd (upd (fun _ => 0) 0 (nI (fIx b))) 1 0) 2 0) 3 (nI (fIx a))) 4 (bW S (fIx b))) 5 (fs_us S (fIx st) cr ((bH S (fIx b)) - (pV S 2 11)) (fIx a))))) := by rw [hM_48]; exact mw_self _ _ _
          have x_51 : mw_ext M M_48 := by rw [hM_48]; exact mw_ext.up x_47 n_23 _
          refine mw_callV (C := RX3) (As := [.int (((bW S (fIx b)) + (bW S (fIx a))) + (sSp S)), .ref q_19]) (rest := [.ref (f0 f)]) hx hb hml hown hl (kX3_enclosing l htr G H.size M_48 f S (fs_R.ext hR x_51) (fs_hXe x_51 hX) (fun q h => hAn q (Nat.le_trans hS.1 h)) q_19 (upd (upd (upd (upd (upd (upd (fun _ => 0) 0 (nI (fIx b))) 1 0) 2 0) 3 (nI (fIx a))) 4 (bW S (fIx b))) 5 (fs_us S (fIx st) cr ((bH S (fIx b)) - (pV S 2 11)) (fIx a))) (((bW S (fIx b)) + (bW S (fIx a))) + (sSp S)) [(nI (fIx b)), 0, 0, (nI (fIx a)), (bW S (fIx b)), (fs_us S (fIx st) cr ((bH S (fIx b)) - (pV S 2 11)) (fIx a))] f_50 (fun z => hX _ z n_23) (fun j hj => by rcases (show j = 0 ∨ j = 1 ∨ j = 2 ∨ j = 3 ∨ j = 4 ∨ j = 5 by simp at hj; omega) with rfl | rfl | rfl | rfl | rfl | rfl <;> rfl) (by simp) (by simp) (fun j hj => by
              rcases (show j = 0 ∨ j = 1 by simp at hj; omega) with rfl | rfl
              · exact ⟨(fIx b), h_b, rfl⟩
              · exact ⟨(fIx a), h_a, rfl⟩)) (g_B (n := 2) htb wd452 wd1 wd449 (by decide +kernel) ⟨Nat.le_of_ble_eq_true rfl, Nat.le_of_ble_eq_true rfl⟩) (htb _ wd451) (htb _ ws20) hE hP hS (fs_R.this (fs_R.ext hR x_51)) rfl rfl rfl (Nat.le_of_ble_eq_true rfl) dX3_signs_248 ⟨Nat.le_of_ble_eq_true rfl, Nat.le_of_ble_eq_true rfl⟩ (fun v9 M9 H locs hpo hP hz hS => ?_) (fun x9 E9 cell9 H9 locs9 hE9 => hE9.elim)
          obtain ⟨q_52, rfl, x_53, b_54⟩ := hpo
          obtain ⟨M_56, hM_56⟩ : ∃ z9 : mw_M, z9 = M9 := ⟨_, rfl⟩
          rw [← hM_56] at hP x_53 b_54
          have x_57 : mw_ext M M_56 := mw_ext.tr x_51 x_53
          have f_58 : M_56 (f0 f) = some (.inr (3, [.ref (fM f), .int (nI (sN S)), .ref (fF f), .ref (fP f), .int (sSp S), .int (sSh S)])) := x_53 _ _ f_49
          have f_59 : M_56 q_19 = some (.inl (gI G, 6, .inl (upd (upd (upd (upd (upd (upd (fun _ => 0) 0 (nI (fIx b))) 1 0) 2 0) 3 (nI (fIx a))) 4 (bW S (fIx b))) 5 (fs_us S (fIx st) cr ((bH S (fIx b)) - (pV S 2 11)) (fIx a))))) := x_53 _ _ f_50
          refine W.eq (g2 := F0 m 251 ls [.ref q_52, .ref (f0 f)]) rfl ?_
          refine mw_callV (C := RX3) (As := [.ref q_52]) (rest := []) hx hb hml hown hl (kX3_keep l htr G H.size M_56 f S (fs_R.ext hR x_57) (rmk_lt k_6 hR.ok.1) q_52 (fs_en S (((bW S (fIx b)) + (bW S (fIx a))) + (sSp S)) [(nI (fIx b)), 0, 0, (nI (fIx a)), (bW S (fIx b)), (fs_us S (fIx st) cr ((bH S (fIx b)) - (pV S 2 11)) (fIx a))]) b_54 (fs_pl2 (on_i h_b) (on_i h_a))) (g_B (n := 1) htb wd256 wd1 wd253 (by decide +kernel) ⟨Nat.le_of_ble_eq_true rfl, Nat.le_of_ble_eq_true rfl⟩) (htb _ wd255) (htb _ ws2) hE hP hS (fs_R.this (fs_R.ext hR x_57)) rfl rfl rfl (Nat.le_of_ble_eq_true rfl) dX3_signs_251 ⟨Nat.le_of_ble_eq_true rfl, Nat.le_of_ble_eq_true rfl⟩ (fun v9 M9 H locs hpo hP hz hS => ?_) (fun x9 E9 cell9 H9 locs9 hE9 => hE9.elim)
          obtain ⟨rfl, hR9, hk9⟩ := hpo
          refine W.eq (g2 := F0 m 254 ls [.int (nI (sN S))]) rfl ?_
          have hre : re_signs S st cr b lt a z = fs_en S (((bW S (fIx b)) + (bW S (fIx a))) + (sSp S)) [(nI (fIx b)), 0, 0, (nI (fIx a)), (bW S (fIx b)), (fs_us S (fIx st) cr ((bH S (fIx b)) - (pV S 2 11)) (fIx a))] := by simp only [re_signs, si_u, si_v, if_pos c_7 , if_pos c_8 , if_neg c_10 , if_pos c_11]
          exact mx_iret (v := (nI (sN S))) (M' := M9) hx hb hr hlocks hP hS ⟨by rw [ex_lim, if_neg (fun z9 => z9 ⟨k_1, k_2, k_3⟩), if_neg (fun z9 => z9 ⟨k_4, k_5⟩), if_neg (fun z9 => z9 k_6)], rfl, by rw [hre]; exact hR9, fs_keeps.tr (fs_keeps.of x_57) hk9⟩ dX3_signs_254 (Nat.le_of_ble_eq_true rfl) (Nat.le_of_ble_eq_true rfl)
      · have hz1 : ¬ z = (-1) := fun q => k_5 ⟨c_10, q⟩
        have hb_z := k_3.resolve_left hz1
        have h_z := isB_lt hb_z hR.ok.1
        have e_z := fIx_of hb_z.1
        rw [e_z] at hl
        refine lv_aload_n hx hb dX3_signs_105 rfl (lv_at hl 3 rfl) ?_
        refine lv_iload_n hx hb dX3_signs_106 rfl (lv_at hl 4 rfl) ?_
        refine lv_iload hx hb dX3_signs_107 (lv_at hl 0 rfl) ?_
        refine lv_iload hx hb dX3_signs_109 (lv_at hl 9 rfl) ?_
        refine mw_callV (C := RX3) (As := [.int (nI (fIx st)), .int ((bD S (fIx b)) + (pV S 2 12)), .int (nI (fIx z))]) (rest := []) hx hb hml hown hl (kX3_downAlone l htr G H.size M f S hR (fIx st) h_st ((bD S (fIx b)) + (pV S 2 12)) (fIx z) h_z) (g_B (n := 3) htb wd444 wd1 wd441 (by decide +kernel) ⟨Nat.le_of_ble_eq_true rfl, Nat.le_of_ble_eq_true rfl⟩) (htb _ wd443) (htb _ ws18) hE hP hS (fs_R.this hR) rfl rfl rfl (Nat.le_of_ble_eq_true rfl) dX3_signs_111 ⟨Nat.le_of_ble_eq_true rfl, Nat.le_of_ble_eq_true rfl⟩ (fun v9 M9 H locs hpo hP hz hS => ?_) (fun x9 E9 cell9 H9 locs9 hE9 => hE9.elim)
        obtain ⟨rfl, rfl⟩ := hpo
        refine W.eq (g2 := F0 m 114 ls [.int (fs_da S (fIx st) ((bD S (fIx b)) + (pV S 2 12)) (fIx z))]) rfl ?_
        refine lv_istore (lv' := [(9, .int (fs_da S (fIx st) ((bD S (fIx b)) + (pV S 2 12)) (fIx z))), (8, .int ((bH S (fIx b)) - (pV S 2 11))), (7, .int 2), (0, .ref (f0 f)), (1, .int (nI (fIx st))), (2, .int cr), (3, .int (nI (fIx b))), (4, .int lt), (5, .int a), (6, .int (nI (fIx z)))]) hx hb dX3_signs_114 hl (by decide) rfl (fun ls hl => ?_)
        refine lv_aload_n hx hb dX3_signs_116 rfl (lv_at hl 3 rfl) ?_
        refine lv_aload_n hx hb dX3_signs_117 rfl (lv_at hl 3 rfl) ?_
        refine lv_aload_n hx hb dX3_signs_118 rfl (lv_at hl 3 rfl) ?_
        refine lv_iload_n hx hb dX3_signs_119 rfl (lv_at hl 6 rfl) ?_
        refine mw_callV (C := RX3) (As := [.int (nI (fIx b))]) (rest := [.ref (f0 f), .ref (f0 f)]) hx hb hml hown hl (kX3_widthOf l htr G H.size M f S hR (fIx b) h_b) (g_B (n := 1) htb wd406 wd1 wd403 (by decide +kernel) ⟨Nat.le_of_ble_eq_true rfl, Nat.le_of_ble_eq_true rfl⟩) (htb _ wd405) (htb _ ws14) hE hP hS (fs_R.this hR) rfl rfl rfl (Nat.le_of_ble_eq_true rfl) dX3_signs_120 ⟨Nat.le_of_ble_eq_true rfl, Nat.le_of_ble_eq_true rfl⟩ (fun v9 M9 H locs hpo hP hz hS => ?_) (fun x9 E9 cell9 H9 locs9 hE9 => hE9.elim)
        obtain ⟨rfl, rfl⟩ := hpo
        refine W.eq (g2 := F0 m 123 ls [.int (bW S (fIx b)), .ref (f0 f), .ref (f0 f)]) rfl ?_
        refine lv_aload_n hx hb dX3_signs_123 rfl (lv_at hl 3 rfl) ?_
        refine lv_iload hx hb dX3_signs_124 (lv_at hl 9 rfl) ?_
        refine mw_callV (C := RX3) (As := [.int (nI (fIx z))]) (rest := [.int (bW S (fIx b)), .ref (f0 f), .ref (f0 f)]) hx hb hml hown hl (kX3_widthOf l htr G H.size M f S hR (fIx z) h_z) (g_B (n := 1) htb wd406 wd1 wd403 (by decide +kernel) ⟨Nat.le_of_ble_eq_true rfl, Nat.le_of_ble_eq_true rfl⟩) (htb _ wd405) (htb _ ws14) hE hP hS (fs_R.this hR) rfl rfl rfl (Nat.le_of_ble_eq_true rfl) dX3_signs_126 ⟨Nat.le_of_ble_eq_true rfl, Nat.le_of_ble_eq_true rfl⟩ (fun v9 M9 H locs hpo hP hz hS => ?_) (fun x9 E9 cell9 H9 locs9 hE9 => hE9.elim)
        obtain ⟨rfl, rfl⟩ := hpo
        refine W.eq (g2 := F0 m 129 ls [.int (bW S (fIx z)), .int (bW S (fIx b)), .ref (f0 f), .ref (f0 f)]) rfl ?_
        refine lv_iadd hx hb dX3_signs_129 ?_
        refine lv_aload_n hx hb dX3_signs_130 rfl (lv_at hl 3 rfl) ?_
        refine mw_get (D := gD G) (ci := 3) (v := .int (sSp S)) (C := RX3) (T := TX3) (N := 6) hx hb htb inX3 hown hK hP (hR.this) rfl 4 (by decide) (htb _ wd60) (fun _ h9 => h9) rfl dX3_signs_131 ?_
        refine lv_iadd hx hb dX3_signs_134 ?_
        refine lv_bipush (v := 6) hx hb dX3_signs_135 (by decide) ?_
        refine mw_newi (N := 6) hx hb (htb _ wd55) hK hP hS 0 rfl (by decide) (by decide) (by decide) (Nat.le_of_ble_eq_true rfl) (Nat.le_of_ble_eq_true rfl) dX3_signs_137 (fun q_60 H hq_61 hs_62 hP hS => ?_)
        obtain ⟨M_63, hM_63⟩ : ∃ z9 : mw_M, z9 = mw_up M q_60 (.inl (gI G, 6, .inl (fun _ => 0))) := ⟨_, rfl⟩
        have hP : mw_P (gD G) gx_cl M_63 H := by rw [hM_63]; exact hP
        have n_64 : M q_60 = none := mw_ext.no (mw_ext.rf M) hq_61
        have f_65 : M_63 (f0 f) = some (.inr (3, [.ref (fM f), .int (nI (sN S)), .ref (fF f), .ref (fP f), .int (sSp S), .int (sSh S)])) := by rw [hM_63, mw_ne _ _ (fun z => by have z1 := (hR.this); rw [z, hq_61] at z1; cases z1)]; exact (hR.this)
        have ne_66 : (f0 f) ≠ q_60 := fun z => by have z1 := (hR.this); rw [z, hq_61] at z1; cases z1
        have f_67 : M_63 q_60 = some (.inl (gI G, 6, .inl (fun _ => 0))) := by rw [hM_63]; exact mw_self _ _ _
        have x_68 : mw_ext M M_63 := by rw [hM_63]; exact mw_ext.up (mw_ext.rf M) n_64 _
        refine lv_dup hx hb dX3_signs_139 rfl ?_
        refine lv_iconst (v := 0) hx hb dX3_signs_140 (by decide) ?_
        refine lv_iload_n hx hb dX3_signs_141 rfl (lv_at hl 6 rfl) ?_
        refine mw_iast hx hb hK hP hS 0 f_67 (hAn _ hs_62) rfl (by unfold vp_in; decide) dX3_signs_142 (fun H locs hP hS => ?_)
        obtain ⟨M_69, hM_69⟩ : ∃ z9 : mw_M, z9 = mw_up M_63 q_60 (.inl (gI G, 6, .inl (upd (fun _ => 0) 0 (nI (fIx b))))) := ⟨_, rfl⟩
        have hP : mw_P (gD G) gx_cl M_69 H := by rw [hM_69]; exact hP
        have f_70 : M_69 (f0 f) = some (.inr (3, [.ref (fM f), .int (nI (sN S)), .ref (fF f), .ref (fP f), .int (sSp S), .int (sSh S)])) := by rw [hM_69, mw_ne _ _ ne_66]; exact f_65
        have f_71 : M_69 q_60 = some (.inl (gI G, 6, .inl (upd (fun _ => 0) 0 (nI (fIx b))))) := by rw [hM_69]; exact mw_self _ _ _
        have x_72 : mw_ext M M_69 := by rw [hM_69]; exact mw_ext.up x_68 n_64 _
        refine lv_dup hx hb dX3_signs_143 rfl ?_
        refine lv_iconst (v := 1) hx hb dX3_signs_144 (by decide) ?_
        refine lv_iconst (v := 0) hx hb dX3_signs_145 (by decide) ?_
        refine mw_iast hx hb hK hP hS 0 f_71 (hAn _ hs_62) rfl (by unfold vp_in; decide) dX3_signs_146 (fun H locs hP hS => ?_)
        obtain ⟨M_73, hM_73⟩ : ∃ z9 : mw_M, z9 = mw_up M_69 q_60 (.inl (gI G, 6, .inl (upd (upd (fun _ => 0) 0 (nI (fIx b))) 1 0))) := ⟨_, rfl⟩
        have hP : mw_P (gD G) gx_cl M_73 H := by rw [hM_73]; exact hP
        have f_74 : M_73 (f0 f) = some (.inr (3, [.ref (fM f), .int (nI (sN S)), .ref (fF f), .ref (fP f), .int (sSp S), .int (sSh S)])) := by rw [hM_73, mw_ne _ _ ne_66]; exact f_70
        have f_75 : M_73 q_60 = some (.inl (gI G, 6, .inl (upd (upd (fun _ => 0) 0 (nI (fIx b))) 1 0))) := by rw [hM_73]; exact mw_self _ _ _
        have x_76 : mw_ext M M_73 := by rw [hM_73]; exact mw_ext.up x_72 n_64 _
        refine lv_dup hx hb dX3_signs_147 rfl ?_
        refine lv_iconst (v := 2) hx hb dX3_signs_148 (by decide) ?_
        refine lv_iconst (v := 0) hx hb dX3_signs_149 (by decide) ?_
        refine mw_iast hx hb hK hP hS 0 f_75 (hAn _ hs_62) rfl (by unfold vp_in; decide) dX3_signs_150 (fun H locs hP hS => ?_)
        obtain ⟨M_77, hM_77⟩ : ∃ z9 : mw_M, z9 = mw_up M_73 q_60 (.inl (gI G, 6, .inl (upd (upd (upd (fun _ => 0) 0 (nI (fIx b))) 1 0) 2 0))) := ⟨_, rfl⟩
        have hP : mw_P (gD G) gx_cl M_77 H := by rw [hM_77]; exact hP
        have f_78 : M_77 (f0 f) = some (.inr (3, [.ref (fM f), .int (nI (sN S)), .ref (fF f), .ref (fP f), .int (sSp S), .int (sSh S)])) := by rw [hM_77, mw_ne _ _ ne_66]; exact f_74
        have f_79 : M_77 q_60 = some (.inl (gI G, 6, .inl (upd (upd (upd (fun _ => 0) 0 (nI (fIx b))) 1 0) 2 0))) := by rw [hM_77]; exact mw_self _ _ _
        have x_80 : mw_ext M M_77 := by rw [hM_77]; exact mw_ext.up x_76 n_64 _
        refine lv_dup hx hb dX3_signs_151 rfl ?_
        refine lv_iconst (v := 3) hx hb dX3_signs_152 (by decide) ?_
        refine lv_iload hx hb dX3_signs_153 (lv_at hl 9 rfl) ?_
        refine mw_iast hx hb hK hP hS 0 f_79 (hAn _ hs_62) rfl (by unfold vp_in; decide) dX3_signs_155 (fun H locs hP hS => ?_)
        obtain ⟨M_81, hM_81⟩ : ∃ z9 : mw_M, z9 = mw_up M_77 q_60 (.inl (gI G, 6, .inl (upd (upd (upd (upd (fun _ => 0) 0 (nI (fIx b))) 1 0) 2 0) 3 (nI (fIx z))))) := ⟨_, rfl⟩
        have hP : mw_P (gD G) gx_cl M_81 H := by rw [hM_81]; exact hP
        have f_82 : M_81 (f0 f) = some (.inr (3, [.ref (fM f), .int (nI (sN S)), .ref (fF f), .ref (fP f), .int (sSp S), .int (sSh S)])) := by rw [hM_81, mw_ne _ _ ne_66]; exact f_78
        have f_83 : M_81 q_60 = some (.inl (gI G, 6, .inl (upd (upd (upd (upd (fun _ => 0) 0 (nI (fIx b))) 1 0) 2 0) 3 (nI (fIx z))))) := by rw [hM_81]; exact mw_self _ _ _
        have x_84 : mw_ext M M_81 := by rw [hM_81]; exact mw_ext.up x_80 n_64 _
        refine lv_dup hx hb dX3_signs_156 rfl ?_
        refine lv_iconst (v := 4) hx hb dX3_signs_157 (by decide) ?_
        refine lv_aload_n hx hb dX3_signs_158 rfl (lv_at hl 3 rfl) ?_
        refine lv_iload_n hx hb dX3_signs_159 rfl (lv_at hl 6 rfl) ?_
        refine mw_callV (C := RX3) (As := [.int (nI (fIx b))]) (rest := [.int 4, .ref q_60, .ref q_60, .int (((bW S (fIx b)) + (bW S (fIx z))) + (sSp S)), .ref (f0 f), .ref (f0 f)]) hx hb hml hown hl (kX3_widthOf l htr G H.size M_81 f S (fs_R.ext hR x_84) (fIx b) h_b) (g_B (n := 1) htb wd406 wd1 wd403 (by decide +kernel) ⟨Nat.le_of_ble_eq_true rfl, Nat.le_of_ble_eq_true rfl⟩) (htb _ wd405) (htb _ ws14) hE hP hS (fs_R.this (fs_R.ext hR x_84)) rfl rfl rfl (Nat.le_of_ble_eq_true rfl) dX3_signs_160 ⟨Nat.le_of_ble_eq_true rfl, Nat.le_of_ble_eq_true rfl⟩ (fun v9 M9 H locs hpo hP hz hS => ?_) (fun x9 E9 cell9 H9 locs9 hE9 => hE9.elim)
        obtain ⟨rfl, rfl⟩ := hpo
        refine W.eq (g2 := F0 m 163 ls [.int (bW S (fIx b)), .int 4, .ref q_60, .ref q_60, .int (((bW S (fIx b)) + (bW S (fIx z))) + (sSp S)), .ref (f0 f), .ref (f0 f)]) rfl ?_
        refine mw_iast hx hb hK hP hS 0 f_83 (hAn _ hs_62) rfl (by unfold vp_in; decide) dX3_signs_163 (fun H locs hP hS => ?_)
        obtain ⟨M_85, hM_85⟩ : ∃ z9 : mw_M, z9 = mw_up M_81 q_60 (.inl (gI G, 6, .inl (upd (upd (upd (upd (upd (fun _ => 0) 0 (nI (fIx b))) 1 0) 2 0) 3 (nI (fIx z))) 4 (bW S (fIx b))))) := ⟨_, rfl⟩
        have hP : mw_P (gD G) gx_cl M_85 H := by rw [hM_85]; exact hP
        have f_86 : M_85 (f0 f) = some (.inr (3, [.ref (fM f), .int (nI (sN S)), .ref (fF f), .ref (fP f), .int (sSp S), .int (sSh S)])) := by rw [hM_85, mw_ne _ _ ne_66]; exact f_82
        have f_87 : M_85 q_60 = some (.inl (gI G, 6, .inl (upd (upd (upd (upd (upd (fun _ => 0) 0 (nI (fIx b))) 1 0) 2 0) 3 (nI (fIx z))) 4 (bW S (fIx b))))) := by rw [hM_85]; exact mw_self _ _ _
        have x_88 : mw_ext M M_85 := by rw [hM_85]; exact mw_ext.up x_84 n_64 _
        refine lv_dup hx hb dX3_signs_164 rfl ?_
        refine lv_iconst (v := 5) hx hb dX3_signs_165 (by decide) ?_
        refine lv_iload hx hb dX3_signs_166 (lv_at hl 0 rfl) ?_
        refine lv_ineg hx hb dX3_signs_168 ?_
        refine mw_iast hx hb hK hP hS 0 f_87 (hAn _ hs_62) rfl (by unfold vp_in; decide) dX3_signs_169 (fun H locs hP hS => ?_)
        obtain ⟨M_89, hM_89⟩ : ∃ z9 : mw_M, z9 = mw_up M_85 q_60 (.inl (gI G, 6, .inl (upd (upd (upd (upd (upd (upd (fun _ => 0) 0 (nI (fIx b))) 1 0) 2 0) 3 (nI (fIx z))) 4 (bW S (fIx b))) 5 (-(fs_da S (fIx st) ((bD S (fIx b)) + (pV S 2 12)) (fIx z)))))) := ⟨_, rfl⟩
        have hP : mw_P (gD G) gx_cl M_89 H := by rw [hM_89]; exact hP
        have f_90 : M_89 (f0 f) = some (.inr (3, [.ref (fM f), .int (nI (sN S)), .ref (fF f), .ref (fP f), .int (sSp S), .int (sSh S)])) := by rw [hM_89, mw_ne _ _ ne_66]; exact f_86
        have f_91 : M_89 q_60 = some (.inl (gI G, 6, .inl (upd (upd (upd (upd (upd (upd (fun _ => 0) 0 (nI (fIx b))) 1 0) 2 0) 3 (nI (fIx z))) 4 (bW S (fIx b))) 5 (-(fs_da S (fIx st) ((bD S (fIx b)) + (pV S 2 12)) (fIx z)))))) := by rw [hM_89]; exact mw_self _ _ _
        have x_92 : mw_ext M M_89 := by rw [hM_89]; exact mw_ext.up x_88 n_64 _
        refine mw_callV (C := RX3) (As := [.int (((bW S (fIx b)) + (bW S (fIx z))) + (sSp S)), .ref q_60]) (rest := [.ref (f0 f)]) hx hb hml hown hl (kX3_enclosing l htr G H.size M_89 f S (fs_R.ext hR x_92) (fs_hXe x_92 hX) (fun q h => hAn q (Nat.le_trans hS.1 h)) q_60 (upd (upd (upd (upd (upd (upd (fun _ => 0) 0 (nI (fIx b))) 1 0) 2 0) 3 (nI (fIx z))) 4 (bW S (fIx b))) 5 (-(fs_da S (fIx st) ((bD S (fIx b)) + (pV S 2 12)) (fIx z)))) (((bW S (fIx b)) + (bW S (fIx z))) + (sSp S)) [(nI (fIx b)), 0, 0, (nI (fIx z)), (bW S (fIx b)), (-(fs_da S (fIx st) ((bD S (fIx b)) + (pV S 2 12)) (fIx z)))] f_91 (fun z => hX _ z n_64) (fun j hj => by rcases (show j = 0 ∨ j = 1 ∨ j = 2 ∨ j = 3 ∨ j = 4 ∨ j = 5 by simp at hj; omega) with rfl | rfl | rfl | rfl | rfl | rfl <;> rfl) (by simp) (by simp) (fun j hj => by
            rcases (show j = 0 ∨ j = 1 by simp at hj; omega) with rfl | rfl
            · exact ⟨(fIx b), h_b, rfl⟩
            · exact ⟨(fIx z), h_z, rfl⟩)) (g_B (n := 2) htb wd452 wd1 wd449 (by decide +kernel) ⟨Nat.le_of_ble_eq_true rfl, Nat.le_of_ble_eq_true rfl⟩) (htb _ wd451) (htb _ ws20) hE hP hS (fs_R.this (fs_R.ext hR x_92)) rfl rfl rfl (Nat.le_of_ble_eq_true rfl) dX3_signs_170 ⟨Nat.le_of_ble_eq_true rfl, Nat.le_of_ble_eq_true rfl⟩ (fun v9 M9 H locs hpo hP hz hS => ?_) (fun x9 E9 cell9 H9 locs9 hE9 => hE9.elim)
        obtain ⟨q_93, rfl, x_94, b_95⟩ := hpo
        obtain ⟨M_97, hM_97⟩ : ∃ z9 : mw_M, z9 = M9 := ⟨_, rfl⟩
        rw [← hM_97] at hP x_94 b_95
        have x_98 : mw_ext M M_97 := mw_ext.tr x_92 x_94
        have f_99 : M_97 (f0 f) = some (.inr (3, [.ref (fM f), .int (nI (sN S)), .ref (fF f), .ref (fP f), .int (sSp S), .int (sSh S)])) := x_94 _ _ f_90
        have f_100 : M_97 q_60 = some (.inl (gI G, 6, .inl (upd (upd (upd (upd (upd (upd (fun _ => 0) 0 (nI (fIx b))) 1 0) 2 0) 3 (nI (fIx z))) 4 (bW S (fIx b))) 5 (-(fs_da S (fIx st) ((bD S (fIx b)) + (pV S 2 12)) (fIx z)))))) := x_94 _ _ f_91
        refine W.eq (g2 := F0 m 173 ls [.ref q_93, .ref (f0 f)]) rfl ?_
        refine mw_callV (C := RX3) (As := [.ref q_93]) (rest := []) hx hb hml hown hl (kX3_keep l htr G H.size M_97 f S (fs_R.ext hR x_98) (rmk_lt k_6 hR.ok.1) q_93 (fs_en S (((bW S (fIx b)) + (bW S (fIx z))) + (sSp S)) [(nI (fIx b)), 0, 0, (nI (fIx z)), (bW S (fIx b)), (-(fs_da S (fIx st) ((bD S (fIx b)) + (pV S 2 12)) (fIx z)))]) b_95 (fs_pl2 (on_i h_b) (on_i h_z))) (g_B (n := 1) htb wd256 wd1 wd253 (by decide +kernel) ⟨Nat.le_of_ble_eq_true rfl, Nat.le_of_ble_eq_true rfl⟩) (htb _ wd255) (htb _ ws2) hE hP hS (fs_R.this (fs_R.ext hR x_98)) rfl rfl rfl (Nat.le_of_ble_eq_true rfl) dX3_signs_173 ⟨Nat.le_of_ble_eq_true rfl, Nat.le_of_ble_eq_true rfl⟩ (fun v9 M9 H locs hpo hP hz hS => ?_) (fun x9 E9 cell9 H9 locs9 hE9 => hE9.elim)
        obtain ⟨rfl, hR9, hk9⟩ := hpo
        refine W.eq (g2 := F0 m 176 ls [.int (nI (sN S))]) rfl ?_
        have hre : re_signs S st cr b lt a z = fs_en S (((bW S (fIx b)) + (bW S (fIx z))) + (sSp S)) [(nI (fIx b)), 0, 0, (nI (fIx z)), (bW S (fIx b)), (-(fs_da S (fIx st) ((bD S (fIx b)) + (pV S 2 12)) (fIx z)))] := by simp only [re_signs, si_u, si_v, if_pos c_7 , if_pos c_8 , if_pos c_10]
        exact mx_iret (v := (nI (sN S))) (M' := M9) hx hb hr hlocks hP hS ⟨by rw [ex_lim, if_neg (fun z9 => z9 ⟨k_1, k_2, k_3⟩), if_neg (fun z9 => z9 ⟨k_4, k_5⟩), if_neg (fun z9 => z9 k_6)], rfl, by rw [hre]; exact hR9, fs_keeps.tr (fs_keeps.of x_98) hk9⟩ dX3_signs_176 (Nat.le_of_ble_eq_true rfl) (Nat.le_of_ble_eq_true rfl)
    · refine lv_iconst (v := 0) hx hb dX3_signs_54 (by decide) ?_
      refine lv_goto (tgt := 72) hx hb dX3_signs_55 (by decide) ?_
      refine lv_istore (lv' := [(8, .int 0), (7, .int 2), (0, .ref (f0 f)), (1, .int (nI (fIx st))), (2, .int cr), (3, .int (nI (fIx b))), (4, .int lt), (5, .int a), (6, .int z)]) hx hb dX3_signs_72 hl (by decide) rfl (fun ls hl => ?_)
      refine lv_iload hx hb dX3_signs_74 (lv_at hl 6 rfl) ?_
      refine lv_if_eq (tgt := 83) hx hb dX3_signs_76 (by decide) (fun c_101 => absurd c_101 c_8) (fun c_101 => ?_)
      refine lv_iconst (v := 0) hx hb dX3_signs_79 (by decide) ?_
      refine lv_goto (tgt := 97) hx hb dX3_signs_80 (by decide) ?_
      refine lv_istore (lv' := [(9, .int 0), (8, .int 0), (7, .int 2), (0, .ref (f0 f)), (1, .int (nI (fIx st))), (2, .int cr), (3, .int (nI (fIx b))), (4, .int lt), (5, .int a), (6, .int z)]) hx hb dX3_signs_97 hl (by decide) rfl (fun ls hl => ?_)
      refine lv_iload hx hb dX3_signs_99 (lv_at hl 8 rfl) ?_
      refine lv_iconst (v := (-1)) hx hb dX3_signs_101 (by decide) ?_
      refine lv_icmp_ne (tgt := 177) hx hb dX3_signs_102 (by decide) (fun c_102 => ?_) (fun c_102 => ?_)
      · have hb_a := k_2.resolve_left c_102
        have h_a := isB_lt hb_a hR.ok.1
        have e_a := fIx_of hb_a.1
        rw [e_a] at hl
        refine lv_aload_n hx hb dX3_signs_177 rfl (lv_at hl 3 rfl) ?_
        refine lv_iload_n hx hb dX3_signs_178 rfl (lv_at hl 4 rfl) ?_
        refine lv_iload_n hx hb dX3_signs_179 rfl (lv_at hl 5 rfl) ?_
        refine lv_iload hx hb dX3_signs_180 (lv_at hl 1 rfl) ?_
        refine lv_iload hx hb dX3_signs_182 (lv_at hl 8 rfl) ?_
        refine mw_callV (C := RX3) (As := [.int (nI (fIx st)), .int cr, .int 0, .int (nI (fIx a))]) (rest := []) hx hb hml hown hl (kX3_upShift l htr G H.size M f S hR (fIx st) h_st cr 0 (fIx a) h_a) (g_B (n := 4) htb wd456 wd1 wd453 (by decide +kernel) ⟨Nat.le_of_ble_eq_true rfl, Nat.le_of_ble_eq_true rfl⟩) (htb _ wd455) (htb _ ws21) hE hP hS (fs_R.this hR) rfl rfl rfl (Nat.le_of_ble_eq_true rfl) dX3_signs_184 ⟨Nat.le_of_ble_eq_true rfl, Nat.le_of_ble_eq_true rfl⟩ (fun v9 M9 H locs hpo hP hz hS => ?_) (fun x9 E9 cell9 H9 locs9 hE9 => hE9.elim)
        obtain ⟨rfl, rfl⟩ := hpo
        refine W.eq (g2 := F0 m 187 ls [.int (fs_us S (fIx st) cr 0 (fIx a))]) rfl ?_
        refine lv_istore (lv' := [(8, .int (fs_us S (fIx st) cr 0 (fIx a))), (9, .int 0), (7, .int 2), (0, .ref (f0 f)), (1, .int (nI (fIx st))), (2, .int cr), (3, .int (nI (fIx b))), (4, .int lt), (5, .int (nI (fIx a))), (6, .int z)]) hx hb dX3_signs_187 hl (by decide) rfl (fun ls hl => ?_)
        refine lv_iload hx hb dX3_signs_189 (lv_at hl 9 rfl) ?_
        refine lv_iconst (v := (-1)) hx hb dX3_signs_191 (by decide) ?_
        refine lv_icmp_ne (tgt := 255) hx hb dX3_signs_192 (by decide) (fun c_103 => ?_) (fun c_103 => ?_)
        · have hb_z := k_3.resolve_left c_103
          have h_z := isB_lt hb_z hR.ok.1
          have e_z := fIx_of hb_z.1
          rw [e_z] at hl
          refine lv_aload_n hx hb dX3_signs_255 rfl (lv_at hl 3 rfl) ?_
          refine lv_aload_n hx hb dX3_signs_256 rfl (lv_at hl 3 rfl) ?_
          refine lv_iload_n hx hb dX3_signs_257 rfl (lv_at hl 4 rfl) ?_
          refine lv_iload hx hb dX3_signs_258 (lv_at hl 0 rfl) ?_
          refine lv_iload hx hb dX3_signs_260 (lv_at hl 1 rfl) ?_
          refine lv_iload_n hx hb dX3_signs_262 rfl (lv_at hl 6 rfl) ?_
          refine lv_iload hx hb dX3_signs_263 (lv_at hl 8 rfl) ?_
          refine lv_iload hx hb dX3_signs_265 (lv_at hl 9 rfl) ?_
          refine mw_callV (C := RX3) (As := [.int (nI (fIx st)), .int (fs_us S (fIx st) cr 0 (fIx a)), .int 0, .int (nI (fIx b)), .int (nI (fIx a)), .int (nI (fIx z))]) (rest := [.ref (f0 f)]) hx hb hml hown hl (kX3_signsOnBothSides l htr G H.size M f S hR hX (fun q h => hAn q (Nat.le_trans hS.1 h)) (fIx st) h_st (fs_us S (fIx st) cr 0 (fIx a)) 0 (fIx b) (fIx a) (fIx z) h_b h_a h_z) (g_B (n := 6) htb wd460 wd1 wd457 (by decide +kernel) ⟨Nat.le_of_ble_eq_true rfl, Nat.le_of_ble_eq_true rfl⟩) (htb _ wd459) (htb _ ws22) hE hP hS (fs_R.this hR) rfl rfl rfl (Nat.le_of_ble_eq_true rfl) dX3_signs_267 ⟨Nat.le_of_ble_eq_true rfl, Nat.le_of_ble_eq_true rfl⟩ (fun v9 M9 H locs hpo hP hz hS => ?_) (fun x9 E9 cell9 H9 locs9 hE9 => hE9.elim)
          obtain ⟨q_104, rfl, x_105, b_106⟩ := hpo
          obtain ⟨M_108, hM_108⟩ : ∃ z9 : mw_M, z9 = M9 := ⟨_, rfl⟩
          rw [← hM_108] at hP x_105 b_106
          have x_109 : mw_ext M M_108 := mw_ext.tr (mw_ext.rf M) x_105
          have f_110 : M_108 (f0 f) = some (.inr (3, [.ref (fM f), .int (nI (sN S)), .ref (fF f), .ref (fP f), .int (sSp S), .int (sSh S)])) := x_105 _ _ (hR.this)
          refine W.eq (g2 := F0 m 270 ls [.ref q_104, .ref (f0 f)]) rfl ?_
          refine mw_callV (C := RX3) (As := [.ref q_104]) (rest := []) hx hb hml hown hl (kX3_keep l htr G H.size M_108 f S (fs_R.ext hR x_109) (rmk_lt k_6 hR.ok.1) q_104 (fs_sb S (fIx st) (fs_us S (fIx st) cr 0 (fIx a)) 0 (fIx b) (fIx a) (fIx z)) b_106 (fs_pl3 (on_i h_b) (on_i h_a) (on_i h_z))) (g_B (n := 1) htb wd256 wd1 wd253 (by decide +kernel) ⟨Nat.le_of_ble_eq_true rfl, Nat.le_of_ble_eq_true rfl⟩) (htb _ wd255) (htb _ ws2) hE hP hS (fs_R.this (fs_R.ext hR x_109)) rfl rfl rfl (Nat.le_of_ble_eq_true rfl) dX3_signs_270 ⟨Nat.le_of_ble_eq_true rfl, Nat.le_of_ble_eq_true rfl⟩ (fun v9 M9 H locs hpo hP hz hS => ?_) (fun x9 E9 cell9 H9 locs9 hE9 => hE9.elim)
          obtain ⟨rfl, hR9, hk9⟩ := hpo
          refine W.eq (g2 := F0 m 273 ls [.int (nI (sN S))]) rfl ?_
          have hre : re_signs S st cr b lt a z = fs_sb S (fIx st) (fs_us S (fIx st) cr 0 (fIx a)) 0 (fIx b) (fIx a) (fIx z) := by simp only [re_signs, si_u, si_v, if_pos c_7 , if_neg c_8 , if_neg c_102 , if_neg c_103]
          exact mx_iret (v := (nI (sN S))) (M' := M9) hx hb hr hlocks hP hS ⟨by rw [ex_lim, if_neg (fun z9 => z9 ⟨k_1, k_2, k_3⟩), if_neg (fun z9 => z9 ⟨k_4, k_5⟩), if_neg (fun z9 => z9 k_6)], rfl, by rw [hre]; exact hR9, fs_keeps.tr (fs_keeps.of x_109) hk9⟩ dX3_signs_273 (Nat.le_of_ble_eq_true rfl) (Nat.le_of_ble_eq_true rfl)
        · refine lv_aload_n hx hb dX3_signs_195 rfl (lv_at hl 3 rfl) ?_
          refine lv_aload_n hx hb dX3_signs_196 rfl (lv_at hl 3 rfl) ?_
          refine lv_aload_n hx hb dX3_signs_197 rfl (lv_at hl 3 rfl) ?_
          refine lv_iload_n hx hb dX3_signs_198 rfl (lv_at hl 6 rfl) ?_
          refine mw_callV (C := RX3) (As := [.int (nI (fIx b))]) (rest := [.ref (f0 f), .ref (f0 f)]) hx hb hml hown hl (kX3_widthOf l htr G H.size M f S hR (fIx b) h_b) (g_B (n := 1) htb wd406 wd1 wd403 (by decide +kernel) ⟨Nat.le_of_ble_eq_true rfl, Nat.le_of_ble_eq_true rfl⟩) (htb _ wd405) (htb _ ws14) hE hP hS (fs_R.this hR) rfl rfl rfl (Nat.le_of_ble_eq_true rfl) dX3_signs_199 ⟨Nat.le_of_ble_eq_true rfl, Nat.le_of_ble_eq_true rfl⟩ (fun v9 M9 H locs hpo hP hz hS => ?_) (fun x9 E9 cell9 H9 locs9 hE9 => hE9.elim)
          obtain ⟨rfl, rfl⟩ := hpo
          refine W.eq (g2 := F0 m 202 ls [.int (bW S (fIx b)), .ref (f0 f), .ref (f0 f)]) rfl ?_
          refine lv_aload_n hx hb dX3_signs_202 rfl (lv_at hl 3 rfl) ?_
          refine lv_iload hx hb dX3_signs_203 (lv_at hl 8 rfl) ?_
          refine mw_callV (C := RX3) (As := [.int (nI (fIx a))]) (rest := [.int (bW S (fIx b)), .ref (f0 f), .ref (f0 f)]) hx hb hml hown hl (kX3_widthOf l htr G H.size M f S hR (fIx a) h_a) (g_B (n := 1) htb wd406 wd1 wd403 (by decide +kernel) ⟨Nat.le_of_ble_eq_true rfl, Nat.le_of_ble_eq_true rfl⟩) (htb _ wd405) (htb _ ws14) hE hP hS (fs_R.this hR) rfl rfl rfl (Nat.le_of_ble_eq_true rfl) dX3_signs_205 ⟨Nat.le_of_ble_eq_true rfl, Nat.le_of_ble_eq_true rfl⟩ (fun v9 M9 H locs hpo hP hz hS => ?_) (fun x9 E9 cell9 H9 locs9 hE9 => hE9.elim)
          obtain ⟨rfl, rfl⟩ := hpo
          refine W.eq (g2 := F0 m 208 ls [.int (bW S (fIx a)), .int (bW S (fIx b)), .ref (f0 f), .ref (f0 f)]) rfl ?_
          refine lv_iadd hx hb dX3_signs_208 ?_
          refine lv_aload_n hx hb dX3_signs_209 rfl (lv_at hl 3 rfl) ?_
          refine mw_get (D := gD G) (ci := 3) (v := .int (sSp S)) (C := RX3) (T := TX3) (N := 6) hx hb htb inX3 hown hK hP (hR.this) rfl 4 (by decide) (htb _ wd60) (fun _ h9 => h9) rfl dX3_signs_210 ?_
          refine lv_iadd hx hb dX3_signs_213 ?_
          refine lv_bipush (v := 6) hx hb dX3_signs_214 (by decide) ?_
          refine mw_newi (N := 6) hx hb (htb _ wd55) hK hP hS 0 rfl (by decide) (by decide) (by decide) (Nat.le_of_ble_eq_true rfl) (Nat.le_of_ble_eq_true rfl) dX3_signs_216 (fun q_111 H hq_112 hs_113 hP hS => ?_)
          obtain ⟨M_114, hM_114⟩ : ∃ z9 : mw_M, z9 = mw_up M q_111 (.inl (gI G, 6, .inl (fun _ => 0))) := ⟨_, rfl⟩
          have hP : mw_P (gD G) gx_cl M_114 H := by rw [hM_114]; exact hP
          have n_115 : M q_111 = none := mw_ext.no (mw_ext.rf M) hq_112
          have f_116 : M_114 (f0 f) = some (.inr (3, [.ref (fM f), .int (nI (sN S)), .ref (fF f), .ref (fP f), .int (sSp S), .int (sSh S)])) := by rw [hM_114, mw_ne _ _ (fun z => by have z1 := (hR.this); rw [z, hq_112] at z1; cases z1)]; exact (hR.this)
          have ne_117 : (f0 f) ≠ q_111 := fun z => by have z1 := (hR.this); rw [z, hq_112] at z1; cases z1
          have f_118 : M_114 q_111 = some (.inl (gI G, 6, .inl (fun _ => 0))) := by rw [hM_114]; exact mw_self _ _ _
          have x_119 : mw_ext M M_114 := by rw [hM_114]; exact mw_ext.up (mw_ext.rf M) n_115 _
          refine lv_dup hx hb dX3_signs_218 rfl ?_
          refine lv_iconst (v := 0) hx hb dX3_signs_219 (by decide) ?_
          refine lv_iload_n hx hb dX3_signs_220 rfl (lv_at hl 6 rfl) ?_
          refine mw_iast hx hb hK hP hS 0 f_118 (hAn _ hs_113) rfl (by unfold vp_in; decide) dX3_signs_221 (fun H locs hP hS => ?_)
          obtain ⟨M_120, hM_120⟩ : ∃ z9 : mw_M, z9 = mw_up M_114 q_111 (.inl (gI G, 6, .inl (upd (fun _ => 0) 0 (nI (fIx b))))) := ⟨_, rfl⟩
          have hP : mw_P (gD G) gx_cl M_120 H := by rw [hM_120]; exact hP
          have f_121 : M_120 (f0 f) = some (.inr (3, [.ref (fM f), .int (nI (sN S)), .ref (fF f), .ref (fP f), .int (sSp S), .int (sSh S)])) := by rw [hM_120, mw_ne _ _ ne_117]; exact f_116
          have f_122 : M_120 q_111 = some (.inl (gI G, 6, .inl (upd (fun _ => 0) 0 (nI (fIx b))))) := by rw [hM_120]; exact mw_self _ _ _
          have x_123 : mw_ext M M_120 := by rw [hM_120]; exact mw_ext.up x_119 n_115 _
          refine lv_dup hx hb dX3_signs_222 rfl ?_
          refine lv_iconst (v := 1) hx hb dX3_signs_223 (by decide) ?_
          refine lv_iconst (v := 0) hx hb dX3_signs_224 (by decide) ?_
          refine mw_iast hx hb hK hP hS 0 f_122 (hAn _ hs_113) rfl (by unfold vp_in; decide) dX3_signs_225 (fun H locs hP hS => ?_)
          obtain ⟨M_124, hM_124⟩ : ∃ z9 : mw_M, z9 = mw_up M_120 q_111 (.inl (gI G, 6, .inl (upd (upd (fun _ => 0) 0 (nI (fIx b))) 1 0))) := ⟨_, rfl⟩
          have hP : mw_P (gD G) gx_cl M_124 H := by rw [hM_124]; exact hP
          have f_125 : M_124 (f0 f) = some (.inr (3, [.ref (fM f), .int (nI (sN S)), .ref (fF f), .ref (fP f), .int (sSp S), .int (sSh S)])) := by rw [hM_124, mw_ne _ _ ne_117]; exact f_121
          have f_126 : M_124 q_111 = some (.inl (gI G, 6, .inl (upd (upd (fun _ => 0) 0 (nI (fIx b))) 1 0))) := by rw [hM_124]; exact mw_self _ _ _
          have x_127 : mw_ext M M_124 := by rw [hM_124]; exact mw_ext.up x_123 n_115 _
          refine lv_dup hx hb dX3_signs_226 rfl ?_
          refine lv_iconst (v := 2) hx hb dX3_signs_227 (by decide) ?_
          refine lv_iconst (v := 0) hx hb dX3_signs_228 (by decide) ?_
          refine mw_iast hx hb hK hP hS 0 f_126 (hAn _ hs_113) rfl (by unfold vp_in; decide) dX3_signs_229 (fun H locs hP hS => ?_)
          obtain ⟨M_128, hM_128⟩ : ∃ z9 : mw_M, z9 = mw_up M_124 q_111 (.inl (gI G, 6, .inl (upd (upd (upd (fun _ => 0) 0 (nI (fIx b))) 1 0) 2 0))) := ⟨_, rfl⟩
          have hP : mw_P (gD G) gx_cl M_128 H := by rw [hM_128]; exact hP
          have f_129 : M_128 (f0 f) = some (.inr (3, [.ref (fM f), .int (nI (sN S)), .ref (fF f), .ref (fP f), .int (sSp S), .int (sSh S)])) := by rw [hM_128, mw_ne _ _ ne_117]; exact f_125
          have f_130 : M_128 q_111 = some (.inl (gI G, 6, .inl (upd (upd (upd (fun _ => 0) 0 (nI (fIx b))) 1 0) 2 0))) := by rw [hM_128]; exact mw_self _ _ _
          have x_131 : mw_ext M M_128 := by rw [hM_128]; exact mw_ext.up x_127 n_115 _
          refine lv_dup hx hb dX3_signs_230 rfl ?_
          refine lv_iconst (v := 3) hx hb dX3_signs_231 (by decide) ?_
          refine lv_iload hx hb dX3_signs_232 (lv_at hl 8 rfl) ?_
          refine mw_iast hx hb hK hP hS 0 f_130 (hAn _ hs_113) rfl (by unfold vp_in; decide) dX3_signs_234 (fun H locs hP hS => ?_)
          obtain ⟨M_132, hM_132⟩ : ∃ z9 : mw_M, z9 = mw_up M_128 q_111 (.inl (gI G, 6, .inl (upd (upd (upd (upd (fun _ => 0) 0 (nI (fIx b))) 1 0) 2 0) 3 (nI (fIx a))))) := ⟨_, rfl⟩
          have hP : mw_P (gD G) gx_cl M_132 H := by rw [hM_132]; exact hP
          have f_133 : M_132 (f0 f) = some (.inr (3, [.ref (fM f), .int (nI (sN S)), .ref (fF f), .ref (fP f), .int (sSp S), .int (sSh S)])) := by rw [hM_132, mw_ne _ _ ne_117]; exact f_129
          have f_134 : M_132 q_111 = some (.inl (gI G, 6, .inl (upd (upd (upd (upd (fun _ => 0) 0 (nI (fIx b))) 1 0) 2 0) 3 (nI (fIx a))))) := by rw [hM_132]; exact mw_self _ _ _
          have x_135 : mw_ext M M_132 := by rw [hM_132]; exact mw_ext.up x_131 n_115 _
          refine lv_dup hx hb dX3_signs_235 rfl ?_
          refine lv_iconst (v := 4) hx hb dX3_signs_236 (by decide) ?_
          refine lv_aload_n hx hb dX3_signs_237 rfl (lv_at hl 3 rfl) ?_
          refine lv_iload_n hx hb dX3_signs_238 rfl (lv_at hl 6 rfl) ?_
          refine mw_callV (C := RX3) (As := [.int (nI (fIx b))]) (rest := [.int 4, .ref q_111, .ref q_111, .int (((bW S (fIx b)) + (bW S (fIx a))) + (sSp S)), .ref (f0 f), .ref (f0 f)]) hx hb hml hown hl (kX3_widthOf l htr G H.size M_132 f S (fs_R.ext hR x_135) (fIx b) h_b) (g_B (n := 1) htb wd406 wd1 wd403 (by decide +kernel) ⟨Nat.le_of_ble_eq_true rfl, Nat.le_of_ble_eq_true rfl⟩) (htb _ wd405) (htb _ ws14) hE hP hS (fs_R.this (fs_R.ext hR x_135)) rfl rfl rfl (Nat.le_of_ble_eq_true rfl) dX3_signs_239 ⟨Nat.le_of_ble_eq_true rfl, Nat.le_of_ble_eq_true rfl⟩ (fun v9 M9 H locs hpo hP hz hS => ?_) (fun x9 E9 cell9 H9 locs9 hE9 => hE9.elim)
          obtain ⟨rfl, rfl⟩ := hpo
          refine W.eq (g2 := F0 m 242 ls [.int (bW S (fIx b)), .int 4, .ref q_111, .ref q_111, .int (((bW S (fIx b)) + (bW S (fIx a))) + (sSp S)), .ref (f0 f), .ref (f0 f)]) rfl ?_
          refine mw_iast hx hb hK hP hS 0 f_134 (hAn _ hs_113) rfl (by unfold vp_in; decide) dX3_signs_242 (fun H locs hP hS => ?_)
          obtain ⟨M_136, hM_136⟩ : ∃ z9 : mw_M, z9 = mw_up M_132 q_111 (.inl (gI G, 6, .inl (upd (upd (upd (upd (upd (fun _ => 0) 0 (nI (fIx b))) 1 0) 2 0) 3 (nI (fIx a))) 4 (bW S (fIx b))))) := ⟨_, rfl⟩
          have hP : mw_P (gD G) gx_cl M_136 H := by rw [hM_136]; exact hP
          have f_137 : M_136 (f0 f) = some (.inr (3, [.ref (fM f), .int (nI (sN S)), .ref (fF f), .ref (fP f), .int (sSp S), .int (sSh S)])) := by rw [hM_136, mw_ne _ _ ne_117]; exact f_133
          have f_138 : M_136 q_111 = some (.inl (gI G, 6, .inl (upd (upd (upd (upd (upd (fun _ => 0) 0 (nI (fIx b))) 1 0) 2 0) 3 (nI (fIx a))) 4 (bW S (fIx b))))) := by rw [hM_136]; exact mw_self _ _ _
          have x_139 : mw_ext M M_136 := by rw [hM_136]; exact mw_ext.up x_135 n_115 _
          refine lv_dup hx hb dX3_signs_243 rfl ?_
          refine lv_iconst (v := 5) hx hb dX3_signs_244 (by decide) ?_
          refine lv_iload hx hb dX3_signs_245 (lv_at hl 0 rfl) ?_
          refine mw_iast hx hb hK hP hS 0 f_138 (hAn _ hs_113) rfl (by unfold vp_in; decide) dX3_signs_247 (fun H locs hP hS => ?_)
          obtain ⟨M_140, hM_140⟩ : ∃ z9 : mw_M, z9 = mw_up M_136 q_111 (.inl (gI G, 6, .inl (upd (upd (upd (upd (upd (upd (fun _ => 0) 0 (nI (fIx b))) 1 0) 2 0) 3 (nI (fIx a))) 4 (bW S (fIx b))) 5 (fs_us S (fIx st) cr 0 (fIx a))))) := ⟨_, rfl⟩
          have hP : mw_P (gD G) gx_cl M_140 H := by rw [hM_140]; exact hP
          have f_141 : M_140 (f0 f) = some (.inr (3, [.ref (fM f), .int (nI (sN S)), .ref (fF f), .ref (fP f), .int (sSp S), .int (sSh S)])) := by rw [hM_140, mw_ne _ _ ne_117]; exact f_137
          have f_142 : M_140 q_111 = some (.inl (gI G, 6, .inl (upd (upd (upd (upd (upd (upd (fun _ => 0) 0 (nI (fIx b))) 1 0) 2 0) 3 (nI (fIx a))) 4 (bW S (fIx b))) 5 (fs_us S (fIx st) cr 0 (fIx a))))) := by rw [hM_140]; exact mw_self _ _ _
          have x_143 : mw_ext M M_140 := by rw [hM_140]; exact mw_ext.up x_139 n_115 _
          refine mw_callV (C := RX3) (As := [.int (((bW S (fIx b)) + (bW S (fIx a))) + (sSp S)), .ref q_111]) (rest := [.ref (f0 f)]) hx hb hml hown hl (kX3_enclosing l htr G H.size M_140 f S (fs_R.ext hR x_143) (fs_hXe x_143 hX) (fun q h => hAn q (Nat.le_trans hS.1 h)) q_111 (upd (upd (upd (upd (upd (upd (fun _ => 0) 0 (nI (fIx b))) 1 0) 2 0) 3 (nI (fIx a))) 4 (bW S (fIx b))) 5 (fs_us S (fIx st) cr 0 (fIx a))) (((bW S (fIx b)) + (bW S (fIx a))) + (sSp S)) [(nI (fIx b)), 0, 0, (nI (fIx a)), (bW S (fIx b)), (fs_us S (fIx st) cr 0 (fIx a))] f_142 (fun z => hX _ z n_115) (fun j hj => by rcases (show j = 0 ∨ j = 1 ∨ j = 2 ∨ j = 3 ∨ j = 4 ∨ j = 5 by simp at hj; omega) with rfl | rfl | rfl | rfl | rfl | rfl <;> rfl) (by simp) (by simp) (fun j hj => by
              rcases (show j = 0 ∨ j = 1 by simp at hj; omega) with rfl | rfl
              · exact ⟨(fIx b), h_b, rfl⟩
              · exact ⟨(fIx a), h_a, rfl⟩)) (g_B (n := 2) htb wd452 wd1 wd449 (by decide +kernel) ⟨Nat.le_of_ble_eq_true rfl, Nat.le_of_ble_eq_true rfl⟩) (htb _ wd451) (htb _ ws20) hE hP hS (fs_R.this (fs_R.ext hR x_143)) rfl rfl rfl (Nat.le_of_ble_eq_true rfl) dX3_signs_248 ⟨Nat.le_of_ble_eq_true rfl, Nat.le_of_ble_eq_true rfl⟩ (fun v9 M9 H locs hpo hP hz hS => ?_) (fun x9 E9 cell9 H9 locs9 hE9 => hE9.elim)
          obtain ⟨q_144, rfl, x_145, b_146⟩ := hpo
          obtain ⟨M_148, hM_148⟩ : ∃ z9 : mw_M, z9 = M9 := ⟨_, rfl⟩
          rw [← hM_148] at hP x_145 b_146
          have x_149 : mw_ext M M_148 := mw_ext.tr x_143 x_145
          have f_150 : M_148 (f0 f) = some (.inr (3, [.ref (fM f), .int (nI (sN S)), .ref (fF f), .ref (fP f), .int (sSp S), .int (sSh S)])) := x_145 _ _ f_141
          have f_151 : M_148 q_111 = some (.inl (gI G, 6, .inl (upd (upd (upd (upd (upd (upd (fun _ => 0) 0 (nI (fIx b))) 1 0) 2 0) 3 (nI (fIx a))) 4 (bW S (fIx b))) 5 (fs_us S (fIx st) cr 0 (fIx a))))) := x_145 _ _ f_142
          refine W.eq (g2 := F0 m 251 ls [.ref q_144, .ref (f0 f)]) rfl ?_
          refine mw_callV (C := RX3) (As := [.ref q_144]) (rest := []) hx hb hml hown hl (kX3_keep l htr G H.size M_148 f S (fs_R.ext hR x_149) (rmk_lt k_6 hR.ok.1) q_144 (fs_en S (((bW S (fIx b)) + (bW S (fIx a))) + (sSp S)) [(nI (fIx b)), 0, 0, (nI (fIx a)), (bW S (fIx b)), (fs_us S (fIx st) cr 0 (fIx a))]) b_146 (fs_pl2 (on_i h_b) (on_i h_a))) (g_B (n := 1) htb wd256 wd1 wd253 (by decide +kernel) ⟨Nat.le_of_ble_eq_true rfl, Nat.le_of_ble_eq_true rfl⟩) (htb _ wd255) (htb _ ws2) hE hP hS (fs_R.this (fs_R.ext hR x_149)) rfl rfl rfl (Nat.le_of_ble_eq_true rfl) dX3_signs_251 ⟨Nat.le_of_ble_eq_true rfl, Nat.le_of_ble_eq_true rfl⟩ (fun v9 M9 H locs hpo hP hz hS => ?_) (fun x9 E9 cell9 H9 locs9 hE9 => hE9.elim)
          obtain ⟨rfl, hR9, hk9⟩ := hpo
          refine W.eq (g2 := F0 m 254 ls [.int (nI (sN S))]) rfl ?_
          have hre : re_signs S st cr b lt a z = fs_en S (((bW S (fIx b)) + (bW S (fIx a))) + (sSp S)) [(nI (fIx b)), 0, 0, (nI (fIx a)), (bW S (fIx b)), (fs_us S (fIx st) cr 0 (fIx a))] := by simp only [re_signs, si_u, si_v, if_pos c_7 , if_neg c_8 , if_neg c_102 , if_pos c_103]
          exact mx_iret (v := (nI (sN S))) (M' := M9) hx hb hr hlocks hP hS ⟨by rw [ex_lim, if_neg (fun z9 => z9 ⟨k_1, k_2, k_3⟩), if_neg (fun z9 => z9 ⟨k_4, k_5⟩), if_neg (fun z9 => z9 k_6)], rfl, by rw [hre]; exact hR9, fs_keeps.tr (fs_keeps.of x_149) hk9⟩ dX3_signs_254 (Nat.le_of_ble_eq_true rfl) (Nat.le_of_ble_eq_true rfl)
      · have hz1 : ¬ z = (-1) := fun q => k_5 ⟨c_102, q⟩
        have hb_z := k_3.resolve_left hz1
        have h_z := isB_lt hb_z hR.ok.1
        have e_z := fIx_of hb_z.1
        rw [e_z] at hl
        refine lv_aload_n hx hb dX3_signs_105 rfl (lv_at hl 3 rfl) ?_
        refine lv_iload_n hx hb dX3_signs_106 rfl (lv_at hl 4 rfl) ?_
        refine lv_iload hx hb dX3_signs_107 (lv_at hl 0 rfl) ?_
        refine lv_iload hx hb dX3_signs_109 (lv_at hl 9 rfl) ?_
        refine mw_callV (C := RX3) (As := [.int (nI (fIx st)), .int 0, .int (nI (fIx z))]) (rest := []) hx hb hml hown hl (kX3_downAlone l htr G H.size M f S hR (fIx st) h_st 0 (fIx z) h_z) (g_B (n := 3) htb wd444 wd1 wd441 (by decide +kernel) ⟨Nat.le_of_ble_eq_true rfl, Nat.le_of_ble_eq_true rfl⟩) (htb _ wd443) (htb _ ws18) hE hP hS (fs_R.this hR) rfl rfl rfl (Nat.le_of_ble_eq_true rfl) dX3_signs_111 ⟨Nat.le_of_ble_eq_true rfl, Nat.le_of_ble_eq_true rfl⟩ (fun v9 M9 H locs hpo hP hz hS => ?_) (fun x9 E9 cell9 H9 locs9 hE9 => hE9.elim)
        obtain ⟨rfl, rfl⟩ := hpo
        refine W.eq (g2 := F0 m 114 ls [.int (fs_da S (fIx st) 0 (fIx z))]) rfl ?_
        refine lv_istore (lv' := [(9, .int (fs_da S (fIx st) 0 (fIx z))), (8, .int 0), (7, .int 2), (0, .ref (f0 f)), (1, .int (nI (fIx st))), (2, .int cr), (3, .int (nI (fIx b))), (4, .int lt), (5, .int a), (6, .int (nI (fIx z)))]) hx hb dX3_signs_114 hl (by decide) rfl (fun ls hl => ?_)
        refine lv_aload_n hx hb dX3_signs_116 rfl (lv_at hl 3 rfl) ?_
        refine lv_aload_n hx hb dX3_signs_117 rfl (lv_at hl 3 rfl) ?_
        refine lv_aload_n hx hb dX3_signs_118 rfl (lv_at hl 3 rfl) ?_
        refine lv_iload_n hx hb dX3_signs_119 rfl (lv_at hl 6 rfl) ?_
        refine mw_callV (C := RX3) (As := [.int (nI (fIx b))]) (rest := [.ref (f0 f), .ref (f0 f)]) hx hb hml hown hl (kX3_widthOf l htr G H.size M f S hR (fIx b) h_b) (g_B (n := 1) htb wd406 wd1 wd403 (by decide +kernel) ⟨Nat.le_of_ble_eq_true rfl, Nat.le_of_ble_eq_true rfl⟩) (htb _ wd405) (htb _ ws14) hE hP hS (fs_R.this hR) rfl rfl rfl (Nat.le_of_ble_eq_true rfl) dX3_signs_120 ⟨Nat.le_of_ble_eq_true rfl, Nat.le_of_ble_eq_true rfl⟩ (fun v9 M9 H locs hpo hP hz hS => ?_) (fun x9 E9 cell9 H9 locs9 hE9 => hE9.elim)
        obtain ⟨rfl, rfl⟩ := hpo
        refine W.eq (g2 := F0 m 123 ls [.int (bW S (fIx b)), .ref (f0 f), .ref (f0 f)]) rfl ?_
        refine lv_aload_n hx hb dX3_signs_123 rfl (lv_at hl 3 rfl) ?_
        refine lv_iload hx hb dX3_signs_124 (lv_at hl 9 rfl) ?_
        refine mw_callV (C := RX3) (As := [.int (nI (fIx z))]) (rest := [.int (bW S (fIx b)), .ref (f0 f), .ref (f0 f)]) hx hb hml hown hl (kX3_widthOf l htr G H.size M f S hR (fIx z) h_z) (g_B (n := 1) htb wd406 wd1 wd403 (by decide +kernel) ⟨Nat.le_of_ble_eq_true rfl, Nat.le_of_ble_eq_true rfl⟩) (htb _ wd405) (htb _ ws14) hE hP hS (fs_R.this hR) rfl rfl rfl (Nat.le_of_ble_eq_true rfl) dX3_signs_126 ⟨Nat.le_of_ble_eq_true rfl, Nat.le_of_ble_eq_true rfl⟩ (fun v9 M9 H locs hpo hP hz hS => ?_) (fun x9 E9 cell9 H9 locs9 hE9 => hE9.elim)
        obtain ⟨rfl, rfl⟩ := hpo
        refine W.eq (g2 := F0 m 129 ls [.int (bW S (fIx z)), .int (bW S (fIx b)), .ref (f0 f), .ref (f0 f)]) rfl ?_
        refine lv_iadd hx hb dX3_signs_129 ?_
        refine lv_aload_n hx hb dX3_signs_130 rfl (lv_at hl 3 rfl) ?_
        refine mw_get (D := gD G) (ci := 3) (v := .int (sSp S)) (C := RX3) (T := TX3) (N := 6) hx hb htb inX3 hown hK hP (hR.this) rfl 4 (by decide) (htb _ wd60) (fun _ h9 => h9) rfl dX3_signs_131 ?_
        refine lv_iadd hx hb dX3_signs_134 ?_
        refine lv_bipush (v := 6) hx hb dX3_signs_135 (by decide) ?_
        refine mw_newi (N := 6) hx hb (htb _ wd55) hK hP hS 0 rfl (by decide) (by decide) (by decide) (Nat.le_of_ble_eq_true rfl) (Nat.le_of_ble_eq_true rfl) dX3_signs_137 (fun q_152 H hq_153 hs_154 hP hS => ?_)
        obtain ⟨M_155, hM_155⟩ : ∃ z9 : mw_M, z9 = mw_up M q_152 (.inl (gI G, 6, .inl (fun _ => 0))) := ⟨_, rfl⟩
        have hP : mw_P (gD G) gx_cl M_155 H := by rw [hM_155]; exact hP
        have n_156 : M q_152 = none := mw_ext.no (mw_ext.rf M) hq_153
        have f_157 : M_155 (f0 f) = some (.inr (3, [.ref (fM f), .int (nI (sN S)), .ref (fF f), .ref (fP f), .int (sSp S), .int (sSh S)])) := by rw [hM_155, mw_ne _ _ (fun z => by have z1 := (hR.this); rw [z, hq_153] at z1; cases z1)]; exact (hR.this)
        have ne_158 : (f0 f) ≠ q_152 := fun z => by have z1 := (hR.this); rw [z, hq_153] at z1; cases z1
        have f_159 : M_155 q_152 = some (.inl (gI G, 6, .inl (fun _ => 0))) := by rw [hM_155]; exact mw_self _ _ _
        have x_160 : mw_ext M M_155 := by rw [hM_155]; exact mw_ext.up (mw_ext.rf M) n_156 _
        refine lv_dup hx hb dX3_signs_139 rfl ?_
        refine lv_iconst (v := 0) hx hb dX3_signs_140 (by decide) ?_
        refine lv_iload_n hx hb dX3_signs_141 rfl (lv_at hl 6 rfl) ?_
        refine mw_iast hx hb hK hP hS 0 f_159 (hAn _ hs_154) rfl (by unfold vp_in; decide) dX3_signs_142 (fun H locs hP hS => ?_)
        obtain ⟨M_161, hM_161⟩ : ∃ z9 : mw_M, z9 = mw_up M_155 q_152 (.inl (gI G, 6, .inl (upd (fun _ => 0) 0 (nI (fIx b))))) := ⟨_, rfl⟩
        have hP : mw_P (gD G) gx_cl M_161 H := by rw [hM_161]; exact hP
        have f_162 : M_161 (f0 f) = some (.inr (3, [.ref (fM f), .int (nI (sN S)), .ref (fF f), .ref (fP f), .int (sSp S), .int (sSh S)])) := by rw [hM_161, mw_ne _ _ ne_158]; exact f_157
        have f_163 : M_161 q_152 = some (.inl (gI G, 6, .inl (upd (fun _ => 0) 0 (nI (fIx b))))) := by rw [hM_161]; exact mw_self _ _ _
        have x_164 : mw_ext M M_161 := by rw [hM_161]; exact mw_ext.up x_160 n_156 _
        refine lv_dup hx hb dX3_signs_143 rfl ?_
        refine lv_iconst (v := 1) hx hb dX3_signs_144 (by decide) ?_
        refine lv_iconst (v := 0) hx hb dX3_signs_145 (by decide) ?_
        refine mw_iast hx hb hK hP hS 0 f_163 (hAn _ hs_154) rfl (by unfold vp_in; decide) dX3_signs_146 (fun H locs hP hS => ?_)
        obtain ⟨M_165, hM_165⟩ : ∃ z9 : mw_M, z9 = mw_up M_161 q_152 (.inl (gI G, 6, .inl (upd (upd (fun _ => 0) 0 (nI (fIx b))) 1 0))) := ⟨_, rfl⟩
        have hP : mw_P (gD G) gx_cl M_165 H := by rw [hM_165]; exact hP
        have f_166 : M_165 (f0 f) = some (.inr (3, [.ref (fM f), .int (nI (sN S)), .ref (fF f), .ref (fP f), .int (sSp S), .int (sSh S)])) := by rw [hM_165, mw_ne _ _ ne_158]; exact f_162
        have f_167 : M_165 q_152 = some (.inl (gI G, 6, .inl (upd (upd (fun _ => 0) 0 (nI (fIx b))) 1 0))) := by rw [hM_165]; exact mw_self _ _ _
        have x_168 : mw_ext M M_165 := by rw [hM_165]; exact mw_ext.up x_164 n_156 _
        refine lv_dup hx hb dX3_signs_147 rfl ?_
        refine lv_iconst (v := 2) hx hb dX3_signs_148 (by decide) ?_
        refine lv_iconst (v := 0) hx hb dX3_signs_149 (by decide) ?_
        refine mw_iast hx hb hK hP hS 0 f_167 (hAn _ hs_154) rfl (by unfold vp_in; decide) dX3_signs_150 (fun H locs hP hS => ?_)
        obtain ⟨M_169, hM_169⟩ : ∃ z9 : mw_M, z9 = mw_up M_165 q_152 (.inl (gI G, 6, .inl (upd (upd (upd (fun _ => 0) 0 (nI (fIx b))) 1 0) 2 0))) := ⟨_, rfl⟩
        have hP : mw_P (gD G) gx_cl M_169 H := by rw [hM_169]; exact hP
        have f_170 : M_169 (f0 f) = some (.inr (3, [.ref (fM f), .int (nI (sN S)), .ref (fF f), .ref (fP f), .int (sSp S), .int (sSh S)])) := by rw [hM_169, mw_ne _ _ ne_158]; exact f_166
        have f_171 : M_169 q_152 = some (.inl (gI G, 6, .inl (upd (upd (upd (fun _ => 0) 0 (nI (fIx b))) 1 0) 2 0))) := by rw [hM_169]; exact mw_self _ _ _
        have x_172 : mw_ext M M_169 := by rw [hM_169]; exact mw_ext.up x_168 n_156 _
        refine lv_dup hx hb dX3_signs_151 rfl ?_
        refine lv_iconst (v := 3) hx hb dX3_signs_152 (by decide) ?_
        refine lv_iload hx hb dX3_signs_153 (lv_at hl 9 rfl) ?_
        refine mw_iast hx hb hK hP hS 0 f_171 (hAn _ hs_154) rfl (by unfold vp_in; decide) dX3_signs_155 (fun H locs hP hS => ?_)
        obtain ⟨M_173, hM_173⟩ : ∃ z9 : mw_M, z9 = mw_up M_169 q_152 (.inl (gI G, 6, .inl (upd (upd (upd (upd (fun _ => 0) 0 (nI (fIx b))) 1 0) 2 0) 3 (nI (fIx z))))) := ⟨_, rfl⟩
        have hP : mw_P (gD G) gx_cl M_173 H := by rw [hM_173]; exact hP
        have f_174 : M_173 (f0 f) = some (.inr (3, [.ref (fM f), .int (nI (sN S)), .ref (fF f), .ref (fP f), .int (sSp S), .int (sSh S)])) := by rw [hM_173, mw_ne _ _ ne_158]; exact f_170
        have f_175 : M_173 q_152 = some (.inl (gI G, 6, .inl (upd (upd (upd (upd (fun _ => 0) 0 (nI (fIx b))) 1 0) 2 0) 3 (nI (fIx z))))) := by rw [hM_173]; exact mw_self _ _ _
        have x_176 : mw_ext M M_173 := by rw [hM_173]; exact mw_ext.up x_172 n_156 _
        refine lv_dup hx hb dX3_signs_156 rfl ?_
        refine lv_iconst (v := 4) hx hb dX3_signs_157 (by decide) ?_
        refine lv_aload_n hx hb dX3_signs_158 rfl (lv_at hl 3 rfl) ?_
        refine lv_iload_n hx hb dX3_signs_159 rfl (lv_at hl 6 rfl) ?_
        refine mw_callV (C := RX3) (As := [.int (nI (fIx b))]) (rest := [.int 4, .ref q_152, .ref q_152, .int (((bW S (fIx b)) + (bW S (fIx z))) + (sSp S)), .ref (f0 f), .ref (f0 f)]) hx hb hml hown hl (kX3_widthOf l htr G H.size M_173 f S (fs_R.ext hR x_176) (fIx b) h_b) (g_B (n := 1) htb wd406 wd1 wd403 (by decide +kernel) ⟨Nat.le_of_ble_eq_true rfl, Nat.le_of_ble_eq_true rfl⟩) (htb _ wd405) (htb _ ws14) hE hP hS (fs_R.this (fs_R.ext hR x_176)) rfl rfl rfl (Nat.le_of_ble_eq_true rfl) dX3_signs_160 ⟨Nat.le_of_ble_eq_true rfl, Nat.le_of_ble_eq_true rfl⟩ (fun v9 M9 H locs hpo hP hz hS => ?_) (fun x9 E9 cell9 H9 locs9 hE9 => hE9.elim)
        obtain ⟨rfl, rfl⟩ := hpo
        refine W.eq (g2 := F0 m 163 ls [.int (bW S (fIx b)), .int 4, .ref q_152, .ref q_152, .int (((bW S (fIx b)) + (bW S (fIx z))) + (sSp S)), .ref (f0 f), .ref (f0 f)]) rfl ?_
        refine mw_iast hx hb hK hP hS 0 f_175 (hAn _ hs_154) rfl (by unfold vp_in; decide) dX3_signs_163 (fun H locs hP hS => ?_)
        obtain ⟨M_177, hM_177⟩ : ∃ z9 : mw_M, z9 = mw_up M_173 q_152 (.inl (gI G, 6, .inl (upd (upd (upd (upd (upd (fun _ => 0) 0 (nI (fIx b))) 1 0) 2 0) 3 (nI (fIx z))) 4 (bW S (fIx b))))) := ⟨_, rfl⟩
        have hP : mw_P (gD G) gx_cl M_177 H := by rw [hM_177]; exact hP
        have f_178 : M_177 (f0 f) = some (.inr (3, [.ref (fM f), .int (nI (sN S)), .ref (fF f), .ref (fP f), .int (sSp S), .int (sSh S)])) := by rw [hM_177, mw_ne _ _ ne_158]; exact f_174
        have f_179 : M_177 q_152 = some (.inl (gI G, 6, .inl (upd (upd (upd (upd (upd (fun _ => 0) 0 (nI (fIx b))) 1 0) 2 0) 3 (nI (fIx z))) 4 (bW S (fIx b))))) := by rw [hM_177]; exact mw_self _ _ _
        have x_180 : mw_ext M M_177 := by rw [hM_177]; exact mw_ext.up x_176 n_156 _
        refine lv_dup hx hb dX3_signs_164 rfl ?_
        refine lv_iconst (v := 5) hx hb dX3_signs_165 (by decide) ?_
        refine lv_iload hx hb dX3_signs_166 (lv_at hl 0 rfl) ?_
        refine lv_ineg hx hb dX3_signs_168 ?_
        refine mw_iast hx hb hK hP hS 0 f_179 (hAn _ hs_154) rfl (by unfold vp_in; decide) dX3_signs_169 (fun H locs hP hS => ?_)
        obtain ⟨M_181, hM_181⟩ : ∃ z9 : mw_M, z9 = mw_up M_177 q_152 (.inl (gI G, 6, .inl (upd (upd (upd (upd (upd (upd (fun _ => 0) 0 (nI (fIx b))) 1 0) 2 0) 3 (nI (fIx z))) 4 (bW S (fIx b))) 5 (-(fs_da S (fIx st) 0 (fIx z)))))) := ⟨_, rfl⟩
        have hP : mw_P (gD G) gx_cl M_181 H := by rw [hM_181]; exact hP
        have f_182 : M_181 (f0 f) = some (.inr (3, [.ref (fM f), .int (nI (sN S)), .ref (fF f), .ref (fP f), .int (sSp S), .int (sSh S)])) := by rw [hM_181, mw_ne _ _ ne_158]; exact f_178
        have f_183 : M_181 q_152 = some (.inl (gI G, 6, .inl (upd (upd (upd (upd (upd (upd (fun _ => 0) 0 (nI (fIx b))) 1 0) 2 0) 3 (nI (fIx z))) 4 (bW S (fIx b))) 5 (-(fs_da S (fIx st) 0 (fIx z)))))) := by rw [hM_181]; exact mw_self _ _ _
        have x_184 : mw_ext M M_181 := by rw [hM_181]; exact mw_ext.up x_180 n_156 _
        refine mw_callV (C := RX3) (As := [.int (((bW S (fIx b)) + (bW S (fIx z))) + (sSp S)), .ref q_152]) (rest := [.ref (f0 f)]) hx hb hml hown hl (kX3_enclosing l htr G H.size M_181 f S (fs_R.ext hR x_184) (fs_hXe x_184 hX) (fun q h => hAn q (Nat.le_trans hS.1 h)) q_152 (upd (upd (upd (upd (upd (upd (fun _ => 0) 0 (nI (fIx b))) 1 0) 2 0) 3 (nI (fIx z))) 4 (bW S (fIx b))) 5 (-(fs_da S (fIx st) 0 (fIx z)))) (((bW S (fIx b)) + (bW S (fIx z))) + (sSp S)) [(nI (fIx b)), 0, 0, (nI (fIx z)), (bW S (fIx b)), (-(fs_da S (fIx st) 0 (fIx z)))] f_183 (fun z => hX _ z n_156) (fun j hj => by rcases (show j = 0 ∨ j = 1 ∨ j = 2 ∨ j = 3 ∨ j = 4 ∨ j = 5 by simp at hj; omega) with rfl | rfl | rfl | rfl | rfl | rfl <;> rfl) (by simp) (by simp) (fun j hj => by
            rcases (show j = 0 ∨ j = 1 by simp at hj; omega) with rfl | rfl
            · exact ⟨(fIx b), h_b, rfl⟩
            · exact ⟨(fIx z), h_z, rfl⟩)) (g_B (n := 2) htb wd452 wd1 wd449 (by decide +kernel) ⟨Nat.le_of_ble_eq_true rfl, Nat.le_of_ble_eq_true rfl⟩) (htb _ wd451) (htb _ ws20) hE hP hS (fs_R.this (fs_R.ext hR x_184)) rfl rfl rfl (Nat.le_of_ble_eq_true rfl) dX3_signs_170 ⟨Nat.le_of_ble_eq_true rfl, Nat.le_of_ble_eq_true rfl⟩ (fun v9 M9 H locs hpo hP hz hS => ?_) (fun x9 E9 cell9 H9 locs9 hE9 => hE9.elim)
        obtain ⟨q_185, rfl, x_186, b_187⟩ := hpo
        obtain ⟨M_189, hM_189⟩ : ∃ z9 : mw_M, z9 = M9 := ⟨_, rfl⟩
        rw [← hM_189] at hP x_186 b_187
        have x_190 : mw_ext M M_189 := mw_ext.tr x_184 x_186
        have f_191 : M_189 (f0 f) = some (.inr (3, [.ref (fM f), .int (nI (sN S)), .ref (fF f), .ref (fP f), .int (sSp S), .int (sSh S)])) := x_186 _ _ f_182
        have f_192 : M_189 q_152 = some (.inl (gI G, 6, .inl (upd (upd (upd (upd (upd (upd (fun _ => 0) 0 (nI (fIx b))) 1 0) 2 0) 3 (nI (fIx z))) 4 (bW S (fIx b))) 5 (-(fs_da S (fIx st) 0 (fIx z)))))) := x_186 _ _ f_183
        refine W.eq (g2 := F0 m 173 ls [.ref q_185, .ref (f0 f)]) rfl ?_
        refine mw_callV (C := RX3) (As := [.ref q_185]) (rest := []) hx hb hml hown hl (kX3_keep l htr G H.size M_189 f S (fs_R.ext hR x_190) (rmk_lt k_6 hR.ok.1) q_185 (fs_en S (((bW S (fIx b)) + (bW S (fIx z))) + (sSp S)) [(nI (fIx b)), 0, 0, (nI (fIx z)), (bW S (fIx b)), (-(fs_da S (fIx st) 0 (fIx z)))]) b_187 (fs_pl2 (on_i h_b) (on_i h_z))) (g_B (n := 1) htb wd256 wd1 wd253 (by decide +kernel) ⟨Nat.le_of_ble_eq_true rfl, Nat.le_of_ble_eq_true rfl⟩) (htb _ wd255) (htb _ ws2) hE hP hS (fs_R.this (fs_R.ext hR x_190)) rfl rfl rfl (Nat.le_of_ble_eq_true rfl) dX3_signs_173 ⟨Nat.le_of_ble_eq_true rfl, Nat.le_of_ble_eq_true rfl⟩ (fun v9 M9 H locs hpo hP hz hS => ?_) (fun x9 E9 cell9 H9 locs9 hE9 => hE9.elim)
        obtain ⟨rfl, hR9, hk9⟩ := hpo
        refine W.eq (g2 := F0 m 176 ls [.int (nI (sN S))]) rfl ?_
        have hre : re_signs S st cr b lt a z = fs_en S (((bW S (fIx b)) + (bW S (fIx z))) + (sSp S)) [(nI (fIx b)), 0, 0, (nI (fIx z)), (bW S (fIx b)), (-(fs_da S (fIx st) 0 (fIx z)))] := by simp only [re_signs, si_u, si_v, if_pos c_7 , if_neg c_8 , if_pos c_102]
        exact mx_iret (v := (nI (sN S))) (M' := M9) hx hb hr hlocks hP hS ⟨by rw [ex_lim, if_neg (fun z9 => z9 ⟨k_1, k_2, k_3⟩), if_neg (fun z9 => z9 ⟨k_4, k_5⟩), if_neg (fun z9 => z9 k_6)], rfl, by rw [hre]; exact hR9, fs_keeps.tr (fs_keeps.of x_190) hk9⟩ dX3_signs_176 (Nat.le_of_ble_eq_true rfl) (Nat.le_of_ble_eq_true rfl)
  · refine lv_iload_n hx hb dX3_signs_37 rfl (lv_at hl 1 rfl) ?_
    refine lv_iconst (v := 1) hx hb dX3_signs_38 (by decide) ?_
    refine lv_icmp_ne (tgt := 46) hx hb dX3_signs_39 (by decide) (fun c_193 => ?_) (fun c_193 => ?_)
    · refine lv_iconst (v := 3) hx hb dX3_signs_46 (by decide) ?_
      refine lv_istore (lv' := [(7, .int 3), (0, .ref (f0 f)), (1, .int (nI (fIx st))), (2, .int cr), (3, .int (nI (fIx b))), (4, .int lt), (5, .int a), (6, .int z)]) hx hb dX3_signs_47 hl (by decide) rfl (fun ls hl => ?_)
      refine lv_iload hx hb dX3_signs_49 (lv_at hl 5 rfl) ?_
      refine lv_if_eq (tgt := 58) hx hb dX3_signs_51 (by decide) (fun c_194 => ?_) (fun c_194 => ?_)
      · refine lv_aload_n hx hb dX3_signs_58 rfl (lv_at hl 1 rfl) ?_
        refine lv_iload_n hx hb dX3_signs_59 rfl (lv_at hl 4 rfl) ?_
        refine mw_callV (C := RX3) (As := [.int (nI (fIx b))]) (rest := []) hx hb hml hown hl (kX3_heightOf l htr G H.size M f S hR (fIx b) h_b) (g_B (n := 1) htb wd402 wd1 wd399 (by decide +kernel) ⟨Nat.le_of_ble_eq_true rfl, Nat.le_of_ble_eq_true rfl⟩) (htb _ wd401) (htb _ ws13) hE hP hS (fs_R.this hR) rfl rfl rfl (Nat.le_of_ble_eq_true rfl) dX3_signs_60 ⟨Nat.le_of_ble_eq_true rfl, Nat.le_of_ble_eq_true rfl⟩ (fun v9 M9 H locs hpo hP hz hS => ?_) (fun x9 E9 cell9 H9 locs9 hE9 => hE9.elim)
        obtain ⟨rfl, rfl⟩ := hpo
        refine W.eq (g2 := F0 m 63 ls [.int (bH S (fIx b))]) rfl ?_
        refine lv_aload_n hx hb dX3_signs_63 rfl (lv_at hl 1 rfl) ?_
        refine lv_iload hx hb dX3_signs_64 (lv_at hl 0 rfl) ?_
        refine lv_bipush (v := 11) hx hb dX3_signs_66 (by decide) ?_
        refine mw_callV (C := RX3) (As := [.int 3, .int 11]) (rest := [.int (bH S (fIx b))]) hx hb hml hown hl (kX3_valueOf l htr G H.size M f S hR 3 11 (by decide) (by decide)) (g_B (n := 2) htb wd390 wd1 wd387 (by decide +kernel) ⟨Nat.le_of_ble_eq_true rfl, Nat.le_of_ble_eq_true rfl⟩) (htb _ wd389) (htb _ ws11) hE hP hS (fs_R.this hR) rfl rfl rfl (Nat.le_of_ble_eq_true rfl) dX3_signs_68 ⟨Nat.le_of_ble_eq_true rfl, Nat.le_of_ble_eq_true rfl⟩ (fun v9 M9 H locs hpo hP hz hS => ?_) (fun x9 E9 cell9 H9 locs9 hE9 => hE9.elim)
        obtain ⟨rfl, rfl⟩ := hpo
        refine W.eq (g2 := F0 m 71 ls [.int (pV S 3 11), .int (bH S (fIx b))]) rfl ?_
        refine lv_isub hx hb dX3_signs_71 ?_
        refine lv_istore (lv' := [(8, .int ((bH S (fIx b)) - (pV S 3 11))), (7, .int 3), (0, .ref (f0 f)), (1, .int (nI (fIx st))), (2, .int cr), (3, .int (nI (fIx b))), (4, .int lt), (5, .int a), (6, .int z)]) hx hb dX3_signs_72 hl (by decide) rfl (fun ls hl => ?_)
        refine lv_iload hx hb dX3_signs_74 (lv_at hl 6 rfl) ?_
        refine lv_if_eq (tgt := 83) hx hb dX3_signs_76 (by decide) (fun c_195 => ?_) (fun c_195 => absurd c_194 c_195)
        refine lv_aload_n hx hb dX3_signs_83 rfl (lv_at hl 2 rfl) ?_
        refine lv_iload_n hx hb dX3_signs_84 rfl (lv_at hl 5 rfl) ?_
        refine mw_callV (C := RX3) (As := [.int (nI (fIx b))]) (rest := []) hx hb hml hown hl (kX3_depthOf l htr G H.size M f S hR (fIx b) h_b) (g_B (n := 1) htb wd397 wd1 wd394 (by decide +kernel) ⟨Nat.le_of_ble_eq_true rfl, Nat.le_of_ble_eq_true rfl⟩) (htb _ wd396) (htb _ ws12) hE hP hS (fs_R.this hR) rfl rfl rfl (Nat.le_of_ble_eq_true rfl) dX3_signs_85 ⟨Nat.le_of_ble_eq_true rfl, Nat.le_of_ble_eq_true rfl⟩ (fun v9 M9 H locs hpo hP hz hS => ?_) (fun x9 E9 cell9 H9 locs9 hE9 => hE9.elim)
        obtain ⟨rfl, rfl⟩ := hpo
        refine W.eq (g2 := F0 m 88 ls [.int (bD S (fIx b))]) rfl ?_
        refine lv_aload_n hx hb dX3_signs_88 rfl (lv_at hl 2 rfl) ?_
        refine lv_iload hx hb dX3_signs_89 (lv_at hl 1 rfl) ?_
        refine lv_bipush (v := 12) hx hb dX3_signs_91 (by decide) ?_
        refine mw_callV (C := RX3) (As := [.int 3, .int 12]) (rest := [.int (bD S (fIx b))]) hx hb hml hown hl (kX3_valueOf l htr G H.size M f S hR 3 12 (by decide) (by decide)) (g_B (n := 2) htb wd390 wd1 wd387 (by decide +kernel) ⟨Nat.le_of_ble_eq_true rfl, Nat.le_of_ble_eq_true rfl⟩) (htb _ wd389) (htb _ ws11) hE hP hS (fs_R.this hR) rfl rfl rfl (Nat.le_of_ble_eq_true rfl) dX3_signs_93 ⟨Nat.le_of_ble_eq_true rfl, Nat.le_of_ble_eq_true rfl⟩ (fun v9 M9 H locs hpo hP hz hS => ?_) (fun x9 E9 cell9 H9 locs9 hE9 => hE9.elim)
        obtain ⟨rfl, rfl⟩ := hpo
        refine W.eq (g2 := F0 m 96 ls [.int (pV S 3 12), .int (bD S (fIx b))]) rfl ?_
        refine lv_iadd hx hb dX3_signs_96 ?_
        refine lv_istore (lv' := [(9, .int ((bD S (fIx b)) + (pV S 3 12))), (8, .int ((bH S (fIx b)) - (pV S 3 11))), (7, .int 3), (0, .ref (f0 f)), (1, .int (nI (fIx st))), (2, .int cr), (3, .int (nI (fIx b))), (4, .int lt), (5, .int a), (6, .int z)]) hx hb dX3_signs_97 hl (by decide) rfl (fun ls hl => ?_)
        refine lv_iload hx hb dX3_signs_99 (lv_at hl 8 rfl) ?_
        refine lv_iconst (v := (-1)) hx hb dX3_signs_101 (by decide) ?_
        refine lv_icmp_ne (tgt := 177) hx hb dX3_signs_102 (by decide) (fun c_196 => ?_) (fun c_196 => ?_)
        · have hb_a := k_2.resolve_left c_196
          have h_a := isB_lt hb_a hR.ok.1
          have e_a := fIx_of hb_a.1
          rw [e_a] at hl
          refine lv_aload_n hx hb dX3_signs_177 rfl (lv_at hl 3 rfl) ?_
          refine lv_iload_n hx hb dX3_signs_178 rfl (lv_at hl 4 rfl) ?_
          refine lv_iload_n hx hb dX3_signs_179 rfl (lv_at hl 5 rfl) ?_
          refine lv_iload hx hb dX3_signs_180 (lv_at hl 1 rfl) ?_
          refine lv_iload hx hb dX3_signs_182 (lv_at hl 8 rfl) ?_
          refine mw_callV (C := RX3) (As := [.int (nI (fIx st)), .int cr, .int ((bH S (fIx b)) - (pV S 3 11)), .int (nI (fIx a))]) (rest := []) hx hb hml hown hl (kX3_upShift l htr G H.size M f S hR (fIx st) h_st cr ((bH S (fIx b)) - (pV S 3 11)) (fIx a) h_a) (g_B (n := 4) htb wd456 wd1 wd453 (by decide +kernel) ⟨Nat.le_of_ble_eq_true rfl, Nat.le_of_ble_eq_true rfl⟩) (htb _ wd455) (htb _ ws21) hE hP hS (fs_R.this hR) rfl rfl rfl (Nat.le_of_ble_eq_true rfl) dX3_signs_184 ⟨Nat.le_of_ble_eq_true rfl, Nat.le_of_ble_eq_true rfl⟩ (fun v9 M9 H locs hpo hP hz hS => ?_) (fun x9 E9 cell9 H9 locs9 hE9 => hE9.elim)
          obtain ⟨rfl, rfl⟩ := hpo
          refine W.eq (g2 := F0 m 187 ls [.int (fs_us S (fIx st) cr ((bH S (fIx b)) - (pV S 3 11)) (fIx a))]) rfl ?_
          refine lv_istore (lv' := [(8, .int (fs_us S (fIx st) cr ((bH S (fIx b)) - (pV S 3 11)) (fIx a))), (9, .int ((bD S (fIx b)) + (pV S 3 12))), (7, .int 3), (0, .ref (f0 f)), (1, .int (nI (fIx st))), (2, .int cr), (3, .int (nI (fIx b))), (4, .int lt), (5, .int (nI (fIx a))), (6, .int z)]) hx hb dX3_signs_187 hl (by decide) rfl (fun ls hl => ?_)
          refine lv_iload hx hb dX3_signs_189 (lv_at hl 9 rfl) ?_
          refine lv_iconst (v := (-1)) hx hb dX3_signs_191 (by decide) ?_
          refine lv_icmp_ne (tgt := 255) hx hb dX3_signs_192 (by decide) (fun c_197 => ?_) (fun c_197 => ?_)
          · have hb_z := k_3.resolve_left c_197
            have h_z := isB_lt hb_z hR.ok.1
            have e_z := fIx_of hb_z.1
            rw [e_z] at hl
            refine lv_aload_n hx hb dX3_signs_255 rfl (lv_at hl 3 rfl) ?_
            refine lv_aload_n hx hb dX3_signs_256 rfl (lv_at hl 3 rfl) ?_
            refine lv_iload_n hx hb dX3_signs_257 rfl (lv_at hl 4 rfl) ?_
            refine lv_iload hx hb dX3_signs_258 (lv_at hl 0 rfl) ?_
            refine lv_iload hx hb dX3_signs_260 (lv_at hl 1 rfl) ?_
            refine lv_iload_n hx hb dX3_signs_262 rfl (lv_at hl 6 rfl) ?_
            refine lv_iload hx hb dX3_signs_263 (lv_at hl 8 rfl) ?_
            refine lv_iload hx hb dX3_signs_265 (lv_at hl 9 rfl) ?_
            refine mw_callV (C := RX3) (As := [.int (nI (fIx st)), .int (fs_us S (fIx st) cr ((bH S (fIx b)) - (pV S 3 11)) (fIx a)), .int ((bD S (fIx b)) + (pV S 3 12)), .int (nI (fIx b)), .int (nI (fIx a)), .int (nI (fIx z))]) (rest := [.ref (f0 f)]) hx hb hml hown hl (kX3_signsOnBothSides l htr G H.size M f S hR hX (fun q h => hAn q (Nat.le_trans hS.1 h)) (fIx st) h_st (fs_us S (fIx st) cr ((bH S (fIx b)) - (pV S 3 11)) (fIx a)) ((bD S (fIx b)) + (pV S 3 12)) (fIx b) (fIx a) (fIx z) h_b h_a h_z) (g_B (n := 6) htb wd460 wd1 wd457 (by decide +kernel) ⟨Nat.le_of_ble_eq_true rfl, Nat.le_of_ble_eq_true rfl⟩) (htb _ wd459) (htb _ ws22) hE hP hS (fs_R.this hR) rfl rfl rfl (Nat.le_of_ble_eq_true rfl) dX3_signs_267 ⟨Nat.le_of_ble_eq_true rfl, Nat.le_of_ble_eq_true rfl⟩ (fun v9 M9 H locs hpo hP hz hS => ?_) (fun x9 E9 cell9 H9 locs9 hE9 => hE9.elim)
            obtain ⟨q_198, rfl, x_199, b_200⟩ := hpo
            obtain ⟨M_202, hM_202⟩ : ∃ z9 : mw_M, z9 = M9 := ⟨_, rfl⟩
            rw [← hM_202] at hP x_199 b_200
            have x_203 : mw_ext M M_202 := mw_ext.tr (mw_ext.rf M) x_199
            have f_204 : M_202 (f0 f) = some (.inr (3, [.ref (fM f), .int (nI (sN S)), .ref (fF f), .ref (fP f), .int (sSp S), .int (sSh S)])) := x_199 _ _ (hR.this)
            refine W.eq (g2 := F0 m 270 ls [.ref q_198, .ref (f0 f)]) rfl ?_
            refine mw_callV (C := RX3) (As := [.ref q_198]) (rest := []) hx hb hml hown hl (kX3_keep l htr G H.size M_202 f S (fs_R.ext hR x_203) (rmk_lt k_6 hR.ok.1) q_198 (fs_sb S (fIx st) (fs_us S (fIx st) cr ((bH S (fIx b)) - (pV S 3 11)) (fIx a)) ((bD S (fIx b)) + (pV S 3 12)) (fIx b) (fIx a) (fIx z)) b_200 (fs_pl3 (on_i h_b) (on_i h_a) (on_i h_z))) (g_B (n := 1) htb wd256 wd1 wd253 (by decide +kernel) ⟨Nat.le_of_ble_eq_true rfl, Nat.le_of_ble_eq_true rfl⟩) (htb _ wd255) (htb _ ws2) hE hP hS (fs_R.this (fs_R.ext hR x_203)) rfl rfl rfl (Nat.le_of_ble_eq_true rfl) dX3_signs_270 ⟨Nat.le_of_ble_eq_true rfl, Nat.le_of_ble_eq_true rfl⟩ (fun v9 M9 H locs hpo hP hz hS => ?_) (fun x9 E9 cell9 H9 locs9 hE9 => hE9.elim)
            obtain ⟨rfl, hR9, hk9⟩ := hpo
            refine W.eq (g2 := F0 m 273 ls [.int (nI (sN S))]) rfl ?_
            have hre : re_signs S st cr b lt a z = fs_sb S (fIx st) (fs_us S (fIx st) cr ((bH S (fIx b)) - (pV S 3 11)) (fIx a)) ((bD S (fIx b)) + (pV S 3 12)) (fIx b) (fIx a) (fIx z) := by simp only [re_signs, si_u, si_v, if_neg c_7 , if_neg c_193 , if_pos c_194 , if_neg c_196 , if_neg c_197]
            exact mx_iret (v := (nI (sN S))) (M' := M9) hx hb hr hlocks hP hS ⟨by rw [ex_lim, if_neg (fun z9 => z9 ⟨k_1, k_2, k_3⟩), if_neg (fun z9 => z9 ⟨k_4, k_5⟩), if_neg (fun z9 => z9 k_6)], rfl, by rw [hre]; exact hR9, fs_keeps.tr (fs_keeps.of x_203) hk9⟩ dX3_signs_273 (Nat.le_of_ble_eq_true rfl) (Nat.le_of_ble_eq_true rfl)
          · refine lv_aload_n hx hb dX3_signs_195 rfl (lv_at hl 3 rfl) ?_
            refine lv_aload_n hx hb dX3_signs_196 rfl (lv_at hl 3 rfl) ?_
            refine lv_aload_n hx hb dX3_signs_197 rfl (lv_at hl 3 rfl) ?_
            refine lv_iload_n hx hb dX3_signs_198 rfl (lv_at hl 6 rfl) ?_
            refine mw_callV (C := RX3) (As := [.int (nI (fIx b))]) (rest := [.ref (f0 f), .ref (f0 f)]) hx hb hml hown hl (kX3_widthOf l htr G H.size M f S hR (fIx b) h_b) (g_B (n := 1) htb wd406 wd1 wd403 (by decide +kernel) ⟨Nat.le_of_ble_eq_true rfl, Nat.le_of_ble_eq_true rfl⟩) (htb _ wd405) (htb _ ws14) hE hP hS (fs_R.this hR) rfl rfl rfl (Nat.le_of_ble_eq_true rfl) dX3_signs_199 ⟨Nat.le_of_ble_eq_true rfl, Nat.le_of_ble_eq_true rfl⟩ (fun v9 M9 H locs hpo hP hz hS => ?_) (fun x9 E9 cell9 H9 locs9 hE9 => hE9.elim)
            obtain ⟨rfl, rfl⟩ := hpo
            refine W.eq (g2 := F0 m 202 ls [.int (bW S (fIx b)), .ref (f0 f), .ref (f0 f)]) rfl ?_
            refine lv_aload_n hx hb dX3_signs_202 rfl (lv_at hl 3 rfl) ?_
            refine lv_iload hx hb dX3_signs_203 (lv_at hl 8 rfl) ?_
            refine mw_callV (C := RX3) (As := [.int (nI (fIx a))]) (rest := [.int (bW S (fIx b)), .ref (f0 f), .ref (f0 f)]) hx hb hml hown hl (kX3_widthOf l htr G H.size M f S hR (fIx a) h_a) (g_B (n := 1) htb wd406 wd1 wd403 (by decide +kernel) ⟨Nat.le_of_ble_eq_true rfl, Nat.le_of_ble_eq_true rfl⟩) (htb _ wd405) (htb _ ws14) hE hP hS (fs_R.this hR) rfl rfl rfl (Nat.le_of_ble_eq_true rfl) dX3_signs_205 ⟨Nat.le_of_ble_eq_true rfl, Nat.le_of_ble_eq_true rfl⟩ (fun v9 M9 H locs hpo hP hz hS => ?_) (fun x9 E9 cell9 H9 locs9 hE9 => hE9.elim)
            obtain ⟨rfl, rfl⟩ := hpo
            refine W.eq (g2 := F0 m 208 ls [.int (bW S (fIx a)), .int (bW S (fIx b)), .ref (f0 f), .ref (f0 f)]) rfl ?_
            refine lv_iadd hx hb dX3_signs_208 ?_
            refine lv_aload_n hx hb dX3_signs_209 rfl (lv_at hl 3 rfl) ?_
            refine mw_get (D := gD G) (ci := 3) (v := .int (sSp S)) (C := RX3) (T := TX3) (N := 6) hx hb htb inX3 hown hK hP (hR.this) rfl 4 (by decide) (htb _ wd60) (fun _ h9 => h9) rfl dX3_signs_210 ?_
            refine lv_iadd hx hb dX3_signs_213 ?_
            refine lv_bipush (v := 6) hx hb dX3_signs_214 (by decide) ?_
            refine mw_newi (N := 6) hx hb (htb _ wd55) hK hP hS 0 rfl (by decide) (by decide) (by decide) (Nat.le_of_ble_eq_true rfl) (Nat.le_of_ble_eq_true rfl) dX3_signs_216 (fun q_205 H hq_206 hs_207 hP hS => ?_)
            obtain ⟨M_208, hM_208⟩ : ∃ z9 : mw_M, z9 = mw_up M q_205 (.inl (gI G, 6, .inl (fun _ => 0))) := ⟨_, rfl⟩
            have hP : mw_P (gD G) gx_cl M_208 H := by rw [hM_208]; exact hP
            have n_209 : M q_205 = none := mw_ext.no (mw_ext.rf M) hq_206
            have f_210 : M_208 (f0 f) = some (.inr (3, [.ref (fM f), .int (nI (sN S)), .ref (fF f), .ref (fP f), .int (sSp S), .int (sSh S)])) := by rw [hM_208, mw_ne _ _ (fun z => by have z1 := (hR.this); rw [z, hq_206] at z1; cases z1)]; exact (hR.this)
            have ne_211 : (f0 f) ≠ q_205 := fun z => by have z1 := (hR.this); rw [z, hq_206] at z1; cases z1
            have f_212 : M_208 q_205 = some (.inl (gI G, 6, .inl (fun _ => 0))) := by rw [hM_208]; exact mw_self _ _ _
            have x_213 : mw_ext M M_208 := by rw [hM_208]; exact mw_ext.up (mw_ext.rf M) n_209 _
            refine lv_dup hx hb dX3_signs_218 rfl ?_
            refine lv_iconst (v := 0) hx hb dX3_signs_219 (by decide) ?_
            refine lv_iload_n hx hb dX3_signs_220 rfl (lv_at hl 6 rfl) ?_
            refine mw_iast hx hb hK hP hS 0 f_212 (hAn _ hs_207) rfl (by unfold vp_in; decide) dX3_signs_221 (fun H locs hP hS => ?_)
            obtain ⟨M_214, hM_214⟩ : ∃ z9 : mw_M, z9 = mw_up M_208 q_205 (.inl (gI G, 6, .inl (upd (fun _ => 0) 0 (nI (fIx b))))) := ⟨_, rfl⟩
            have hP : mw_P (gD G) gx_cl M_214 H := by rw [hM_214]; exact hP
            have f_215 : M_214 (f0 f) = some (.inr (3, [.ref (fM f), .int (nI (sN S)), .ref (fF f), .ref (fP f), .int (sSp S), .int (sSh S)])) := by rw [hM_214, mw_ne _ _ ne_211]; exact f_210
            have f_216 : M_214 q_205 = some (.inl (gI G, 6, .inl (upd (fun _ => 0) 0 (nI (fIx b))))) := by rw [hM_214]; exact mw_self _ _ _
            have x_217 : mw_ext M M_214 := by rw [hM_214]; exact mw_ext.up x_213 n_209 _
            refine lv_dup hx hb dX3_signs_222 rfl ?_
            refine lv_iconst (v := 1) hx hb dX3_signs_223 (by decide) ?_
            refine lv_iconst (v := 0) hx hb dX3_signs_224 (by decide) ?_
            refine mw_iast hx hb hK hP hS 0 f_216 (hAn _ hs_207) rfl (by unfold vp_in; decide) dX3_signs_225 (fun H locs hP hS => ?_)
            obtain ⟨M_218, hM_218⟩ : ∃ z9 : mw_M, z9 = mw_up M_214 q_205 (.inl (gI G, 6, .inl (upd (upd (fun _ => 0) 0 (nI (fIx b))) 1 0))) := ⟨_, rfl⟩
            have hP : mw_P (gD G) gx_cl M_218 H := by rw [hM_218]; exact hP
            have f_219 : M_218 (f0 f) = some (.inr (3, [.ref (fM f), .int (nI (sN S)), .ref (fF f), .ref (fP f), .int (sSp S), .int (sSh S)])) := by rw [hM_218, mw_ne _ _ ne_211]; exact f_215
            have f_220 : M_218 q_205 = some (.inl (gI G, 6, .inl (upd (upd (fun _ => 0) 0 (nI (fIx b))) 1 0))) := by rw [hM_218]; exact mw_self _ _ _
            have x_221 : mw_ext M M_218 := by rw [hM_218]; exact mw_ext.up x_217 n_209 _
            refine lv_dup hx hb dX3_signs_226 rfl ?_
            refine lv_iconst (v := 2) hx hb dX3_signs_227 (by decide) ?_
            refine lv_iconst (v := 0) hx hb dX3_signs_228 (by decide) ?_
            refine mw_iast hx hb hK hP hS 0 f_220 (hAn _ hs_207) rfl (by unfold vp_in; decide) dX3_signs_229 (fun H locs hP hS => ?_)
            obtain ⟨M_222, hM_222⟩ : ∃ z9 : mw_M, z9 = mw_up M_218 q_205 (.inl (gI G, 6, .inl (upd (upd (upd (fun _ => 0) 0 (nI (fIx b))) 1 0) 2 0))) := ⟨_, rfl⟩
            have hP : mw_P (gD G) gx_cl M_222 H := by rw [hM_222]; exact hP
            have f_223 : M_222 (f0 f) = some (.inr (3, [.ref (fM f), .int (nI (sN S)), .ref (fF f), .ref (fP f), .int (sSp S), .int (sSh S)])) := by rw [hM_222, mw_ne _ _ ne_211]; exact f_219
            have f_224 : M_222 q_205 = some (.inl (gI G, 6, .inl (upd (upd (upd (fun _ => 0) 0 (nI (fIx b))) 1 0) 2 0))) := by rw [hM_222]; exact mw_self _ _ _
            have x_225 : mw_ext M M_222 := by rw [hM_222]; exact mw_ext.up x_221 n_209 _
            refine lv_dup hx hb dX3_signs_230 rfl ?_
            refine lv_iconst (v := 3) hx hb dX3_signs_231 (by decide) ?_
            refine lv_iload hx hb dX3_signs_232 (lv_at hl 8 rfl) ?_
            refine mw_iast hx hb hK hP hS 0 f_224 (hAn _ hs_207) rfl (by unfold vp_in; decide) dX3_signs_234 (fun H locs hP hS => ?_)
            obtain ⟨M_226, hM_226⟩ : ∃ z9 : mw_M, z9 = mw_up M_222 q_205 (.inl (gI G, 6, .inl (upd (upd (upd (upd (fun _ => 0) 0 (nI (fIx b))) 1 0) 2 0) 3 (nI (fIx a))))) := ⟨_, rfl⟩
            have hP : mw_P (gD G) gx_cl M_226 H := by rw [hM_226]; exact hP
            have f_227 : M_226 (f0 f) = some (.inr (3, [.ref (fM f), .int (nI (sN S)), .ref (fF f), .ref (fP f), .int (sSp S), .int (sSh S)])) := by rw [hM_226, mw_ne _ _ ne_211]; exact f_223
            have f_228 : M_226 q_205 = some (.inl (gI G, 6, .inl (upd (upd (upd (upd (fun _ => 0) 0 (nI (fIx b))) 1 0) 2 0) 3 (nI (fIx a))))) := by rw [hM_226]; exact mw_self _ _ _
            have x_229 : mw_ext M M_226 := by rw [hM_226]; exact mw_ext.up x_225 n_209 _
            refine lv_dup hx hb dX3_signs_235 rfl ?_
            refine lv_iconst (v := 4) hx hb dX3_signs_236 (by decide) ?_
            refine lv_aload_n hx hb dX3_signs_237 rfl (lv_at hl 3 rfl) ?_
            refine lv_iload_n hx hb dX3_signs_238 rfl (lv_at hl 6 rfl) ?_
            refine mw_callV (C := RX3) (As := [.int (nI (fIx b))]) (rest := [.int 4, .ref q_205, .ref q_205, .int (((bW S (fIx b)) + (bW S (fIx a))) + (sSp S)), .ref (f0 f), .ref (f0 f)]) hx hb hml hown hl (kX3_widthOf l htr G H.size M_226 f S (fs_R.ext hR x_229) (fIx b) h_b) (g_B (n := 1) htb wd406 wd1 wd403 (by decide +kernel) ⟨Nat.le_of_ble_eq_true rfl, Nat.le_of_ble_eq_true rfl⟩) (htb _ wd405) (htb _ ws14) hE hP hS (fs_R.this (fs_R.ext hR x_229)) rfl rfl rfl (Nat.le_of_ble_eq_true rfl) dX3_signs_239 ⟨Nat.le_of_ble_eq_true rfl, Nat.le_of_ble_eq_true rfl⟩ (fun v9 M9 H locs hpo hP hz hS => ?_) (fun x9 E9 cell9 H9 locs9 hE9 => hE9.elim)
            obtain ⟨rfl, rfl⟩ := hpo
            refine W.eq (g2 := F0 m 242 ls [.int (bW S (fIx b)), .int 4, .ref q_205, .ref q_205, .int (((bW S (fIx b)) + (bW S (fIx a))) + (sSp S)), .ref (f0 f), .ref (f0 f)]) rfl ?_
            refine mw_iast hx hb hK hP hS 0 f_228 (hAn _ hs_207) rfl (by unfold vp_in; decide) dX3_signs_242 (fun H locs hP hS => ?_)
            obtain ⟨M_230, hM_230⟩ : ∃ z9 : mw_M, z9 = mw_up M_226 q_205 (.inl (gI G, 6, .inl (upd (upd (upd (upd (upd (fun _ => 0) 0 (nI (fIx b))) 1 0) 2 0) 3 (nI (fIx a))) 4 (bW S (fIx b))))) := ⟨_, rfl⟩
            have hP : mw_P (gD G) gx_cl M_230 H := by rw [hM_230]; exact hP
            have f_231 : M_230 (f0 f) = some (.inr (3, [.ref (fM f), .int (nI (sN S)), .ref (fF f), .ref (fP f), .int (sSp S), .int (sSh S)])) := by rw [hM_230, mw_ne _ _ ne_211]; exact f_227
            have f_232 : M_230 q_205 = some (.inl (gI G, 6, .inl (upd (upd (upd (upd (upd (fun _ => 0) 0 (nI (fIx b))) 1 0) 2 0) 3 (nI (fIx a))) 4 (bW S (fIx b))))) := by rw [hM_230]; exact mw_self _ _ _
            have x_233 : mw_ext M M_230 := by rw [hM_230]; exact mw_ext.up x_229 n_209 _
            refine lv_dup hx hb dX3_signs_243 rfl ?_
            refine lv_iconst (v := 5) hx hb dX3_signs_244 (by decide) ?_
            refine lv_iload hx hb dX3_signs_245 (lv_at hl 0 rfl) ?_
            refine mw_iast hx hb hK hP hS 0 f_232 (hAn _ hs_207) rfl (by unfold vp_in; decide) dX3_signs_247 (fun H locs hP hS => ?_)
            obtain ⟨M_234, hM_234⟩ : ∃ z9 : mw_M, z9 = mw_up M_230 q_205 (.inl (gI G, 6, .inl (upd (upd (upd (upd (upd (upd (fun _ => 0) 0 (nI (fIx b))) 1 0) 2 0) 3 (nI (fIx a))) 4 (bW S (fIx b))) 5 (fs_us S (fIx st) cr ((bH S (fIx b)) - (pV S 3 11)) (fIx a))))) := ⟨_, rfl⟩
            have hP : mw_P (gD G) gx_cl M_234 H := by rw [hM_234]; exact hP
            have f_235 : M_234 (f0 f) = some (.inr (3, [.ref (fM f), .int (nI (sN S)), .ref (fF f), .ref (fP f), .int (sSp S), .int (sSh S)])) := by rw [hM_234, mw_ne _ _ ne_211]; exact f_231
            have f_236 : M_234 q_205 = some (.inl (gI G, 6, .inl (upd (upd (upd (upd (upd (upd (fun _ => 0) 0 (nI (fIx b))) 1 0) 2 0) 3 (nI (fIx a))) 4 (bW S (fIx b))) 5 (fs_us S (fIx st) cr ((bH S (fIx b)) - (pV S 3 11)) (fIx a))))) := by rw [hM_234]; exact mw_self _ _ _
            have x_237 : mw_ext M M_234 := by rw [hM_234]; exact mw_ext.up x_233 n_209 _
            refine mw_callV (C := RX3) (As := [.int (((bW S (fIx b)) + (bW S (fIx a))) + (sSp S)), .ref q_205]) (rest := [.ref (f0 f)]) hx hb hml hown hl (kX3_enclosing l htr G H.size M_234 f S (fs_R.ext hR x_237) (fs_hXe x_237 hX) (fun q h => hAn q (Nat.le_trans hS.1 h)) q_205 (upd (upd (upd (upd (upd (upd (fun _ => 0) 0 (nI (fIx b))) 1 0) 2 0) 3 (nI (fIx a))) 4 (bW S (fIx b))) 5 (fs_us S (fIx st) cr ((bH S (fIx b)) - (pV S 3 11)) (fIx a))) (((bW S (fIx b)) + (bW S (fIx a))) + (sSp S)) [(nI (fIx b)), 0, 0, (nI (fIx a)), (bW S (fIx b)), (fs_us S (fIx st) cr ((bH S (fIx b)) - (pV S 3 11)) (fIx a))] f_236 (fun z => hX _ z n_209) (fun j hj => by rcases (show j = 0 ∨ j = 1 ∨ j = 2 ∨ j = 3 ∨ j = 4 ∨ j = 5 by simp at hj; omega) with rfl | rfl | rfl | rfl | rfl | rfl <;> rfl) (by simp) (by simp) (fun j hj => by
                rcases (show j = 0 ∨ j = 1 by simp at hj; omega) with rfl | rfl
                · exact ⟨(fIx b), h_b, rfl⟩
                · exact ⟨(fIx a), h_a, rfl⟩)) (g_B (n := 2) htb wd452 wd1 wd449 (by decide +kernel) ⟨Nat.le_of_ble_eq_true rfl, Nat.le_of_ble_eq_true rfl⟩) (htb _ wd451) (htb _ ws20) hE hP hS (fs_R.this (fs_R.ext hR x_237)) rfl rfl rfl (Nat.le_of_ble_eq_true rfl) dX3_signs_248 ⟨Nat.le_of_ble_eq_true rfl, Nat.le_of_ble_eq_true rfl⟩ (fun v9 M9 H locs hpo hP hz hS => ?_) (fun x9 E9 cell9 H9 locs9 hE9 => hE9.elim)
            obtain ⟨q_238, rfl, x_239, b_240⟩ := hpo
            obtain ⟨M_242, hM_242⟩ : ∃ z9 : mw_M, z9 = M9 := ⟨_, rfl⟩
            rw [← hM_242] at hP x_239 b_240
            have x_243 : mw_ext M M_242 := mw_ext.tr x_237 x_239
            have f_244 : M_242 (f0 f) = some (.inr (3, [.ref (fM f), .int (nI (sN S)), .ref (fF f), .ref (fP f), .int (sSp S), .int (sSh S)])) := x_239 _ _ f_235
            have f_245 : M_242 q_205 = some (.inl (gI G, 6, .inl (upd (upd (upd (upd (upd (upd (fun _ => 0) 0 (nI (fIx b))) 1 0) 2 0) 3 (nI (fIx a))) 4 (bW S (fIx b))) 5 (fs_us S (fIx st) cr ((bH S (fIx b)) - (pV S 3 11)) (fIx a))))) := x_239 _ _ f_236
            refine W.eq (g2 := F0 m 251 ls [.ref q_238, .ref (f0 f)]) rfl ?_
            refine mw_callV (C := RX3) (As := [.ref q_238]) (rest := []) hx hb hml hown hl (kX3_keep l htr G H.size M_242 f S (fs_R.ext hR x_243) (rmk_lt k_6 hR.ok.1) q_238 (fs_en S (((bW S (fIx b)) + (bW S (fIx a))) + (sSp S)) [(nI (fIx b)), 0, 0, (nI (fIx a)), (bW S (fIx b)), (fs_us S (fIx st) cr ((bH S (fIx b)) - (pV S 3 11)) (fIx a))]) b_240 (fs_pl2 (on_i h_b) (on_i h_a))) (g_B (n := 1) htb wd256 wd1 wd253 (by decide +kernel) ⟨Nat.le_of_ble_eq_true rfl, Nat.le_of_ble_eq_true rfl⟩) (htb _ wd255) (htb _ ws2) hE hP hS (fs_R.this (fs_R.ext hR x_243)) rfl rfl rfl (Nat.le_of_ble_eq_true rfl) dX3_signs_251 ⟨Nat.le_of_ble_eq_true rfl, Nat.le_of_ble_eq_true rfl⟩ (fun v9 M9 H locs hpo hP hz hS => ?_) (fun x9 E9 cell9 H9 locs9 hE9 => hE9.elim)
            obtain ⟨rfl, hR9, hk9⟩ := hpo
            refine W.eq (g2 := F0 m 254 ls [.int (nI (sN S))]) rfl ?_
            have hre : re_signs S st cr b lt a z = fs_en S (((bW S (fIx b)) + (bW S (fIx a))) + (sSp S)) [(nI (fIx b)), 0, 0, (nI (fIx a)), (bW S (fIx b)), (fs_us S (fIx st) cr ((bH S (fIx b)) - (pV S 3 11)) (fIx a))] := by simp only [re_signs, si_u, si_v, if_neg c_7 , if_neg c_193 , if_pos c_194 , if_neg c_196 , if_pos c_197]
            exact mx_iret (v := (nI (sN S))) (M' := M9) hx hb hr hlocks hP hS ⟨by rw [ex_lim, if_neg (fun z9 => z9 ⟨k_1, k_2, k_3⟩), if_neg (fun z9 => z9 ⟨k_4, k_5⟩), if_neg (fun z9 => z9 k_6)], rfl, by rw [hre]; exact hR9, fs_keeps.tr (fs_keeps.of x_243) hk9⟩ dX3_signs_254 (Nat.le_of_ble_eq_true rfl) (Nat.le_of_ble_eq_true rfl)
        · have hz1 : ¬ z = (-1) := fun q => k_5 ⟨c_196, q⟩
          have hb_z := k_3.resolve_left hz1
          have h_z := isB_lt hb_z hR.ok.1
          have e_z := fIx_of hb_z.1
          rw [e_z] at hl
          refine lv_aload_n hx hb dX3_signs_105 rfl (lv_at hl 3 rfl) ?_
          refine lv_iload_n hx hb dX3_signs_106 rfl (lv_at hl 4 rfl) ?_
          refine lv_iload hx hb dX3_signs_107 (lv_at hl 0 rfl) ?_
          refine lv_iload hx hb dX3_signs_109 (lv_at hl 9 rfl) ?_
          refine mw_callV (C := RX3) (As := [.int (nI (fIx st)), .int ((bD S (fIx b)) + (pV S 3 12)), .int (nI (fIx z))]) (rest := []) hx hb hml hown hl (kX3_downAlone l htr G H.size M f S hR (fIx st) h_st ((bD S (fIx b)) + (pV S 3 12)) (fIx z) h_z) (g_B (n := 3) htb wd444 wd1 wd441 (by decide +kernel) ⟨Nat.le_of_ble_eq_true rfl, Nat.le_of_ble_eq_true rfl⟩) (htb _ wd443) (htb _ ws18) hE hP hS (fs_R.this hR) rfl rfl rfl (Nat.le_of_ble_eq_true rfl) dX3_signs_111 ⟨Nat.le_of_ble_eq_true rfl, Nat.le_of_ble_eq_true rfl⟩ (fun v9 M9 H locs hpo hP hz hS => ?_) (fun x9 E9 cell9 H9 locs9 hE9 => hE9.elim)
          obtain ⟨rfl, rfl⟩ := hpo
          refine W.eq (g2 := F0 m 114 ls [.int (fs_da S (fIx st) ((bD S (fIx b)) + (pV S 3 12)) (fIx z))]) rfl ?_
          refine lv_istore (lv' := [(9, .int (fs_da S (fIx st) ((bD S (fIx b)) + (pV S 3 12)) (fIx z))), (8, .int ((bH S (fIx b)) - (pV S 3 11))), (7, .int 3), (0, .ref (f0 f)), (1, .int (nI (fIx st))), (2, .int cr), (3, .int (nI (fIx b))), (4, .int lt), (5, .int a), (6, .int (nI (fIx z)))]) hx hb dX3_signs_114 hl (by decide) rfl (fun ls hl => ?_)
          refine lv_aload_n hx hb dX3_signs_116 rfl (lv_at hl 3 rfl) ?_
          refine lv_aload_n hx hb dX3_signs_117 rfl (lv_at hl 3 rfl) ?_
          refine lv_aload_n hx hb dX3_signs_118 rfl (lv_at hl 3 rfl) ?_
          refine lv_iload_n hx hb dX3_signs_119 rfl (lv_at hl 6 rfl) ?_
          refine mw_callV (C := RX3) (As := [.int (nI (fIx b))]) (rest := [.ref (f0 f), .ref (f0 f)]) hx hb hml hown hl (kX3_widthOf l htr G H.size M f S hR (fIx b) h_b) (g_B (n := 1) htb wd406 wd1 wd403 (by decide +kernel) ⟨Nat.le_of_ble_eq_true rfl, Nat.le_of_ble_eq_true rfl⟩) (htb _ wd405) (htb _ ws14) hE hP hS (fs_R.this hR) rfl rfl rfl (Nat.le_of_ble_eq_true rfl) dX3_signs_120 ⟨Nat.le_of_ble_eq_true rfl, Nat.le_of_ble_eq_true rfl⟩ (fun v9 M9 H locs hpo hP hz hS => ?_) (fun x9 E9 cell9 H9 locs9 hE9 => hE9.elim)
          obtain ⟨rfl, rfl⟩ := hpo
          refine W.eq (g2 := F0 m 123 ls [.int (bW S (fIx b)), .ref (f0 f), .ref (f0 f)]) rfl ?_
          refine lv_aload_n hx hb dX3_signs_123 rfl (lv_at hl 3 rfl) ?_
          refine lv_iload hx hb dX3_signs_124 (lv_at hl 9 rfl) ?_
          refine mw_callV (C := RX3) (As := [.int (nI (fIx z))]) (rest := [.int (bW S (fIx b)), .ref (f0 f), .ref (f0 f)]) hx hb hml hown hl (kX3_widthOf l htr G H.size M f S hR (fIx z) h_z) (g_B (n := 1) htb wd406 wd1 wd403 (by decide +kernel) ⟨Nat.le_of_ble_eq_true rfl, Nat.le_of_ble_eq_true rfl⟩) (htb _ wd405) (htb _ ws14) hE hP hS (fs_R.this hR) rfl rfl rfl (Nat.le_of_ble_eq_true rfl) dX3_signs_126 ⟨Nat.le_of_ble_eq_true rfl, Nat.le_of_ble_eq_true rfl⟩ (fun v9 M9 H locs hpo hP hz hS => ?_) (fun x9 E9 cell9 H9 locs9 hE9 => hE9.elim)
          obtain ⟨rfl, rfl⟩ := hpo
          refine W.eq (g2 := F0 m 129 ls [.int (bW S (fIx z)), .int (bW S (fIx b)), .ref (f0 f), .ref (f0 f)]) rfl ?_
          refine lv_iadd hx hb dX3_signs_129 ?_
          refine lv_aload_n hx hb dX3_signs_130 rfl (lv_at hl 3 rfl) ?_
          refine mw_get (D := gD G) (ci := 3) (v := .int (sSp S)) (C := RX3) (T := TX3) (N := 6) hx hb htb inX3 hown hK hP (hR.this) rfl 4 (by decide) (htb _ wd60) (fun _ h9 => h9) rfl dX3_signs_131 ?_
          refine lv_iadd hx hb dX3_signs_134 ?_
          refine lv_bipush (v := 6) hx hb dX3_signs_135 (by decide) ?_
          refine mw_newi (N := 6) hx hb (htb _ wd55) hK hP hS 0 rfl (by decide) (by decide) (by decide) (Nat.le_of_ble_eq_true rfl) (Nat.le_of_ble_eq_true rfl) dX3_signs_137 (fun q_246 H hq_247 hs_248 hP hS => ?_)
          obtain ⟨M_249, hM_249⟩ : ∃ z9 : mw_M, z9 = mw_up M q_246 (.inl (gI G, 6, .inl (fun _ => 0))) := ⟨_, rfl⟩
          have hP : mw_P (gD G) gx_cl M_249 H := by rw [hM_249]; exact hP
          have n_250 : M q_246 = none := mw_ext.no (mw_ext.rf M) hq_247
          have f_251 : M_249 (f0 f) = some (.inr (3, [.ref (fM f), .int (nI (sN S)), .ref (fF f), .ref (fP f), .int (sSp S), .int (sSh S)])) := by rw [hM_249, mw_ne _ _ (fun z => by have z1 := (hR.this); rw [z, hq_247] at z1; cases z1)]; exact (hR.this)
          have ne_252 : (f0 f) ≠ q_246 := fun z => by have z1 := (hR.this); rw [z, hq_247] at z1; cases z1
          have f_253 : M_249 q_246 = some (.inl (gI G, 6, .inl (fun _ => 0))) := by rw [hM_249]; exact mw_self _ _ _
          have x_254 : mw_ext M M_249 := by rw [hM_249]; exact mw_ext.up (mw_ext.rf M) n_250 _
          refine lv_dup hx hb dX3_signs_139 rfl ?_
          refine lv_iconst (v := 0) hx hb dX3_signs_140 (by decide) ?_
          refine lv_iload_n hx hb dX3_signs_141 rfl (lv_at hl 6 rfl) ?_
          refine mw_iast hx hb hK hP hS 0 f_253 (hAn _ hs_248) rfl (by unfold vp_in; decide) dX3_signs_142 (fun H locs hP hS => ?_)
          obtain ⟨M_255, hM_255⟩ : ∃ z9 : mw_M, z9 = mw_up M_249 q_246 (.inl (gI G, 6, .inl (upd (fun _ => 0) 0 (nI (fIx b))))) := ⟨_, rfl⟩
          have hP : mw_P (gD G) gx_cl M_255 H := by rw [hM_255]; exact hP
          have f_256 : M_255 (f0 f) = some (.inr (3, [.ref (fM f), .int (nI (sN S)), .ref (fF f), .ref (fP f), .int (sSp S), .int (sSh S)])) := by rw [hM_255, mw_ne _ _ ne_252]; exact f_251
          have f_257 : M_255 q_246 = some (.inl (gI G, 6, .inl (upd (fun _ => 0) 0 (nI (fIx b))))) := by rw [hM_255]; exact mw_self _ _ _
          have x_258 : mw_ext M M_255 := by rw [hM_255]; exact mw_ext.up x_254 n_250 _
          refine lv_dup hx hb dX3_signs_143 rfl ?_
          refine lv_iconst (v := 1) hx hb dX3_signs_144 (by decide) ?_
          refine lv_iconst (v := 0) hx hb dX3_signs_145 (by decide) ?_
          refine mw_iast hx hb hK hP hS 0 f_257 (hAn _ hs_248) rfl (by unfold vp_in; decide) dX3_signs_146 (fun H locs hP hS => ?_)
          obtain ⟨M_259, hM_259⟩ : ∃ z9 : mw_M, z9 = mw_up M_255 q_246 (.inl (gI G, 6, .inl (upd (upd (fun _ => 0) 0 (nI (fIx b))) 1 0))) := ⟨_, rfl⟩
          have hP : mw_P (gD G) gx_cl M_259 H := by rw [hM_259]; exact hP
          have f_260 : M_259 (f0 f) = some (.inr (3, [.ref (fM f), .int (nI (sN S)), .ref (fF f), .ref (fP f), .int (sSp S), .int (sSh S)])) := by rw [hM_259, mw_ne _ _ ne_252]; exact f_256
          have f_261 : M_259 q_246 = some (.inl (gI G, 6, .inl (upd (upd (fun _ => 0) 0 (nI (fIx b))) 1 0))) := by rw [hM_259]; exact mw_self _ _ _
          have x_262 : mw_ext M M_259 := by rw [hM_259]; exact mw_ext.up x_258 n_250 _
          refine lv_dup hx hb dX3_signs_147 rfl ?_
          refine lv_iconst (v := 2) hx hb dX3_signs_148 (by decide) ?_
          refine lv_iconst (v := 0) hx hb dX3_signs_149 (by decide) ?_
          refine mw_iast hx hb hK hP hS 0 f_261 (hAn _ hs_248) rfl (by unfold vp_in; decide) dX3_signs_150 (fun H locs hP hS => ?_)
          obtain ⟨M_263, hM_263⟩ : ∃ z9 : mw_M, z9 = mw_up M_259 q_246 (.inl (gI G, 6, .inl (upd (upd (upd (fun _ => 0) 0 (nI (fIx b))) 1 0) 2 0))) := ⟨_, rfl⟩
          have hP : mw_P (gD G) gx_cl M_263 H := by rw [hM_263]; exact hP
          have f_264 : M_263 (f0 f) = some (.inr (3, [.ref (fM f), .int (nI (sN S)), .ref (fF f), .ref (fP f), .int (sSp S), .int (sSh S)])) := by rw [hM_263, mw_ne _ _ ne_252]; exact f_260
          have f_265 : M_263 q_246 = some (.inl (gI G, 6, .inl (upd (upd (upd (fun _ => 0) 0 (nI (fIx b))) 1 0) 2 0))) := by rw [hM_263]; exact mw_self _ _ _
          have x_266 : mw_ext M M_263 := by rw [hM_263]; exact mw_ext.up x_262 n_250 _
          refine lv_dup hx hb dX3_signs_151 rfl ?_
          refine lv_iconst (v := 3) hx hb dX3_signs_152 (by decide) ?_
          refine lv_iload hx hb dX3_signs_153 (lv_at hl 9 rfl) ?_
          refine mw_iast hx hb hK hP hS 0 f_265 (hAn _ hs_248) rfl (by unfold vp_in; decide) dX3_signs_155 (fun H locs hP hS => ?_)
          obtain ⟨M_267, hM_267⟩ : ∃ z9 : mw_M, z9 = mw_up M_263 q_246 (.inl (gI G, 6, .inl (upd (upd (upd (upd (fun _ => 0) 0 (nI (fIx b))) 1 0) 2 0) 3 (nI (fIx z))))) := ⟨_, rfl⟩
          have hP : mw_P (gD G) gx_cl M_267 H := by rw [hM_267]; exact hP
          have f_268 : M_267 (f0 f) = some (.inr (3, [.ref (fM f), .int (nI (sN S)), .ref (fF f), .ref (fP f), .int (sSp S), .int (sSh S)])) := by rw [hM_267, mw_ne _ _ ne_252]; exact f_264
          have f_269 : M_267 q_246 = some (.inl (gI G, 6, .inl (upd (upd (upd (upd (fun _ => 0) 0 (nI (fIx b))) 1 0) 2 0) 3 (nI (fIx z))))) := by rw [hM_267]; exact mw_self _ _ _
          have x_270 : mw_ext M M_267 := by rw [hM_267]; exact mw_ext.up x_266 n_250 _
          refine lv_dup hx hb dX3_signs_156 rfl ?_
          refine lv_iconst (v := 4) hx hb dX3_signs_157 (by decide) ?_
          refine lv_aload_n hx hb dX3_signs_158 rfl (lv_at hl 3 rfl) ?_
          refine lv_iload_n hx hb dX3_signs_159 rfl (lv_at hl 6 rfl) ?_
          refine mw_callV (C := RX3) (As := [.int (nI (fIx b))]) (rest := [.int 4, .ref q_246, .ref q_246, .int (((bW S (fIx b)) + (bW S (fIx z))) + (sSp S)), .ref (f0 f), .ref (f0 f)]) hx hb hml hown hl (kX3_widthOf l htr G H.size M_267 f S (fs_R.ext hR x_270) (fIx b) h_b) (g_B (n := 1) htb wd406 wd1 wd403 (by decide +kernel) ⟨Nat.le_of_ble_eq_true rfl, Nat.le_of_ble_eq_true rfl⟩) (htb _ wd405) (htb _ ws14) hE hP hS (fs_R.this (fs_R.ext hR x_270)) rfl rfl rfl (Nat.le_of_ble_eq_true rfl) dX3_signs_160 ⟨Nat.le_of_ble_eq_true rfl, Nat.le_of_ble_eq_true rfl⟩ (fun v9 M9 H locs hpo hP hz hS => ?_) (fun x9 E9 cell9 H9 locs9 hE9 => hE9.elim)
          obtain ⟨rfl, rfl⟩ := hpo
          refine W.eq (g2 := F0 m 163 ls [.int (bW S (fIx b)), .int 4, .ref q_246, .ref q_246, .int (((bW S (fIx b)) + (bW S (fIx z))) + (sSp S)), .ref (f0 f), .ref (f0 f)]) rfl ?_
          refine mw_iast hx hb hK hP hS 0 f_269 (hAn _ hs_248) rfl (by unfold vp_in; decide) dX3_signs_163 (fun H locs hP hS => ?_)
          obtain ⟨M_271, hM_271⟩ : ∃ z9 : mw_M, z9 = mw_up M_267 q_246 (.inl (gI G, 6, .inl (upd (upd (upd (upd (upd (fun _ => 0) 0 (nI (fIx b))) 1 0) 2 0) 3 (nI (fIx z))) 4 (bW S (fIx b))))) := ⟨_, rfl⟩
          have hP : mw_P (gD G) gx_cl M_271 H := by rw [hM_271]; exact hP
          have f_272 : M_271 (f0 f) = some (.inr (3, [.ref (fM f), .int (nI (sN S)), .ref (fF f), .ref (fP f), .int (sSp S), .int (sSh S)])) := by rw [hM_271, mw_ne _ _ ne_252]; exact f_268
          have f_273 : M_271 q_246 = some (.inl (gI G, 6, .inl (upd (upd (upd (upd (upd (fun _ => 0) 0 (nI (fIx b))) 1 0) 2 0) 3 (nI (fIx z))) 4 (bW S (fIx b))))) := by rw [hM_271]; exact mw_self _ _ _
          have x_274 : mw_ext M M_271 := by rw [hM_271]; exact mw_ext.up x_270 n_250 _
          refine lv_dup hx hb dX3_signs_164 rfl ?_
          refine lv_iconst (v := 5) hx hb dX3_signs_165 (by decide) ?_
          refine lv_iload hx hb dX3_signs_166 (lv_at hl 0 rfl) ?_
          refine lv_ineg hx hb dX3_signs_168 ?_
          refine mw_iast hx hb hK hP hS 0 f_273 (hAn _ hs_248) rfl (by unfold vp_in; decide) dX3_signs_169 (fun H locs hP hS => ?_)
          obtain ⟨M_275, hM_275⟩ : ∃ z9 : mw_M, z9 = mw_up M_271 q_246 (.inl (gI G, 6, .inl (upd (upd (upd (upd (upd (upd (fun _ => 0) 0 (nI (fIx b))) 1 0) 2 0) 3 (nI (fIx z))) 4 (bW S (fIx b))) 5 (-(fs_da S (fIx st) ((bD S (fIx b)) + (pV S 3 12)) (fIx z)))))) := ⟨_, rfl⟩
          have hP : mw_P (gD G) gx_cl M_275 H := by rw [hM_275]; exact hP
          have f_276 : M_275 (f0 f) = some (.inr (3, [.ref (fM f), .int (nI (sN S)), .ref (fF f), .ref (fP f), .int (sSp S), .int (sSh S)])) := by rw [hM_275, mw_ne _ _ ne_252]; exact f_272
          have f_277 : M_275 q_246 = some (.inl (gI G, 6, .inl (upd (upd (upd (upd (upd (upd (fun _ => 0) 0 (nI (fIx b))) 1 0) 2 0) 3 (nI (fIx z))) 4 (bW S (fIx b))) 5 (-(fs_da S (fIx st) ((bD S (fIx b)) + (pV S 3 12)) (fIx z)))))) := by rw [hM_275]; exact mw_self _ _ _
          have x_278 : mw_ext M M_275 := by rw [hM_275]; exact mw_ext.up x_274 n_250 _
          refine mw_callV (C := RX3) (As := [.int (((bW S (fIx b)) + (bW S (fIx z))) + (sSp S)), .ref q_246]) (rest := [.ref (f0 f)]) hx hb hml hown hl (kX3_enclosing l htr G H.size M_275 f S (fs_R.ext hR x_278) (fs_hXe x_278 hX) (fun q h => hAn q (Nat.le_trans hS.1 h)) q_246 (upd (upd (upd (upd (upd (upd (fun _ => 0) 0 (nI (fIx b))) 1 0) 2 0) 3 (nI (fIx z))) 4 (bW S (fIx b))) 5 (-(fs_da S (fIx st) ((bD S (fIx b)) + (pV S 3 12)) (fIx z)))) (((bW S (fIx b)) + (bW S (fIx z))) + (sSp S)) [(nI (fIx b)), 0, 0, (nI (fIx z)), (bW S (fIx b)), (-(fs_da S (fIx st) ((bD S (fIx b)) + (pV S 3 12)) (fIx z)))] f_277 (fun z => hX _ z n_250) (fun j hj => by rcases (show j = 0 ∨ j = 1 ∨ j = 2 ∨ j = 3 ∨ j = 4 ∨ j = 5 by simp at hj; omega) with rfl | rfl | rfl | rfl | rfl | rfl <;> rfl) (by simp) (by simp) (fun j hj => by
              rcases (show j = 0 ∨ j = 1 by simp at hj; omega) with rfl | rfl
              · exact ⟨(fIx b), h_b, rfl⟩
              · exact ⟨(fIx z), h_z, rfl⟩)) (g_B (n := 2) htb wd452 wd1 wd449 (by decide +kernel) ⟨Nat.le_of_ble_eq_true rfl, Nat.le_of_ble_eq_true rfl⟩) (htb _ wd451) (htb _ ws20) hE hP hS (fs_R.this (fs_R.ext hR x_278)) rfl rfl rfl (Nat.le_of_ble_eq_true rfl) dX3_signs_170 ⟨Nat.le_of_ble_eq_true rfl, Nat.le_of_ble_eq_true rfl⟩ (fun v9 M9 H locs hpo hP hz hS => ?_) (fun x9 E9 cell9 H9 locs9 hE9 => hE9.elim)
          obtain ⟨q_279, rfl, x_280, b_281⟩ := hpo
          obtain ⟨M_283, hM_283⟩ : ∃ z9 : mw_M, z9 = M9 := ⟨_, rfl⟩
          rw [← hM_283] at hP x_280 b_281
          have x_284 : mw_ext M M_283 := mw_ext.tr x_278 x_280
          have f_285 : M_283 (f0 f) = some (.inr (3, [.ref (fM f), .int (nI (sN S)), .ref (fF f), .ref (fP f), .int (sSp S), .int (sSh S)])) := x_280 _ _ f_276
          have f_286 : M_283 q_246 = some (.inl (gI G, 6, .inl (upd (upd (upd (upd (upd (upd (fun _ => 0) 0 (nI (fIx b))) 1 0) 2 0) 3 (nI (fIx z))) 4 (bW S (fIx b))) 5 (-(fs_da S (fIx st) ((bD S (fIx b)) + (pV S 3 12)) (fIx z)))))) := x_280 _ _ f_277
          refine W.eq (g2 := F0 m 173 ls [.ref q_279, .ref (f0 f)]) rfl ?_
          refine mw_callV (C := RX3) (As := [.ref q_279]) (rest := []) hx hb hml hown hl (kX3_keep l htr G H.size M_283 f S (fs_R.ext hR x_284) (rmk_lt k_6 hR.ok.1) q_279 (fs_en S (((bW S (fIx b)) + (bW S (fIx z))) + (sSp S)) [(nI (fIx b)), 0, 0, (nI (fIx z)), (bW S (fIx b)), (-(fs_da S (fIx st) ((bD S (fIx b)) + (pV S 3 12)) (fIx z)))]) b_281 (fs_pl2 (on_i h_b) (on_i h_z))) (g_B (n := 1) htb wd256 wd1 wd253 (by decide +kernel) ⟨Nat.le_of_ble_eq_true rfl, Nat.le_of_ble_eq_true rfl⟩) (htb _ wd255) (htb _ ws2) hE hP hS (fs_R.this (fs_R.ext hR x_284)) rfl rfl rfl (Nat.le_of_ble_eq_true rfl) dX3_signs_173 ⟨Nat.le_of_ble_eq_true rfl, Nat.le_of_ble_eq_true rfl⟩ (fun v9 M9 H locs hpo hP hz hS => ?_) (fun x9 E9 cell9 H9 locs9 hE9 => hE9.elim)
          obtain ⟨rfl, hR9, hk9⟩ := hpo
          refine W.eq (g2 := F0 m 176 ls [.int (nI (sN S))]) rfl ?_
          have hre : re_signs S st cr b lt a z = fs_en S (((bW S (fIx b)) + (bW S (fIx z))) + (sSp S)) [(nI (fIx b)), 0, 0, (nI (fIx z)), (bW S (fIx b)), (-(fs_da S (fIx st) ((bD S (fIx b)) + (pV S 3 12)) (fIx z)))] := by simp only [re_signs, si_u, si_v, if_neg c_7 , if_neg c_193 , if_pos c_194 , if_pos c_196]
          exact mx_iret (v := (nI (sN S))) (M' := M9) hx hb hr hlocks hP hS ⟨by rw [ex_lim, if_neg (fun z9 => z9 ⟨k_1, k_2, k_3⟩), if_neg (fun z9 => z9 ⟨k_4, k_5⟩), if_neg (fun z9 => z9 k_6)], rfl, by rw [hre]; exact hR9, fs_keeps.tr (fs_keeps.of x_284) hk9⟩ dX3_signs_176 (Nat.le_of_ble_eq_true rfl) (Nat.le_of_ble_eq_true rfl)
      · refine lv_iconst (v := 0) hx hb dX3_signs_54 (by decide) ?_
        refine lv_goto (tgt := 72) hx hb dX3_signs_55 (by decide) ?_
        refine lv_istore (lv' := [(8, .int 0), (7, .int 3), (0, .ref (f0 f)), (1, .int (nI (fIx st))), (2, .int cr), (3, .int (nI (fIx b))), (4, .int lt), (5, .int a), (6, .int z)]) hx hb dX3_signs_72 hl (by decide) rfl (fun ls hl => ?_)
        refine lv_iload hx hb dX3_signs_74 (lv_at hl 6 rfl) ?_
        refine lv_if_eq (tgt := 83) hx hb dX3_signs_76 (by decide) (fun c_287 => absurd c_287 c_194) (fun c_287 => ?_)
        refine lv_iconst (v := 0) hx hb dX3_signs_79 (by decide) ?_
        refine lv_goto (tgt := 97) hx hb dX3_signs_80 (by decide) ?_
        refine lv_istore (lv' := [(9, .int 0), (8, .int 0), (7, .int 3), (0, .ref (f0 f)), (1, .int (nI (fIx st))), (2, .int cr), (3, .int (nI (fIx b))), (4, .int lt), (5, .int a), (6, .int z)]) hx hb dX3_signs_97 hl (by decide) rfl (fun ls hl => ?_)
        refine lv_iload hx hb dX3_signs_99 (lv_at hl 8 rfl) ?_
        refine lv_iconst (v := (-1)) hx hb dX3_signs_101 (by decide) ?_
        refine lv_icmp_ne (tgt := 177) hx hb dX3_signs_102 (by decide) (fun c_288 => ?_) (fun c_288 => ?_)
        · have hb_a := k_2.resolve_left c_288
          have h_a := isB_lt hb_a hR.ok.1
          have e_a := fIx_of hb_a.1
          rw [e_a] at hl
          refine lv_aload_n hx hb dX3_signs_177 rfl (lv_at hl 3 rfl) ?_
          refine lv_iload_n hx hb dX3_signs_178 rfl (lv_at hl 4 rfl) ?_
          refine lv_iload_n hx hb dX3_signs_179 rfl (lv_at hl 5 rfl) ?_
          refine lv_iload hx hb dX3_signs_180 (lv_at hl 1 rfl) ?_
          refine lv_iload hx hb dX3_signs_182 (lv_at hl 8 rfl) ?_
          refine mw_callV (C := RX3) (As := [.int (nI (fIx st)), .int cr, .int 0, .int (nI (fIx a))]) (rest := []) hx hb hml hown hl (kX3_upShift l htr G H.size M f S hR (fIx st) h_st cr 0 (fIx a) h_a) (g_B (n := 4) htb wd456 wd1 wd453 (by decide +kernel) ⟨Nat.le_of_ble_eq_true rfl, Nat.le_of_ble_eq_true rfl⟩) (htb _ wd455) (htb _ ws21) hE hP hS (fs_R.this hR) rfl rfl rfl (Nat.le_of_ble_eq_true rfl) dX3_signs_184 ⟨Nat.le_of_ble_eq_true rfl, Nat.le_of_ble_eq_true rfl⟩ (fun v9 M9 H locs hpo hP hz hS => ?_) (fun x9 E9 cell9 H9 locs9 hE9 => hE9.elim)
          obtain ⟨rfl, rfl⟩ := hpo
          refine W.eq (g2 := F0 m 187 ls [.int (fs_us S (fIx st) cr 0 (fIx a))]) rfl ?_
          refine lv_istore (lv' := [(8, .int (fs_us S (fIx st) cr 0 (fIx a))), (9, .int 0), (7, .int 3), (0, .ref (f0 f)), (1, .int (nI (fIx st))), (2, .int cr), (3, .int (nI (fIx b))), (4, .int lt), (5, .int (nI (fIx a))), (6, .int z)]) hx hb dX3_signs_187 hl (by decide) rfl (fun ls hl => ?_)
          refine lv_iload hx hb dX3_signs_189 (lv_at hl 9 rfl) ?_
          refine lv_iconst (v := (-1)) hx hb dX3_signs_191 (by decide) ?_
          refine lv_icmp_ne (tgt := 255) hx hb dX3_signs_192 (by decide) (fun c_289 => ?_) (fun c_289 => ?_)
          · have hb_z := k_3.resolve_left c_289
            have h_z := isB_lt hb_z hR.ok.1
            have e_z := fIx_of hb_z.1
            rw [e_z] at hl
            refine lv_aload_n hx hb dX3_signs_255 rfl (lv_at hl 3 rfl) ?_
            refine lv_aload_n hx hb dX3_signs_256 rfl (lv_at hl 3 rfl) ?_
            refine lv_iload_n hx hb dX3_signs_257 rfl (lv_at hl 4 rfl) ?_
            refine lv_iload hx hb dX3_signs_258 (lv_at hl 0 rfl) ?_
            refine lv_iload hx hb dX3_signs_260 (lv_at hl 1 rfl) ?_
            refine lv_iload_n hx hb dX3_signs_262 rfl (lv_at hl 6 rfl) ?_
            refine lv_iload hx hb dX3_signs_263 (lv_at hl 8 rfl) ?_
            refine lv_iload hx hb dX3_signs_265 (lv_at hl 9 rfl) ?_
            refine mw_callV (C := RX3) (As := [.int (nI (fIx st)), .int (fs_us S (fIx st) cr 0 (fIx a)), .int 0, .int (nI (fIx b)), .int (nI (fIx a)), .int (nI (fIx z))]) (rest := [.ref (f0 f)]) hx hb hml hown hl (kX3_signsOnBothSides l htr G H.size M f S hR hX (fun q h => hAn q (Nat.le_trans hS.1 h)) (fIx st) h_st (fs_us S (fIx st) cr 0 (fIx a)) 0 (fIx b) (fIx a) (fIx z) h_b h_a h_z) (g_B (n := 6) htb wd460 wd1 wd457 (by decide +kernel) ⟨Nat.le_of_ble_eq_true rfl, Nat.le_of_ble_eq_true rfl⟩) (htb _ wd459) (htb _ ws22) hE hP hS (fs_R.this hR) rfl rfl rfl (Nat.le_of_ble_eq_true rfl) dX3_signs_267 ⟨Nat.le_of_ble_eq_true rfl, Nat.le_of_ble_eq_true rfl⟩ (fun v9 M9 H locs hpo hP hz hS => ?_) (fun x9 E9 cell9 H9 locs9 hE9 => hE9.elim)
            obtain ⟨q_290, rfl, x_291, b_292⟩ := hpo
            obtain ⟨M_294, hM_294⟩ : ∃ z9 : mw_M, z9 = M9 := ⟨_, rfl⟩
            rw [← hM_294] at hP x_291 b_292
            have x_295 : mw_ext M M_294 := mw_ext.tr (mw_ext.rf M) x_291
            have f_296 : M_294 (f0 f) = some (.inr (3, [.ref (fM f), .int (nI (sN S)), .ref (fF f), .ref (fP f), .int (sSp S), .int (sSh S)])) := x_291 _ _ (hR.this)
            refine W.eq (g2 := F0 m 270 ls [.ref q_290, .ref (f0 f)]) rfl ?_
            refine mw_callV (C := RX3) (As := [.ref q_290]) (rest := []) hx hb hml hown hl (kX3_keep l htr G H.size M_294 f S (fs_R.ext hR x_295) (rmk_lt k_6 hR.ok.1) q_290 (fs_sb S (fIx st) (fs_us S (fIx st) cr 0 (fIx a)) 0 (fIx b) (fIx a) (fIx z)) b_292 (fs_pl3 (on_i h_b) (on_i h_a) (on_i h_z))) (g_B (n := 1) htb wd256 wd1 wd253 (by decide +kernel) ⟨Nat.le_of_ble_eq_true rfl, Nat.le_of_ble_eq_true rfl⟩) (htb _ wd255) (htb _ ws2) hE hP hS (fs_R.this (fs_R.ext hR x_295)) rfl rfl rfl (Nat.le_of_ble_eq_true rfl) dX3_signs_270 ⟨Nat.le_of_ble_eq_true rfl, Nat.le_of_ble_eq_true rfl⟩ (fun v9 M9 H locs hpo hP hz hS => ?_) (fun x9 E9 cell9 H9 locs9 hE9 => hE9.elim)
            obtain ⟨rfl, hR9, hk9⟩ := hpo
            refine W.eq (g2 := F0 m 273 ls [.int (nI (sN S))]) rfl ?_
            have hre : re_signs S st cr b lt a z = fs_sb S (fIx st) (fs_us S (fIx st) cr 0 (fIx a)) 0 (fIx b) (fIx a) (fIx z) := by simp only [re_signs, si_u, si_v, if_neg c_7 , if_neg c_193 , if_neg c_194 , if_neg c_288 , if_neg c_289]
            exact mx_iret (v := (nI (sN S))) (M' := M9) hx hb hr hlocks hP hS ⟨by rw [ex_lim, if_neg (fun z9 => z9 ⟨k_1, k_2, k_3⟩), if_neg (fun z9 => z9 ⟨k_4, k_5⟩), if_neg (fun z9 => z9 k_6)], rfl, by rw [hre]; exact hR9, fs_keeps.tr (fs_keeps.of x_295) hk9⟩ dX3_signs_273 (Nat.le_of_ble_eq_true rfl) (Nat.le_of_ble_eq_true rfl)
          · refine lv_aload_n hx hb dX3_signs_195 rfl (lv_at hl 3 rfl) ?_
            refine lv_aload_n hx hb dX3_signs_196 rfl (lv_at hl 3 rfl) ?_
            refine lv_aload_n hx hb dX3_signs_197 rfl (lv_at hl 3 rfl) ?_
            refine lv_iload_n hx hb dX3_signs_198 rfl (lv_at hl 6 rfl) ?_
            refine mw_callV (C := RX3) (As := [.int (nI (fIx b))]) (rest := [.ref (f0 f), .ref (f0 f)]) hx hb hml hown hl (kX3_widthOf l htr G H.size M f S hR (fIx b) h_b) (g_B (n := 1) htb wd406 wd1 wd403 (by decide +kernel) ⟨Nat.le_of_ble_eq_true rfl, Nat.le_of_ble_eq_true rfl⟩) (htb _ wd405) (htb _ ws14) hE hP hS (fs_R.this hR) rfl rfl rfl (Nat.le_of_ble_eq_true rfl) dX3_signs_199 ⟨Nat.le_of_ble_eq_true rfl, Nat.le_of_ble_eq_true rfl⟩ (fun v9 M9 H locs hpo hP hz hS => ?_) (fun x9 E9 cell9 H9 locs9 hE9 => hE9.elim)
            obtain ⟨rfl, rfl⟩ := hpo
            refine W.eq (g2 := F0 m 202 ls [.int (bW S (fIx b)), .ref (f0 f), .ref (f0 f)]) rfl ?_
            refine lv_aload_n hx hb dX3_signs_202 rfl (lv_at hl 3 rfl) ?_
            refine lv_iload hx hb dX3_signs_203 (lv_at hl 8 rfl) ?_
            refine mw_callV (C := RX3) (As := [.int (nI (fIx a))]) (rest := [.int (bW S (fIx b)), .ref (f0 f), .ref (f0 f)]) hx hb hml hown hl (kX3_widthOf l htr G H.size M f S hR (fIx a) h_a) (g_B (n := 1) htb wd406 wd1 wd403 (by decide +kernel) ⟨Nat.le_of_ble_eq_true rfl, Nat.le_of_ble_eq_true rfl⟩) (htb _ wd405) (htb _ ws14) hE hP hS (fs_R.this hR) rfl rfl rfl (Nat.le_of_ble_eq_true rfl) dX3_signs_205 ⟨Nat.le_of_ble_eq_true rfl, Nat.le_of_ble_eq_true rfl⟩ (fun v9 M9 H locs hpo hP hz hS => ?_) (fun x9 E9 cell9 H9 locs9 hE9 => hE9.elim)
            obtain ⟨rfl, rfl⟩ := hpo
            refine W.eq (g2 := F0 m 208 ls [.int (bW S (fIx a)), .int (bW S (fIx b)), .ref (f0 f), .ref (f0 f)]) rfl ?_
            refine lv_iadd hx hb dX3_signs_208 ?_
            refine lv_aload_n hx hb dX3_signs_209 rfl (lv_at hl 3 rfl) ?_
            refine mw_get (D := gD G) (ci := 3) (v := .int (sSp S)) (C := RX3) (T := TX3) (N := 6) hx hb htb inX3 hown hK hP (hR.this) rfl 4 (by decide) (htb _ wd60) (fun _ h9 => h9) rfl dX3_signs_210 ?_
            refine lv_iadd hx hb dX3_signs_213 ?_
            refine lv_bipush (v := 6) hx hb dX3_signs_214 (by decide) ?_
            refine mw_newi (N := 6) hx hb (htb _ wd55) hK hP hS 0 rfl (by decide) (by decide) (by decide) (Nat.le_of_ble_eq_true rfl) (Nat.le_of_ble_eq_true rfl) dX3_signs_216 (fun q_297 H hq_298 hs_299 hP hS => ?_)
            obtain ⟨M_300, hM_300⟩ : ∃ z9 : mw_M, z9 = mw_up M q_297 (.inl (gI G, 6, .inl (fun _ => 0))) := ⟨_, rfl⟩
            have hP : mw_P (gD G) gx_cl M_300 H := by rw [hM_300]; exact hP
            have n_301 : M q_297 = none := mw_ext.no (mw_ext.rf M) hq_298
            have f_302 : M_300 (f0 f) = some (.inr (3, [.ref (fM f), .int (nI (sN S)), .ref (fF f), .ref (fP f), .int (sSp S), .int (sSh S)])) := by rw [hM_300, mw_ne _ _ (fun z => by have z1 := (hR.this); rw [z, hq_298] at z1; cases z1)]; exact (hR.this)
            have ne_303 : (f0 f) ≠ q_297 := fun z => by have z1 := (hR.this); rw [z, hq_298] at z1; cases z1
            have f_304 : M_300 q_297 = some (.inl (gI G, 6, .inl (fun _ => 0))) := by rw [hM_300]; exact mw_self _ _ _
            have x_305 : mw_ext M M_300 := by rw [hM_300]; exact mw_ext.up (mw_ext.rf M) n_301 _
            refine lv_dup hx hb dX3_signs_218 rfl ?_
            refine lv_iconst (v := 0) hx hb dX3_signs_219 (by decide) ?_
            refine lv_iload_n hx hb dX3_signs_220 rfl (lv_at hl 6 rfl) ?_
            refine mw_iast hx hb hK hP hS 0 f_304 (hAn _ hs_299) rfl (by unfold vp_in; decide) dX3_signs_221 (fun H locs hP hS => ?_)
            obtain ⟨M_306, hM_306⟩ : ∃ z9 : mw_M, z9 = mw_up M_300 q_297 (.inl (gI G, 6, .inl (upd (fun _ => 0) 0 (nI (fIx b))))) := ⟨_, rfl⟩
            have hP : mw_P (gD G) gx_cl M_306 H := by rw [hM_306]; exact hP
            have f_307 : M_306 (f0 f) = some (.inr (3, [.ref (fM f), .int (nI (sN S)), .ref (fF f), .ref (fP f), .int (sSp S), .int (sSh S)])) := by rw [hM_306, mw_ne _ _ ne_303]; exact f_302
            have f_308 : M_306 q_297 = some (.inl (gI G, 6, .inl (upd (fun _ => 0) 0 (nI (fIx b))))) := by rw [hM_306]; exact mw_self _ _ _
            have x_309 : mw_ext M M_306 := by rw [hM_306]; exact mw_ext.up x_305 n_301 _
            refine lv_dup hx hb dX3_signs_222 rfl ?_
            refine lv_iconst (v := 1) hx hb dX3_signs_223 (by decide) ?_
            refine lv_iconst (v := 0) hx hb dX3_signs_224 (by decide) ?_
            refine mw_iast hx hb hK hP hS 0 f_308 (hAn _ hs_299) rfl (by unfold vp_in; decide) dX3_signs_225 (fun H locs hP hS => ?_)
            obtain ⟨M_310, hM_310⟩ : ∃ z9 : mw_M, z9 = mw_up M_306 q_297 (.inl (gI G, 6, .inl (upd (upd (fun _ => 0) 0 (nI (fIx b))) 1 0))) := ⟨_, rfl⟩
            have hP : mw_P (gD G) gx_cl M_310 H := by rw [hM_310]; exact hP
            have f_311 : M_310 (f0 f) = some (.inr (3, [.ref (fM f), .int (nI (sN S)), .ref (fF f), .ref (fP f), .int (sSp S), .int (sSh S)])) := by rw [hM_310, mw_ne _ _ ne_303]; exact f_307
            have f_312 : M_310 q_297 = some (.inl (gI G, 6, .inl (upd (upd (fun _ => 0) 0 (nI (fIx b))) 1 0))) := by rw [hM_310]; exact mw_self _ _ _
            have x_313 : mw_ext M M_310 := by rw [hM_310]; exact mw_ext.up x_309 n_301 _
            refine lv_dup hx hb dX3_signs_226 rfl ?_
            refine lv_iconst (v := 2) hx hb dX3_signs_227 (by decide) ?_
            refine lv_iconst (v := 0) hx hb dX3_signs_228 (by decide) ?_
            refine mw_iast hx hb hK hP hS 0 f_312 (hAn _ hs_299) rfl (by unfold vp_in; decide) dX3_signs_229 (fun H locs hP hS => ?_)
            obtain ⟨M_314, hM_314⟩ : ∃ z9 : mw_M, z9 = mw_up M_310 q_297 (.inl (gI G, 6, .inl (upd (upd (upd (fun _ => 0) 0 (nI (fIx b))) 1 0) 2 0))) := ⟨_, rfl⟩
            have hP : mw_P (gD G) gx_cl M_314 H := by rw [hM_314]; exact hP
            have f_315 : M_314 (f0 f) = some (.inr (3, [.ref (fM f), .int (nI (sN S)), .ref (fF f), .ref (fP f), .int (sSp S), .int (sSh S)])) := by rw [hM_314, mw_ne _ _ ne_303]; exact f_311
            have f_316 : M_314 q_297 = some (.inl (gI G, 6, .inl (upd (upd (upd (fun _ => 0) 0 (nI (fIx b))) 1 0) 2 0))) := by rw [hM_314]; exact mw_self _ _ _
            have x_317 : mw_ext M M_314 := by rw [hM_314]; exact mw_ext.up x_313 n_301 _
            refine lv_dup hx hb dX3_signs_230 rfl ?_
            refine lv_iconst (v := 3) hx hb dX3_signs_231 (by decide) ?_
            refine lv_iload hx hb dX3_signs_232 (lv_at hl 8 rfl) ?_
            refine mw_iast hx hb hK hP hS 0 f_316 (hAn _ hs_299) rfl (by unfold vp_in; decide) dX3_signs_234 (fun H locs hP hS => ?_)
            obtain ⟨M_318, hM_318⟩ : ∃ z9 : mw_M, z9 = mw_up M_314 q_297 (.inl (gI G, 6, .inl (upd (upd (upd (upd (fun _ => 0) 0 (nI (fIx b))) 1 0) 2 0) 3 (nI (fIx a))))) := ⟨_, rfl⟩
            have hP : mw_P (gD G) gx_cl M_318 H := by rw [hM_318]; exact hP
            have f_319 : M_318 (f0 f) = some (.inr (3, [.ref (fM f), .int (nI (sN S)), .ref (fF f), .ref (fP f), .int (sSp S), .int (sSh S)])) := by rw [hM_318, mw_ne _ _ ne_303]; exact f_315
            have f_320 : M_318 q_297 = some (.inl (gI G, 6, .inl (upd (upd (upd (upd (fun _ => 0) 0 (nI (fIx b))) 1 0) 2 0) 3 (nI (fIx a))))) := by rw [hM_318]; exact mw_self _ _ _
            have x_321 : mw_ext M M_318 := by rw [hM_318]; exact mw_ext.up x_317 n_301 _
            refine lv_dup hx hb dX3_signs_235 rfl ?_
            refine lv_iconst (v := 4) hx hb dX3_signs_236 (by decide) ?_
            refine lv_aload_n hx hb dX3_signs_237 rfl (lv_at hl 3 rfl) ?_
            refine lv_iload_n hx hb dX3_signs_238 rfl (lv_at hl 6 rfl) ?_
            refine mw_callV (C := RX3) (As := [.int (nI (fIx b))]) (rest := [.int 4, .ref q_297, .ref q_297, .int (((bW S (fIx b)) + (bW S (fIx a))) + (sSp S)), .ref (f0 f), .ref (f0 f)]) hx hb hml hown hl (kX3_widthOf l htr G H.size M_318 f S (fs_R.ext hR x_321) (fIx b) h_b) (g_B (n := 1) htb wd406 wd1 wd403 (by decide +kernel) ⟨Nat.le_of_ble_eq_true rfl, Nat.le_of_ble_eq_true rfl⟩) (htb _ wd405) (htb _ ws14) hE hP hS (fs_R.this (fs_R.ext hR x_321)) rfl rfl rfl (Nat.le_of_ble_eq_true rfl) dX3_signs_239 ⟨Nat.le_of_ble_eq_true rfl, Nat.le_of_ble_eq_true rfl⟩ (fun v9 M9 H locs hpo hP hz hS => ?_) (fun x9 E9 cell9 H9 locs9 hE9 => hE9.elim)
            obtain ⟨rfl, rfl⟩ := hpo
            refine W.eq (g2 := F0 m 242 ls [.int (bW S (fIx b)), .int 4, .ref q_297, .ref q_297, .int (((bW S (fIx b)) + (bW S (fIx a))) + (sSp S)), .ref (f0 f), .ref (f0 f)]) rfl ?_
            refine mw_iast hx hb hK hP hS 0 f_320 (hAn _ hs_299) rfl (by unfold vp_in; decide) dX3_signs_242 (fun H locs hP hS => ?_)
            obtain ⟨M_322, hM_322⟩ : ∃ z9 : mw_M, z9 = mw_up M_318 q_297 (.inl (gI G, 6, .inl (upd (upd (upd (upd (upd (fun _ => 0) 0 (nI (fIx b))) 1 0) 2 0) 3 (nI (fIx a))) 4 (bW S (fIx b))))) := ⟨_, rfl⟩
            have hP : mw_P (gD G) gx_cl M_322 H := by rw [hM_322]; exact hP
            have f_323 : M_322 (f0 f) = some (.inr (3, [.ref (fM f), .int (nI (sN S)), .ref (fF f), .ref (fP f), .int (sSp S), .int (sSh S)])) := by rw [hM_322, mw_ne _ _ ne_303]; exact f_319
            have f_324 : M_322 q_297 = some (.inl (gI G, 6, .inl (upd (upd (upd (upd (upd (fun _ => 0) 0 (nI (fIx b))) 1 0) 2 0) 3 (nI (fIx a))) 4 (bW S (fIx b))))) := by rw [hM_322]; exact mw_self _ _ _
            have x_325 : mw_ext M M_322 := by rw [hM_322]; exact mw_ext.up x_321 n_301 _
            refine lv_dup hx hb dX3_signs_243 rfl ?_
            refine lv_iconst (v := 5) hx hb dX3_signs_244 (by decide) ?_
            refine lv_iload hx hb dX3_signs_245 (lv_at hl 0 rfl) ?_
            refine mw_iast hx hb hK hP hS 0 f_324 (hAn _ hs_299) rfl (by unfold vp_in; decide) dX3_signs_247 (fun H locs hP hS => ?_)
            obtain ⟨M_326, hM_326⟩ : ∃ z9 : mw_M, z9 = mw_up M_322 q_297 (.inl (gI G, 6, .inl (upd (upd (upd (upd (upd (upd (fun _ => 0) 0 (nI (fIx b))) 1 0) 2 0) 3 (nI (fIx a))) 4 (bW S (fIx b))) 5 (fs_us S (fIx st) cr 0 (fIx a))))) := ⟨_, rfl⟩
            have hP : mw_P (gD G) gx_cl M_326 H := by rw [hM_326]; exact hP
            have f_327 : M_326 (f0 f) = some (.inr (3, [.ref (fM f), .int (nI (sN S)), .ref (fF f), .ref (fP f), .int (sSp S), .int (sSh S)])) := by rw [hM_326, mw_ne _ _ ne_303]; exact f_323
            have f_328 : M_326 q_297 = some (.inl (gI G, 6, .inl (upd (upd (upd (upd (upd (upd (fun _ => 0) 0 (nI (fIx b))) 1 0) 2 0) 3 (nI (fIx a))) 4 (bW S (fIx b))) 5 (fs_us S (fIx st) cr 0 (fIx a))))) := by rw [hM_326]; exact mw_self _ _ _
            have x_329 : mw_ext M M_326 := by rw [hM_326]; exact mw_ext.up x_325 n_301 _
            refine mw_callV (C := RX3) (As := [.int (((bW S (fIx b)) + (bW S (fIx a))) + (sSp S)), .ref q_297]) (rest := [.ref (f0 f)]) hx hb hml hown hl (kX3_enclosing l htr G H.size M_326 f S (fs_R.ext hR x_329) (fs_hXe x_329 hX) (fun q h => hAn q (Nat.le_trans hS.1 h)) q_297 (upd (upd (upd (upd (upd (upd (fun _ => 0) 0 (nI (fIx b))) 1 0) 2 0) 3 (nI (fIx a))) 4 (bW S (fIx b))) 5 (fs_us S (fIx st) cr 0 (fIx a))) (((bW S (fIx b)) + (bW S (fIx a))) + (sSp S)) [(nI (fIx b)), 0, 0, (nI (fIx a)), (bW S (fIx b)), (fs_us S (fIx st) cr 0 (fIx a))] f_328 (fun z => hX _ z n_301) (fun j hj => by rcases (show j = 0 ∨ j = 1 ∨ j = 2 ∨ j = 3 ∨ j = 4 ∨ j = 5 by simp at hj; omega) with rfl | rfl | rfl | rfl | rfl | rfl <;> rfl) (by simp) (by simp) (fun j hj => by
                rcases (show j = 0 ∨ j = 1 by simp at hj; omega) with rfl | rfl
                · exact ⟨(fIx b), h_b, rfl⟩
                · exact ⟨(fIx a), h_a, rfl⟩)) (g_B (n := 2) htb wd452 wd1 wd449 (by decide +kernel) ⟨Nat.le_of_ble_eq_true rfl, Nat.le_of_ble_eq_true rfl⟩) (htb _ wd451) (htb _ ws20) hE hP hS (fs_R.this (fs_R.ext hR x_329)) rfl rfl rfl (Nat.le_of_ble_eq_true rfl) dX3_signs_248 ⟨Nat.le_of_ble_eq_true rfl, Nat.le_of_ble_eq_true rfl⟩ (fun v9 M9 H locs hpo hP hz hS => ?_) (fun x9 E9 cell9 H9 locs9 hE9 => hE9.elim)
            obtain ⟨q_330, rfl, x_331, b_332⟩ := hpo
            obtain ⟨M_334, hM_334⟩ : ∃ z9 : mw_M, z9 = M9 := ⟨_, rfl⟩
            rw [← hM_334] at hP x_331 b_332
            have x_335 : mw_ext M M_334 := mw_ext.tr x_329 x_331
            have f_336 : M_334 (f0 f) = some (.inr (3, [.ref (fM f), .int (nI (sN S)), .ref (fF f), .ref (fP f), .int (sSp S), .int (sSh S)])) := x_331 _ _ f_327
            have f_337 : M_334 q_297 = some (.inl (gI G, 6, .inl (upd (upd (upd (upd (upd (upd (fun _ => 0) 0 (nI (fIx b))) 1 0) 2 0) 3 (nI (fIx a))) 4 (bW S (fIx b))) 5 (fs_us S (fIx st) cr 0 (fIx a))))) := x_331 _ _ f_328
            refine W.eq (g2 := F0 m 251 ls [.ref q_330, .ref (f0 f)]) rfl ?_
            refine mw_callV (C := RX3) (As := [.ref q_330]) (rest := []) hx hb hml hown hl (kX3_keep l htr G H.size M_334 f S (fs_R.ext hR x_335) (rmk_lt k_6 hR.ok.1) q_330 (fs_en S (((bW S (fIx b)) + (bW S (fIx a))) + (sSp S)) [(nI (fIx b)), 0, 0, (nI (fIx a)), (bW S (fIx b)), (fs_us S (fIx st) cr 0 (fIx a))]) b_332 (fs_pl2 (on_i h_b) (on_i h_a))) (g_B (n := 1) htb wd256 wd1 wd253 (by decide +kernel) ⟨Nat.le_of_ble_eq_true rfl, Nat.le_of_ble_eq_true rfl⟩) (htb _ wd255) (htb _ ws2) hE hP hS (fs_R.this (fs_R.ext hR x_335)) rfl rfl rfl (Nat.le_of_ble_eq_true rfl) dX3_signs_251 ⟨Nat.le_of_ble_eq_true rfl, Nat.le_of_ble_eq_true rfl⟩ (fun v9 M9 H locs hpo hP hz hS => ?_) (fun x9 E9 cell9 H9 locs9 hE9 => hE9.elim)
            obtain ⟨rfl, hR9, hk9⟩ := hpo
            refine W.eq (g2 := F0 m 254 ls [.int (nI (sN S))]) rfl ?_
            have hre : re_signs S st cr b lt a z = fs_en S (((bW S (fIx b)) + (bW S (fIx a))) + (sSp S)) [(nI (fIx b)), 0, 0, (nI (fIx a)), (bW S (fIx b)), (fs_us S (fIx st) cr 0 (fIx a))] := by simp only [re_signs, si_u, si_v, if_neg c_7 , if_neg c_193 , if_neg c_194 , if_neg c_288 , if_pos c_289]
            exact mx_iret (v := (nI (sN S))) (M' := M9) hx hb hr hlocks hP hS ⟨by rw [ex_lim, if_neg (fun z9 => z9 ⟨k_1, k_2, k_3⟩), if_neg (fun z9 => z9 ⟨k_4, k_5⟩), if_neg (fun z9 => z9 k_6)], rfl, by rw [hre]; exact hR9, fs_keeps.tr (fs_keeps.of x_335) hk9⟩ dX3_signs_254 (Nat.le_of_ble_eq_true rfl) (Nat.le_of_ble_eq_true rfl)
        · have hz1 : ¬ z = (-1) := fun q => k_5 ⟨c_288, q⟩
          have hb_z := k_3.resolve_left hz1
          have h_z := isB_lt hb_z hR.ok.1
          have e_z := fIx_of hb_z.1
          rw [e_z] at hl
          refine lv_aload_n hx hb dX3_signs_105 rfl (lv_at hl 3 rfl) ?_
          refine lv_iload_n hx hb dX3_signs_106 rfl (lv_at hl 4 rfl) ?_
          refine lv_iload hx hb dX3_signs_107 (lv_at hl 0 rfl) ?_
          refine lv_iload hx hb dX3_signs_109 (lv_at hl 9 rfl) ?_
          refine mw_callV (C := RX3) (As := [.int (nI (fIx st)), .int 0, .int (nI (fIx z))]) (rest := []) hx hb hml hown hl (kX3_downAlone l htr G H.size M f S hR (fIx st) h_st 0 (fIx z) h_z) (g_B (n := 3) htb wd444 wd1 wd441 (by decide +kernel) ⟨Nat.le_of_ble_eq_true rfl, Nat.le_of_ble_eq_true rfl⟩) (htb _ wd443) (htb _ ws18) hE hP hS (fs_R.this hR) rfl rfl rfl (Nat.le_of_ble_eq_true rfl) dX3_signs_111 ⟨Nat.le_of_ble_eq_true rfl, Nat.le_of_ble_eq_true rfl⟩ (fun v9 M9 H locs hpo hP hz hS => ?_) (fun x9 E9 cell9 H9 locs9 hE9 => hE9.elim)
          obtain ⟨rfl, rfl⟩ := hpo
          refine W.eq (g2 := F0 m 114 ls [.int (fs_da S (fIx st) 0 (fIx z))]) rfl ?_
          refine lv_istore (lv' := [(9, .int (fs_da S (fIx st) 0 (fIx z))), (8, .int 0), (7, .int 3), (0, .ref (f0 f)), (1, .int (nI (fIx st))), (2, .int cr), (3, .int (nI (fIx b))), (4, .int lt), (5, .int a), (6, .int (nI (fIx z)))]) hx hb dX3_signs_114 hl (by decide) rfl (fun ls hl => ?_)
          refine lv_aload_n hx hb dX3_signs_116 rfl (lv_at hl 3 rfl) ?_
          refine lv_aload_n hx hb dX3_signs_117 rfl (lv_at hl 3 rfl) ?_
          refine lv_aload_n hx hb dX3_signs_118 rfl (lv_at hl 3 rfl) ?_
          refine lv_iload_n hx hb dX3_signs_119 rfl (lv_at hl 6 rfl) ?_
          refine mw_callV (C := RX3) (As := [.int (nI (fIx b))]) (rest := [.ref (f0 f), .ref (f0 f)]) hx hb hml hown hl (kX3_widthOf l htr G H.size M f S hR (fIx b) h_b) (g_B (n := 1) htb wd406 wd1 wd403 (by decide +kernel) ⟨Nat.le_of_ble_eq_true rfl, Nat.le_of_ble_eq_true rfl⟩) (htb _ wd405) (htb _ ws14) hE hP hS (fs_R.this hR) rfl rfl rfl (Nat.le_of_ble_eq_true rfl) dX3_signs_120 ⟨Nat.le_of_ble_eq_true rfl, Nat.le_of_ble_eq_true rfl⟩ (fun v9 M9 H locs hpo hP hz hS => ?_) (fun x9 E9 cell9 H9 locs9 hE9 => hE9.elim)
          obtain ⟨rfl, rfl⟩ := hpo
          refine W.eq (g2 := F0 m 123 ls [.int (bW S (fIx b)), .ref (f0 f), .ref (f0 f)]) rfl ?_
          refine lv_aload_n hx hb dX3_signs_123 rfl (lv_at hl 3 rfl) ?_
          refine lv_iload hx hb dX3_signs_124 (lv_at hl 9 rfl) ?_
          refine mw_callV (C := RX3) (As := [.int (nI (fIx z))]) (rest := [.int (bW S (fIx b)), .ref (f0 f), .ref (f0 f)]) hx hb hml hown hl (kX3_widthOf l htr G H.size M f S hR (fIx z) h_z) (g_B (n := 1) htb wd406 wd1 wd403 (by decide +kernel) ⟨Nat.le_of_ble_eq_true rfl, Nat.le_of_ble_eq_true rfl⟩) (htb _ wd405) (htb _ ws14) hE hP hS (fs_R.this hR) rfl rfl rfl (Nat.le_of_ble_eq_true rfl) dX3_signs_126 ⟨Nat.le_of_ble_eq_true rfl, Nat.le_of_ble_eq_true rfl⟩ (fun v9 M9 H locs hpo hP hz hS => ?_) (fun x9 E9 cell9 H9 locs9 hE9 => hE9.elim)
          obtain ⟨rfl, rfl⟩ := hpo
          refine W.eq (g2 := F0 m 129 ls [.int (bW S (fIx z)), .int (bW S (fIx b)), .ref (f0 f), .ref (f0 f)]) rfl ?_
          refine lv_iadd hx hb dX3_signs_129 ?_
          refine lv_aload_n hx hb dX3_signs_130 rfl (lv_at hl 3 rfl) ?_
          refine mw_get (D := gD G) (ci := 3) (v := .int (sSp S)) (C := RX3) (T := TX3) (N := 6) hx hb htb inX3 hown hK hP (hR.this) rfl 4 (by decide) (htb _ wd60) (fun _ h9 => h9) rfl dX3_signs_131 ?_
          refine lv_iadd hx hb dX3_signs_134 ?_
          refine lv_bipush (v := 6) hx hb dX3_signs_135 (by decide) ?_
          refine mw_newi (N := 6) hx hb (htb _ wd55) hK hP hS 0 rfl (by decide) (by decide) (by decide) (Nat.le_of_ble_eq_true rfl) (Nat.le_of_ble_eq_true rfl) dX3_signs_137 (fun q_338 H hq_339 hs_340 hP hS => ?_)
          obtain ⟨M_341, hM_341⟩ : ∃ z9 : mw_M, z9 = mw_up M q_338 (.inl (gI G, 6, .inl (fun _ => 0))) := ⟨_, rfl⟩
          have hP : mw_P (gD G) gx_cl M_341 H := by rw [hM_341]; exact hP
          have n_342 : M q_338 = none := mw_ext.no (mw_ext.rf M) hq_339
          have f_343 : M_341 (f0 f) = some (.inr (3, [.ref (fM f), .int (nI (sN S)), .ref (fF f), .ref (fP f), .int (sSp S), .int (sSh S)])) := by rw [hM_341, mw_ne _ _ (fun z => by have z1 := (hR.this); rw [z, hq_339] at z1; cases z1)]; exact (hR.this)
          have ne_344 : (f0 f) ≠ q_338 := fun z => by have z1 := (hR.this); rw [z, hq_339] at z1; cases z1
          have f_345 : M_341 q_338 = some (.inl (gI G, 6, .inl (fun _ => 0))) := by rw [hM_341]; exact mw_self _ _ _
          have x_346 : mw_ext M M_341 := by rw [hM_341]; exact mw_ext.up (mw_ext.rf M) n_342 _
          refine lv_dup hx hb dX3_signs_139 rfl ?_
          refine lv_iconst (v := 0) hx hb dX3_signs_140 (by decide) ?_
          refine lv_iload_n hx hb dX3_signs_141 rfl (lv_at hl 6 rfl) ?_
          refine mw_iast hx hb hK hP hS 0 f_345 (hAn _ hs_340) rfl (by unfold vp_in; decide) dX3_signs_142 (fun H locs hP hS => ?_)
          obtain ⟨M_347, hM_347⟩ : ∃ z9 : mw_M, z9 = mw_up M_341 q_338 (.inl (gI G, 6, .inl (upd (fun _ => 0) 0 (nI (fIx b))))) := ⟨_, rfl⟩
          have hP : mw_P (gD G) gx_cl M_347 H := by rw [hM_347]; exact hP
          have f_348 : M_347 (f0 f) = some (.inr (3, [.ref (fM f), .int (nI (sN S)), .ref (fF f), .ref (fP f), .int (sSp S), .int (sSh S)])) := by rw [hM_347, mw_ne _ _ ne_344]; exact f_343
          have f_349 : M_347 q_338 = some (.inl (gI G, 6, .inl (upd (fun _ => 0) 0 (nI (fIx b))))) := by rw [hM_347]; exact mw_self _ _ _
          have x_350 : mw_ext M M_347 := by rw [hM_347]; exact mw_ext.up x_346 n_342 _
          refine lv_dup hx hb dX3_signs_143 rfl ?_
          refine lv_iconst (v := 1) hx hb dX3_signs_144 (by decide) ?_
          refine lv_iconst (v := 0) hx hb dX3_signs_145 (by decide) ?_
          refine mw_iast hx hb hK hP hS 0 f_349 (hAn _ hs_340) rfl (by unfold vp_in; decide) dX3_signs_146 (fun H locs hP hS => ?_)
          obtain ⟨M_351, hM_351⟩ : ∃ z9 : mw_M, z9 = mw_up M_347 q_338 (.inl (gI G, 6, .inl (upd (upd (fun _ => 0) 0 (nI (fIx b))) 1 0))) := ⟨_, rfl⟩
          have hP : mw_P (gD G) gx_cl M_351 H := by rw [hM_351]; exact hP
          have f_352 : M_351 (f0 f) = some (.inr (3, [.ref (fM f), .int (nI (sN S)), .ref (fF f), .ref (fP f), .int (sSp S), .int (sSh S)])) := by rw [hM_351, mw_ne _ _ ne_344]; exact f_348
          have f_353 : M_351 q_338 = some (.inl (gI G, 6, .inl (upd (upd (fun _ => 0) 0 (nI (fIx b))) 1 0))) := by rw [hM_351]; exact mw_self _ _ _
          have x_354 : mw_ext M M_351 := by rw [hM_351]; exact mw_ext.up x_350 n_342 _
          refine lv_dup hx hb dX3_signs_147 rfl ?_
          refine lv_iconst (v := 2) hx hb dX3_signs_148 (by decide) ?_
          refine lv_iconst (v := 0) hx hb dX3_signs_149 (by decide) ?_
          refine mw_iast hx hb hK hP hS 0 f_353 (hAn _ hs_340) rfl (by unfold vp_in; decide) dX3_signs_150 (fun H locs hP hS => ?_)
          obtain ⟨M_355, hM_355⟩ : ∃ z9 : mw_M, z9 = mw_up M_351 q_338 (.inl (gI G, 6, .inl (upd (upd (upd (fun _ => 0) 0 (nI (fIx b))) 1 0) 2 0))) := ⟨_, rfl⟩
          have hP : mw_P (gD G) gx_cl M_355 H := by rw [hM_355]; exact hP
          have f_356 : M_355 (f0 f) = some (.inr (3, [.ref (fM f), .int (nI (sN S)), .ref (fF f), .ref (fP f), .int (sSp S), .int (sSh S)])) := by rw [hM_355, mw_ne _ _ ne_344]; exact f_352
          have f_357 : M_355 q_338 = some (.inl (gI G, 6, .inl (upd (upd (upd (fun _ => 0) 0 (nI (fIx b))) 1 0) 2 0))) := by rw [hM_355]; exact mw_self _ _ _
          have x_358 : mw_ext M M_355 := by rw [hM_355]; exact mw_ext.up x_354 n_342 _
          refine lv_dup hx hb dX3_signs_151 rfl ?_
          refine lv_iconst (v := 3) hx hb dX3_signs_152 (by decide) ?_
          refine lv_iload hx hb dX3_signs_153 (lv_at hl 9 rfl) ?_
          refine mw_iast hx hb hK hP hS 0 f_357 (hAn _ hs_340) rfl (by unfold vp_in; decide) dX3_signs_155 (fun H locs hP hS => ?_)
          obtain ⟨M_359, hM_359⟩ : ∃ z9 : mw_M, z9 = mw_up M_355 q_338 (.inl (gI G, 6, .inl (upd (upd (upd (upd (fun _ => 0) 0 (nI (fIx b))) 1 0) 2 0) 3 (nI (fIx z))))) := ⟨_, rfl⟩
          have hP : mw_P (gD G) gx_cl M_359 H := by rw [hM_359]; exact hP
          have f_360 : M_359 (f0 f) = some (.inr (3, [.ref (fM f), .int (nI (sN S)), .ref (fF f), .ref (fP f), .int (sSp S), .int (sSh S)])) := by rw [hM_359, mw_ne _ _ ne_344]; exact f_356
          have f_361 : M_359 q_338 = some (.inl (gI G, 6, .inl (upd (upd (upd (upd (fun _ => 0) 0 (nI (fIx b))) 1 0) 2 0) 3 (nI (fIx z))))) := by rw [hM_359]; exact mw_self _ _ _
          have x_362 : mw_ext M M_359 := by rw [hM_359]; exact mw_ext.up x_358 n_342 _
          refine lv_dup hx hb dX3_signs_156 rfl ?_
          refine lv_iconst (v := 4) hx hb dX3_signs_157 (by decide) ?_
          refine lv_aload_n hx hb dX3_signs_158 rfl (lv_at hl 3 rfl) ?_
          refine lv_iload_n hx hb dX3_signs_159 rfl (lv_at hl 6 rfl) ?_
          refine mw_callV (C := RX3) (As := [.int (nI (fIx b))]) (rest := [.int 4, .ref q_338, .ref q_338, .int (((bW S (fIx b)) + (bW S (fIx z))) + (sSp S)), .ref (f0 f), .ref (f0 f)]) hx hb hml hown hl (kX3_widthOf l htr G H.size M_359 f S (fs_R.ext hR x_362) (fIx b) h_b) (g_B (n := 1) htb wd406 wd1 wd403 (by decide +kernel) ⟨Nat.le_of_ble_eq_true rfl, Nat.le_of_ble_eq_true rfl⟩) (htb _ wd405) (htb _ ws14) hE hP hS (fs_R.this (fs_R.ext hR x_362)) rfl rfl rfl (Nat.le_of_ble_eq_true rfl) dX3_signs_160 ⟨Nat.le_of_ble_eq_true rfl, Nat.le_of_ble_eq_true rfl⟩ (fun v9 M9 H locs hpo hP hz hS => ?_) (fun x9 E9 cell9 H9 locs9 hE9 => hE9.elim)
          obtain ⟨rfl, rfl⟩ := hpo
          refine W.eq (g2 := F0 m 163 ls [.int (bW S (fIx b)), .int 4, .ref q_338, .ref q_338, .int (((bW S (fIx b)) + (bW S (fIx z))) + (sSp S)), .ref (f0 f), .ref (f0 f)]) rfl ?_
          refine mw_iast hx hb hK hP hS 0 f_361 (hAn _ hs_340) rfl (by unfold vp_in; decide) dX3_signs_163 (fun H locs hP hS => ?_)
          obtain ⟨M_363, hM_363⟩ : ∃ z9 : mw_M, z9 = mw_up M_359 q_338 (.inl (gI G, 6, .inl (upd (upd (upd (upd (upd (fun _ => 0) 0 (nI (fIx b))) 1 0) 2 0) 3 (nI (fIx z))) 4 (bW S (fIx b))))) := ⟨_, rfl⟩
          have hP : mw_P (gD G) gx_cl M_363 H := by rw [hM_363]; exact hP
          have f_364 : M_363 (f0 f) = some (.inr (3, [.ref (fM f), .int (nI (sN S)), .ref (fF f), .ref (fP f), .int (sSp S), .int (sSh S)])) := by rw [hM_363, mw_ne _ _ ne_344]; exact f_360
          have f_365 : M_363 q_338 = some (.inl (gI G, 6, .inl (upd (upd (upd (upd (upd (fun _ => 0) 0 (nI (fIx b))) 1 0) 2 0) 3 (nI (fIx z))) 4 (bW S (fIx b))))) := by rw [hM_363]; exact mw_self _ _ _
          have x_366 : mw_ext M M_363 := by rw [hM_363]; exact mw_ext.up x_362 n_342 _
          refine lv_dup hx hb dX3_signs_164 rfl ?_
          refine lv_iconst (v := 5) hx hb dX3_signs_165 (by decide) ?_
          refine lv_iload hx hb dX3_signs_166 (lv_at hl 0 rfl) ?_
          refine lv_ineg hx hb dX3_signs_168 ?_
          refine mw_iast hx hb hK hP hS 0 f_365 (hAn _ hs_340) rfl (by unfold vp_in; decide) dX3_signs_169 (fun H locs hP hS => ?_)
          obtain ⟨M_367, hM_367⟩ : ∃ z9 : mw_M, z9 = mw_up M_363 q_338 (.inl (gI G, 6, .inl (upd (upd (upd (upd (upd (upd (fun _ => 0) 0 (nI (fIx b))) 1 0) 2 0) 3 (nI (fIx z))) 4 (bW S (fIx b))) 5 (-(fs_da S (fIx st) 0 (fIx z)))))) := ⟨_, rfl⟩
          have hP : mw_P (gD G) gx_cl M_367 H := by rw [hM_367]; exact hP
          have f_368 : M_367 (f0 f) = some (.inr (3, [.ref (fM f), .int (nI (sN S)), .ref (fF f), .ref (fP f), .int (sSp S), .int (sSh S)])) := by rw [hM_367, mw_ne _ _ ne_344]; exact f_364
          have f_369 : M_367 q_338 = some (.inl (gI G, 6, .inl (upd (upd (upd (upd (upd (upd (fun _ => 0) 0 (nI (fIx b))) 1 0) 2 0) 3 (nI (fIx z))) 4 (bW S (fIx b))) 5 (-(fs_da S (fIx st) 0 (fIx z)))))) := by rw [hM_367]; exact mw_self _ _ _
          have x_370 : mw_ext M M_367 := by rw [hM_367]; exact mw_ext.up x_366 n_342 _
          refine mw_callV (C := RX3) (As := [.int (((bW S (fIx b)) + (bW S (fIx z))) + (sSp S)), .ref q_338]) (rest := [.ref (f0 f)]) hx hb hml hown hl (kX3_enclosing l htr G H.size M_367 f S (fs_R.ext hR x_370) (fs_hXe x_370 hX) (fun q h => hAn q (Nat.le_trans hS.1 h)) q_338 (upd (upd (upd (upd (upd (upd (fun _ => 0) 0 (nI (fIx b))) 1 0) 2 0) 3 (nI (fIx z))) 4 (bW S (fIx b))) 5 (-(fs_da S (fIx st) 0 (fIx z)))) (((bW S (fIx b)) + (bW S (fIx z))) + (sSp S)) [(nI (fIx b)), 0, 0, (nI (fIx z)), (bW S (fIx b)), (-(fs_da S (fIx st) 0 (fIx z)))] f_369 (fun z => hX _ z n_342) (fun j hj => by rcases (show j = 0 ∨ j = 1 ∨ j = 2 ∨ j = 3 ∨ j = 4 ∨ j = 5 by simp at hj; omega) with rfl | rfl | rfl | rfl | rfl | rfl <;> rfl) (by simp) (by simp) (fun j hj => by
              rcases (show j = 0 ∨ j = 1 by simp at hj; omega) with rfl | rfl
              · exact ⟨(fIx b), h_b, rfl⟩
              · exact ⟨(fIx z), h_z, rfl⟩)) (g_B (n := 2) htb wd452 wd1 wd449 (by decide +kernel) ⟨Nat.le_of_ble_eq_true rfl, Nat.le_of_ble_eq_true rfl⟩) (htb _ wd451) (htb _ ws20) hE hP hS (fs_R.this (fs_R.ext hR x_370)) rfl rfl rfl (Nat.le_of_ble_eq_true rfl) dX3_signs_170 ⟨Nat.le_of_ble_eq_true rfl, Nat.le_of_ble_eq_true rfl⟩ (fun v9 M9 H locs hpo hP hz hS => ?_) (fun x9 E9 cell9 H9 locs9 hE9 => hE9.elim)
          obtain ⟨q_371, rfl, x_372, b_373⟩ := hpo
          obtain ⟨M_375, hM_375⟩ : ∃ z9 : mw_M, z9 = M9 := ⟨_, rfl⟩
          rw [← hM_375] at hP x_372 b_373
          have x_376 : mw_ext M M_375 := mw_ext.tr x_370 x_372
          have f_377 : M_375 (f0 f) = some (.inr (3, [.ref (fM f), .int (nI (sN S)), .ref (fF f), .ref (fP f), .int (sSp S), .int (sSh S)])) := x_372 _ _ f_368
          have f_378 : M_375 q_338 = some (.inl (gI G, 6, .inl (upd (upd (upd (upd (upd (upd (fun _ => 0) 0 (nI (fIx b))) 1 0) 2 0) 3 (nI (fIx z))) 4 (bW S (fIx b))) 5 (-(fs_da S (fIx st) 0 (fIx z)))))) := x_372 _ _ f_369
          refine W.eq (g2 := F0 m 173 ls [.ref q_371, .ref (f0 f)]) rfl ?_
          refine mw_callV (C := RX3) (As := [.ref q_371]) (rest := []) hx hb hml hown hl (kX3_keep l htr G H.size M_375 f S (fs_R.ext hR x_376) (rmk_lt k_6 hR.ok.1) q_371 (fs_en S (((bW S (fIx b)) + (bW S (fIx z))) + (sSp S)) [(nI (fIx b)), 0, 0, (nI (fIx z)), (bW S (fIx b)), (-(fs_da S (fIx st) 0 (fIx z)))]) b_373 (fs_pl2 (on_i h_b) (on_i h_z))) (g_B (n := 1) htb wd256 wd1 wd253 (by decide +kernel) ⟨Nat.le_of_ble_eq_true rfl, Nat.le_of_ble_eq_true rfl⟩) (htb _ wd255) (htb _ ws2) hE hP hS (fs_R.this (fs_R.ext hR x_376)) rfl rfl rfl (Nat.le_of_ble_eq_true rfl) dX3_signs_173 ⟨Nat.le_of_ble_eq_true rfl, Nat.le_of_ble_eq_true rfl⟩ (fun v9 M9 H locs hpo hP hz hS => ?_) (fun x9 E9 cell9 H9 locs9 hE9 => hE9.elim)
          obtain ⟨rfl, hR9, hk9⟩ := hpo
          refine W.eq (g2 := F0 m 176 ls [.int (nI (sN S))]) rfl ?_
          have hre : re_signs S st cr b lt a z = fs_en S (((bW S (fIx b)) + (bW S (fIx z))) + (sSp S)) [(nI (fIx b)), 0, 0, (nI (fIx z)), (bW S (fIx b)), (-(fs_da S (fIx st) 0 (fIx z)))] := by simp only [re_signs, si_u, si_v, if_neg c_7 , if_neg c_193 , if_neg c_194 , if_pos c_288]
          exact mx_iret (v := (nI (sN S))) (M' := M9) hx hb hr hlocks hP hS ⟨by rw [ex_lim, if_neg (fun z9 => z9 ⟨k_1, k_2, k_3⟩), if_neg (fun z9 => z9 ⟨k_4, k_5⟩), if_neg (fun z9 => z9 k_6)], rfl, by rw [hre]; exact hR9, fs_keeps.tr (fs_keeps.of x_376) hk9⟩ dX3_signs_176 (Nat.le_of_ble_eq_true rfl) (Nat.le_of_ble_eq_true rfl)
    · refine lv_iconst (v := 2) hx hb dX3_signs_42 (by decide) ?_
      refine lv_goto (tgt := 47) hx hb dX3_signs_43 (by decide) ?_
      refine lv_istore (lv' := [(7, .int 2), (0, .ref (f0 f)), (1, .int (nI (fIx st))), (2, .int cr), (3, .int (nI (fIx b))), (4, .int lt), (5, .int a), (6, .int z)]) hx hb dX3_signs_47 hl (by decide) rfl (fun ls hl => ?_)
      refine lv_iload hx hb dX3_signs_49 (lv_at hl 5 rfl) ?_
      refine lv_if_eq (tgt := 58) hx hb dX3_signs_51 (by decide) (fun c_379 => ?_) (fun c_379 => ?_)
      · refine lv_aload_n hx hb dX3_signs_58 rfl (lv_at hl 1 rfl) ?_
        refine lv_iload_n hx hb dX3_signs_59 rfl (lv_at hl 4 rfl) ?_
        refine mw_callV (C := RX3) (As := [.int (nI (fIx b))]) (rest := []) hx hb hml hown hl (kX3_heightOf l htr G H.size M f S hR (fIx b) h_b) (g_B (n := 1) htb wd402 wd1 wd399 (by decide +kernel) ⟨Nat.le_of_ble_eq_true rfl, Nat.le_of_ble_eq_true rfl⟩) (htb _ wd401) (htb _ ws13) hE hP hS (fs_R.this hR) rfl rfl rfl (Nat.le_of_ble_eq_true rfl) dX3_signs_60 ⟨Nat.le_of_ble_eq_true rfl, Nat.le_of_ble_eq_true rfl⟩ (fun v9 M9 H locs hpo hP hz hS => ?_) (fun x9 E9 cell9 H9 locs9 hE9 => hE9.elim)
        obtain ⟨rfl, rfl⟩ := hpo
        refine W.eq (g2 := F0 m 63 ls [.int (bH S (fIx b))]) rfl ?_
        refine lv_aload_n hx hb dX3_signs_63 rfl (lv_at hl 1 rfl) ?_
        refine lv_iload hx hb dX3_signs_64 (lv_at hl 0 rfl) ?_
        refine lv_bipush (v := 11) hx hb dX3_signs_66 (by decide) ?_
        refine mw_callV (C := RX3) (As := [.int 2, .int 11]) (rest := [.int (bH S (fIx b))]) hx hb hml hown hl (kX3_valueOf l htr G H.size M f S hR 2 11 (by decide) (by decide)) (g_B (n := 2) htb wd390 wd1 wd387 (by decide +kernel) ⟨Nat.le_of_ble_eq_true rfl, Nat.le_of_ble_eq_true rfl⟩) (htb _ wd389) (htb _ ws11) hE hP hS (fs_R.this hR) rfl rfl rfl (Nat.le_of_ble_eq_true rfl) dX3_signs_68 ⟨Nat.le_of_ble_eq_true rfl, Nat.le_of_ble_eq_true rfl⟩ (fun v9 M9 H locs hpo hP hz hS => ?_) (fun x9 E9 cell9 H9 locs9 hE9 => hE9.elim)
        obtain ⟨rfl, rfl⟩ := hpo
        refine W.eq (g2 := F0 m 71 ls [.int (pV S 2 11), .int (bH S (fIx b))]) rfl ?_
        refine lv_isub hx hb dX3_signs_71 ?_
        refine lv_istore (lv' := [(8, .int ((bH S (fIx b)) - (pV S 2 11))), (7, .int 2), (0, .ref (f0 f)), (1, .int (nI (fIx st))), (2, .int cr), (3, .int (nI (fIx b))), (4, .int lt), (5, .int a), (6, .int z)]) hx hb dX3_signs_72 hl (by decide) rfl (fun ls hl => ?_)
        refine lv_iload hx hb dX3_signs_74 (lv_at hl 6 rfl) ?_
        refine lv_if_eq (tgt := 83) hx hb dX3_signs_76 (by decide) (fun c_380 => ?_) (fun c_380 => absurd c_379 c_380)
        refine lv_aload_n hx hb dX3_signs_83 rfl (lv_at hl 2 rfl) ?_
        refine lv_iload_n hx hb dX3_signs_84 rfl (lv_at hl 5 rfl) ?_
        refine mw_callV (C := RX3) (As := [.int (nI (fIx b))]) (rest := []) hx hb hml hown hl (kX3_depthOf l htr G H.size M f S hR (fIx b) h_b) (g_B (n := 1) htb wd397 wd1 wd394 (by decide +kernel) ⟨Nat.le_of_ble_eq_true rfl, Nat.le_of_ble_eq_true rfl⟩) (htb _ wd396) (htb _ ws12) hE hP hS (fs_R.this hR) rfl rfl rfl (Nat.le_of_ble_eq_true rfl) dX3_signs_85 ⟨Nat.le_of_ble_eq_true rfl, Nat.le_of_ble_eq_true rfl⟩ (fun v9 M9 H locs hpo hP hz hS => ?_) (fun x9 E9 cell9 H9 locs9 hE9 => hE9.elim)
        obtain ⟨rfl, rfl⟩ := hpo
        refine W.eq (g2 := F0 m 88 ls [.int (bD S (fIx b))]) rfl ?_
        refine lv_aload_n hx hb dX3_signs_88 rfl (lv_at hl 2 rfl) ?_
        refine lv_iload hx hb dX3_signs_89 (lv_at hl 1 rfl) ?_
        refine lv_bipush (v := 12) hx hb dX3_signs_91 (by decide) ?_
        refine mw_callV (C := RX3) (As := [.int 2, .int 12]) (rest := [.int (bD S (fIx b))]) hx hb hml hown hl (kX3_valueOf l htr G H.size M f S hR 2 12 (by decide) (by decide)) (g_B (n := 2) htb wd390 wd1 wd387 (by decide +kernel) ⟨Nat.le_of_ble_eq_true rfl, Nat.le_of_ble_eq_true rfl⟩) (htb _ wd389) (htb _ ws11) hE hP hS (fs_R.this hR) rfl rfl rfl (Nat.le_of_ble_eq_true rfl) dX3_signs_93 ⟨Nat.le_of_ble_eq_true rfl, Nat.le_of_ble_eq_true rfl⟩ (fun v9 M9 H locs hpo hP hz hS => ?_) (fun x9 E9 cell9 H9 locs9 hE9 => hE9.elim)
        obtain ⟨rfl, rfl⟩ := hpo
        refine W.eq (g2 := F0 m 96 ls [.int (pV S 2 12), .int (bD S (fIx b))]) rfl ?_
        refine lv_iadd hx hb dX3_signs_96 ?_
        refine lv_istore (lv' := [(9, .int ((bD S (fIx b)) + (pV S 2 12))), (8, .int ((bH S (fIx b)) - (pV S 2 11))), (7, .int 2), (0, .ref (f0 f)), (1, .int (nI (fIx st))), (2, .int cr), (3, .int (nI (fIx b))), (4, .int lt), (5, .int a), (6, .int z)]) hx hb dX3_signs_97 hl (by decide) rfl (fun ls hl => ?_)
        refine lv_iload hx hb dX3_signs_99 (lv_at hl 8 rfl) ?_
        refine lv_iconst (v := (-1)) hx hb dX3_signs_101 (by decide) ?_
        refine lv_icmp_ne (tgt := 177) hx hb dX3_signs_102 (by decide) (fun c_381 => ?_) (fun c_381 => ?_)
        · have hb_a := k_2.resolve_left c_381
          have h_a := isB_lt hb_a hR.ok.1
          have e_a := fIx_of hb_a.1
          rw [e_a] at hl
          refine lv_aload_n hx hb dX3_signs_177 rfl (lv_at hl 3 rfl) ?_
          refine lv_iload_n hx hb dX3_signs_178 rfl (lv_at hl 4 rfl) ?_
          refine lv_iload_n hx hb dX3_signs_179 rfl (lv_at hl 5 rfl) ?_
          refine lv_iload hx hb dX3_signs_180 (lv_at hl 1 rfl) ?_
          refine lv_iload hx hb dX3_signs_182 (lv_at hl 8 rfl) ?_
          refine mw_callV (C := RX3) (As := [.int (nI (fIx st)), .int cr, .int ((bH S (fIx b)) - (pV S 2 11)), .int (nI (fIx a))]) (rest := []) hx hb hml hown hl (kX3_upShift l htr G H.size M f S hR (fIx st) h_st cr ((bH S (fIx b)) - (pV S 2 11)) (fIx a) h_a) (g_B (n := 4) htb wd456 wd1 wd453 (by decide +kernel) ⟨Nat.le_of_ble_eq_true rfl, Nat.le_of_ble_eq_true rfl⟩) (htb _ wd455) (htb _ ws21) hE hP hS (fs_R.this hR) rfl rfl rfl (Nat.le_of_ble_eq_true rfl) dX3_signs_184 ⟨Nat.le_of_ble_eq_true rfl, Nat.le_of_ble_eq_true rfl⟩ (fun v9 M9 H locs hpo hP hz hS => ?_) (fun x9 E9 cell9 H9 locs9 hE9 => hE9.elim)
          obtain ⟨rfl, rfl⟩ := hpo
          refine W.eq (g2 := F0 m 187 ls [.int (fs_us S (fIx st) cr ((bH S (fIx b)) - (pV S 2 11)) (fIx a))]) rfl ?_
          refine lv_istore (lv' := [(8, .int (fs_us S (fIx st) cr ((bH S (fIx b)) - (pV S 2 11)) (fIx a))), (9, .int ((bD S (fIx b)) + (pV S 2 12))), (7, .int 2), (0, .ref (f0 f)), (1, .int (nI (fIx st))), (2, .int cr), (3, .int (nI (fIx b))), (4, .int lt), (5, .int (nI (fIx a))), (6, .int z)]) hx hb dX3_signs_187 hl (by decide) rfl (fun ls hl => ?_)
          refine lv_iload hx hb dX3_signs_189 (lv_at hl 9 rfl) ?_
          refine lv_iconst (v := (-1)) hx hb dX3_signs_191 (by decide) ?_
          refine lv_icmp_ne (tgt := 255) hx hb dX3_signs_192 (by decide) (fun c_382 => ?_) (fun c_382 => ?_)
          · have hb_z := k_3.resolve_left c_382
            have h_z := isB_lt hb_z hR.ok.1
            have e_z := fIx_of hb_z.1
            rw [e_z] at hl
            refine lv_aload_n hx hb dX3_signs_255 rfl (lv_at hl 3 rfl) ?_
            refine lv_aload_n hx hb dX3_signs_256 rfl (lv_at hl 3 rfl) ?_
            refine lv_iload_n hx hb dX3_signs_257 rfl (lv_at hl 4 rfl) ?_
            refine lv_iload hx hb dX3_signs_258 (lv_at hl 0 rfl) ?_
            refine lv_iload hx hb dX3_signs_260 (lv_at hl 1 rfl) ?_
            refine lv_iload_n hx hb dX3_signs_262 rfl (lv_at hl 6 rfl) ?_
            refine lv_iload hx hb dX3_signs_263 (lv_at hl 8 rfl) ?_
            refine lv_iload hx hb dX3_signs_265 (lv_at hl 9 rfl) ?_
            refine mw_callV (C := RX3) (As := [.int (nI (fIx st)), .int (fs_us S (fIx st) cr ((bH S (fIx b)) - (pV S 2 11)) (fIx a)), .int ((bD S (fIx b)) + (pV S 2 12)), .int (nI (fIx b)), .int (nI (fIx a)), .int (nI (fIx z))]) (rest := [.ref (f0 f)]) hx hb hml hown hl (kX3_signsOnBothSides l htr G H.size M f S hR hX (fun q h => hAn q (Nat.le_trans hS.1 h)) (fIx st) h_st (fs_us S (fIx st) cr ((bH S (fIx b)) - (pV S 2 11)) (fIx a)) ((bD S (fIx b)) + (pV S 2 12)) (fIx b) (fIx a) (fIx z) h_b h_a h_z) (g_B (n := 6) htb wd460 wd1 wd457 (by decide +kernel) ⟨Nat.le_of_ble_eq_true rfl, Nat.le_of_ble_eq_true rfl⟩) (htb _ wd459) (htb _ ws22) hE hP hS (fs_R.this hR) rfl rfl rfl (Nat.le_of_ble_eq_true rfl) dX3_signs_267 ⟨Nat.le_of_ble_eq_true rfl, Nat.le_of_ble_eq_true rfl⟩ (fun v9 M9 H locs hpo hP hz hS => ?_) (fun x9 E9 cell9 H9 locs9 hE9 => hE9.elim)
            obtain ⟨q_383, rfl, x_384, b_385⟩ := hpo
            obtain ⟨M_387, hM_387⟩ : ∃ z9 : mw_M, z9 = M9 := ⟨_, rfl⟩
            rw [← hM_387] at hP x_384 b_385
            have x_388 : mw_ext M M_387 := mw_ext.tr (mw_ext.rf M) x_384
            have f_389 : M_387 (f0 f) = some (.inr (3, [.ref (fM f), .int (nI (sN S)), .ref (fF f), .ref (fP f), .int (sSp S), .int (sSh S)])) := x_384 _ _ (hR.this)
            refine W.eq (g2 := F0 m 270 ls [.ref q_383, .ref (f0 f)]) rfl ?_
            refine mw_callV (C := RX3) (As := [.ref q_383]) (rest := []) hx hb hml hown hl (kX3_keep l htr G H.size M_387 f S (fs_R.ext hR x_388) (rmk_lt k_6 hR.ok.1) q_383 (fs_sb S (fIx st) (fs_us S (fIx st) cr ((bH S (fIx b)) - (pV S 2 11)) (fIx a)) ((bD S (fIx b)) + (pV S 2 12)) (fIx b) (fIx a) (fIx z)) b_385 (fs_pl3 (on_i h_b) (on_i h_a) (on_i h_z))) (g_B (n := 1) htb wd256 wd1 wd253 (by decide +kernel) ⟨Nat.le_of_ble_eq_true rfl, Nat.le_of_ble_eq_true rfl⟩) (htb _ wd255) (htb _ ws2) hE hP hS (fs_R.this (fs_R.ext hR x_388)) rfl rfl rfl (Nat.le_of_ble_eq_true rfl) dX3_signs_270 ⟨Nat.le_of_ble_eq_true rfl, Nat.le_of_ble_eq_true rfl⟩ (fun v9 M9 H locs hpo hP hz hS => ?_) (fun x9 E9 cell9 H9 locs9 hE9 => hE9.elim)
            obtain ⟨rfl, hR9, hk9⟩ := hpo
            refine W.eq (g2 := F0 m 273 ls [.int (nI (sN S))]) rfl ?_
            have hre : re_signs S st cr b lt a z = fs_sb S (fIx st) (fs_us S (fIx st) cr ((bH S (fIx b)) - (pV S 2 11)) (fIx a)) ((bD S (fIx b)) + (pV S 2 12)) (fIx b) (fIx a) (fIx z) := by simp only [re_signs, si_u, si_v, if_neg c_7 , if_pos c_193 , if_pos c_379 , if_neg c_381 , if_neg c_382]
            exact mx_iret (v := (nI (sN S))) (M' := M9) hx hb hr hlocks hP hS ⟨by rw [ex_lim, if_neg (fun z9 => z9 ⟨k_1, k_2, k_3⟩), if_neg (fun z9 => z9 ⟨k_4, k_5⟩), if_neg (fun z9 => z9 k_6)], rfl, by rw [hre]; exact hR9, fs_keeps.tr (fs_keeps.of x_388) hk9⟩ dX3_signs_273 (Nat.le_of_ble_eq_true rfl) (Nat.le_of_ble_eq_true rfl)
          · refine lv_aload_n hx hb dX3_signs_195 rfl (lv_at hl 3 rfl) ?_
            refine lv_aload_n hx hb dX3_signs_196 rfl (lv_at hl 3 rfl) ?_
            refine lv_aload_n hx hb dX3_signs_197 rfl (lv_at hl 3 rfl) ?_
            refine lv_iload_n hx hb dX3_signs_198 rfl (lv_at hl 6 rfl) ?_
            refine mw_callV (C := RX3) (As := [.int (nI (fIx b))]) (rest := [.ref (f0 f), .ref (f0 f)]) hx hb hml hown hl (kX3_widthOf l htr G H.size M f S hR (fIx b) h_b) (g_B (n := 1) htb wd406 wd1 wd403 (by decide +kernel) ⟨Nat.le_of_ble_eq_true rfl, Nat.le_of_ble_eq_true rfl⟩) (htb _ wd405) (htb _ ws14) hE hP hS (fs_R.this hR) rfl rfl rfl (Nat.le_of_ble_eq_true rfl) dX3_signs_199 ⟨Nat.le_of_ble_eq_true rfl, Nat.le_of_ble_eq_true rfl⟩ (fun v9 M9 H locs hpo hP hz hS => ?_) (fun x9 E9 cell9 H9 locs9 hE9 => hE9.elim)
            obtain ⟨rfl, rfl⟩ := hpo
            refine W.eq (g2 := F0 m 202 ls [.int (bW S (fIx b)), .ref (f0 f), .ref (f0 f)]) rfl ?_
            refine lv_aload_n hx hb dX3_signs_202 rfl (lv_at hl 3 rfl) ?_
            refine lv_iload hx hb dX3_signs_203 (lv_at hl 8 rfl) ?_
            refine mw_callV (C := RX3) (As := [.int (nI (fIx a))]) (rest := [.int (bW S (fIx b)), .ref (f0 f), .ref (f0 f)]) hx hb hml hown hl (kX3_widthOf l htr G H.size M f S hR (fIx a) h_a) (g_B (n := 1) htb wd406 wd1 wd403 (by decide +kernel) ⟨Nat.le_of_ble_eq_true rfl, Nat.le_of_ble_eq_true rfl⟩) (htb _ wd405) (htb _ ws14) hE hP hS (fs_R.this hR) rfl rfl rfl (Nat.le_of_ble_eq_true rfl) dX3_signs_205 ⟨Nat.le_of_ble_eq_true rfl, Nat.le_of_ble_eq_true rfl⟩ (fun v9 M9 H locs hpo hP hz hS => ?_) (fun x9 E9 cell9 H9 locs9 hE9 => hE9.elim)
            obtain ⟨rfl, rfl⟩ := hpo
            refine W.eq (g2 := F0 m 208 ls [.int (bW S (fIx a)), .int (bW S (fIx b)), .ref (f0 f), .ref (f0 f)]) rfl ?_
            refine lv_iadd hx hb dX3_signs_208 ?_
            refine lv_aload_n hx hb dX3_signs_209 rfl (lv_at hl 3 rfl) ?_
            refine mw_get (D := gD G) (ci := 3) (v := .int (sSp S)) (C := RX3) (T := TX3) (N := 6) hx hb htb inX3 hown hK hP (hR.this) rfl 4 (by decide) (htb _ wd60) (fun _ h9 => h9) rfl dX3_signs_210 ?_
            refine lv_iadd hx hb dX3_signs_213 ?_
            refine lv_bipush (v := 6) hx hb dX3_signs_214 (by decide) ?_
            refine mw_newi (N := 6) hx hb (htb _ wd55) hK hP hS 0 rfl (by decide) (by decide) (by decide) (Nat.le_of_ble_eq_true rfl) (Nat.le_of_ble_eq_true rfl) dX3_signs_216 (fun q_390 H hq_391 hs_392 hP hS => ?_)
            obtain ⟨M_393, hM_393⟩ : ∃ z9 : mw_M, z9 = mw_up M q_390 (.inl (gI G, 6, .inl (fun _ => 0))) := ⟨_, rfl⟩
            have hP : mw_P (gD G) gx_cl M_393 H := by rw [hM_393]; exact hP
            have n_394 : M q_390 = none := mw_ext.no (mw_ext.rf M) hq_391
            have f_395 : M_393 (f0 f) = some (.inr (3, [.ref (fM f), .int (nI (sN S)), .ref (fF f), .ref (fP f), .int (sSp S), .int (sSh S)])) := by rw [hM_393, mw_ne _ _ (fun z => by have z1 := (hR.this); rw [z, hq_391] at z1; cases z1)]; exact (hR.this)
            have ne_396 : (f0 f) ≠ q_390 := fun z => by have z1 := (hR.this); rw [z, hq_391] at z1; cases z1
            have f_397 : M_393 q_390 = some (.inl (gI G, 6, .inl (fun _ => 0))) := by rw [hM_393]; exact mw_self _ _ _
            have x_398 : mw_ext M M_393 := by rw [hM_393]; exact mw_ext.up (mw_ext.rf M) n_394 _
            refine lv_dup hx hb dX3_signs_218 rfl ?_
            refine lv_iconst (v := 0) hx hb dX3_signs_219 (by decide) ?_
            refine lv_iload_n hx hb dX3_signs_220 rfl (lv_at hl 6 rfl) ?_
            refine mw_iast hx hb hK hP hS 0 f_397 (hAn _ hs_392) rfl (by unfold vp_in; decide) dX3_signs_221 (fun H locs hP hS => ?_)
            obtain ⟨M_399, hM_399⟩ : ∃ z9 : mw_M, z9 = mw_up M_393 q_390 (.inl (gI G, 6, .inl (upd (fun _ => 0) 0 (nI (fIx b))))) := ⟨_, rfl⟩
            have hP : mw_P (gD G) gx_cl M_399 H := by rw [hM_399]; exact hP
            have f_400 : M_399 (f0 f) = some (.inr (3, [.ref (fM f), .int (nI (sN S)), .ref (fF f), .ref (fP f), .int (sSp S), .int (sSh S)])) := by rw [hM_399, mw_ne _ _ ne_396]; exact f_395
            have f_401 : M_399 q_390 = some (.inl (gI G, 6, .inl (upd (fun _ => 0) 0 (nI (fIx b))))) := by rw [hM_399]; exact mw_self _ _ _
            have x_402 : mw_ext M M_399 := by rw [hM_399]; exact mw_ext.up x_398 n_394 _
            refine lv_dup hx hb dX3_signs_222 rfl ?_
            refine lv_iconst (v := 1) hx hb dX3_signs_223 (by decide) ?_
            refine lv_iconst (v := 0) hx hb dX3_signs_224 (by decide) ?_
            refine mw_iast hx hb hK hP hS 0 f_401 (hAn _ hs_392) rfl (by unfold vp_in; decide) dX3_signs_225 (fun H locs hP hS => ?_)
            obtain ⟨M_403, hM_403⟩ : ∃ z9 : mw_M, z9 = mw_up M_399 q_390 (.inl (gI G, 6, .inl (upd (upd (fun _ => 0) 0 (nI (fIx b))) 1 0))) := ⟨_, rfl⟩
            have hP : mw_P (gD G) gx_cl M_403 H := by rw [hM_403]; exact hP
            have f_404 : M_403 (f0 f) = some (.inr (3, [.ref (fM f), .int (nI (sN S)), .ref (fF f), .ref (fP f), .int (sSp S), .int (sSh S)])) := by rw [hM_403, mw_ne _ _ ne_396]; exact f_400
            have f_405 : M_403 q_390 = some (.inl (gI G, 6, .inl (upd (upd (fun _ => 0) 0 (nI (fIx b))) 1 0))) := by rw [hM_403]; exact mw_self _ _ _
            have x_406 : mw_ext M M_403 := by rw [hM_403]; exact mw_ext.up x_402 n_394 _
            refine lv_dup hx hb dX3_signs_226 rfl ?_
            refine lv_iconst (v := 2) hx hb dX3_signs_227 (by decide) ?_
            refine lv_iconst (v := 0) hx hb dX3_signs_228 (by decide) ?_
            refine mw_iast hx hb hK hP hS 0 f_405 (hAn _ hs_392) rfl (by unfold vp_in; decide) dX3_signs_229 (fun H locs hP hS => ?_)
            obtain ⟨M_407, hM_407⟩ : ∃ z9 : mw_M, z9 = mw_up M_403 q_390 (.inl (gI G, 6, .inl (upd (upd (upd (fun _ => 0) 0 (nI (fIx b))) 1 0) 2 0))) := ⟨_, rfl⟩
            have hP : mw_P (gD G) gx_cl M_407 H := by rw [hM_407]; exact hP
            have f_408 : M_407 (f0 f) = some (.inr (3, [.ref (fM f), .int (nI (sN S)), .ref (fF f), .ref (fP f), .int (sSp S), .int (sSh S)])) := by rw [hM_407, mw_ne _ _ ne_396]; exact f_404
            have f_409 : M_407 q_390 = some (.inl (gI G, 6, .inl (upd (upd (upd (fun _ => 0) 0 (nI (fIx b))) 1 0) 2 0))) := by rw [hM_407]; exact mw_self _ _ _
            have x_410 : mw_ext M M_407 := by rw [hM_407]; exact mw_ext.up x_406 n_394 _
            refine lv_dup hx hb dX3_signs_230 rfl ?_
            refine lv_iconst (v := 3) hx hb dX3_signs_231 (by decide) ?_
            refine lv_iload hx hb dX3_signs_232 (lv_at hl 8 rfl) ?_
            refine mw_iast hx hb hK hP hS 0 f_409 (hAn _ hs_392) rfl (by unfold vp_in; decide) dX3_signs_234 (fun H locs hP hS => ?_)
            obtain ⟨M_411, hM_411⟩ : ∃ z9 : mw_M, z9 = mw_up M_407 q_390 (.inl (gI G, 6, .inl (upd (upd (upd (upd (fun _ => 0) 0 (nI (fIx b))) 1 0) 2 0) 3 (nI (fIx a))))) := ⟨_, rfl⟩
            have hP : mw_P (gD G) gx_cl M_411 H := by rw [hM_411]; exact hP
            have f_412 : M_411 (f0 f) = some (.inr (3, [.ref (fM f), .int (nI (sN S)), .ref (fF f), .ref (fP f), .int (sSp S), .int (sSh S)])) := by rw [hM_411, mw_ne _ _ ne_396]; exact f_408
            have f_413 : M_411 q_390 = some (.inl (gI G, 6, .inl (upd (upd (upd (upd (fun _ => 0) 0 (nI (fIx b))) 1 0) 2 0) 3 (nI (fIx a))))) := by rw [hM_411]; exact mw_self _ _ _
            have x_414 : mw_ext M M_411 := by rw [hM_411]; exact mw_ext.up x_410 n_394 _
            refine lv_dup hx hb dX3_signs_235 rfl ?_
            refine lv_iconst (v := 4) hx hb dX3_signs_236 (by decide) ?_
            refine lv_aload_n hx hb dX3_signs_237 rfl (lv_at hl 3 rfl) ?_
            refine lv_iload_n hx hb dX3_signs_238 rfl (lv_at hl 6 rfl) ?_
            refine mw_callV (C := RX3) (As := [.int (nI (fIx b))]) (rest := [.int 4, .ref q_390, .ref q_390, .int (((bW S (fIx b)) + (bW S (fIx a))) + (sSp S)), .ref (f0 f), .ref (f0 f)]) hx hb hml hown hl (kX3_widthOf l htr G H.size M_411 f S (fs_R.ext hR x_414) (fIx b) h_b) (g_B (n := 1) htb wd406 wd1 wd403 (by decide +kernel) ⟨Nat.le_of_ble_eq_true rfl, Nat.le_of_ble_eq_true rfl⟩) (htb _ wd405) (htb _ ws14) hE hP hS (fs_R.this (fs_R.ext hR x_414)) rfl rfl rfl (Nat.le_of_ble_eq_true rfl) dX3_signs_239 ⟨Nat.le_of_ble_eq_true rfl, Nat.le_of_ble_eq_true rfl⟩ (fun v9 M9 H locs hpo hP hz hS => ?_) (fun x9 E9 cell9 H9 locs9 hE9 => hE9.elim)
            obtain ⟨rfl, rfl⟩ := hpo
            refine W.eq (g2 := F0 m 242 ls [.int (bW S (fIx b)), .int 4, .ref q_390, .ref q_390, .int (((bW S (fIx b)) + (bW S (fIx a))) + (sSp S)), .ref (f0 f), .ref (f0 f)]) rfl ?_
            refine mw_iast hx hb hK hP hS 0 f_413 (hAn _ hs_392) rfl (by unfold vp_in; decide) dX3_signs_242 (fun H locs hP hS => ?_)
            obtain ⟨M_415, hM_415⟩ : ∃ z9 : mw_M, z9 = mw_up M_411 q_390 (.inl (gI G, 6, .inl (upd (upd (upd (upd (upd (fun _ => 0) 0 (nI (fIx b))) 1 0) 2 0) 3 (nI (fIx a))) 4 (bW S (fIx b))))) := ⟨_, rfl⟩
            have hP : mw_P (gD G) gx_cl M_415 H := by rw [hM_415]; exact hP
            have f_416 : M_415 (f0 f) = some (.inr (3, [.ref (fM f), .int (nI (sN S)), .ref (fF f), .ref (fP f), .int (sSp S), .int (sSh S)])) := by rw [hM_415, mw_ne _ _ ne_396]; exact f_412
            have f_417 : M_415 q_390 = some (.inl (gI G, 6, .inl (upd (upd (upd (upd (upd (fun _ => 0) 0 (nI (fIx b))) 1 0) 2 0) 3 (nI (fIx a))) 4 (bW S (fIx b))))) := by rw [hM_415]; exact mw_self _ _ _
            have x_418 : mw_ext M M_415 := by rw [hM_415]; exact mw_ext.up x_414 n_394 _
            refine lv_dup hx hb dX3_signs_243 rfl ?_
            refine lv_iconst (v := 5) hx hb dX3_signs_244 (by decide) ?_
            refine lv_iload hx hb dX3_signs_245 (lv_at hl 0 rfl) ?_
            refine mw_iast hx hb hK hP hS 0 f_417 (hAn _ hs_392) rfl (by unfold vp_in; decide) dX3_signs_247 (fun H locs hP hS => ?_)
            obtain ⟨M_419, hM_419⟩ : ∃ z9 : mw_M, z9 = mw_up M_415 q_390 (.inl (gI G, 6, .inl (upd (upd (upd (upd (upd (upd (fun _ => 0) 0 (nI (fIx b))) 1 0) 2 0) 3 (nI (fIx a))) 4 (bW S (fIx b))) 5 (fs_us S (fIx st) cr ((bH S (fIx b)) - (pV S 2 11)) (fIx a))))) := ⟨_, rfl⟩
            have hP : mw_P (gD G) gx_cl M_419 H := by rw [hM_419]; exact hP
            have f_420 : M_419 (f0 f) = some (.inr (3, [.ref (fM f), .int (nI (sN S)), .ref (fF f), .ref (fP f), .int (sSp S), .int (sSh S)])) := by rw [hM_419, mw_ne _ _ ne_396]; exact f_416
            have f_421 : M_419 q_390 = some (.inl (gI G, 6, .inl (upd (upd (upd (upd (upd (upd (fun _ => 0) 0 (nI (fIx b))) 1 0) 2 0) 3 (nI (fIx a))) 4 (bW S (fIx b))) 5 (fs_us S (fIx st) cr ((bH S (fIx b)) - (pV S 2 11)) (fIx a))))) := by rw [hM_419]; exact mw_self _ _ _
            have x_422 : mw_ext M M_419 := by rw [hM_419]; exact mw_ext.up x_418 n_394 _
            refine mw_callV (C := RX3) (As := [.int (((bW S (fIx b)) + (bW S (fIx a))) + (sSp S)), .ref q_390]) (rest := [.ref (f0 f)]) hx hb hml hown hl (kX3_enclosing l htr G H.size M_419 f S (fs_R.ext hR x_422) (fs_hXe x_422 hX) (fun q h => hAn q (Nat.le_trans hS.1 h)) q_390 (upd (upd (upd (upd (upd (upd (fun _ => 0) 0 (nI (fIx b))) 1 0) 2 0) 3 (nI (fIx a))) 4 (bW S (fIx b))) 5 (fs_us S (fIx st) cr ((bH S (fIx b)) - (pV S 2 11)) (fIx a))) (((bW S (fIx b)) + (bW S (fIx a))) + (sSp S)) [(nI (fIx b)), 0, 0, (nI (fIx a)), (bW S (fIx b)), (fs_us S (fIx st) cr ((bH S (fIx b)) - (pV S 2 11)) (fIx a))] f_421 (fun z => hX _ z n_394) (fun j hj => by rcases (show j = 0 ∨ j = 1 ∨ j = 2 ∨ j = 3 ∨ j = 4 ∨ j = 5 by simp at hj; omega) with rfl | rfl | rfl | rfl | rfl | rfl <;> rfl) (by simp) (by simp) (fun j hj => by
                rcases (show j = 0 ∨ j = 1 by simp at hj; omega) with rfl | rfl
                · exact ⟨(fIx b), h_b, rfl⟩
                · exact ⟨(fIx a), h_a, rfl⟩)) (g_B (n := 2) htb wd452 wd1 wd449 (by decide +kernel) ⟨Nat.le_of_ble_eq_true rfl, Nat.le_of_ble_eq_true rfl⟩) (htb _ wd451) (htb _ ws20) hE hP hS (fs_R.this (fs_R.ext hR x_422)) rfl rfl rfl (Nat.le_of_ble_eq_true rfl) dX3_signs_248 ⟨Nat.le_of_ble_eq_true rfl, Nat.le_of_ble_eq_true rfl⟩ (fun v9 M9 H locs hpo hP hz hS => ?_) (fun x9 E9 cell9 H9 locs9 hE9 => hE9.elim)
            obtain ⟨q_423, rfl, x_424, b_425⟩ := hpo
            obtain ⟨M_427, hM_427⟩ : ∃ z9 : mw_M, z9 = M9 := ⟨_, rfl⟩
            rw [← hM_427] at hP x_424 b_425
            have x_428 : mw_ext M M_427 := mw_ext.tr x_422 x_424
            have f_429 : M_427 (f0 f) = some (.inr (3, [.ref (fM f), .int (nI (sN S)), .ref (fF f), .ref (fP f), .int (sSp S), .int (sSh S)])) := x_424 _ _ f_420
            have f_430 : M_427 q_390 = some (.inl (gI G, 6, .inl (upd (upd (upd (upd (upd (upd (fun _ => 0) 0 (nI (fIx b))) 1 0) 2 0) 3 (nI (fIx a))) 4 (bW S (fIx b))) 5 (fs_us S (fIx st) cr ((bH S (fIx b)) - (pV S 2 11)) (fIx a))))) := x_424 _ _ f_421
            refine W.eq (g2 := F0 m 251 ls [.ref q_423, .ref (f0 f)]) rfl ?_
            refine mw_callV (C := RX3) (As := [.ref q_423]) (rest := []) hx hb hml hown hl (kX3_keep l htr G H.size M_427 f S (fs_R.ext hR x_428) (rmk_lt k_6 hR.ok.1) q_423 (fs_en S (((bW S (fIx b)) + (bW S (fIx a))) + (sSp S)) [(nI (fIx b)), 0, 0, (nI (fIx a)), (bW S (fIx b)), (fs_us S (fIx st) cr ((bH S (fIx b)) - (pV S 2 11)) (fIx a))]) b_425 (fs_pl2 (on_i h_b) (on_i h_a))) (g_B (n := 1) htb wd256 wd1 wd253 (by decide +kernel) ⟨Nat.le_of_ble_eq_true rfl, Nat.le_of_ble_eq_true rfl⟩) (htb _ wd255) (htb _ ws2) hE hP hS (fs_R.this (fs_R.ext hR x_428)) rfl rfl rfl (Nat.le_of_ble_eq_true rfl) dX3_signs_251 ⟨Nat.le_of_ble_eq_true rfl, Nat.le_of_ble_eq_true rfl⟩ (fun v9 M9 H locs hpo hP hz hS => ?_) (fun x9 E9 cell9 H9 locs9 hE9 => hE9.elim)
            obtain ⟨rfl, hR9, hk9⟩ := hpo
            refine W.eq (g2 := F0 m 254 ls [.int (nI (sN S))]) rfl ?_
            have hre : re_signs S st cr b lt a z = fs_en S (((bW S (fIx b)) + (bW S (fIx a))) + (sSp S)) [(nI (fIx b)), 0, 0, (nI (fIx a)), (bW S (fIx b)), (fs_us S (fIx st) cr ((bH S (fIx b)) - (pV S 2 11)) (fIx a))] := by simp only [re_signs, si_u, si_v, if_neg c_7 , if_pos c_193 , if_pos c_379 , if_neg c_381 , if_pos c_382]
            exact mx_iret (v := (nI (sN S))) (M' := M9) hx hb hr hlocks hP hS ⟨by rw [ex_lim, if_neg (fun z9 => z9 ⟨k_1, k_2, k_3⟩), if_neg (fun z9 => z9 ⟨k_4, k_5⟩), if_neg (fun z9 => z9 k_6)], rfl, by rw [hre]; exact hR9, fs_keeps.tr (fs_keeps.of x_428) hk9⟩ dX3_signs_254 (Nat.le_of_ble_eq_true rfl) (Nat.le_of_ble_eq_true rfl)
        · have hz1 : ¬ z = (-1) := fun q => k_5 ⟨c_381, q⟩
          have hb_z := k_3.resolve_left hz1
          have h_z := isB_lt hb_z hR.ok.1
          have e_z := fIx_of hb_z.1
          rw [e_z] at hl
          refine lv_aload_n hx hb dX3_signs_105 rfl (lv_at hl 3 rfl) ?_
          refine lv_iload_n hx hb dX3_signs_106 rfl (lv_at hl 4 rfl) ?_
          refine lv_iload hx hb dX3_signs_107 (lv_at hl 0 rfl) ?_
          refine lv_iload hx hb dX3_signs_109 (lv_at hl 9 rfl) ?_
          refine mw_callV (C := RX3) (As := [.int (nI (fIx st)), .int ((bD S (fIx b)) + (pV S 2 12)), .int (nI (fIx z))]) (rest := []) hx hb hml hown hl (kX3_downAlone l htr G H.size M f S hR (fIx st) h_st ((bD S (fIx b)) + (pV S 2 12)) (fIx z) h_z) (g_B (n := 3) htb wd444 wd1 wd441 (by decide +kernel) ⟨Nat.le_of_ble_eq_true rfl, Nat.le_of_ble_eq_true rfl⟩) (htb _ wd443) (htb _ ws18) hE hP hS (fs_R.this hR) rfl rfl rfl (Nat.le_of_ble_eq_true rfl) dX3_signs_111 ⟨Nat.le_of_ble_eq_true rfl, Nat.le_of_ble_eq_true rfl⟩ (fun v9 M9 H locs hpo hP hz hS => ?_) (fun x9 E9 cell9 H9 locs9 hE9 => hE9.elim)
          obtain ⟨rfl, rfl⟩ := hpo
          refine W.eq (g2 := F0 m 114 ls [.int (fs_da S (fIx st) ((bD S (fIx b)) + (pV S 2 12)) (fIx z))]) rfl ?_
          refine lv_istore (lv' := [(9, .int (fs_da S (fIx st) ((bD S (fIx b)) + (pV S 2 12)) (fIx z))), (8, .int ((bH S (fIx b)) - (pV S 2 11))), (7, .int 2), (0, .ref (f0 f)), (1, .int (nI (fIx st))), (2, .int cr), (3, .int (nI (fIx b))), (4, .int lt), (5, .int a), (6, .int (nI (fIx z)))]) hx hb dX3_signs_114 hl (by decide) rfl (fun ls hl => ?_)
          refine lv_aload_n hx hb dX3_signs_116 rfl (lv_at hl 3 rfl) ?_
          refine lv_aload_n hx hb dX3_signs_117 rfl (lv_at hl 3 rfl) ?_
          refine lv_aload_n hx hb dX3_signs_118 rfl (lv_at hl 3 rfl) ?_
          refine lv_iload_n hx hb dX3_signs_119 rfl (lv_at hl 6 rfl) ?_
          refine mw_callV (C := RX3) (As := [.int (nI (fIx b))]) (rest := [.ref (f0 f), .ref (f0 f)]) hx hb hml hown hl (kX3_widthOf l htr G H.size M f S hR (fIx b) h_b) (g_B (n := 1) htb wd406 wd1 wd403 (by decide +kernel) ⟨Nat.le_of_ble_eq_true rfl, Nat.le_of_ble_eq_true rfl⟩) (htb _ wd405) (htb _ ws14) hE hP hS (fs_R.this hR) rfl rfl rfl (Nat.le_of_ble_eq_true rfl) dX3_signs_120 ⟨Nat.le_of_ble_eq_true rfl, Nat.le_of_ble_eq_true rfl⟩ (fun v9 M9 H locs hpo hP hz hS => ?_) (fun x9 E9 cell9 H9 locs9 hE9 => hE9.elim)
          obtain ⟨rfl, rfl⟩ := hpo
          refine W.eq (g2 := F0 m 123 ls [.int (bW S (fIx b)), .ref (f0 f), .ref (f0 f)]) rfl ?_
          refine lv_aload_n hx hb dX3_signs_123 rfl (lv_at hl 3 rfl) ?_
          refine lv_iload hx hb dX3_signs_124 (lv_at hl 9 rfl) ?_
          refine mw_callV (C := RX3) (As := [.int (nI (fIx z))]) (rest := [.int (bW S (fIx b)), .ref (f0 f), .ref (f0 f)]) hx hb hml hown hl (kX3_widthOf l htr G H.size M f S hR (fIx z) h_z) (g_B (n := 1) htb wd406 wd1 wd403 (by decide +kernel) ⟨Nat.le_of_ble_eq_true rfl, Nat.le_of_ble_eq_true rfl⟩) (htb _ wd405) (htb _ ws14) hE hP hS (fs_R.this hR) rfl rfl rfl (Nat.le_of_ble_eq_true rfl) dX3_signs_126 ⟨Nat.le_of_ble_eq_true rfl, Nat.le_of_ble_eq_true rfl⟩ (fun v9 M9 H locs hpo hP hz hS => ?_) (fun x9 E9 cell9 H9 locs9 hE9 => hE9.elim)
          obtain ⟨rfl, rfl⟩ := hpo
          refine W.eq (g2 := F0 m 129 ls [.int (bW S (fIx z)), .int (bW S (fIx b)), .ref (f0 f), .ref (f0 f)]) rfl ?_
          refine lv_iadd hx hb dX3_signs_129 ?_
          refine lv_aload_n hx hb dX3_signs_130 rfl (lv_at hl 3 rfl) ?_
          refine mw_get (D := gD G) (ci := 3) (v := .int (sSp S)) (C := RX3) (T := TX3) (N := 6) hx hb htb inX3 hown hK hP (hR.this) rfl 4 (by decide) (htb _ wd60) (fun _ h9 => h9) rfl dX3_signs_131 ?_
          refine lv_iadd hx hb dX3_signs_134 ?_
          refine lv_bipush (v := 6) hx hb dX3_signs_135 (by decide) ?_
          refine mw_newi (N := 6) hx hb (htb _ wd55) hK hP hS 0 rfl (by decide) (by decide) (by decide) (Nat.le_of_ble_eq_true rfl) (Nat.le_of_ble_eq_true rfl) dX3_signs_137 (fun q_431 H hq_432 hs_433 hP hS => ?_)
          obtain ⟨M_434, hM_434⟩ : ∃ z9 : mw_M, z9 = mw_up M q_431 (.inl (gI G, 6, .inl (fun _ => 0))) := ⟨_, rfl⟩
          have hP : mw_P (gD G) gx_cl M_434 H := by rw [hM_434]; exact hP
          have n_435 : M q_431 = none := mw_ext.no (mw_ext.rf M) hq_432
          have f_436 : M_434 (f0 f) = some (.inr (3, [.ref (fM f), .int (nI (sN S)), .ref (fF f), .ref (fP f), .int (sSp S), .int (sSh S)])) := by rw [hM_434, mw_ne _ _ (fun z => by have z1 := (hR.this); rw [z, hq_432] at z1; cases z1)]; exact (hR.this)
          have ne_437 : (f0 f) ≠ q_431 := fun z => by have z1 := (hR.this); rw [z, hq_432] at z1; cases z1
          have f_438 : M_434 q_431 = some (.inl (gI G, 6, .inl (fun _ => 0))) := by rw [hM_434]; exact mw_self _ _ _
          have x_439 : mw_ext M M_434 := by rw [hM_434]; exact mw_ext.up (mw_ext.rf M) n_435 _
          refine lv_dup hx hb dX3_signs_139 rfl ?_
          refine lv_iconst (v := 0) hx hb dX3_signs_140 (by decide) ?_
          refine lv_iload_n hx hb dX3_signs_141 rfl (lv_at hl 6 rfl) ?_
          refine mw_iast hx hb hK hP hS 0 f_438 (hAn _ hs_433) rfl (by unfold vp_in; decide) dX3_signs_142 (fun H locs hP hS => ?_)
          obtain ⟨M_440, hM_440⟩ : ∃ z9 : mw_M, z9 = mw_up M_434 q_431 (.inl (gI G, 6, .inl (upd (fun _ => 0) 0 (nI (fIx b))))) := ⟨_, rfl⟩
          have hP : mw_P (gD G) gx_cl M_440 H := by rw [hM_440]; exact hP
          have f_441 : M_440 (f0 f) = some (.inr (3, [.ref (fM f), .int (nI (sN S)), .ref (fF f), .ref (fP f), .int (sSp S), .int (sSh S)])) := by rw [hM_440, mw_ne _ _ ne_437]; exact f_436
          have f_442 : M_440 q_431 = some (.inl (gI G, 6, .inl (upd (fun _ => 0) 0 (nI (fIx b))))) := by rw [hM_440]; exact mw_self _ _ _
          have x_443 : mw_ext M M_440 := by rw [hM_440]; exact mw_ext.up x_439 n_435 _
          refine lv_dup hx hb dX3_signs_143 rfl ?_
          refine lv_iconst (v := 1) hx hb dX3_signs_144 (by decide) ?_
          refine lv_iconst (v := 0) hx hb dX3_signs_145 (by decide) ?_
          refine mw_iast hx hb hK hP hS 0 f_442 (hAn _ hs_433) rfl (by unfold vp_in; decide) dX3_signs_146 (fun H locs hP hS => ?_)
          obtain ⟨M_444, hM_444⟩ : ∃ z9 : mw_M, z9 = mw_up M_440 q_431 (.inl (gI G, 6, .inl (upd (upd (fun _ => 0) 0 (nI (fIx b))) 1 0))) := ⟨_, rfl⟩
          have hP : mw_P (gD G) gx_cl M_444 H := by rw [hM_444]; exact hP
          have f_445 : M_444 (f0 f) = some (.inr (3, [.ref (fM f), .int (nI (sN S)), .ref (fF f), .ref (fP f), .int (sSp S), .int (sSh S)])) := by rw [hM_444, mw_ne _ _ ne_437]; exact f_441
          have f_446 : M_444 q_431 = some (.inl (gI G, 6, .inl (upd (upd (fun _ => 0) 0 (nI (fIx b))) 1 0))) := by rw [hM_444]; exact mw_self _ _ _
          have x_447 : mw_ext M M_444 := by rw [hM_444]; exact mw_ext.up x_443 n_435 _
          refine lv_dup hx hb dX3_signs_147 rfl ?_
          refine lv_iconst (v := 2) hx hb dX3_signs_148 (by decide) ?_
          refine lv_iconst (v := 0) hx hb dX3_signs_149 (by decide) ?_
          refine mw_iast hx hb hK hP hS 0 f_446 (hAn _ hs_433) rfl (by unfold vp_in; decide) dX3_signs_150 (fun H locs hP hS => ?_)
          obtain ⟨M_448, hM_448⟩ : ∃ z9 : mw_M, z9 = mw_up M_444 q_431 (.inl (gI G, 6, .inl (upd (upd (upd (fun _ => 0) 0 (nI (fIx b))) 1 0) 2 0))) := ⟨_, rfl⟩
          have hP : mw_P (gD G) gx_cl M_448 H := by rw [hM_448]; exact hP
          have f_449 : M_448 (f0 f) = some (.inr (3, [.ref (fM f), .int (nI (sN S)), .ref (fF f), .ref (fP f), .int (sSp S), .int (sSh S)])) := by rw [hM_448, mw_ne _ _ ne_437]; exact f_445
          have f_450 : M_448 q_431 = some (.inl (gI G, 6, .inl (upd (upd (upd (fun _ => 0) 0 (nI (fIx b))) 1 0) 2 0))) := by rw [hM_448]; exact mw_self _ _ _
          have x_451 : mw_ext M M_448 := by rw [hM_448]; exact mw_ext.up x_447 n_435 _
          refine lv_dup hx hb dX3_signs_151 rfl ?_
          refine lv_iconst (v := 3) hx hb dX3_signs_152 (by decide) ?_
          refine lv_iload hx hb dX3_signs_153 (lv_at hl 9 rfl) ?_
          refine mw_iast hx hb hK hP hS 0 f_450 (hAn _ hs_433) rfl (by unfold vp_in; decide) dX3_signs_155 (fun H locs hP hS => ?_)
          obtain ⟨M_452, hM_452⟩ : ∃ z9 : mw_M, z9 = mw_up M_448 q_431 (.inl (gI G, 6, .inl (upd (upd (upd (upd (fun _ => 0) 0 (nI (fIx b))) 1 0) 2 0) 3 (nI (fIx z))))) := ⟨_, rfl⟩
          have hP : mw_P (gD G) gx_cl M_452 H := by rw [hM_452]; exact hP
          have f_453 : M_452 (f0 f) = some (.inr (3, [.ref (fM f), .int (nI (sN S)), .ref (fF f), .ref (fP f), .int (sSp S), .int (sSh S)])) := by rw [hM_452, mw_ne _ _ ne_437]; exact f_449
          have f_454 : M_452 q_431 = some (.inl (gI G, 6, .inl (upd (upd (upd (upd (fun _ => 0) 0 (nI (fIx b))) 1 0) 2 0) 3 (nI (fIx z))))) := by rw [hM_452]; exact mw_self _ _ _
          have x_455 : mw_ext M M_452 := by rw [hM_452]; exact mw_ext.up x_451 n_435 _
          refine lv_dup hx hb dX3_signs_156 rfl ?_
          refine lv_iconst (v := 4) hx hb dX3_signs_157 (by decide) ?_
          refine lv_aload_n hx hb dX3_signs_158 rfl (lv_at hl 3 rfl) ?_
          refine lv_iload_n hx hb dX3_signs_159 rfl (lv_at hl 6 rfl) ?_
          refine mw_callV (C := RX3) (As := [.int (nI (fIx b))]) (rest := [.int 4, .ref q_431, .ref q_431, .int (((bW S (fIx b)) + (bW S (fIx z))) + (sSp S)), .ref (f0 f), .ref (f0 f)]) hx hb hml hown hl (kX3_widthOf l htr G H.size M_452 f S (fs_R.ext hR x_455) (fIx b) h_b) (g_B (n := 1) htb wd406 wd1 wd403 (by decide +kernel) ⟨Nat.le_of_ble_eq_true rfl, Nat.le_of_ble_eq_true rfl⟩) (htb _ wd405) (htb _ ws14) hE hP hS (fs_R.this (fs_R.ext hR x_455)) rfl rfl rfl (Nat.le_of_ble_eq_true rfl) dX3_signs_160 ⟨Nat.le_of_ble_eq_true rfl, Nat.le_of_ble_eq_true rfl⟩ (fun v9 M9 H locs hpo hP hz hS => ?_) (fun x9 E9 cell9 H9 locs9 hE9 => hE9.elim)
          obtain ⟨rfl, rfl⟩ := hpo
          refine W.eq (g2 := F0 m 163 ls [.int (bW S (fIx b)), .int 4, .ref q_431, .ref q_431, .int (((bW S (fIx b)) + (bW S (fIx z))) + (sSp S)), .ref (f0 f), .ref (f0 f)]) rfl ?_
          refine mw_iast hx hb hK hP hS 0 f_454 (hAn _ hs_433) rfl (by unfold vp_in; decide) dX3_signs_163 (fun H locs hP hS => ?_)
          obtain ⟨M_456, hM_456⟩ : ∃ z9 : mw_M, z9 = mw_up M_452 q_431 (.inl (gI G, 6, .inl (upd (upd (upd (upd (upd (fun _ => 0) 0 (nI (fIx b))) 1 0) 2 0) 3 (nI (fIx z))) 4 (bW S (fIx b))))) := ⟨_, rfl⟩
          have hP : mw_P (gD G) gx_cl M_456 H := by rw [hM_456]; exact hP
          have f_457 : M_456 (f0 f) = some (.inr (3, [.ref (fM f), .int (nI (sN S)), .ref (fF f), .ref (fP f), .int (sSp S), .int (sSh S)])) := by rw [hM_456, mw_ne _ _ ne_437]; exact f_453
          have f_458 : M_456 q_431 = some (.inl (gI G, 6, .inl (upd (upd (upd (upd (upd (fun _ => 0) 0 (nI (fIx b))) 1 0) 2 0) 3 (nI (fIx z))) 4 (bW S (fIx b))))) := by rw [hM_456]; exact mw_self _ _ _
          have x_459 : mw_ext M M_456 := by rw [hM_456]; exact mw_ext.up x_455 n_435 _
          refine lv_dup hx hb dX3_signs_164 rfl ?_
          refine lv_iconst (v := 5) hx hb dX3_signs_165 (by decide) ?_
          refine lv_iload hx hb dX3_signs_166 (lv_at hl 0 rfl) ?_
          refine lv_ineg hx hb dX3_signs_168 ?_
          refine mw_iast hx hb hK hP hS 0 f_458 (hAn _ hs_433) rfl (by unfold vp_in; decide) dX3_signs_169 (fun H locs hP hS => ?_)
          obtain ⟨M_460, hM_460⟩ : ∃ z9 : mw_M, z9 = mw_up M_456 q_431 (.inl (gI G, 6, .inl (upd (upd (upd (upd (upd (upd (fun _ => 0) 0 (nI (fIx b))) 1 0) 2 0) 3 (nI (fIx z))) 4 (bW S (fIx b))) 5 (-(fs_da S (fIx st) ((bD S (fIx b)) + (pV S 2 12)) (fIx z)))))) := ⟨_, rfl⟩
          have hP : mw_P (gD G) gx_cl M_460 H := by rw [hM_460]; exact hP
          have f_461 : M_460 (f0 f) = some (.inr (3, [.ref (fM f), .int (nI (sN S)), .ref (fF f), .ref (fP f), .int (sSp S), .int (sSh S)])) := by rw [hM_460, mw_ne _ _ ne_437]; exact f_457
          have f_462 : M_460 q_431 = some (.inl (gI G, 6, .inl (upd (upd (upd (upd (upd (upd (fun _ => 0) 0 (nI (fIx b))) 1 0) 2 0) 3 (nI (fIx z))) 4 (bW S (fIx b))) 5 (-(fs_da S (fIx st) ((bD S (fIx b)) + (pV S 2 12)) (fIx z)))))) := by rw [hM_460]; exact mw_self _ _ _
          have x_463 : mw_ext M M_460 := by rw [hM_460]; exact mw_ext.up x_459 n_435 _
          refine mw_callV (C := RX3) (As := [.int (((bW S (fIx b)) + (bW S (fIx z))) + (sSp S)), .ref q_431]) (rest := [.ref (f0 f)]) hx hb hml hown hl (kX3_enclosing l htr G H.size M_460 f S (fs_R.ext hR x_463) (fs_hXe x_463 hX) (fun q h => hAn q (Nat.le_trans hS.1 h)) q_431 (upd (upd (upd (upd (upd (upd (fun _ => 0) 0 (nI (fIx b))) 1 0) 2 0) 3 (nI (fIx z))) 4 (bW S (fIx b))) 5 (-(fs_da S (fIx st) ((bD S (fIx b)) + (pV S 2 12)) (fIx z)))) (((bW S (fIx b)) + (bW S (fIx z))) + (sSp S)) [(nI (fIx b)), 0, 0, (nI (fIx z)), (bW S (fIx b)), (-(fs_da S (fIx st) ((bD S (fIx b)) + (pV S 2 12)) (fIx z)))] f_462 (fun z => hX _ z n_435) (fun j hj => by rcases (show j = 0 ∨ j = 1 ∨ j = 2 ∨ j = 3 ∨ j = 4 ∨ j = 5 by simp at hj; omega) with rfl | rfl | rfl | rfl | rfl | rfl <;> rfl) (by simp) (by simp) (fun j hj => by
              rcases (show j = 0 ∨ j = 1 by simp at hj; omega) with rfl | rfl
              · exact ⟨(fIx b), h_b, rfl⟩
              · exact ⟨(fIx z), h_z, rfl⟩)) (g_B (n := 2) htb wd452 wd1 wd449 (by decide +kernel) ⟨Nat.le_of_ble_eq_true rfl, Nat.le_of_ble_eq_true rfl⟩) (htb _ wd451) (htb _ ws20) hE hP hS (fs_R.this (fs_R.ext hR x_463)) rfl rfl rfl (Nat.le_of_ble_eq_true rfl) dX3_signs_170 ⟨Nat.le_of_ble_eq_true rfl, Nat.le_of_ble_eq_true rfl⟩ (fun v9 M9 H locs hpo hP hz hS => ?_) (fun x9 E9 cell9 H9 locs9 hE9 => hE9.elim)
          obtain ⟨q_464, rfl, x_465, b_466⟩ := hpo
          obtain ⟨M_468, hM_468⟩ : ∃ z9 : mw_M, z9 = M9 := ⟨_, rfl⟩
          rw [← hM_468] at hP x_465 b_466
          have x_469 : mw_ext M M_468 := mw_ext.tr x_463 x_465
          have f_470 : M_468 (f0 f) = some (.inr (3, [.ref (fM f), .int (nI (sN S)), .ref (fF f), .ref (fP f), .int (sSp S), .int (sSh S)])) := x_465 _ _ f_461
          have f_471 : M_468 q_431 = some (.inl (gI G, 6, .inl (upd (upd (upd (upd (upd (upd (fun _ => 0) 0 (nI (fIx b))) 1 0) 2 0) 3 (nI (fIx z))) 4 (bW S (fIx b))) 5 (-(fs_da S (fIx st) ((bD S (fIx b)) + (pV S 2 12)) (fIx z)))))) := x_465 _ _ f_462
          refine W.eq (g2 := F0 m 173 ls [.ref q_464, .ref (f0 f)]) rfl ?_
          refine mw_callV (C := RX3) (As := [.ref q_464]) (rest := []) hx hb hml hown hl (kX3_keep l htr G H.size M_468 f S (fs_R.ext hR x_469) (rmk_lt k_6 hR.ok.1) q_464 (fs_en S (((bW S (fIx b)) + (bW S (fIx z))) + (sSp S)) [(nI (fIx b)), 0, 0, (nI (fIx z)), (bW S (fIx b)), (-(fs_da S (fIx st) ((bD S (fIx b)) + (pV S 2 12)) (fIx z)))]) b_466 (fs_pl2 (on_i h_b) (on_i h_z))) (g_B (n := 1) htb wd256 wd1 wd253 (by decide +kernel) ⟨Nat.le_of_ble_eq_true rfl, Nat.le_of_ble_eq_true rfl⟩) (htb _ wd255) (htb _ ws2) hE hP hS (fs_R.this (fs_R.ext hR x_469)) rfl rfl rfl (Nat.le_of_ble_eq_true rfl) dX3_signs_173 ⟨Nat.le_of_ble_eq_true rfl, Nat.le_of_ble_eq_true rfl⟩ (fun v9 M9 H locs hpo hP hz hS => ?_) (fun x9 E9 cell9 H9 locs9 hE9 => hE9.elim)
          obtain ⟨rfl, hR9, hk9⟩ := hpo
          refine W.eq (g2 := F0 m 176 ls [.int (nI (sN S))]) rfl ?_
          have hre : re_signs S st cr b lt a z = fs_en S (((bW S (fIx b)) + (bW S (fIx z))) + (sSp S)) [(nI (fIx b)), 0, 0, (nI (fIx z)), (bW S (fIx b)), (-(fs_da S (fIx st) ((bD S (fIx b)) + (pV S 2 12)) (fIx z)))] := by simp only [re_signs, si_u, si_v, if_neg c_7 , if_pos c_193 , if_pos c_379 , if_pos c_381]
          exact mx_iret (v := (nI (sN S))) (M' := M9) hx hb hr hlocks hP hS ⟨by rw [ex_lim, if_neg (fun z9 => z9 ⟨k_1, k_2, k_3⟩), if_neg (fun z9 => z9 ⟨k_4, k_5⟩), if_neg (fun z9 => z9 k_6)], rfl, by rw [hre]; exact hR9, fs_keeps.tr (fs_keeps.of x_469) hk9⟩ dX3_signs_176 (Nat.le_of_ble_eq_true rfl) (Nat.le_of_ble_eq_true rfl)
      · refine lv_iconst (v := 0) hx hb dX3_signs_54 (by decide) ?_
        refine lv_goto (tgt := 72) hx hb dX3_signs_55 (by decide) ?_
        refine lv_istore (lv' := [(8, .int 0), (7, .int 2), (0, .ref (f0 f)), (1, .int (nI (fIx st))), (2, .int cr), (3, .int (nI (fIx b))), (4, .int lt), (5, .int a), (6, .int z)]) hx hb dX3_signs_72 hl (by decide) rfl (fun ls hl => ?_)
        refine lv_iload hx hb dX3_signs_74 (lv_at hl 6 rfl) ?_
        refine lv_if_eq (tgt := 83) hx hb dX3_signs_76 (by decide) (fun c_472 => absurd c_472 c_379) (fun c_472 => ?_)
        refine lv_iconst (v := 0) hx hb dX3_signs_79 (by decide) ?_
        refine lv_goto (tgt := 97) hx hb dX3_signs_80 (by decide) ?_
        refine lv_istore (lv' := [(9, .int 0), (8, .int 0), (7, .int 2), (0, .ref (f0 f)), (1, .int (nI (fIx st))), (2, .int cr), (3, .int (nI (fIx b))), (4, .int lt), (5, .int a), (6, .int z)]) hx hb dX3_signs_97 hl (by decide) rfl (fun ls hl => ?_)
        refine lv_iload hx hb dX3_signs_99 (lv_at hl 8 rfl) ?_
        refine lv_iconst (v := (-1)) hx hb dX3_signs_101 (by decide) ?_
        refine lv_icmp_ne (tgt := 177) hx hb dX3_signs_102 (by decide) (fun c_473 => ?_) (fun c_473 => ?_)
        · have hb_a := k_2.resolve_left c_473
          have h_a := isB_lt hb_a hR.ok.1
          have e_a := fIx_of hb_a.1
          rw [e_a] at hl
          refine lv_aload_n hx hb dX3_signs_177 rfl (lv_at hl 3 rfl) ?_
          refine lv_iload_n hx hb dX3_signs_178 rfl (lv_at hl 4 rfl) ?_
          refine lv_iload_n hx hb dX3_signs_179 rfl (lv_at hl 5 rfl) ?_
          refine lv_iload hx hb dX3_signs_180 (lv_at hl 1 rfl) ?_
          refine lv_iload hx hb dX3_signs_182 (lv_at hl 8 rfl) ?_
          refine mw_callV (C := RX3) (As := [.int (nI (fIx st)), .int cr, .int 0, .int (nI (fIx a))]) (rest := []) hx hb hml hown hl (kX3_upShift l htr G H.size M f S hR (fIx st) h_st cr 0 (fIx a) h_a) (g_B (n := 4) htb wd456 wd1 wd453 (by decide +kernel) ⟨Nat.le_of_ble_eq_true rfl, Nat.le_of_ble_eq_true rfl⟩) (htb _ wd455) (htb _ ws21) hE hP hS (fs_R.this hR) rfl rfl rfl (Nat.le_of_ble_eq_true rfl) dX3_signs_184 ⟨Nat.le_of_ble_eq_true rfl, Nat.le_of_ble_eq_true rfl⟩ (fun v9 M9 H locs hpo hP hz hS => ?_) (fun x9 E9 cell9 H9 locs9 hE9 => hE9.elim)
          obtain ⟨rfl, rfl⟩ := hpo
          refine W.eq (g2 := F0 m 187 ls [.int (fs_us S (fIx st) cr 0 (fIx a))]) rfl ?_
          refine lv_istore (lv' := [(8, .int (fs_us S (fIx st) cr 0 (fIx a))), (9, .int 0), (7, .int 2), (0, .ref (f0 f)), (1, .int (nI (fIx st))), (2, .int cr), (3, .int (nI (fIx b))), (4, .int lt), (5, .int (nI (fIx a))), (6, .int z)]) hx hb dX3_signs_187 hl (by decide) rfl (fun ls hl => ?_)
          refine lv_iload hx hb dX3_signs_189 (lv_at hl 9 rfl) ?_
          refine lv_iconst (v := (-1)) hx hb dX3_signs_191 (by decide) ?_
          refine lv_icmp_ne (tgt := 255) hx hb dX3_signs_192 (by decide) (fun c_474 => ?_) (fun c_474 => ?_)
          · have hb_z := k_3.resolve_left c_474
            have h_z := isB_lt hb_z hR.ok.1
            have e_z := fIx_of hb_z.1
            rw [e_z] at hl
            refine lv_aload_n hx hb dX3_signs_255 rfl (lv_at hl 3 rfl) ?_
            refine lv_aload_n hx hb dX3_signs_256 rfl (lv_at hl 3 rfl) ?_
            refine lv_iload_n hx hb dX3_signs_257 rfl (lv_at hl 4 rfl) ?_
            refine lv_iload hx hb dX3_signs_258 (lv_at hl 0 rfl) ?_
            refine lv_iload hx hb dX3_signs_260 (lv_at hl 1 rfl) ?_
            refine lv_iload_n hx hb dX3_signs_262 rfl (lv_at hl 6 rfl) ?_
            refine lv_iload hx hb dX3_signs_263 (lv_at hl 8 rfl) ?_
            refine lv_iload hx hb dX3_signs_265 (lv_at hl 9 rfl) ?_
            refine mw_callV (C := RX3) (As := [.int (nI (fIx st)), .int (fs_us S (fIx st) cr 0 (fIx a)), .int 0, .int (nI (fIx b)), .int (nI (fIx a)), .int (nI (fIx z))]) (rest := [.ref (f0 f)]) hx hb hml hown hl (kX3_signsOnBothSides l htr G H.size M f S hR hX (fun q h => hAn q (Nat.le_trans hS.1 h)) (fIx st) h_st (fs_us S (fIx st) cr 0 (fIx a)) 0 (fIx b) (fIx a) (fIx z) h_b h_a h_z) (g_B (n := 6) htb wd460 wd1 wd457 (by decide +kernel) ⟨Nat.le_of_ble_eq_true rfl, Nat.le_of_ble_eq_true rfl⟩) (htb _ wd459) (htb _ ws22) hE hP hS (fs_R.this hR) rfl rfl rfl (Nat.le_of_ble_eq_true rfl) dX3_signs_267 ⟨Nat.le_of_ble_eq_true rfl, Nat.le_of_ble_eq_true rfl⟩ (fun v9 M9 H locs hpo hP hz hS => ?_) (fun x9 E9 cell9 H9 locs9 hE9 => hE9.elim)
            obtain ⟨q_475, rfl, x_476, b_477⟩ := hpo
            obtain ⟨M_479, hM_479⟩ : ∃ z9 : mw_M, z9 = M9 := ⟨_, rfl⟩
            rw [← hM_479] at hP x_476 b_477
            have x_480 : mw_ext M M_479 := mw_ext.tr (mw_ext.rf M) x_476
            have f_481 : M_479 (f0 f) = some (.inr (3, [.ref (fM f), .int (nI (sN S)), .ref (fF f), .ref (fP f), .int (sSp S), .int (sSh S)])) := x_476 _ _ (hR.this)
            refine W.eq (g2 := F0 m 270 ls [.ref q_475, .ref (f0 f)]) rfl ?_
            refine mw_callV (C := RX3) (As := [.ref q_475]) (rest := []) hx hb hml hown hl (kX3_keep l htr G H.size M_479 f S (fs_R.ext hR x_480) (rmk_lt k_6 hR.ok.1) q_475 (fs_sb S (fIx st) (fs_us S (fIx st) cr 0 (fIx a)) 0 (fIx b) (fIx a) (fIx z)) b_477 (fs_pl3 (on_i h_b) (on_i h_a) (on_i h_z))) (g_B (n := 1) htb wd256 wd1 wd253 (by decide +kernel) ⟨Nat.le_of_ble_eq_true rfl, Nat.le_of_ble_eq_true rfl⟩) (htb _ wd255) (htb _ ws2) hE hP hS (fs_R.this (fs_R.ext hR x_480)) rfl rfl rfl (Nat.le_of_ble_eq_true rfl) dX3_signs_270 ⟨Nat.le_of_ble_eq_true rfl, Nat.le_of_ble_eq_true rfl⟩ (fun v9 M9 H locs hpo hP hz hS => ?_) (fun x9 E9 cell9 H9 locs9 hE9 => hE9.elim)
            obtain ⟨rfl, hR9, hk9⟩ := hpo
            refine W.eq (g2 := F0 m 273 ls [.int (nI (sN S))]) rfl ?_
            have hre : re_signs S st cr b lt a z = fs_sb S (fIx st) (fs_us S (fIx st) cr 0 (fIx a)) 0 (fIx b) (fIx a) (fIx z) := by simp only [re_signs, si_u, si_v, if_neg c_7 , if_pos c_193 , if_neg c_379 , if_neg c_473 , if_neg c_474]
            exact mx_iret (v := (nI (sN S))) (M' := M9) hx hb hr hlocks hP hS ⟨by rw [ex_lim, if_neg (fun z9 => z9 ⟨k_1, k_2, k_3⟩), if_neg (fun z9 => z9 ⟨k_4, k_5⟩), if_neg (fun z9 => z9 k_6)], rfl, by rw [hre]; exact hR9, fs_keeps.tr (fs_keeps.of x_480) hk9⟩ dX3_signs_273 (Nat.le_of_ble_eq_true rfl) (Nat.le_of_ble_eq_true rfl)
          · refine lv_aload_n hx hb dX3_signs_195 rfl (lv_at hl 3 rfl) ?_
            refine lv_aload_n hx hb dX3_signs_196 rfl (lv_at hl 3 rfl) ?_
            refine lv_aload_n hx hb dX3_signs_197 rfl (lv_at hl 3 rfl) ?_
            refine lv_iload_n hx hb dX3_signs_198 rfl (lv_at hl 6 rfl) ?_
            refine mw_callV (C := RX3) (As := [.int (nI (fIx b))]) (rest := [.ref (f0 f), .ref (f0 f)]) hx hb hml hown hl (kX3_widthOf l htr G H.size M f S hR (fIx b) h_b) (g_B (n := 1) htb wd406 wd1 wd403 (by decide +kernel) ⟨Nat.le_of_ble_eq_true rfl, Nat.le_of_ble_eq_true rfl⟩) (htb _ wd405) (htb _ ws14) hE hP hS (fs_R.this hR) rfl rfl rfl (Nat.le_of_ble_eq_true rfl) dX3_signs_199 ⟨Nat.le_of_ble_eq_true rfl, Nat.le_of_ble_eq_true rfl⟩ (fun v9 M9 H locs hpo hP hz hS => ?_) (fun x9 E9 cell9 H9 locs9 hE9 => hE9.elim)
            obtain ⟨rfl, rfl⟩ := hpo
            refine W.eq (g2 := F0 m 202 ls [.int (bW S (fIx b)), .ref (f0 f), .ref (f0 f)]) rfl ?_
            refine lv_aload_n hx hb dX3_signs_202 rfl (lv_at hl 3 rfl) ?_
            refine lv_iload hx hb dX3_signs_203 (lv_at hl 8 rfl) ?_
            refine mw_callV (C := RX3) (As := [.int (nI (fIx a))]) (rest := [.int (bW S (fIx b)), .ref (f0 f), .ref (f0 f)]) hx hb hml hown hl (kX3_widthOf l htr G H.size M f S hR (fIx a) h_a) (g_B (n := 1) htb wd406 wd1 wd403 (by decide +kernel) ⟨Nat.le_of_ble_eq_true rfl, Nat.le_of_ble_eq_true rfl⟩) (htb _ wd405) (htb _ ws14) hE hP hS (fs_R.this hR) rfl rfl rfl (Nat.le_of_ble_eq_true rfl) dX3_signs_205 ⟨Nat.le_of_ble_eq_true rfl, Nat.le_of_ble_eq_true rfl⟩ (fun v9 M9 H locs hpo hP hz hS => ?_) (fun x9 E9 cell9 H9 locs9 hE9 => hE9.elim)
            obtain ⟨rfl, rfl⟩ := hpo
            refine W.eq (g2 := F0 m 208 ls [.int (bW S (fIx a)), .int (bW S (fIx b)), .ref (f0 f), .ref (f0 f)]) rfl ?_
            refine lv_iadd hx hb dX3_signs_208 ?_
            refine lv_aload_n hx hb dX3_signs_209 rfl (lv_at hl 3 rfl) ?_
            refine mw_get (D := gD G) (ci := 3) (v := .int (sSp S)) (C := RX3) (T := TX3) (N := 6) hx hb htb inX3 hown hK hP (hR.this) rfl 4 (by decide) (htb _ wd60) (fun _ h9 => h9) rfl dX3_signs_210 ?_
            refine lv_iadd hx hb dX3_signs_213 ?_
            refine lv_bipush (v := 6) hx hb dX3_signs_214 (by decide) ?_
            refine mw_newi (N := 6) hx hb (htb _ wd55) hK hP hS 0 rfl (by decide) (by decide) (by decide) (Nat.le_of_ble_eq_true rfl) (Nat.le_of_ble_eq_true rfl) dX3_signs_216 (fun q_482 H hq_483 hs_484 hP hS => ?_)
            obtain ⟨M_485, hM_485⟩ : ∃ z9 : mw_M, z9 = mw_up M q_482 (.inl (gI G, 6, .inl (fun _ => 0))) := ⟨_, rfl⟩
            have hP : mw_P (gD G) gx_cl M_485 H := by rw [hM_485]; exact hP
            have n_486 : M q_482 = none := mw_ext.no (mw_ext.rf M) hq_483
            have f_487 : M_485 (f0 f) = some (.inr (3, [.ref (fM f), .int (nI (sN S)), .ref (fF f), .ref (fP f), .int (sSp S), .int (sSh S)])) := by rw [hM_485, mw_ne _ _ (fun z => by have z1 := (hR.this); rw [z, hq_483] at z1; cases z1)]; exact (hR.this)
            have ne_488 : (f0 f) ≠ q_482 := fun z => by have z1 := (hR.this); rw [z, hq_483] at z1; cases z1
            have f_489 : M_485 q_482 = some (.inl (gI G, 6, .inl (fun _ => 0))) := by rw [hM_485]; exact mw_self _ _ _
            have x_490 : mw_ext M M_485 := by rw [hM_485]; exact mw_ext.up (mw_ext.rf M) n_486 _
            refine lv_dup hx hb dX3_signs_218 rfl ?_
            refine lv_iconst (v := 0) hx hb dX3_signs_219 (by decide) ?_
            refine lv_iload_n hx hb dX3_signs_220 rfl (lv_at hl 6 rfl) ?_
            refine mw_iast hx hb hK hP hS 0 f_489 (hAn _ hs_484) rfl (by unfold vp_in; decide) dX3_signs_221 (fun H locs hP hS => ?_)
            obtain ⟨M_491, hM_491⟩ : ∃ z9 : mw_M, z9 = mw_up M_485 q_482 (.inl (gI G, 6, .inl (upd (fun _ => 0) 0 (nI (fIx b))))) := ⟨_, rfl⟩
            have hP : mw_P (gD G) gx_cl M_491 H := by rw [hM_491]; exact hP
            have f_492 : M_491 (f0 f) = some (.inr (3, [.ref (fM f), .int (nI (sN S)), .ref (fF f), .ref (fP f), .int (sSp S), .int (sSh S)])) := by rw [hM_491, mw_ne _ _ ne_488]; exact f_487
            have f_493 : M_491 q_482 = some (.inl (gI G, 6, .inl (upd (fun _ => 0) 0 (nI (fIx b))))) := by rw [hM_491]; exact mw_self _ _ _
            have x_494 : mw_ext M M_491 := by rw [hM_491]; exact mw_ext.up x_490 n_486 _
            refine lv_dup hx hb dX3_signs_222 rfl ?_
            refine lv_iconst (v := 1) hx hb dX3_signs_223 (by decide) ?_
            refine lv_iconst (v := 0) hx hb dX3_signs_224 (by decide) ?_
            refine mw_iast hx hb hK hP hS 0 f_493 (hAn _ hs_484) rfl (by unfold vp_in; decide) dX3_signs_225 (fun H locs hP hS => ?_)
            obtain ⟨M_495, hM_495⟩ : ∃ z9 : mw_M, z9 = mw_up M_491 q_482 (.inl (gI G, 6, .inl (upd (upd (fun _ => 0) 0 (nI (fIx b))) 1 0))) := ⟨_, rfl⟩
            have hP : mw_P (gD G) gx_cl M_495 H := by rw [hM_495]; exact hP
            have f_496 : M_495 (f0 f) = some (.inr (3, [.ref (fM f), .int (nI (sN S)), .ref (fF f), .ref (fP f), .int (sSp S), .int (sSh S)])) := by rw [hM_495, mw_ne _ _ ne_488]; exact f_492
            have f_497 : M_495 q_482 = some (.inl (gI G, 6, .inl (upd (upd (fun _ => 0) 0 (nI (fIx b))) 1 0))) := by rw [hM_495]; exact mw_self _ _ _
            have x_498 : mw_ext M M_495 := by rw [hM_495]; exact mw_ext.up x_494 n_486 _
            refine lv_dup hx hb dX3_signs_226 rfl ?_
            refine lv_iconst (v := 2) hx hb dX3_signs_227 (by decide) ?_
            refine lv_iconst (v := 0) hx hb dX3_signs_228 (by decide) ?_
            refine mw_iast hx hb hK hP hS 0 f_497 (hAn _ hs_484) rfl (by unfold vp_in; decide) dX3_signs_229 (fun H locs hP hS => ?_)
            obtain ⟨M_499, hM_499⟩ : ∃ z9 : mw_M, z9 = mw_up M_495 q_482 (.inl (gI G, 6, .inl (upd (upd (upd (fun _ => 0) 0 (nI (fIx b))) 1 0) 2 0))) := ⟨_, rfl⟩
            have hP : mw_P (gD G) gx_cl M_499 H := by rw [hM_499]; exact hP
            have f_500 : M_499 (f0 f) = some (.inr (3, [.ref (fM f), .int (nI (sN S)), .ref (fF f), .ref (fP f), .int (sSp S), .int (sSh S)])) := by rw [hM_499, mw_ne _ _ ne_488]; exact f_496
            have f_501 : M_499 q_482 = some (.inl (gI G, 6, .inl (upd (upd (upd (fun _ => 0) 0 (nI (fIx b))) 1 0) 2 0))) := by rw [hM_499]; exact mw_self _ _ _
            have x_502 : mw_ext M M_499 := by rw [hM_499]; exact mw_ext.up x_498 n_486 _
            refine lv_dup hx hb dX3_signs_230 rfl ?_
            refine lv_iconst (v := 3) hx hb dX3_signs_231 (by decide) ?_
            refine lv_iload hx hb dX3_signs_232 (lv_at hl 8 rfl) ?_
            refine mw_iast hx hb hK hP hS 0 f_501 (hAn _ hs_484) rfl (by unfold vp_in; decide) dX3_signs_234 (fun H locs hP hS => ?_)
            obtain ⟨M_503, hM_503⟩ : ∃ z9 : mw_M, z9 = mw_up M_499 q_482 (.inl (gI G, 6, .inl (upd (upd (upd (upd (fun _ => 0) 0 (nI (fIx b))) 1 0) 2 0) 3 (nI (fIx a))))) := ⟨_, rfl⟩
            have hP : mw_P (gD G) gx_cl M_503 H := by rw [hM_503]; exact hP
            have f_504 : M_503 (f0 f) = some (.inr (3, [.ref (fM f), .int (nI (sN S)), .ref (fF f), .ref (fP f), .int (sSp S), .int (sSh S)])) := by rw [hM_503, mw_ne _ _ ne_488]; exact f_500
            have f_505 : M_503 q_482 = some (.inl (gI G, 6, .inl (upd (upd (upd (upd (fun _ => 0) 0 (nI (fIx b))) 1 0) 2 0) 3 (nI (fIx a))))) := by rw [hM_503]; exact mw_self _ _ _
            have x_506 : mw_ext M M_503 := by rw [hM_503]; exact mw_ext.up x_502 n_486 _
            refine lv_dup hx hb dX3_signs_235 rfl ?_
            refine lv_iconst (v := 4) hx hb dX3_signs_236 (by decide) ?_
            refine lv_aload_n hx hb dX3_signs_237 rfl (lv_at hl 3 rfl) ?_
            refine lv_iload_n hx hb dX3_signs_238 rfl (lv_at hl 6 rfl) ?_
            refine mw_callV (C := RX3) (As := [.int (nI (fIx b))]) (rest := [.int 4, .ref q_482, .ref q_482, .int (((bW S (fIx b)) + (bW S (fIx a))) + (sSp S)), .ref (f0 f), .ref (f0 f)]) hx hb hml hown hl (kX3_widthOf l htr G H.size M_503 f S (fs_R.ext hR x_506) (fIx b) h_b) (g_B (n := 1) htb wd406 wd1 wd403 (by decide +kernel) ⟨Nat.le_of_ble_eq_true rfl, Nat.le_of_ble_eq_true rfl⟩) (htb _ wd405) (htb _ ws14) hE hP hS (fs_R.this (fs_R.ext hR x_506)) rfl rfl rfl (Nat.le_of_ble_eq_true rfl) dX3_signs_239 ⟨Nat.le_of_ble_eq_true rfl, Nat.le_of_ble_eq_true rfl⟩ (fun v9 M9 H locs hpo hP hz hS => ?_) (fun x9 E9 cell9 H9 locs9 hE9 => hE9.elim)
            obtain ⟨rfl, rfl⟩ := hpo
            refine W.eq (g2 := F0 m 242 ls [.int (bW S (fIx b)), .int 4, .ref q_482, .ref q_482, .int (((bW S (fIx b)) + (bW S (fIx a))) + (sSp S)), .ref (f0 f), .ref (f0 f)]) rfl ?_
            refine mw_iast hx hb hK hP hS 0 f_505 (hAn _ hs_484) rfl (by unfold vp_in; decide) dX3_signs_242 (fun H locs hP hS => ?_)
            obtain ⟨M_507, hM_507⟩ : ∃ z9 : mw_M, z9 = mw_up M_503 q_482 (.inl (gI G, 6, .inl (upd (upd (upd (upd (upd (fun _ => 0) 0 (nI (fIx b))) 1 0) 2 0) 3 (nI (fIx a))) 4 (bW S (fIx b))))) := ⟨_, rfl⟩
            have hP : mw_P (gD G) gx_cl M_507 H := by rw [hM_507]; exact hP
            have f_508 : M_507 (f0 f) = some (.inr (3, [.ref (fM f), .int (nI (sN S)), .ref (fF f), .ref (fP f), .int (sSp S), .int (sSh S)])) := by rw [hM_507, mw_ne _ _ ne_488]; exact f_504
            have f_509 : M_507 q_482 = some (.inl (gI G, 6, .inl (upd (upd (upd (upd (upd (fun _ => 0) 0 (nI (fIx b))) 1 0) 2 0) 3 (nI (fIx a))) 4 (bW S (fIx b))))) := by rw [hM_507]; exact mw_self _ _ _
            have x_510 : mw_ext M M_507 := by rw [hM_507]; exact mw_ext.up x_506 n_486 _
            refine lv_dup hx hb dX3_signs_243 rfl ?_
            refine lv_iconst (v := 5) hx hb dX3_signs_244 (by decide) ?_
            refine lv_iload hx hb dX3_signs_245 (lv_at hl 0 rfl) ?_
            refine mw_iast hx hb hK hP hS 0 f_509 (hAn _ hs_484) rfl (by unfold vp_in; decide) dX3_signs_247 (fun H locs hP hS => ?_)
            obtain ⟨M_511, hM_511⟩ : ∃ z9 : mw_M, z9 = mw_up M_507 q_482 (.inl (gI G, 6, .inl (upd (upd (upd (upd (upd (upd (fun _ => 0) 0 (nI (fIx b))) 1 0) 2 0) 3 (nI (fIx a))) 4 (bW S (fIx b))) 5 (fs_us S (fIx st) cr 0 (fIx a))))) := ⟨_, rfl⟩
            have hP : mw_P (gD G) gx_cl M_511 H := by rw [hM_511]; exact hP
            have f_512 : M_511 (f0 f) = some (.inr (3, [.ref (fM f), .int (nI (sN S)), .ref (fF f), .ref (fP f), .int (sSp S), .int (sSh S)])) := by rw [hM_511, mw_ne _ _ ne_488]; exact f_508
            have f_513 : M_511 q_482 = some (.inl (gI G, 6, .inl (upd (upd (upd (upd (upd (upd (fun _ => 0) 0 (nI (fIx b))) 1 0) 2 0) 3 (nI (fIx a))) 4 (bW S (fIx b))) 5 (fs_us S (fIx st) cr 0 (fIx a))))) := by rw [hM_511]; exact mw_self _ _ _
            have x_514 : mw_ext M M_511 := by rw [hM_511]; exact mw_ext.up x_510 n_486 _
            refine mw_callV (C := RX3) (As := [.int (((bW S (fIx b)) + (bW S (fIx a))) + (sSp S)), .ref q_482]) (rest := [.ref (f0 f)]) hx hb hml hown hl (kX3_enclosing l htr G H.size M_511 f S (fs_R.ext hR x_514) (fs_hXe x_514 hX) (fun q h => hAn q (Nat.le_trans hS.1 h)) q_482 (upd (upd (upd (upd (upd (upd (fun _ => 0) 0 (nI (fIx b))) 1 0) 2 0) 3 (nI (fIx a))) 4 (bW S (fIx b))) 5 (fs_us S (fIx st) cr 0 (fIx a))) (((bW S (fIx b)) + (bW S (fIx a))) + (sSp S)) [(nI (fIx b)), 0, 0, (nI (fIx a)), (bW S (fIx b)), (fs_us S (fIx st) cr 0 (fIx a))] f_513 (fun z => hX _ z n_486) (fun j hj => by rcases (show j = 0 ∨ j = 1 ∨ j = 2 ∨ j = 3 ∨ j = 4 ∨ j = 5 by simp at hj; omega) with rfl | rfl | rfl | rfl | rfl | rfl <;> rfl) (by simp) (by simp) (fun j hj => by
                rcases (show j = 0 ∨ j = 1 by simp at hj; omega) with rfl | rfl
                · exact ⟨(fIx b), h_b, rfl⟩
                · exact ⟨(fIx a), h_a, rfl⟩)) (g_B (n := 2) htb wd452 wd1 wd449 (by decide +kernel) ⟨Nat.le_of_ble_eq_true rfl, Nat.le_of_ble_eq_true rfl⟩) (htb _ wd451) (htb _ ws20) hE hP hS (fs_R.this (fs_R.ext hR x_514)) rfl rfl rfl (Nat.le_of_ble_eq_true rfl) dX3_signs_248 ⟨Nat.le_of_ble_eq_true rfl, Nat.le_of_ble_eq_true rfl⟩ (fun v9 M9 H locs hpo hP hz hS => ?_) (fun x9 E9 cell9 H9 locs9 hE9 => hE9.elim)
            obtain ⟨q_515, rfl, x_516, b_517⟩ := hpo
            obtain ⟨M_519, hM_519⟩ : ∃ z9 : mw_M, z9 = M9 := ⟨_, rfl⟩
            rw [← hM_519] at hP x_516 b_517
            have x_520 : mw_ext M M_519 := mw_ext.tr x_514 x_516
            have f_521 : M_519 (f0 f) = some (.inr (3, [.ref (fM f), .int (nI (sN S)), .ref (fF f), .ref (fP f), .int (sSp S), .int (sSh S)])) := x_516 _ _ f_512
            have f_522 : M_519 q_482 = some (.inl (gI G, 6, .inl (upd (upd (upd (upd (upd (upd (fun _ => 0) 0 (nI (fIx b))) 1 0) 2 0) 3 (nI (fIx a))) 4 (bW S (fIx b))) 5 (fs_us S (fIx st) cr 0 (fIx a))))) := x_516 _ _ f_513
            refine W.eq (g2 := F0 m 251 ls [.ref q_515, .ref (f0 f)]) rfl ?_
            refine mw_callV (C := RX3) (As := [.ref q_515]) (rest := []) hx hb hml hown hl (kX3_keep l htr G H.size M_519 f S (fs_R.ext hR x_520) (rmk_lt k_6 hR.ok.1) q_515 (fs_en S (((bW S (fIx b)) + (bW S (fIx a))) + (sSp S)) [(nI (fIx b)), 0, 0, (nI (fIx a)), (bW S (fIx b)), (fs_us S (fIx st) cr 0 (fIx a))]) b_517 (fs_pl2 (on_i h_b) (on_i h_a))) (g_B (n := 1) htb wd256 wd1 wd253 (by decide +kernel) ⟨Nat.le_of_ble_eq_true rfl, Nat.le_of_ble_eq_true rfl⟩) (htb _ wd255) (htb _ ws2) hE hP hS (fs_R.this (fs_R.ext hR x_520)) rfl rfl rfl (Nat.le_of_ble_eq_true rfl) dX3_signs_251 ⟨Nat.le_of_ble_eq_true rfl, Nat.le_of_ble_eq_true rfl⟩ (fun v9 M9 H locs hpo hP hz hS => ?_) (fun x9 E9 cell9 H9 locs9 hE9 => hE9.elim)
            obtain ⟨rfl, hR9, hk9⟩ := hpo
            refine W.eq (g2 := F0 m 254 ls [.int (nI (sN S))]) rfl ?_
            have hre : re_signs S st cr b lt a z = fs_en S (((bW S (fIx b)) + (bW S (fIx a))) + (sSp S)) [(nI (fIx b)), 0, 0, (nI (fIx a)), (bW S (fIx b)), (fs_us S (fIx st) cr 0 (fIx a))] := by simp only [re_signs, si_u, si_v, if_neg c_7 , if_pos c_193 , if_neg c_379 , if_neg c_473 , if_pos c_474]
            exact mx_iret (v := (nI (sN S))) (M' := M9) hx hb hr hlocks hP hS ⟨by rw [ex_lim, if_neg (fun z9 => z9 ⟨k_1, k_2, k_3⟩), if_neg (fun z9 => z9 ⟨k_4, k_5⟩), if_neg (fun z9 => z9 k_6)], rfl, by rw [hre]; exact hR9, fs_keeps.tr (fs_keeps.of x_520) hk9⟩ dX3_signs_254 (Nat.le_of_ble_eq_true rfl) (Nat.le_of_ble_eq_true rfl)
        · have hz1 : ¬ z = (-1) := fun q => k_5 ⟨c_473, q⟩
          have hb_z := k_3.resolve_left hz1
          have h_z := isB_lt hb_z hR.ok.1
          have e_z := fIx_of hb_z.1
          rw [e_z] at hl
          refine lv_aload_n hx hb dX3_signs_105 rfl (lv_at hl 3 rfl) ?_
          refine lv_iload_n hx hb dX3_signs_106 rfl (lv_at hl 4 rfl) ?_
          refine lv_iload hx hb dX3_signs_107 (lv_at hl 0 rfl) ?_
          refine lv_iload hx hb dX3_signs_109 (lv_at hl 9 rfl) ?_
          refine mw_callV (C := RX3) (As := [.int (nI (fIx st)), .int 0, .int (nI (fIx z))]) (rest := []) hx hb hml hown hl (kX3_downAlone l htr G H.size M f S hR (fIx st) h_st 0 (fIx z) h_z) (g_B (n := 3) htb wd444 wd1 wd441 (by decide +kernel) ⟨Nat.le_of_ble_eq_true rfl, Nat.le_of_ble_eq_true rfl⟩) (htb _ wd443) (htb _ ws18) hE hP hS (fs_R.this hR) rfl rfl rfl (Nat.le_of_ble_eq_true rfl) dX3_signs_111 ⟨Nat.le_of_ble_eq_true rfl, Nat.le_of_ble_eq_true rfl⟩ (fun v9 M9 H locs hpo hP hz hS => ?_) (fun x9 E9 cell9 H9 locs9 hE9 => hE9.elim)
          obtain ⟨rfl, rfl⟩ := hpo
          refine W.eq (g2 := F0 m 114 ls [.int (fs_da S (fIx st) 0 (fIx z))]) rfl ?_
          refine lv_istore (lv' := [(9, .int (fs_da S (fIx st) 0 (fIx z))), (8, .int 0), (7, .int 2), (0, .ref (f0 f)), (1, .int (nI (fIx st))), (2, .int cr), (3, .int (nI (fIx b))), (4, .int lt), (5, .int a), (6, .int (nI (fIx z)))]) hx hb dX3_signs_114 hl (by decide) rfl (fun ls hl => ?_)
          refine lv_aload_n hx hb dX3_signs_116 rfl (lv_at hl 3 rfl) ?_
          refine lv_aload_n hx hb dX3_signs_117 rfl (lv_at hl 3 rfl) ?_
          refine lv_aload_n hx hb dX3_signs_118 rfl (lv_at hl 3 rfl) ?_
          refine lv_iload_n hx hb dX3_signs_119 rfl (lv_at hl 6 rfl) ?_
          refine mw_callV (C := RX3) (As := [.int (nI (fIx b))]) (rest := [.ref (f0 f), .ref (f0 f)]) hx hb hml hown hl (kX3_widthOf l htr G H.size M f S hR (fIx b) h_b) (g_B (n := 1) htb wd406 wd1 wd403 (by decide +kernel) ⟨Nat.le_of_ble_eq_true rfl, Nat.le_of_ble_eq_true rfl⟩) (htb _ wd405) (htb _ ws14) hE hP hS (fs_R.this hR) rfl rfl rfl (Nat.le_of_ble_eq_true rfl) dX3_signs_120 ⟨Nat.le_of_ble_eq_true rfl, Nat.le_of_ble_eq_true rfl⟩ (fun v9 M9 H locs hpo hP hz hS => ?_) (fun x9 E9 cell9 H9 locs9 hE9 => hE9.elim)
          obtain ⟨rfl, rfl⟩ := hpo
          refine W.eq (g2 := F0 m 123 ls [.int (bW S (fIx b)), .ref (f0 f), .ref (f0 f)]) rfl ?_
          refine lv_aload_n hx hb dX3_signs_123 rfl (lv_at hl 3 rfl) ?_
          refine lv_iload hx hb dX3_signs_124 (lv_at hl 9 rfl) ?_
          refine mw_callV (C := RX3) (As := [.int (nI (fIx z))]) (rest := [.int (bW S (fIx b)), .ref (f0 f), .ref (f0 f)]) hx hb hml hown hl (kX3_widthOf l htr G H.size M f S hR (fIx z) h_z) (g_B (n := 1) htb wd406 wd1 wd403 (by decide +kernel) ⟨Nat.le_of_ble_eq_true rfl, Nat.le_of_ble_eq_true rfl⟩) (htb _ wd405) (htb _ ws14) hE hP hS (fs_R.this hR) rfl rfl rfl (Nat.le_of_ble_eq_true rfl) dX3_signs_126 ⟨Nat.le_of_ble_eq_true rfl, Nat.le_of_ble_eq_true rfl⟩ (fun v9 M9 H locs hpo hP hz hS => ?_) (fun x9 E9 cell9 H9 locs9 hE9 => hE9.elim)
          obtain ⟨rfl, rfl⟩ := hpo
          refine W.eq (g2 := F0 m 129 ls [.int (bW S (fIx z)), .int (bW S (fIx b)), .ref (f0 f), .ref (f0 f)]) rfl ?_
          refine lv_iadd hx hb dX3_signs_129 ?_
          refine lv_aload_n hx hb dX3_signs_130 rfl (lv_at hl 3 rfl) ?_
          refine mw_get (D := gD G) (ci := 3) (v := .int (sSp S)) (C := RX3) (T := TX3) (N := 6) hx hb htb inX3 hown hK hP (hR.this) rfl 4 (by decide) (htb _ wd60) (fun _ h9 => h9) rfl dX3_signs_131 ?_
          refine lv_iadd hx hb dX3_signs_134 ?_
          refine lv_bipush (v := 6) hx hb dX3_signs_135 (by decide) ?_
          refine mw_newi (N := 6) hx hb (htb _ wd55) hK hP hS 0 rfl (by decide) (by decide) (by decide) (Nat.le_of_ble_eq_true rfl) (Nat.le_of_ble_eq_true rfl) dX3_signs_137 (fun q_523 H hq_524 hs_525 hP hS => ?_)
          obtain ⟨M_526, hM_526⟩ : ∃ z9 : mw_M, z9 = mw_up M q_523 (.inl (gI G, 6, .inl (fun _ => 0))) := ⟨_, rfl⟩
          have hP : mw_P (gD G) gx_cl M_526 H := by rw [hM_526]; exact hP
          have n_527 : M q_523 = none := mw_ext.no (mw_ext.rf M) hq_524
          have f_528 : M_526 (f0 f) = some (.inr (3, [.ref (fM f), .int (nI (sN S)), .ref (fF f), .ref (fP f), .int (sSp S), .int (sSh S)])) := by rw [hM_526, mw_ne _ _ (fun z => by have z1 := (hR.this); rw [z, hq_524] at z1; cases z1)]; exact (hR.this)
          have ne_529 : (f0 f) ≠ q_523 := fun z => by have z1 := (hR.this); rw [z, hq_524] at z1; cases z1
          have f_530 : M_526 q_523 = some (.inl (gI G, 6, .inl (fun _ => 0))) := by rw [hM_526]; exact mw_self _ _ _
          have x_531 : mw_ext M M_526 := by rw [hM_526]; exact mw_ext.up (mw_ext.rf M) n_527 _
          refine lv_dup hx hb dX3_signs_139 rfl ?_
          refine lv_iconst (v := 0) hx hb dX3_signs_140 (by decide) ?_
          refine lv_iload_n hx hb dX3_signs_141 rfl (lv_at hl 6 rfl) ?_
          refine mw_iast hx hb hK hP hS 0 f_530 (hAn _ hs_525) rfl (by unfold vp_in; decide) dX3_signs_142 (fun H locs hP hS => ?_)
          obtain ⟨M_532, hM_532⟩ : ∃ z9 : mw_M, z9 = mw_up M_526 q_523 (.inl (gI G, 6, .inl (upd (fun _ => 0) 0 (nI (fIx b))))) := ⟨_, rfl⟩
          have hP : mw_P (gD G) gx_cl M_532 H := by rw [hM_532]; exact hP
          have f_533 : M_532 (f0 f) = some (.inr (3, [.ref (fM f), .int (nI (sN S)), .ref (fF f), .ref (fP f), .int (sSp S), .int (sSh S)])) := by rw [hM_532, mw_ne _ _ ne_529]; exact f_528
          have f_534 : M_532 q_523 = some (.inl (gI G, 6, .inl (upd (fun _ => 0) 0 (nI (fIx b))))) := by rw [hM_532]; exact mw_self _ _ _
          have x_535 : mw_ext M M_532 := by rw [hM_532]; exact mw_ext.up x_531 n_527 _
          refine lv_dup hx hb dX3_signs_143 rfl ?_
          refine lv_iconst (v := 1) hx hb dX3_signs_144 (by decide) ?_
          refine lv_iconst (v := 0) hx hb dX3_signs_145 (by decide) ?_
          refine mw_iast hx hb hK hP hS 0 f_534 (hAn _ hs_525) rfl (by unfold vp_in; decide) dX3_signs_146 (fun H locs hP hS => ?_)
          obtain ⟨M_536, hM_536⟩ : ∃ z9 : mw_M, z9 = mw_up M_532 q_523 (.inl (gI G, 6, .inl (upd (upd (fun _ => 0) 0 (nI (fIx b))) 1 0))) := ⟨_, rfl⟩
          have hP : mw_P (gD G) gx_cl M_536 H := by rw [hM_536]; exact hP
          have f_537 : M_536 (f0 f) = some (.inr (3, [.ref (fM f), .int (nI (sN S)), .ref (fF f), .ref (fP f), .int (sSp S), .int (sSh S)])) := by rw [hM_536, mw_ne _ _ ne_529]; exact f_533
          have f_538 : M_536 q_523 = some (.inl (gI G, 6, .inl (upd (upd (fun _ => 0) 0 (nI (fIx b))) 1 0))) := by rw [hM_536]; exact mw_self _ _ _
          have x_539 : mw_ext M M_536 := by rw [hM_536]; exact mw_ext.up x_535 n_527 _
          refine lv_dup hx hb dX3_signs_147 rfl ?_
          refine lv_iconst (v := 2) hx hb dX3_signs_148 (by decide) ?_
          refine lv_iconst (v := 0) hx hb dX3_signs_149 (by decide) ?_
          refine mw_iast hx hb hK hP hS 0 f_538 (hAn _ hs_525) rfl (by unfold vp_in; decide) dX3_signs_150 (fun H locs hP hS => ?_)
          obtain ⟨M_540, hM_540⟩ : ∃ z9 : mw_M, z9 = mw_up M_536 q_523 (.inl (gI G, 6, .inl (upd (upd (upd (fun _ => 0) 0 (nI (fIx b))) 1 0) 2 0))) := ⟨_, rfl⟩
          have hP : mw_P (gD G) gx_cl M_540 H := by rw [hM_540]; exact hP
          have f_541 : M_540 (f0 f) = some (.inr (3, [.ref (fM f), .int (nI (sN S)), .ref (fF f), .ref (fP f), .int (sSp S), .int (sSh S)])) := by rw [hM_540, mw_ne _ _ ne_529]; exact f_537
          have f_542 : M_540 q_523 = some (.inl (gI G, 6, .inl (upd (upd (upd (fun _ => 0) 0 (nI (fIx b))) 1 0) 2 0))) := by rw [hM_540]; exact mw_self _ _ _
          have x_543 : mw_ext M M_540 := by rw [hM_540]; exact mw_ext.up x_539 n_527 _
          refine lv_dup hx hb dX3_signs_151 rfl ?_
          refine lv_iconst (v := 3) hx hb dX3_signs_152 (by decide) ?_
          refine lv_iload hx hb dX3_signs_153 (lv_at hl 9 rfl) ?_
          refine mw_iast hx hb hK hP hS 0 f_542 (hAn _ hs_525) rfl (by unfold vp_in; decide) dX3_signs_155 (fun H locs hP hS => ?_)
          obtain ⟨M_544, hM_544⟩ : ∃ z9 : mw_M, z9 = mw_up M_540 q_523 (.inl (gI G, 6, .inl (upd (upd (upd (upd (fun _ => 0) 0 (nI (fIx b))) 1 0) 2 0) 3 (nI (fIx z))))) := ⟨_, rfl⟩
          have hP : mw_P (gD G) gx_cl M_544 H := by rw [hM_544]; exact hP
          have f_545 : M_544 (f0 f) = some (.inr (3, [.ref (fM f), .int (nI (sN S)), .ref (fF f), .ref (fP f), .int (sSp S), .int (sSh S)])) := by rw [hM_544, mw_ne _ _ ne_529]; exact f_541
          have f_546 : M_544 q_523 = some (.inl (gI G, 6, .inl (upd (upd (upd (upd (fun _ => 0) 0 (nI (fIx b))) 1 0) 2 0) 3 (nI (fIx z))))) := by rw [hM_544]; exact mw_self _ _ _
          have x_547 : mw_ext M M_544 := by rw [hM_544]; exact mw_ext.up x_543 n_527 _
          refine lv_dup hx hb dX3_signs_156 rfl ?_
          refine lv_iconst (v := 4) hx hb dX3_signs_157 (by decide) ?_
          refine lv_aload_n hx hb dX3_signs_158 rfl (lv_at hl 3 rfl) ?_
          refine lv_iload_n hx hb dX3_signs_159 rfl (lv_at hl 6 rfl) ?_
          refine mw_callV (C := RX3) (As := [.int (nI (fIx b))]) (rest := [.int 4, .ref q_523, .ref q_523, .int (((bW S (fIx b)) + (bW S (fIx z))) + (sSp S)), .ref (f0 f), .ref (f0 f)]) hx hb hml hown hl (kX3_widthOf l htr G H.size M_544 f S (fs_R.ext hR x_547) (fIx b) h_b) (g_B (n := 1) htb wd406 wd1 wd403 (by decide +kernel) ⟨Nat.le_of_ble_eq_true rfl, Nat.le_of_ble_eq_true rfl⟩) (htb _ wd405) (htb _ ws14) hE hP hS (fs_R.this (fs_R.ext hR x_547)) rfl rfl rfl (Nat.le_of_ble_eq_true rfl) dX3_signs_160 ⟨Nat.le_of_ble_eq_true rfl, Nat.le_of_ble_eq_true rfl⟩ (fun v9 M9 H locs hpo hP hz hS => ?_) (fun x9 E9 cell9 H9 locs9 hE9 => hE9.elim)
          obtain ⟨rfl, rfl⟩ := hpo
          refine W.eq (g2 := F0 m 163 ls [.int (bW S (fIx b)), .int 4, .ref q_523, .ref q_523, .int (((bW S (fIx b)) + (bW S (fIx z))) + (sSp S)), .ref (f0 f), .ref (f0 f)]) rfl ?_
          refine mw_iast hx hb hK hP hS 0 f_546 (hAn _ hs_525) rfl (by unfold vp_in; decide) dX3_signs_163 (fun H locs hP hS => ?_)
          obtain ⟨M_548, hM_548⟩ : ∃ z9 : mw_M, z9 = mw_up M_544 q_523 (.inl (gI G, 6, .inl (upd (upd (upd (upd (upd (fun _ => 0) 0 (nI (fIx b))) 1 0) 2 0) 3 (nI (fIx z))) 4 (bW S (fIx b))))) := ⟨_, rfl⟩
          have hP : mw_P (gD G) gx_cl M_548 H := by rw [hM_548]; exact hP
          have f_549 : M_548 (f0 f) = some (.inr (3, [.ref (fM f), .int (nI (sN S)), .ref (fF f), .ref (fP f), .int (sSp S), .int (sSh S)])) := by rw [hM_548, mw_ne _ _ ne_529]; exact f_545
          have f_550 : M_548 q_523 = some (.inl (gI G, 6, .inl (upd (upd (upd (upd (upd (fun _ => 0) 0 (nI (fIx b))) 1 0) 2 0) 3 (nI (fIx z))) 4 (bW S (fIx b))))) := by rw [hM_548]; exact mw_self _ _ _
          have x_551 : mw_ext M M_548 := by rw [hM_548]; exact mw_ext.up x_547 n_527 _
          refine lv_dup hx hb dX3_signs_164 rfl ?_
          refine lv_iconst (v := 5) hx hb dX3_signs_165 (by decide) ?_
          refine lv_iload hx hb dX3_signs_166 (lv_at hl 0 rfl) ?_
          refine lv_ineg hx hb dX3_signs_168 ?_
          refine mw_iast hx hb hK hP hS 0 f_550 (hAn _ hs_525) rfl (by unfold vp_in; decide) dX3_signs_169 (fun H locs hP hS => ?_)
          obtain ⟨M_552, hM_552⟩ : ∃ z9 : mw_M, z9 = mw_up M_548 q_523 (.inl (gI G, 6, .inl (upd (upd (upd (upd (upd (upd (fun _ => 0) 0 (nI (fIx b))) 1 0) 2 0) 3 (nI (fIx z))) 4 (bW S (fIx b))) 5 (-(fs_da S (fIx st) 0 (fIx z)))))) := ⟨_, rfl⟩
          have hP : mw_P (gD G) gx_cl M_552 H := by rw [hM_552]; exact hP
          have f_553 : M_552 (f0 f) = some (.inr (3, [.ref (fM f), .int (nI (sN S)), .ref (fF f), .ref (fP f), .int (sSp S), .int (sSh S)])) := by rw [hM_552, mw_ne _ _ ne_529]; exact f_549
          have f_554 : M_552 q_523 = some (.inl (gI G, 6, .inl (upd (upd (upd (upd (upd (upd (fun _ => 0) 0 (nI (fIx b))) 1 0) 2 0) 3 (nI (fIx z))) 4 (bW S (fIx b))) 5 (-(fs_da S (fIx st) 0 (fIx z)))))) := by rw [hM_552]; exact mw_self _ _ _
          have x_555 : mw_ext M M_552 := by rw [hM_552]; exact mw_ext.up x_551 n_527 _
          refine mw_callV (C := RX3) (As := [.int (((bW S (fIx b)) + (bW S (fIx z))) + (sSp S)), .ref q_523]) (rest := [.ref (f0 f)]) hx hb hml hown hl (kX3_enclosing l htr G H.size M_552 f S (fs_R.ext hR x_555) (fs_hXe x_555 hX) (fun q h => hAn q (Nat.le_trans hS.1 h)) q_523 (upd (upd (upd (upd (upd (upd (fun _ => 0) 0 (nI (fIx b))) 1 0) 2 0) 3 (nI (fIx z))) 4 (bW S (fIx b))) 5 (-(fs_da S (fIx st) 0 (fIx z)))) (((bW S (fIx b)) + (bW S (fIx z))) + (sSp S)) [(nI (fIx b)), 0, 0, (nI (fIx z)), (bW S (fIx b)), (-(fs_da S (fIx st) 0 (fIx z)))] f_554 (fun z => hX _ z n_527) (fun j hj => by rcases (show j = 0 ∨ j = 1 ∨ j = 2 ∨ j = 3 ∨ j = 4 ∨ j = 5 by simp at hj; omega) with rfl | rfl | rfl | rfl | rfl | rfl <;> rfl) (by simp) (by simp) (fun j hj => by
              rcases (show j = 0 ∨ j = 1 by simp at hj; omega) with rfl | rfl
              · exact ⟨(fIx b), h_b, rfl⟩
              · exact ⟨(fIx z), h_z, rfl⟩)) (g_B (n := 2) htb wd452 wd1 wd449 (by decide +kernel) ⟨Nat.le_of_ble_eq_true rfl, Nat.le_of_ble_eq_true rfl⟩) (htb _ wd451) (htb _ ws20) hE hP hS (fs_R.this (fs_R.ext hR x_555)) rfl rfl rfl (Nat.le_of_ble_eq_true rfl) dX3_signs_170 ⟨Nat.le_of_ble_eq_true rfl, Nat.le_of_ble_eq_true rfl⟩ (fun v9 M9 H locs hpo hP hz hS => ?_) (fun x9 E9 cell9 H9 locs9 hE9 => hE9.elim)
          obtain ⟨q_556, rfl, x_557, b_558⟩ := hpo
          obtain ⟨M_560, hM_560⟩ : ∃ z9 : mw_M, z9 = M9 := ⟨_, rfl⟩
          rw [← hM_560] at hP x_557 b_558
          have x_561 : mw_ext M M_560 := mw_ext.tr x_555 x_557
          have f_562 : M_560 (f0 f) = some (.inr (3, [.ref (fM f), .int (nI (sN S)), .ref (fF f), .ref (fP f), .int (sSp S), .int (sSh S)])) := x_557 _ _ f_553
          have f_563 : M_560 q_523 = some (.inl (gI G, 6, .inl (upd (upd (upd (upd (upd (upd (fun _ => 0) 0 (nI (fIx b))) 1 0) 2 0) 3 (nI (fIx z))) 4 (bW S (fIx b))) 5 (-(fs_da S (fIx st) 0 (fIx z)))))) := x_557 _ _ f_554
          refine W.eq (g2 := F0 m 173 ls [.ref q_556, .ref (f0 f)]) rfl ?_
          refine mw_callV (C := RX3) (As := [.ref q_556]) (rest := []) hx hb hml hown hl (kX3_keep l htr G H.size M_560 f S (fs_R.ext hR x_561) (rmk_lt k_6 hR.ok.1) q_556 (fs_en S (((bW S (fIx b)) + (bW S (fIx z))) + (sSp S)) [(nI (fIx b)), 0, 0, (nI (fIx z)), (bW S (fIx b)), (-(fs_da S (fIx st) 0 (fIx z)))]) b_558 (fs_pl2 (on_i h_b) (on_i h_z))) (g_B (n := 1) htb wd256 wd1 wd253 (by decide +kernel) ⟨Nat.le_of_ble_eq_true rfl, Nat.le_of_ble_eq_true rfl⟩) (htb _ wd255) (htb _ ws2) hE hP hS (fs_R.this (fs_R.ext hR x_561)) rfl rfl rfl (Nat.le_of_ble_eq_true rfl) dX3_signs_173 ⟨Nat.le_of_ble_eq_true rfl, Nat.le_of_ble_eq_true rfl⟩ (fun v9 M9 H locs hpo hP hz hS => ?_) (fun x9 E9 cell9 H9 locs9 hE9 => hE9.elim)
          obtain ⟨rfl, hR9, hk9⟩ := hpo
          refine W.eq (g2 := F0 m 176 ls [.int (nI (sN S))]) rfl ?_
          have hre : re_signs S st cr b lt a z = fs_en S (((bW S (fIx b)) + (bW S (fIx z))) + (sSp S)) [(nI (fIx b)), 0, 0, (nI (fIx z)), (bW S (fIx b)), (-(fs_da S (fIx st) 0 (fIx z)))] := by simp only [re_signs, si_u, si_v, if_neg c_7 , if_pos c_193 , if_neg c_379 , if_pos c_473]
          exact mx_iret (v := (nI (sN S))) (M' := M9) hx hb hr hlocks hP hS ⟨by rw [ex_lim, if_neg (fun z9 => z9 ⟨k_1, k_2, k_3⟩), if_neg (fun z9 => z9 ⟨k_4, k_5⟩), if_neg (fun z9 => z9 k_6)], rfl, by rw [hre]; exact hR9, fs_keeps.tr (fs_keeps.of x_561) hk9⟩ dX3_signs_176 (Nat.le_of_ble_eq_true rfl) (Nat.le_of_ble_eq_true rfl)
