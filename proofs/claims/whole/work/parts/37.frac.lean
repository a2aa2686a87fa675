/-! printed by wip/whole/spec*.py -/
-- X3_fractionBare
set_option maxHeartbeats 4000000 in
set_option maxRecDepth 100000 in
theorem kX3_fractionBare (l : Launch) (htr : l.stackTraces = false) (G : gx_G) (sz : Nat) (M : mw_M) (f : fs_A) (S : fs_S) (hR : fs_R G f M S) (hX : ∀ a, fX f a → M a ≠ none) (hA : ∀ q : Nat, sz ≤ q → gA G q) (st n d : Nat) (h_st : st < 4) (h_n : n < sN S) (h_d : d < sN S) : g_Met l G yX3_fractionBare (.code yX3_fractionBare cX3_fractionBare 10 (some (.object "FormulaShapes$Box"))) ({ frames := 4, cells := 3, slots := 24, locals := 180 } : Room) sz M [.ref (f0 f), .int (nI st), .int (nI n), .int (nI d)] (fun v M9 => ∃ q, v = some (.ref q) ∧ mw_ext M M9 ∧ fs_bx G f M9 q (fs_fb S st n d)) (fun _ => False) := by
  refine MetE.ofW (cc := cX3_fractionBare) (maxL := 10) (ret := (some (.object "FormulaShapes$Box"))) (by decide) rfl ?_
  intro p e s m args below meth c s₁ B hml hv
  obtain ⟨rfl, hsz, hP, hE⟩ := hv
  have hx := B.exec
  have hb := B.bytes
  have hr := B.returns
  have hts := atoms_spec (ws := _ :: lw_big) B.pre
  have htb : ∀ w ∈ lw_big, w.before _ s = true := fun w h => hts w (List.mem_cons_of_mem _ h)
  have hno := B.noHandlers (hts _ List.mem_cons_self)
  have hown : s.vm.findClass RX3 = some m.cls := findClass_of_methodNamed B.named
  have hlocks := B.notSynchronized
  have hK := hE.1
  subst hsz
  have hAn : ∀ q : Nat, s.heap.size ≤ q → gA G q := hA
  have hS : va_S (gA G) s.heap s.heap [] := va_S.rf
  have hl := lv_entry ([.ref (f0 f), .int (nI st), .int (nI n), .int (nI d)]) (n := 10) (Nat.le_of_ble_eq_true rfl)
  rw [lg_entry_eq]
  generalize (lg_sl ([.ref (f0 f), .int (nI st), .int (nI n), .int (nI d)]) ++ List.replicate (10 - (lg_sl ([.ref (f0 f), .int (nI st), .int (nI n), .int (nI d)])).length) Slot.unset).toArray = ls at hl ⊢
  have hl : lv_has ls 10 [(0, .ref (f0 f)), (1, .int (nI st)), (2, .int (nI n)), (3, .int (nI d))] := hl
  refine lv_iload_n hx hb dX3_fractionBare_0 rfl (lv_at hl 1 rfl) ?_
  refine lv_if_ne (tgt := 8) hx hb dX3_fractionBare_1 (by decide) (fun c_1 => ?_) (fun c_1 => ?_)
  · refine lv_iconst (v := 0) hx hb dX3_fractionBare_8 (by decide) ?_
    refine lv_istore (lv' := [(4, .int 0), (0, .ref (f0 f)), (1, .int (nI st)), (2, .int (nI n)), (3, .int (nI d))]) hx hb dX3_fractionBare_9 hl (by decide) rfl (fun ls hl => ?_)
    refine lv_aload_n hx hb dX3_fractionBare_11 rfl (lv_at hl 1 rfl) ?_
    refine lv_iload_n hx hb dX3_fractionBare_12 rfl (lv_at hl 2 rfl) ?_
    refine lv_iload hx hb dX3_fractionBare_13 (lv_at hl 0 rfl) ?_
    refine lv_if_eq (tgt := 22) hx hb dX3_fractionBare_15 (by decide) (fun c_2 => ?_) (fun c_2 => absurd (by decide) c_2)
    refine lv_iconst (v := 3) hx hb dX3_fractionBare_22 (by decide) ?_
    refine mw_callV (C := RX3) (As := [.int (nI st), .int 3]) (rest := []) hx hb hml hown hl (kX3_valueOf l htr G s.heap.size M f S hR st 3 h_st (by decide)) (g_B (n := 2) htb wd390 wd1 wd387 (by decide +kernel) ⟨Nat.le_of_ble_eq_true rfl, Nat.le_of_ble_eq_true rfl⟩) (htb _ wd389) (htb _ ws11) hE hP hS (fs_R.this hR) rfl rfl rfl (Nat.le_of_ble_eq_true rfl) dX3_fractionBare_23 ⟨Nat.le_of_ble_eq_true rfl, Nat.le_of_ble_eq_true rfl⟩ (fun v9 M9 H locs hpo hP hz hS => ?_) (fun x9 E9 cell9 H9 locs9 hE9 => hE9.elim)
    obtain ⟨rfl, rfl⟩ := hpo
    refine W.eq (g2 := F0 m 26 ls [.int (pV S st 3)]) rfl ?_
    refine lv_istore (lv' := [(5, .int (pV S st 3)), (4, .int 0), (0, .ref (f0 f)), (1, .int (nI st)), (2, .int (nI n)), (3, .int (nI d))]) hx hb dX3_fractionBare_26 hl (by decide) rfl (fun ls hl => ?_)
    refine lv_aload_n hx hb dX3_fractionBare_28 rfl (lv_at hl 2 rfl) ?_
    refine lv_iload_n hx hb dX3_fractionBare_29 rfl (lv_at hl 3 rfl) ?_
    refine lv_iload hx hb dX3_fractionBare_30 (lv_at hl 1 rfl) ?_
    refine lv_if_eq (tgt := 39) hx hb dX3_fractionBare_32 (by decide) (fun c_3 => ?_) (fun c_3 => absurd (by decide) c_3)
    refine lv_iconst (v := 5) hx hb dX3_fractionBare_39 (by decide) ?_
    refine mw_callV (C := RX3) (As := [.int (nI st), .int 5]) (rest := []) hx hb hml hown hl (kX3_valueOf l htr G H.size M f S hR st 5 h_st (by decide)) (g_B (n := 2) htb wd390 wd1 wd387 (by decide +kernel) ⟨Nat.le_of_ble_eq_true rfl, Nat.le_of_ble_eq_true rfl⟩) (htb _ wd389) (htb _ ws11) hE hP hS (fs_R.this hR) rfl rfl rfl (Nat.le_of_ble_eq_true rfl) dX3_fractionBare_40 ⟨Nat.le_of_ble_eq_true rfl, Nat.le_of_ble_eq_true rfl⟩ (fun v9 M9 H locs hpo hP hz hS => ?_) (fun x9 E9 cell9 H9 locs9 hE9 => hE9.elim)
    obtain ⟨rfl, rfl⟩ := hpo
    refine W.eq (g2 := F0 m 43 ls [.int (pV S st 5)]) rfl ?_
    refine lv_istore (lv' := [(6, .int (pV S st 5)), (5, .int (pV S st 3)), (4, .int 0), (0, .ref (f0 f)), (1, .int (nI st)), (2, .int (nI n)), (3, .int (nI d))]) hx hb dX3_fractionBare_43 hl (by decide) rfl (fun ls hl => ?_)
    refine lv_iload hx hb dX3_fractionBare_45 (lv_at hl 2 rfl) ?_
    refine lv_if_eq (tgt := 55) hx hb dX3_fractionBare_47 (by decide) (fun c_4 => ?_) (fun c_4 => absurd (by decide) c_4)
    refine lv_iconst (v := 3) hx hb dX3_fractionBare_55 (by decide) ?_
    refine lv_aload_n hx hb dX3_fractionBare_56 rfl (lv_at hl 3 rfl) ?_
    refine lv_iload_n hx hb dX3_fractionBare_57 rfl (lv_at hl 4 rfl) ?_
    refine lv_bipush (v := 13) hx hb dX3_fractionBare_58 (by decide) ?_
    refine mw_callV (C := RX3) (As := [.int (nI st), .int 13]) (rest := [.int 3]) hx hb hml hown hl (kX3_valueOf l htr G H.size M f S hR st 13 h_st (by decide)) (g_B (n := 2) htb wd390 wd1 wd387 (by decide +kernel) ⟨Nat.le_of_ble_eq_true rfl, Nat.le_of_ble_eq_true rfl⟩) (htb _ wd389) (htb _ ws11) hE hP hS (fs_R.this hR) rfl rfl rfl (Nat.le_of_ble_eq_true rfl) dX3_fractionBare_60 ⟨Nat.le_of_ble_eq_true rfl, Nat.le_of_ble_eq_true rfl⟩ (fun v9 M9 H locs hpo hP hz hS => ?_) (fun x9 E9 cell9 H9 locs9 hE9 => hE9.elim)
    obtain ⟨rfl, rfl⟩ := hpo
    refine W.eq (g2 := F0 m 63 ls [.int (pV S st 13), .int 3]) rfl ?_
    refine lv_imul hx hb dX3_fractionBare_63 ?_
    refine lv_istore (lv' := [(7, .int (3 * (pV S st 13))), (6, .int (pV S st 5)), (5, .int (pV S st 3)), (4, .int 0), (0, .ref (f0 f)), (1, .int (nI st)), (2, .int (nI n)), (3, .int (nI d))]) hx hb dX3_fractionBare_64 hl (by decide) rfl (fun ls hl => ?_)
    refine lv_iload hx hb dX3_fractionBare_66 (lv_at hl 0 rfl) ?_
    refine lv_iload hx hb dX3_fractionBare_68 (lv_at hl 2 rfl) ?_
    refine lv_aload_n hx hb dX3_fractionBare_70 rfl (lv_at hl 4 rfl) ?_
    refine lv_iload_n hx hb dX3_fractionBare_71 rfl (lv_at hl 6 rfl) ?_
    refine mw_callV (C := RX3) (As := [.int (nI n)]) (rest := [.int (pV S st 3), .int (3 * (pV S st 13))]) hx hb hml hown hl (kX3_depthOf l htr G H.size M f S hR n h_n) (g_B (n := 1) htb wd397 wd1 wd394 (by decide +kernel) ⟨Nat.le_of_ble_eq_true rfl, Nat.le_of_ble_eq_true rfl⟩) (htb _ wd396) (htb _ ws12) hE hP hS (fs_R.this hR) rfl rfl rfl (Nat.le_of_ble_eq_true rfl) dX3_fractionBare_72 ⟨Nat.le_of_ble_eq_true rfl, Nat.le_of_ble_eq_true rfl⟩ (fun v9 M9 H locs hpo hP hz hS => ?_) (fun x9 E9 cell9 H9 locs9 hE9 => hE9.elim)
    obtain ⟨rfl, rfl⟩ := hpo
    refine W.eq (g2 := F0 m 75 ls [.int (bD S n), .int (pV S st 3), .int (3 * (pV S st 13))]) rfl ?_
    refine lv_isub hx hb dX3_fractionBare_75 ?_
    refine lv_aload_n hx hb dX3_fractionBare_76 rfl (lv_at hl 4 rfl) ?_
    refine lv_iload_n hx hb dX3_fractionBare_77 rfl (lv_at hl 7 rfl) ?_
    refine mw_callV (C := RX3) (As := [.int (nI d)]) (rest := [.int ((pV S st 3) - (bD S n)), .int (3 * (pV S st 13))]) hx hb hml hown hl (kX3_heightOf l htr G H.size M f S hR d h_d) (g_B (n := 1) htb wd402 wd1 wd399 (by decide +kernel) ⟨Nat.le_of_ble_eq_true rfl, Nat.le_of_ble_eq_true rfl⟩) (htb _ wd401) (htb _ ws13) hE hP hS (fs_R.this hR) rfl rfl rfl (Nat.le_of_ble_eq_true rfl) dX3_fractionBare_78 ⟨Nat.le_of_ble_eq_true rfl, Nat.le_of_ble_eq_true rfl⟩ (fun v9 M9 H locs hpo hP hz hS => ?_) (fun x9 E9 cell9 H9 locs9 hE9 => hE9.elim)
    obtain ⟨rfl, rfl⟩ := hpo
    refine W.eq (g2 := F0 m 81 ls [.int (bH S d), .int ((pV S st 3) - (bD S n)), .int (3 * (pV S st 13))]) rfl ?_
    refine lv_iload hx hb dX3_fractionBare_81 (lv_at hl 1 rfl) ?_
    refine lv_isub hx hb dX3_fractionBare_83 ?_
    refine lv_isub hx hb dX3_fractionBare_84 ?_
    refine lv_isub hx hb dX3_fractionBare_85 ?_
    refine mw_callS (As := [.int ((3 * (pV S st 13)) - (((pV S st 3) - (bD S n)) - ((bH S d) - (pV S st 5))))]) (rest := []) hx hb hml hown hl (kX3_half l htr G H.size M ((3 * (pV S st 13)) - (((pV S st 3) - (bD S n)) - ((bH S d) - (pV S st 5))))) (g_B (n := 1) htb wd393 wd1 wd391 (by decide +kernel) ⟨Nat.le_of_ble_eq_true rfl, Nat.le_of_ble_eq_true rfl⟩) (htb _ wd392) hE hP hS rfl rfl (Nat.le_of_ble_eq_true rfl) dX3_fractionBare_86 ⟨Nat.le_of_ble_eq_true rfl, Nat.le_of_ble_eq_true rfl⟩ (fun v9 M9 H locs hpo hP hz hS => ?_) (fun x9 E9 cell9 H9 locs9 hE9 => hE9.elim)
    obtain ⟨rfl, rfl⟩ := hpo
    refine W.eq (g2 := F0 m 89 ls [.int (fHf ((3 * (pV S st 13)) - (((pV S st 3) - (bD S n)) - ((bH S d) - (pV S st 5)))))]) rfl ?_
    refine lv_istore (lv' := [(8, .int (fHf ((3 * (pV S st 13)) - (((pV S st 3) - (bD S n)) - ((bH S d) - (pV S st 5)))))), (7, .int (3 * (pV S st 13))), (6, .int (pV S st 5)), (5, .int (pV S st 3)), (4, .int 0), (0, .ref (f0 f)), (1, .int (nI st)), (2, .int (nI n)), (3, .int (nI d))]) hx hb dX3_fractionBare_89 hl (by decide) rfl (fun ls hl => ?_)
    refine lv_iload hx hb dX3_fractionBare_91 (lv_at hl 0 rfl) ?_
    refine lv_if_le (tgt := 110) hx hb dX3_fractionBare_93 (by decide) (fun c_5 => ?_) (fun c_5 => ?_)
    · refine lv_aload_n hx hb dX3_fractionBare_110 rfl (lv_at hl 5 rfl) ?_
      refine lv_iload_n hx hb dX3_fractionBare_111 rfl (lv_at hl 7 rfl) ?_
      refine mw_callV (C := RX3) (As := [.int (nI n)]) (rest := []) hx hb hml hown hl (kX3_widthOf l htr G H.size M f S hR n h_n) (g_B (n := 1) htb wd406 wd1 wd403 (by decide +kernel) ⟨Nat.le_of_ble_eq_true rfl, Nat.le_of_ble_eq_true rfl⟩) (htb _ wd405) (htb _ ws14) hE hP hS (fs_R.this hR) rfl rfl rfl (Nat.le_of_ble_eq_true rfl) dX3_fractionBare_112 ⟨Nat.le_of_ble_eq_true rfl, Nat.le_of_ble_eq_true rfl⟩ (fun v9 M9 H locs hpo hP hz hS => ?_) (fun x9 E9 cell9 H9 locs9 hE9 => hE9.elim)
      obtain ⟨rfl, rfl⟩ := hpo
      refine W.eq (g2 := F0 m 115 ls [.int (bW S n)]) rfl ?_
      refine lv_aload_n hx hb dX3_fractionBare_115 rfl (lv_at hl 5 rfl) ?_
      refine lv_iload_n hx hb dX3_fractionBare_116 rfl (lv_at hl 8 rfl) ?_
      refine mw_callV (C := RX3) (As := [.int (nI d)]) (rest := [.int (bW S n)]) hx hb hml hown hl (kX3_widthOf l htr G H.size M f S hR d h_d) (g_B (n := 1) htb wd406 wd1 wd403 (by decide +kernel) ⟨Nat.le_of_ble_eq_true rfl, Nat.le_of_ble_eq_true rfl⟩) (htb _ wd405) (htb _ ws14) hE hP hS (fs_R.this hR) rfl rfl rfl (Nat.le_of_ble_eq_true rfl) dX3_fractionBare_117 ⟨Nat.le_of_ble_eq_true rfl, Nat.le_of_ble_eq_true rfl⟩ (fun v9 M9 H locs hpo hP hz hS => ?_) (fun x9 E9 cell9 H9 locs9 hE9 => hE9.elim)
      obtain ⟨rfl, rfl⟩ := hpo
      refine W.eq (g2 := F0 m 120 ls [.int (bW S d), .int (bW S n)]) rfl ?_
      refine va_mmax hx hb (hml.trans hl.1.symm) hown (htb _ wd398) (htb _ wd364) (htb _ wd13) (htb _ wd365) (Nat.le_of_ble_eq_true rfl) (Nat.le_of_ble_eq_true rfl) (Nat.le_of_ble_eq_true rfl) (Nat.le_of_ble_eq_true rfl) dX3_fractionBare_120 ?_
      refine W.eq (g2 := F0 m 123 ls [.int (fMx (bW S n) (bW S d))]) rfl ?_
      refine lv_istore (lv' := [(9, .int (fMx (bW S n) (bW S d))), (8, .int (fHf ((3 * (pV S st 13)) - (((pV S st 3) - (bD S n)) - ((bH S d) - (pV S st 5)))))), (7, .int (3 * (pV S st 13))), (6, .int (pV S st 5)), (5, .int (pV S st 3)), (4, .int 0), (0, .ref (f0 f)), (1, .int (nI st)), (2, .int (nI n)), (3, .int (nI d))]) hx hb dX3_fractionBare_123 hl (by decide) rfl (fun ls hl => ?_)
      refine mw_new (ci := 0) (fs := [.int 0, .int 0, .int 0, .null, .int 0, .int 0]) (C := RX0) (T := TX0) (N := 6) hx hb htb inX0 tyX0 tyX0_ok hown (htb _ wd22) (htb _ wd215) (htb _ wd10) hK hP hS rfl (fun j hj => by rcases (show j = 0 ∨ j = 1 ∨ j = 2 ∨ j = 3 ∨ j = 4 ∨ j = 5 by omega) with rfl | rfl | rfl | rfl | rfl | rfl <;> rfl) (Nat.le_of_ble_eq_true rfl) (Nat.le_of_ble_eq_true rfl) dX3_fractionBare_125 (fun q_6 H hq_7 hs_8 hP hS => ?_)
      obtain ⟨M_9, hM_9⟩ : ∃ z9 : mw_M, z9 = mw_up M q_6 (.inr (0, [.int 0, .int 0, .int 0, .null, .int 0, .int 0])) := ⟨_, rfl⟩
      have hP : mw_P (gD G) gx_cl M_9 H := by rw [hM_9]; exact hP
      have n_10 : M q_6 = none := mw_ext.no (mw_ext.rf M) hq_7
      have f_11 : M_9 q_6 = some (.inr (0, [.int 0, .int 0, .int 0, .null, .int 0, .int 0])) := by rw [hM_9]; exact mw_self _ _ _
      have x_12 : mw_ext M M_9 := by rw [hM_9]; exact mw_ext.up (mw_ext.rf M) n_10 _
      refine lv_dup hx hb dX3_fractionBare_128 rfl ?_
      refine lv_iload hx hb dX3_fractionBare_129 (lv_at hl 0 rfl) ?_
      refine lv_iload hx hb dX3_fractionBare_131 (lv_at hl 4 rfl) ?_
      refine lv_aload_n hx hb dX3_fractionBare_133 rfl (lv_at hl 6 rfl) ?_
      refine lv_iload_n hx hb dX3_fractionBare_134 rfl (lv_at hl 8 rfl) ?_
      refine mw_callV (C := RX3) (As := [.int (nI n)]) (rest := [.int (pV S st 3), .int (fMx (bW S n) (bW S d)), .ref q_6, .ref q_6]) hx hb hml hown hl (kX3_heightOf l htr G H.size M_9 f S (fs_R.ext hR x_12) n h_n) (g_B (n := 1) htb wd402 wd1 wd399 (by decide +kernel) ⟨Nat.le_of_ble_eq_true rfl, Nat.le_of_ble_eq_true rfl⟩) (htb _ wd401) (htb _ ws13) hE hP hS (fs_R.this (fs_R.ext hR x_12)) rfl rfl rfl (Nat.le_of_ble_eq_true rfl) dX3_fractionBare_135 ⟨Nat.le_of_ble_eq_true rfl, Nat.le_of_ble_eq_true rfl⟩ (fun v9 M9 H locs hpo hP hz hS => ?_) (fun x9 E9 cell9 H9 locs9 hE9 => hE9.elim)
      obtain ⟨rfl, rfl⟩ := hpo
      refine W.eq (g2 := F0 m 138 ls [.int (bH S n), .int (pV S st 3), .int (fMx (bW S n) (bW S d)), .ref q_6, .ref q_6]) rfl ?_
      refine lv_iadd hx hb dX3_fractionBare_138 ?_
      refine lv_aload_n hx hb dX3_fractionBare_139 rfl (lv_at hl 6 rfl) ?_
      refine lv_iload_n hx hb dX3_fractionBare_140 rfl (lv_at hl 9 rfl) ?_
      refine mw_callV (C := RX3) (As := [.int (nI d)]) (rest := [.int ((pV S st 3) + (bH S n)), .int (fMx (bW S n) (bW S d)), .ref q_6, .ref q_6]) hx hb hml hown hl (kX3_depthOf l htr G H.size M_9 f S (fs_R.ext hR x_12) d h_d) (g_B (n := 1) htb wd397 wd1 wd394 (by decide +kernel) ⟨Nat.le_of_ble_eq_true rfl, Nat.le_of_ble_eq_true rfl⟩) (htb _ wd396) (htb _ ws12) hE hP hS (fs_R.this (fs_R.ext hR x_12)) rfl rfl rfl (Nat.le_of_ble_eq_true rfl) dX3_fractionBare_141 ⟨Nat.le_of_ble_eq_true rfl, Nat.le_of_ble_eq_true rfl⟩ (fun v9 M9 H locs hpo hP hz hS => ?_) (fun x9 E9 cell9 H9 locs9 hE9 => hE9.elim)
      obtain ⟨rfl, rfl⟩ := hpo
      refine W.eq (g2 := F0 m 144 ls [.int (bD S d), .int ((pV S st 3) + (bH S n)), .int (fMx (bW S n) (bW S d)), .ref q_6, .ref q_6]) rfl ?_
      refine lv_iload hx hb dX3_fractionBare_144 (lv_at hl 3 rfl) ?_
      refine lv_iadd hx hb dX3_fractionBare_146 ?_
      refine lv_bipush (v := 6) hx hb dX3_fractionBare_147 (by decide) ?_
      refine mw_newi (N := 6) hx hb (htb _ wd55) hK hP hS 0 rfl (by decide) (by decide) (by decide) (Nat.le_of_ble_eq_true rfl) (Nat.le_of_ble_eq_true rfl) dX3_fractionBare_149 (fun q_13 H hq_14 hs_15 hP hS => ?_)
      obtain ⟨M_16, hM_16⟩ : ∃ z9 : mw_M, z9 = mw_up M_9 q_13 (.inl (gI G, 6, .inl (fun _ => 0))) := ⟨_, rfl⟩
      have hP : mw_P (gD G) gx_cl M_16 H := by rw [hM_16]; exact hP
      have n_17 : M q_13 = none := mw_ext.no x_12 hq_14
      have f_18 : M_16 q_6 = some (.inr (0, [.int 0, .int 0, .int 0, .null, .int 0, .int 0])) := by rw [hM_16, mw_ne _ _ (fun z => by have z1 := f_11; rw [z, hq_14] at z1; cases z1)]; exact f_11
      have ne_19 : q_6 ≠ q_13 := fun z => by have z1 := f_11; rw [z, hq_14] at z1; cases z1
      have f_20 : M_16 q_13 = some (.inl (gI G, 6, .inl (fun _ => 0))) := by rw [hM_16]; exact mw_self _ _ _
      have x_21 : mw_ext M M_16 := by rw [hM_16]; exact mw_ext.up x_12 n_17 _
      refine lv_dup hx hb dX3_fractionBare_151 rfl ?_
      refine lv_iconst (v := 0) hx hb dX3_fractionBare_152 (by decide) ?_
      refine lv_iload_n hx hb dX3_fractionBare_153 rfl (lv_at hl 8 rfl) ?_
      refine mw_iast hx hb hK hP hS 0 f_20 (hAn _ hs_15) rfl (by unfold vp_in; decide) dX3_fractionBare_154 (fun H locs hP hS => ?_)
      obtain ⟨M_22, hM_22⟩ : ∃ z9 : mw_M, z9 = mw_up M_16 q_13 (.inl (gI G, 6, .inl (upd (fun _ => 0) 0 (nI n)))) := ⟨_, rfl⟩
      have hP : mw_P (gD G) gx_cl M_22 H := by rw [hM_22]; exact hP
      have f_23 : M_22 q_6 = some (.inr (0, [.int 0, .int 0, .int 0, .null, .int 0, .int 0])) := by rw [hM_22, mw_ne _ _ ne_19]; exact f_18
      have f_24 : M_22 q_13 = some (.inl (gI G, 6, .inl (upd (fun _ => 0) 0 (nI n)))) := by rw [hM_22]; exact mw_self _ _ _
      have x_25 : mw_ext M M_22 := by rw [hM_22]; exact mw_ext.up x_21 n_17 _
      refine lv_dup hx hb dX3_fractionBare_155 rfl ?_
      refine lv_iconst (v := 1) hx hb dX3_fractionBare_156 (by decide) ?_
      refine lv_iload hx hb dX3_fractionBare_157 (lv_at hl 0 rfl) ?_
      refine lv_aload_n hx hb dX3_fractionBare_159 rfl (lv_at hl 6 rfl) ?_
      refine lv_iload_n hx hb dX3_fractionBare_160 rfl (lv_at hl 8 rfl) ?_
      refine mw_callV (C := RX3) (As := [.int (nI n)]) (rest := [.int (fMx (bW S n) (bW S d)), .int 1, .ref q_13, .ref q_13, .int ((bD S d) + (pV S st 5)), .int ((pV S st 3) + (bH S n)), .int (fMx (bW S n) (bW S d)), .ref q_6, .ref q_6]) hx hb hml hown hl (kX3_widthOf l htr G H.size M_22 f S (fs_R.ext hR x_25) n h_n) (g_B (n := 1) htb wd406 wd1 wd403 (by decide +kernel) ⟨Nat.le_of_ble_eq_true rfl, Nat.le_of_ble_eq_true rfl⟩) (htb _ wd405) (htb _ ws14) hE hP hS (fs_R.this (fs_R.ext hR x_25)) rfl rfl rfl (Nat.le_of_ble_eq_true rfl) dX3_fractionBare_161 ⟨Nat.le_of_ble_eq_true rfl, Nat.le_of_ble_eq_true rfl⟩ (fun v9 M9 H locs hpo hP hz hS => ?_) (fun x9 E9 cell9 H9 locs9 hE9 => hE9.elim)
      obtain ⟨rfl, rfl⟩ := hpo
      refine W.eq (g2 := F0 m 164 ls [.int (bW S n), .int (fMx (bW S n) (bW S d)), .int 1, .ref q_13, .ref q_13, .int ((bD S d) + (pV S st 5)), .int ((pV S st 3) + (bH S n)), .int (fMx (bW S n) (bW S d)), .ref q_6, .ref q_6]) rfl ?_
      refine lv_isub hx hb dX3_fractionBare_164 ?_
      refine mw_callS (As := [.int ((fMx (bW S n) (bW S d)) - (bW S n))]) (rest := [.int 1, .ref q_13, .ref q_13, .int ((bD S d) + (pV S st 5)), .int ((pV S st 3) + (bH S n)), .int (fMx (bW S n) (bW S d)), .ref q_6, .ref q_6]) hx hb hml hown hl (kX3_half l htr G H.size M_22 ((fMx (bW S n) (bW S d)) - (bW S n))) (g_B (n := 1) htb wd393 wd1 wd391 (by decide +kernel) ⟨Nat.le_of_ble_eq_true rfl, Nat.le_of_ble_eq_true rfl⟩) (htb _ wd392) hE hP hS rfl rfl (Nat.le_of_ble_eq_true rfl) dX3_fractionBare_165 ⟨Nat.le_of_ble_eq_true rfl, Nat.le_of_ble_eq_true rfl⟩ (fun v9 M9 H locs hpo hP hz hS => ?_) (fun x9 E9 cell9 H9 locs9 hE9 => hE9.elim)
      obtain ⟨rfl, rfl⟩ := hpo
      refine W.eq (g2 := F0 m 168 ls [.int (fHf ((fMx (bW S n) (bW S d)) - (bW S n))), .int 1, .ref q_13, .ref q_13, .int ((bD S d) + (pV S st 5)), .int ((pV S st 3) + (bH S n)), .int (fMx (bW S n) (bW S d)), .ref q_6, .ref q_6]) rfl ?_
      refine mw_iast hx hb hK hP hS 0 f_24 (hAn _ hs_15) rfl (by unfold vp_in; decide) dX3_fractionBare_168 (fun H locs hP hS => ?_)
      obtain ⟨M_26, hM_26⟩ : ∃ z9 : mw_M, z9 = mw_up M_22 q_13 (.inl (gI G, 6, .inl (upd (upd (fun _ => 0) 0 (nI n)) 1 (fHf ((fMx (bW S n) (bW S d)) - (bW S n)))))) := ⟨_, rfl⟩
      have hP : mw_P (gD G) gx_cl M_26 H := by rw [hM_26]; exact hP
      have f_27 : M_26 q_6 = some (.inr (0, [.int 0, .int 0, .int 0, .null, .int 0, .int 0])) := by rw [hM_26, mw_ne _ _ ne_19]; exact f_23
      have f_28 : M_26 q_13 = some (.inl (gI G, 6, .inl (upd (upd (fun _ => 0) 0 (nI n)) 1 (fHf ((fMx (bW S n) (bW S d)) - (bW S n)))))) := by rw [hM_26]; exact mw_self _ _ _
      have x_29 : mw_ext M M_26 := by rw [hM_26]; exact mw_ext.up x_25 n_17 _
      refine lv_dup hx hb dX3_fractionBare_169 rfl ?_
      refine lv_iconst (v := 2) hx hb dX3_fractionBare_170 (by decide) ?_
      refine lv_iload hx hb dX3_fractionBare_171 (lv_at hl 4 rfl) ?_
      refine mw_iast hx hb hK hP hS 0 f_28 (hAn _ hs_15) rfl (by unfold vp_in; decide) dX3_fractionBare_173 (fun H locs hP hS => ?_)
      obtain ⟨M_30, hM_30⟩ : ∃ z9 : mw_M, z9 = mw_up M_26 q_13 (.inl (gI G, 6, .inl (upd (upd (upd (fun _ => 0) 0 (nI n)) 1 (fHf ((fMx (bW S n) (bW S d)) - (bW S n)))) 2 (pV S st 3)))) := ⟨_, rfl⟩
      have hP : mw_P (gD G) gx_cl M_30 H := by rw [hM_30]; exact hP
      have f_31 : M_30 q_6 = some (.inr (0, [.int 0, .int 0, .int 0, .null, .int 0, .int 0])) := by rw [hM_30, mw_ne _ _ ne_19]; exact f_27
      have f_32 : M_30 q_13 = some (.inl (gI G, 6, .inl (upd (upd (upd (fun _ => 0) 0 (nI n)) 1 (fHf ((fMx (bW S n) (bW S d)) - (bW S n)))) 2 (pV S st 3)))) := by rw [hM_30]; exact mw_self _ _ _
      have x_33 : mw_ext M M_30 := by rw [hM_30]; exact mw_ext.up x_29 n_17 _
      refine lv_dup hx hb dX3_fractionBare_174 rfl ?_
      refine lv_iconst (v := 3) hx hb dX3_fractionBare_175 (by decide) ?_
      refine lv_iload_n hx hb dX3_fractionBare_176 rfl (lv_at hl 9 rfl) ?_
      refine mw_iast hx hb hK hP hS 0 f_32 (hAn _ hs_15) rfl (by unfold vp_in; decide) dX3_fractionBare_177 (fun H locs hP hS => ?_)
      obtain ⟨M_34, hM_34⟩ : ∃ z9 : mw_M, z9 = mw_up M_30 q_13 (.inl (gI G, 6, .inl (upd (upd (upd (upd (fun _ => 0) 0 (nI n)) 1 (fHf ((fMx (bW S n) (bW S d)) - (bW S n)))) 2 (pV S st 3)) 3 (nI d)))) := ⟨_, rfl⟩
      have hP : mw_P (gD G) gx_cl M_34 H := by rw [hM_34]; exact hP
      have f_35 : M_34 q_6 = some (.inr (0, [.int 0, .int 0, .int 0, .null, .int 0, .int 0])) := by rw [hM_34, mw_ne _ _ ne_19]; exact f_31
      have f_36 : M_34 q_13 = some (.inl (gI G, 6, .inl (upd (upd (upd (upd (fun _ => 0) 0 (nI n)) 1 (fHf ((fMx (bW S n) (bW S d)) - (bW S n)))) 2 (pV S st 3)) 3 (nI d)))) := by rw [hM_34]; exact mw_self _ _ _
      have x_37 : mw_ext M M_34 := by rw [hM_34]; exact mw_ext.up x_33 n_17 _
      refine lv_dup hx hb dX3_fractionBare_178 rfl ?_
      refine lv_iconst (v := 4) hx hb dX3_fractionBare_179 (by decide) ?_
      refine lv_iload hx hb dX3_fractionBare_180 (lv_at hl 0 rfl) ?_
      refine lv_aload_n hx hb dX3_fractionBare_182 rfl (lv_at hl 6 rfl) ?_
      refine lv_iload_n hx hb dX3_fractionBare_183 rfl (lv_at hl 9 rfl) ?_
      refine mw_callV (C := RX3) (As := [.int (nI d)]) (rest := [.int (fMx (bW S n) (bW S d)), .int 4, .ref q_13, .ref q_13, .int ((bD S d) + (pV S st 5)), .int ((pV S st 3) + (bH S n)), .int (fMx (bW S n) (bW S d)), .ref q_6, .ref q_6]) hx hb hml hown hl (kX3_widthOf l htr G H.size M_34 f S (fs_R.ext hR x_37) d h_d) (g_B (n := 1) htb wd406 wd1 wd403 (by decide +kernel) ⟨Nat.le_of_ble_eq_true rfl, Nat.le_of_ble_eq_true rfl⟩) (htb _ wd405) (htb _ ws14) hE hP hS (fs_R.this (fs_R.ext hR x_37)) rfl rfl rfl (Nat.le_of_ble_eq_true rfl) dX3_fractionBare_184 ⟨Nat.le_of_ble_eq_true rfl, Nat.le_of_ble_eq_true rfl⟩ (fun v9 M9 H locs hpo hP hz hS => ?_) (fun x9 E9 cell9 H9 locs9 hE9 => hE9.elim)
      obtain ⟨rfl, rfl⟩ := hpo
      refine W.eq (g2 := F0 m 187 ls [.int (bW S d), .int (fMx (bW S n) (bW S d)), .int 4, .ref q_13, .ref q_13, .int ((bD S d) + (pV S st 5)), .int ((pV S st 3) + (bH S n)), .int (fMx (bW S n) (bW S d)), .ref q_6, .ref q_6]) rfl ?_
      refine lv_isub hx hb dX3_fractionBare_187 ?_
      refine mw_callS (As := [.int ((fMx (bW S n) (bW S d)) - (bW S d))]) (rest := [.int 4, .ref q_13, .ref q_13, .int ((bD S d) + (pV S st 5)), .int ((pV S st 3) + (bH S n)), .int (fMx (bW S n) (bW S d)), .ref q_6, .ref q_6]) hx hb hml hown hl (kX3_half l htr G H.size M_34 ((fMx (bW S n) (bW S d)) - (bW S d))) (g_B (n := 1) htb wd393 wd1 wd391 (by decide +kernel) ⟨Nat.le_of_ble_eq_true rfl, Nat.le_of_ble_eq_true rfl⟩) (htb _ wd392) hE hP hS rfl rfl (Nat.le_of_ble_eq_true rfl) dX3_fractionBare_188 ⟨Nat.le_of_ble_eq_true rfl, Nat.le_of_ble_eq_true rfl⟩ (fun v9 M9 H locs hpo hP hz hS => ?_) (fun x9 E9 cell9 H9 locs9 hE9 => hE9.elim)
      obtain ⟨rfl, rfl⟩ := hpo
      refine W.eq (g2 := F0 m 191 ls [.int (fHf ((fMx (bW S n) (bW S d)) - (bW S d))), .int 4, .ref q_13, .ref q_13, .int ((bD S d) + (pV S st 5)), .int ((pV S st 3) + (bH S n)), .int (fMx (bW S n) (bW S d)), .ref q_6, .ref q_6]) rfl ?_
      refine mw_iast hx hb hK hP hS 0 f_36 (hAn _ hs_15) rfl (by unfold vp_in; decide) dX3_fractionBare_191 (fun H locs hP hS => ?_)
      obtain ⟨M_38, hM_38⟩ : ∃ z9 : mw_M, z9 = mw_up M_34 q_13 (.inl (gI G, 6, .inl (upd (upd (upd (upd (upd (fun _ => 0) 0 (nI n)) 1 (fHf ((fMx (bW S n) (bW S d)) - (bW S n)))) 2 (pV S st 3)) 3 (nI d)) 4 (fHf ((fMx (bW S n) (bW S d)) - (bW S d)))))) := ⟨_, rfl⟩
      have hP : mw_P (gD G) gx_cl M_38 H := by rw [hM_38]; exact hP
      have f_39 : M_38 q_6 = some (.inr (0, [.int 0, .int 0, .int 0, .null, .int 0, .int 0])) := by rw [hM_38, mw_ne _ _ ne_19]; exact f_35
      have f_40 : M_38 q_13 = some (.inl (gI G, 6, .inl (upd (upd (upd (upd (upd (fun _ => 0) 0 (nI n)) 1 (fHf ((fMx (bW S n) (bW S d)) - (bW S n)))) 2 (pV S st 3)) 3 (nI d)) 4 (fHf ((fMx (bW S n) (bW S d)) - (bW S d)))))) := by rw [hM_38]; exact mw_self _ _ _
      have x_41 : mw_ext M M_38 := by rw [hM_38]; exact mw_ext.up x_37 n_17 _
      refine lv_dup hx hb dX3_fractionBare_192 rfl ?_
      refine lv_iconst (v := 5) hx hb dX3_fractionBare_193 (by decide) ?_
      refine lv_iload hx hb dX3_fractionBare_194 (lv_at hl 3 rfl) ?_
      refine lv_ineg hx hb dX3_fractionBare_196 ?_
      refine mw_iast hx hb hK hP hS 0 f_40 (hAn _ hs_15) rfl (by unfold vp_in; decide) dX3_fractionBare_197 (fun H locs hP hS => ?_)
      obtain ⟨M_42, hM_42⟩ : ∃ z9 : mw_M, z9 = mw_up M_38 q_13 (.inl (gI G, 6, .inl (upd (upd (upd (upd (upd (upd (fun _ => 0) 0 (nI n)) 1 (fHf ((fMx (bW S n) (bW S d)) - (bW S n)))) 2 (pV S st 3)) 3 (nI d)) 4 (fHf ((fMx (bW S n) (bW S d)) - (bW S d)))) 5 (-(pV S st 5))))) := ⟨_, rfl⟩
      have hP : mw_P (gD G) gx_cl M_42 H := by rw [hM_42]; exact hP
      have f_43 : M_42 q_6 = some (.inr (0, [.int 0, .int 0, .int 0, .null, .int 0, .int 0])) := by rw [hM_42, mw_ne _ _ ne_19]; exact f_39
      have f_44 : M_42 q_13 = some (.inl (gI G, 6, .inl (upd (upd (upd (upd (upd (upd (fun _ => 0) 0 (nI n)) 1 (fHf ((fMx (bW S n) (bW S d)) - (bW S n)))) 2 (pV S st 3)) 3 (nI d)) 4 (fHf ((fMx (bW S n) (bW S d)) - (bW S d)))) 5 (-(pV S st 5))))) := by rw [hM_42]; exact mw_self _ _ _
      have x_45 : mw_ext M M_42 := by rw [hM_42]; exact mw_ext.up x_41 n_17 _
      refine mw_callI (As := [.int (fMx (bW S n) (bW S d)), .int ((pV S st 3) + (bH S n)), .int ((bD S d) + (pV S st 5)), .ref q_13]) (rest := [.ref q_6]) hx hb hml hown hl (kX0_init_0 l htr G H.size M_42 q_6 (hAn _ hs_8) f_43 (fMx (bW S n) (bW S d)) ((pV S st 3) + (bH S n)) ((bD S d) + (pV S st 5)) q_13) (g_B (n := 4) htb wd220 wd10 wd218 (by decide +kernel) ⟨Nat.le_of_ble_eq_true rfl, Nat.le_of_ble_eq_true rfl⟩) (htb _ wd219) (htb _ wd220) rfl hE hP hS rfl rfl (Nat.le_of_ble_eq_true rfl) dX3_fractionBare_198 ⟨Nat.le_of_ble_eq_true rfl, Nat.le_of_ble_eq_true rfl⟩ (fun v9 M9 H locs hpo hP hz hS => ?_) (fun x9 E9 cell9 H9 locs9 hE9 => hE9.elim)
      obtain ⟨rfl, hM9⟩ := hpo
      obtain ⟨M_46, hM_46⟩ : ∃ z9 : mw_M, z9 = mw_up M_42 q_6 (.inr (0, [.int (fMx (bW S n) (bW S d)), .int ((pV S st 3) + (bH S n)), .int ((bD S d) + (pV S st 5)), .ref q_13, .int 0, .int 0])) := ⟨_, rfl⟩
      have hP : mw_P (gD G) gx_cl M_46 H := by rw [hM_46, hM9]; exact hP
      have f_47 : M_46 q_6 = some (.inr (0, [.int (fMx (bW S n) (bW S d)), .int ((pV S st 3) + (bH S n)), .int ((bD S d) + (pV S st 5)), .ref q_13, .int 0, .int 0])) := by rw [hM_46]; exact mw_self _ _ _
      have f_48 : M_46 q_13 = some (.inl (gI G, 6, .inl (upd (upd (upd (upd (upd (upd (fun _ => 0) 0 (nI n)) 1 (fHf ((fMx (bW S n) (bW S d)) - (bW S n)))) 2 (pV S st 3)) 3 (nI d)) 4 (fHf ((fMx (bW S n) (bW S d)) - (bW S d)))) 5 (-(pV S st 5))))) := by rw [hM_46, mw_ne _ _ (Ne.symm ne_19)]; exact f_44
      have x_49 : mw_ext M M_46 := by rw [hM_46]; exact mw_ext.up x_45 n_10 _
      refine W.eq (g2 := F0 m 201 ls [.ref q_6]) rfl ?_
      have hbx9 : fs_bx G f M_46 q_6 (fs_fb S st n d) := by
        simp only [fs_fb, fs_fb1, fs_fb2, fs_fb3, if_neg c_1 , if_pos c_5]
        refine fs_mk f_47 f_48 rfl (fun j hj => ?_) (fun z => hX _ z n_10) (fun z => hX _ z n_17)
        rcases (show j = 0 ∨ j = 1 ∨ j = 2 ∨ j = 3 ∨ j = 4 ∨ j = 5 by omega) with rfl | rfl | rfl | rfl | rfl | rfl <;> rfl
      exact mx_aret (q := q_6) (M' := M_46) hx hb hr (Or.inl ⟨_, rfl⟩) hlocks hP hS ⟨q_6, rfl, x_49, hbx9⟩ dX3_fractionBare_201 (Nat.le_of_ble_eq_true rfl) (Nat.le_of_ble_eq_true rfl)
    · refine lv_iload hx hb dX3_fractionBare_96 (lv_at hl 3 rfl) ?_
      refine lv_iload hx hb dX3_fractionBare_98 (lv_at hl 0 rfl) ?_
      refine lv_iadd hx hb dX3_fractionBare_100 ?_
      refine lv_istore (lv' := [(5, .int ((pV S st 3) + (fHf ((3 * (pV S st 13)) - (((pV S st 3) - (bD S n)) - ((bH S d) - (pV S st 5))))))), (8, .int (fHf ((3 * (pV S st 13)) - (((pV S st 3) - (bD S n)) - ((bH S d) - (pV S st 5)))))), (7, .int (3 * (pV S st 13))), (6, .int (pV S st 5)), (4, .int 0), (0, .ref (f0 f)), (1, .int (nI st)), (2, .int (nI n)), (3, .int (nI d))]) hx hb dX3_fractionBare_101 hl (by decide) rfl (fun ls hl => ?_)
      refine lv_iload hx hb dX3_fractionBare_103 (lv_at hl 3 rfl) ?_
      refine lv_iload hx hb dX3_fractionBare_105 (lv_at hl 1 rfl) ?_
      refine lv_iadd hx hb dX3_fractionBare_107 ?_
      refine lv_istore (lv' := [(6, .int ((pV S st 5) + (fHf ((3 * (pV S st 13)) - (((pV S st 3) - (bD S n)) - ((bH S d) - (pV S st 5))))))), (5, .int ((pV S st 3) + (fHf ((3 * (pV S st 13)) - (((pV S st 3) - (bD S n)) - ((bH S d) - (pV S st 5))))))), (8, .int (fHf ((3 * (pV S st 13)) - (((pV S st 3) - (bD S n)) - ((bH S d) - (pV S st 5)))))), (7, .int (3 * (pV S st 13))), (4, .int 0), (0, .ref (f0 f)), (1, .int (nI st)), (2, .int (nI n)), (3, .int (nI d))]) hx hb dX3_fractionBare_108 hl (by decide) rfl (fun ls hl => ?_)
      refine lv_aload_n hx hb dX3_fractionBare_110 rfl (lv_at hl 5 rfl) ?_
      refine lv_iload_n hx hb dX3_fractionBare_111 rfl (lv_at hl 7 rfl) ?_
      refine mw_callV (C := RX3) (As := [.int (nI n)]) (rest := []) hx hb hml hown hl (kX3_widthOf l htr G H.size M f S hR n h_n) (g_B (n := 1) htb wd406 wd1 wd403 (by decide +kernel) ⟨Nat.le_of_ble_eq_true rfl, Nat.le_of_ble_eq_true rfl⟩) (htb _ wd405) (htb _ ws14) hE hP hS (fs_R.this hR) rfl rfl rfl (Nat.le_of_ble_eq_true rfl) dX3_fractionBare_112 ⟨Nat.le_of_ble_eq_true rfl, Nat.le_of_ble_eq_true rfl⟩ (fun v9 M9 H locs hpo hP hz hS => ?_) (fun x9 E9 cell9 H9 locs9 hE9 => hE9.elim)
      obtain ⟨rfl, rfl⟩ := hpo
      refine W.eq (g2 := F0 m 115 ls [.int (bW S n)]) rfl ?_
      refine lv_aload_n hx hb dX3_fractionBare_115 rfl (lv_at hl 5 rfl) ?_
      refine lv_iload_n hx hb dX3_fractionBare_116 rfl (lv_at hl 8 rfl) ?_
      refine mw_callV (C := RX3) (As := [.int (nI d)]) (rest := [.int (bW S n)]) hx hb hml hown hl (kX3_widthOf l htr G H.size M f S hR d h_d) (g_B (n := 1) htb wd406 wd1 wd403 (by decide +kernel) ⟨Nat.le_of_ble_eq_true rfl, Nat.le_of_ble_eq_true rfl⟩) (htb _ wd405) (htb _ ws14) hE hP hS (fs_R.this hR) rfl rfl rfl (Nat.le_of_ble_eq_true rfl) dX3_fractionBare_117 ⟨Nat.le_of_ble_eq_true rfl, Nat.le_of_ble_eq_true rfl⟩ (fun v9 M9 H locs hpo hP hz hS => ?_) (fun x9 E9 cell9 H9 locs9 hE9 => hE9.elim)
      obtain ⟨rfl, rfl⟩ := hpo
      refine W.eq (g2 := F0 m 120 ls [.int (bW S d), .int (bW S n)]) rfl ?_
      refine va_mmax hx hb (hml.trans hl.1.symm) hown (htb _ wd398) (htb _ wd364) (htb _ wd13) (htb _ wd365) (Nat.le_of_ble_eq_true rfl) (Nat.le_of_ble_eq_true rfl) (Nat.le_of_ble_eq_true rfl) (Nat.le_of_ble_eq_true rfl) dX3_fractionBare_120 ?_
      refine W.eq (g2 := F0 m 123 ls [.int (fMx (bW S n) (bW S d))]) rfl ?_
      refine lv_istore (lv' := [(9, .int (fMx (bW S n) (bW S d))), (6, .int ((pV S st 5) + (fHf ((3 * (pV S st 13)) - (((pV S st 3) - (bD S n)) - ((bH S d) - (pV S st 5))))))), (5, .int ((pV S st 3) + (fHf ((3 * (pV S st 13)) - (((pV S st 3) - (bD S n)) - ((bH S d) - (pV S st 5))))))), (8, .int (fHf ((3 * (pV S st 13)) - (((pV S st 3) - (bD S n)) - ((bH S d) - (pV S st 5)))))), (7, .int (3 * (pV S st 13))), (4, .int 0), (0, .ref (f0 f)), (1, .int (nI st)), (2, .int (nI n)), (3, .int (nI d))]) hx hb dX3_fractionBare_123 hl (by decide) rfl (fun ls hl => ?_)
      refine mw_new (ci := 0) (fs := [.int 0, .int 0, .int 0, .null, .int 0, .int 0]) (C := RX0) (T := TX0) (N := 6) hx hb htb inX0 tyX0 tyX0_ok hown (htb _ wd22) (htb _ wd215) (htb _ wd10) hK hP hS rfl (fun j hj => by rcases (show j = 0 ∨ j = 1 ∨ j = 2 ∨ j = 3 ∨ j = 4 ∨ j = 5 by omega) with rfl | rfl | rfl | rfl | rfl | rfl <;> rfl) (Nat.le_of_ble_eq_true rfl) (Nat.le_of_ble_eq_true rfl) dX3_fractionBare_125 (fun q_50 H hq_51 hs_52 hP hS => ?_)
      obtain ⟨M_53, hM_53⟩ : ∃ z9 : mw_M, z9 = mw_up M q_50 (.inr (0, [.int 0, .int 0, .int 0, .null, .int 0, .int 0])) := ⟨_, rfl⟩
      have hP : mw_P (gD G) gx_cl M_53 H := by rw [hM_53]; exact hP
      have n_54 : M q_50 = none := mw_ext.no (mw_ext.rf M) hq_51
      have f_55 : M_53 q_50 = some (.inr (0, [.int 0, .int 0, .int 0, .null, .int 0, .int 0])) := by rw [hM_53]; exact mw_self _ _ _
      have x_56 : mw_ext M M_53 := by rw [hM_53]; exact mw_ext.up (mw_ext.rf M) n_54 _
      refine lv_dup hx hb dX3_fractionBare_128 rfl ?_
      refine lv_iload hx hb dX3_fractionBare_129 (lv_at hl 0 rfl) ?_
      refine lv_iload hx hb dX3_fractionBare_131 (lv_at hl 2 rfl) ?_
      refine lv_aload_n hx hb dX3_fractionBare_133 rfl (lv_at hl 6 rfl) ?_
      refine lv_iload_n hx hb dX3_fractionBare_134 rfl (lv_at hl 8 rfl) ?_
      refine mw_callV (C := RX3) (As := [.int (nI n)]) (rest := [.int ((pV S st 3) + (fHf ((3 * (pV S st 13)) - (((pV S st 3) - (bD S n)) - ((bH S d) - (pV S st 5)))))), .int (fMx (bW S n) (bW S d)), .ref q_50, .ref q_50]) hx hb hml hown hl (kX3_heightOf l htr G H.size M_53 f S (fs_R.ext hR x_56) n h_n) (g_B (n := 1) htb wd402 wd1 wd399 (by decide +kernel) ⟨Nat.le_of_ble_eq_true rfl, Nat.le_of_ble_eq_true rfl⟩) (htb _ wd401) (htb _ ws13) hE hP hS (fs_R.this (fs_R.ext hR x_56)) rfl rfl rfl (Nat.le_of_ble_eq_true rfl) dX3_fractionBare_135 ⟨Nat.le_of_ble_eq_true rfl, Nat.le_of_ble_eq_true rfl⟩ (fun v9 M9 H locs hpo hP hz hS => ?_) (fun x9 E9 cell9 H9 locs9 hE9 => hE9.elim)
      obtain ⟨rfl, rfl⟩ := hpo
      refine W.eq (g2 := F0 m 138 ls [.int (bH S n), .int ((pV S st 3) + (fHf ((3 * (pV S st 13)) - (((pV S st 3) - (bD S n)) - ((bH S d) - (pV S st 5)))))), .int (fMx (bW S n) (bW S d)), .ref q_50, .ref q_50]) rfl ?_
      refine lv_iadd hx hb dX3_fractionBare_138 ?_
      refine lv_aload_n hx hb dX3_fractionBare_139 rfl (lv_at hl 6 rfl) ?_
      refine lv_iload_n hx hb dX3_fractionBare_140 rfl (lv_at hl 9 rfl) ?_
      refine mw_callV (C := RX3) (As := [.int (nI d)]) (rest := [.int (((pV S st 3) + (fHf ((3 * (pV S st 13)) - (((pV S st 3) - (bD S n)) - ((bH S d) - (pV S st 5)))))) + (bH S n)), .int (fMx (bW S n) (bW S d)), .ref q_50, .ref q_50]) hx hb hml hown hl (kX3_depthOf l htr G H.size M_53 f S (fs_R.ext hR x_56) d h_d) (g_B (n := 1) htb wd397 wd1 wd394 (by decide +kernel) ⟨Nat.le_of_ble_eq_true rfl, Nat.le_of_ble_eq_true rfl⟩) (htb _ wd396) (htb _ ws12) hE hP hS (fs_R.this (fs_R.ext hR x_56)) rfl rfl rfl (Nat.le_of_ble_eq_true rfl) dX3_fractionBare_141 ⟨Nat.le_of_ble_eq_true rfl, Nat.le_of_ble_eq_true rfl⟩ (fun v9 M9 H locs hpo hP hz hS => ?_) (fun x9 E9 cell9 H9 locs9 hE9 => hE9.elim)
      obtain ⟨rfl, rfl⟩ := hpo
      refine W.eq (g2 := F0 m 144 ls [.int (bD S d), .int (((pV S st 3) + (fHf ((3 * (pV S st 13)) - (((pV S st 3) - (bD S n)) - ((bH S d) - (pV S st 5)))))) + (bH S n)), .int (fMx (bW S n) (bW S d)), .ref q_50, .ref q_50]) rfl ?_
      refine lv_iload hx hb dX3_fractionBare_144 (lv_at hl 1 rfl) ?_
      refine lv_iadd hx hb dX3_fractionBare_146 ?_
      refine lv_bipush (v := 6) hx hb dX3_fractionBare_147 (by decide) ?_
      refine mw_newi (N := 6) hx hb (htb _ wd55) hK hP hS 0 rfl (by decide) (by decide) (by decide) (Nat.le_of_ble_eq_true rfl) (Nat.le_of_ble_eq_true rfl) dX3_fractionBare_149 (fun q_57 H hq_58 hs_59 hP hS => ?_)
      obtain ⟨M_60, hM_60⟩ : ∃ z9 : mw_M, z9 = mw_up M_53 q_57 (.inl (gI G, 6, .inl (fun _ => 0))) := ⟨_, rfl⟩
      have hP : mw_P (gD G) gx_cl M_60 H := by rw [hM_60]; exact hP
      have n_61 : M q_57 = none := mw_ext.no x_56 hq_58
      have f_62 : M_60 q_50 = some (.inr (0, [.int 0, .int 0, .int 0, .null, .int 0, .int 0])) := by rw [hM_60, mw_ne _ _ (fun z => by have z1 := f_55; rw [z, hq_58] at z1; cases z1)]; exact f_55
      have ne_63 : q_50 ≠ q_57 := fun z => by have z1 := f_55; rw [z, hq_58] at z1; cases z1
      have f_64 : M_60 q_57 = some (.inl (gI G, 6, .inl (fun _ => 0))) := by rw [hM_60]; exact mw_self _ _ _
      have x_65 : mw_ext M M_60 := by rw [hM_60]; exact mw_ext.up x_56 n_61 _
      refine lv_dup hx hb dX3_fractionBare_151 rfl ?_
      refine lv_iconst (v := 0) hx hb dX3_fractionBare_152 (by decide) ?_
      refine lv_iload_n hx hb dX3_fractionBare_153 rfl (lv_at hl 8 rfl) ?_
      refine mw_iast hx hb hK hP hS 0 f_64 (hAn _ hs_59) rfl (by unfold vp_in; decide) dX3_fractionBare_154 (fun H locs hP hS => ?_)
      obtain ⟨M_66, hM_66⟩ : ∃ z9 : mw_M, z9 = mw_up M_60 q_57 (.inl (gI G, 6, .inl (upd (fun _ => 0) 0 (nI n)))) := ⟨_, rfl⟩
      have hP : mw_P (gD G) gx_cl M_66 H := by rw [hM_66]; exact hP
      have f_67 : M_66 q_50 = some (.inr (0, [.int 0, .int 0, .int 0, .null, .int 0, .int 0])) := by rw [hM_66, mw_ne _ _ ne_63]; exact f_62
      have f_68 : M_66 q_57 = some (.inl (gI G, 6, .inl (upd (fun _ => 0) 0 (nI n)))) := by rw [hM_66]; exact mw_self _ _ _
      have x_69 : mw_ext M M_66 := by rw [hM_66]; exact mw_ext.up x_65 n_61 _
      refine lv_dup hx hb dX3_fractionBare_155 rfl ?_
      refine lv_iconst (v := 1) hx hb dX3_fractionBare_156 (by decide) ?_
      refine lv_iload hx hb dX3_fractionBare_157 (lv_at hl 0 rfl) ?_
      refine lv_aload_n hx hb dX3_fractionBare_159 rfl (lv_at hl 6 rfl) ?_
      refine lv_iload_n hx hb dX3_fractionBare_160 rfl (lv_at hl 8 rfl) ?_
      refine mw_callV (C := RX3) (As := [.int (nI n)]) (rest := [.int (fMx (bW S n) (bW S d)), .int 1, .ref q_57, .ref q_57, .int ((bD S d) + ((pV S st 5) + (fHf ((3 * (pV S st 13)) - (((pV S st 3) - (bD S n)) - ((bH S d) - (pV S st 5))))))), .int (((pV S st 3) + (fHf ((3 * (pV S st 13)) - (((pV S st 3) - (bD S n)) - ((bH S d) - (pV S st 5)))))) + (bH S n)), .int (fMx (bW S n) (bW S d)), .ref q_50, .ref q_50]) hx hb hml hown hl (kX3_widthOf l htr G H.size M_66 f S (fs_R.ext hR x_69) n h_n) (g_B (n := 1) htb wd406 wd1 wd403 (by decide +kernel) ⟨Nat.le_of_ble_eq_true rfl, Nat.le_of_ble_eq_true rfl⟩) (htb _ wd405) (htb _ ws14) hE hP hS (fs_R.this (fs_R.ext hR x_69)) rfl rfl rfl (Nat.le_of_ble_eq_true rfl) dX3_fractionBare_161 ⟨Nat.le_of_ble_eq_true rfl, Nat.le_of_ble_eq_true rfl⟩ (fun v9 M9 H locs hpo hP hz hS => ?_) (fun x9 E9 cell9 H9 locs9 hE9 => hE9.elim)
      obtain ⟨rfl, rfl⟩ := hpo
      refine W.eq (g2 := F0 m 164 ls [.int (bW S n), .int (fMx (bW S n) (bW S d)), .int 1, .ref q_57, .ref q_57, .int ((bD S d) + ((pV S st 5) + (fHf ((3 * (pV S st 13)) - (((pV S st 3) - (bD S n)) - ((bH S d) - (pV S st 5))))))), .int (((pV S st 3) + (fHf ((3 * (pV S st 13)) - (((pV S st 3) - (bD S n)) - ((bH S d) - (pV S st 5)))))) + (bH S n)), .int (fMx (bW S n) (bW S d)), .ref q_50, .ref q_50]) rfl ?_
      refine lv_isub hx hb dX3_fractionBare_164 ?_
      refine mw_callS (As := [.int ((fMx (bW S n) (bW S d)) - (bW S n))]) (rest := [.int 1, .ref q_57, .ref q_57, .int ((bD S d) + ((pV S st 5) + (fHf ((3 * (pV S st 13)) - (((pV S st 3) - (bD S n)) - ((bH S d) - (pV S st 5))))))), .int (((pV S st 3) + (fHf ((3 * (pV S st 13)) - (((pV S st 3) - (bD S n)) - ((bH S d) - (pV S st 5)))))) + (bH S n)), .int (fMx (bW S n) (bW S d)), .ref q_50, .ref q_50]) hx hb hml hown hl (kX3_half l htr G H.size M_66 ((fMx (bW S n) (bW S d)) - (bW S n))) (g_B (n := 1) htb wd393 wd1 wd391 (by decide +kernel) ⟨Nat.le_of_ble_eq_true rfl, Nat.le_of_ble_eq_true rfl⟩) (htb _ wd392) hE hP hS rfl rfl (Nat.le_of_ble_eq_true rfl) dX3_fractionBare_165 ⟨Nat.le_of_ble_eq_true rfl, Nat.le_of_ble_eq_true rfl⟩ (fun v9 M9 H locs hpo hP hz hS => ?_) (fun x9 E9 cell9 H9 locs9 hE9 => hE9.elim)
      obtain ⟨rfl, rfl⟩ := hpo
      refine W.eq (g2 := F0 m 168 ls [.int (fHf ((fMx (bW S n) (bW S d)) - (bW S n))), .int 1, .ref q_57, .ref q_57, .int ((bD S d) + ((pV S st 5) + (fHf ((3 * (pV S st 13)) - (((pV S st 3) - (bD S n)) - ((bH S d) - (pV S st 5))))))), .int (((pV S st 3) + (fHf ((3 * (pV S st 13)) - (((pV S st 3) - (bD S n)) - ((bH S d) - (pV S st 5)))))) + (bH S n)), .int (fMx (bW S n) (bW S d)), .ref q_50, .ref q_50]) rfl ?_
      refine mw_iast hx hb hK hP hS 0 f_68 (hAn _ hs_59) rfl (by unfold vp_in; decide) dX3_fractionBare_168 (fun H locs hP hS => ?_)
      obtain ⟨M_70, hM_70⟩ : ∃ z9 : mw_M, z9 = mw_up M_66 q_57 (.inl (gI G, 6, .inl (upd (upd (fun _ => 0) 0 (nI n)) 1 (fHf ((fMx (bW S n) (bW S d)) - (bW S n)))))) := ⟨_, rfl⟩
      have hP : mw_P (gD G) gx_cl M_70 H := by rw [hM_70]; exact hP
      have f_71 : M_70 q_50 = some (.inr (0, [.int 0, .int 0, .int 0, .null, .int 0, .int 0])) := by rw [hM_70, mw_ne _ _ ne_63]; exact f_67
      have f_72 : M_70 q_57 = some (.inl (gI G, 6, .inl (upd (upd (fun _ => 0) 0 (nI n)) 1 (fHf ((fMx (bW S n) (bW S d)) - (bW S n)))))) := by rw [hM_70]; exact mw_self _ _ _
      have x_73 : mw_ext M M_70 := by rw [hM_70]; exact mw_ext.up x_69 n_61 _
      refine lv_dup hx hb dX3_fractionBare_169 rfl ?_
      refine lv_iconst (v := 2) hx hb dX3_fractionBare_170 (by decide) ?_
      refine lv_iload hx hb dX3_fractionBare_171 (lv_at hl 2 rfl) ?_
      refine mw_iast hx hb hK hP hS 0 f_72 (hAn _ hs_59) rfl (by unfold vp_in; decide) dX3_fractionBare_173 (fun H locs hP hS => ?_)
      obtain ⟨M_74, hM_74⟩ : ∃ z9 : mw_M, z9 = mw_up M_70 q_57 (.inl (gI G, 6, .inl (upd (upd (upd (fun _ => 0) 0 (nI n)) 1 (fHf ((fMx (bW S n) (bW S d)) - (bW S n)))) 2 ((pV S st 3) + (fHf ((3 * (pV S st 13)) - (((pV S st 3) - (bD S n)) - ((bH S d) - (pV S st 5))))))))) := ⟨_, rfl⟩
      have hP : mw_P (gD G) gx_cl M_74 H := by rw [hM_74]; exact hP
      have f_75 : M_74 q_50 = some (.inr (0, [.int 0, .int 0, .int 0, .null, .int 0, .int 0])) := by rw [hM_74, mw_ne _ _ ne_63]; exact f_71
      have f_76 : M_74 q_57 = some (.inl (gI G, 6, .inl (upd (upd (upd (fun _ => 0) 0 (nI n)) 1 (fHf ((fMx (bW S n) (bW S d)) - (bW S n)))) 2 ((pV S st 3) + (fHf ((3 * (pV S st 13)) - (((pV S st 3) - (bD S n)) - ((bH S d) - (pV S st 5))))))))) := by rw [hM_74]; exact mw_self _ _ _
      have x_77 : mw_ext M M_74 := by rw [hM_74]; exact mw_ext.up x_73 n_61 _
      refine lv_dup hx hb dX3_fractionBare_174 rfl ?_
      refine lv_iconst (v := 3) hx hb dX3_fractionBare_175 (by decide) ?_
      refine lv_iload_n hx hb dX3_fractionBare_176 rfl (lv_at hl 9 rfl) ?_
      refine mw_iast hx hb hK hP hS 0 f_76 (hAn _ hs_59) rfl (by unfold vp_in; decide) dX3_fractionBare_177 (fun H locs hP hS => ?_)
      obtain ⟨M_78, hM_78⟩ : ∃ z9 : mw_M, z9 = mw_up M_74 q_57 (.inl (gI G, 6, .inl (upd (upd (upd (upd (fun _ => 0) 0 (nI n)) 1 (fHf ((fMx (bW S n) (bW S d)) - (bW S n)))) 2 ((pV S st 3) + (fHf ((3 * (pV S st 13)) - (((pV S st 3) - (bD S n)) - ((bH S d) - (pV S st 5))))))) 3 (nI d)))) := ⟨_, rfl⟩
      have hP : mw_P (gD G) gx_cl M_78 H := by rw [hM_78]; exact hP
      have f_79 : M_78 q_50 = some (.inr (0, [.int 0, .int 0, .int 0, .null, .int 0, .int 0])) := by rw [hM_78, mw_ne _ _ ne_63]; exact f_75
      have f_80 : M_78 q_57 = some (.inl (gI G, 6, .inl (upd (upd (upd (upd (fun _ => 0) 0 (nI n)) 1 (fHf ((fMx (bW S n) (bW S d)) - (bW S n)))) 2 ((pV S st 3) + (fHf ((3 * (pV S st 13)) - (((pV S st 3) - (bD S n)) - ((bH S d) - (pV S st 5))))))) 3 (nI d)))) := by rw [hM_78]; exact mw_self _ _ _
      have x_81 : mw_ext M M_78 := by rw [hM_78]; exact mw_ext.up x_77 n_61 _
      refine lv_dup hx hb dX3_fractionBare_178 rfl ?_
      refine lv_iconst (v := 4) hx hb dX3_fractionBare_179 (by decide) ?_
      refine lv_iload hx hb dX3_fractionBare_180 (lv_at hl 0 rfl) ?_
      refine lv_aload_n hx hb dX3_fractionBare_182 rfl (lv_at hl 6 rfl) ?_
      refine lv_iload_n hx hb dX3_fractionBare_183 rfl (lv_at hl 9 rfl) ?_
      refine mw_callV (C := RX3) (As := [.int (nI d)]) (rest := [.int (fMx (bW S n) (bW S d)), .int 4, .ref q_57, .ref q_57, .int ((bD S d) + ((pV S st 5) + (fHf ((3 * (pV S st 13)) - (((pV S st 3) - (bD S n)) - ((bH S d) - (pV S st 5))))))), .int (((pV S st 3) + (fHf ((3 * (pV S st 13)) - (((pV S st 3) - (bD S n)) - ((bH S d) - (pV S st 5)))))) + (bH S n)), .int (fMx (bW S n) (bW S d)), .ref q_50, .ref q_50]) hx hb hml hown hl (kX3_widthOf l htr G H.size M_78 f S (fs_R.ext hR x_81) d h_d) (g_B (n := 1) htb wd406 wd1 wd403 (by decide +kernel) ⟨Nat.le_of_ble_eq_true rfl, Nat.le_of_ble_eq_true rfl⟩) (htb _ wd405) (htb _ ws14) hE hP hS (fs_R.this (fs_R.ext hR x_81)) rfl rfl rfl (Nat.le_of_ble_eq_true rfl) dX3_fractionBare_184 ⟨Nat.le_of_ble_eq_true rfl, Nat.le_of_ble_eq_true rfl⟩ (fun v9 M9 H locs hpo hP hz hS => ?_) (fun x9 E9 cell9 H9 locs9 hE9 => hE9.elim)
      obtain ⟨rfl, rfl⟩ := hpo
      refine W.eq (g2 := F0 m 187 ls [.int (bW S d), .int (fMx (bW S n) (bW S d)), .int 4, .ref q_57, .ref q_57, .int ((bD S d) + ((pV S st 5) + (fHf ((3 * (pV S st 13)) - (((pV S st 3) - (bD S n)) - ((bH S d) - (pV S st 5))))))), .int (((pV S st 3) + (fHf ((3 * (pV S st 13)) - (((pV S st 3) - (bD S n)) - ((bH S d) - (pV S st 5)))))) + (bH S n)), .int (fMx (bW S n) (bW S d)), .ref q_50, .ref q_50]) rfl ?_
      refine lv_isub hx hb dX3_fractionBare_187 ?_
      refine mw_callS (As := [.int ((fMx (bW S n) (bW S d)) - (bW S d))]) (rest := [.int 4, .ref q_57, .ref q_57, .int ((bD S d) + ((pV S st 5) + (fHf ((3 * (pV S st 13)) - (((pV S st 3) - (bD S n)) - ((bH S d) - (pV S st 5))))))), .int (((pV S st 3) + (fHf ((3 * (pV S st 13)) - (((pV S st 3) - (bD S n)) - ((bH S d) - (pV S st 5)))))) + (bH S n)), .int (fMx (bW S n) (bW S d)), .ref q_50, .ref q_50]) hx hb hml hown hl (kX3_half l htr G H.size M_78 ((fMx (bW S n) (bW S d)) - (bW S d))) (g_B (n := 1) htb wd393 wd1 wd391 (by decide +kernel) ⟨Nat.le_of_ble_eq_true rfl, Nat.le_of_ble_eq_true rfl⟩) (htb _ wd392) hE hP hS rfl rfl (Nat.le_of_ble_eq_true rfl) dX3_fractionBare_188 ⟨Nat.le_of_ble_eq_true rfl, Nat.le_of_ble_eq_true rfl⟩ (fun v9 M9 H locs hpo hP hz hS => ?_) (fun x9 E9 cell9 H9 locs9 hE9 => hE9.elim)
      obtain ⟨rfl, rfl⟩ := hpo
      refine W.eq (g2 := F0 m 191 ls [.int (fHf ((fMx (bW S n) (bW S d)) - (bW S d))), .int 4, .ref q_57, .ref q_57, .int ((bD S d) + ((pV S st 5) + (fHf ((3 * (pV S st 13)) - (((pV S st 3) - (bD S n)) - ((bH S d) - (pV S st 5))))))), .int (((pV S st 3) + (fHf ((3 * (pV S st 13)) - (((pV S st 3) - (bD S n)) - ((bH S d) - (pV S st 5)))))) + (bH S n)), .int (fMx (bW S n) (bW S d)), .ref q_50, .ref q_50]) rfl ?_
      refine mw_iast hx hb hK hP hS 0 f_80 (hAn _ hs_59) rfl (by unfold vp_in; decide) dX3_fractionBare_191 (fun H locs hP hS => ?_)
      obtain ⟨M_82, hM_82⟩ : ∃ z9 : mw_M, z9 = mw_up M_78 q_57 (.inl (gI G, 6, .inl (upd (upd (upd (upd (upd (fun _ => 0) 0 (nI n)) 1 (fHf ((fMx (bW S n) (bW S d)) - (bW S n)))) 2 ((pV S st 3) + (fHf ((3 * (pV S st 13)) - (((pV S st 3) - (bD S n)) - ((bH S d) - (pV S st 5))))))) 3 (nI d)) 4 (fHf ((fMx (bW S n) (bW S d)) - (bW S d)))))) := ⟨_, rfl⟩
      have hP : mw_P (gD G) gx_cl M_82 H := by rw [hM_82]; exact hP
      have f_83 : M_82 q_50 = some (.inr (0, [.int 0, .int 0, .int 0, .null, .int 0, .int 0])) := by rw [hM_82, mw_ne _ _ ne_63]; exact f_79
      have f_84 : M_82 q_57 = some (.inl (gI G, 6, .inl (upd (upd (upd (upd (upd (fun _ => 0) 0 (nI n)) 1 (fHf ((fMx (bW S n) (bW S d)) - (bW S n)))) 2 ((pV S st 3) + (fHf ((3 * (pV S st 13)) - (((pV S st 3) - (bD S n)) - ((bH S d) - (pV S st 5))))))) 3 (nI d)) 4 (fHf ((fMx (bW S n) (bW S d)) - (bW S d)))))) := by rw [hM_82]; exact mw_self _ _ _
      have x_85 : mw_ext M M_82 := by rw [hM_82]; exact mw_ext.up x_81 n_61 _
      refine lv_dup hx hb dX3_fractionBare_192 rfl ?_
      refine lv_iconst (v := 5) hx hb dX3_fractionBare_193 (by decide) ?_
      refine lv_iload hx hb dX3_fractionBare_194 (lv_at hl 1 rfl) ?_
      refine lv_ineg hx hb dX3_fractionBare_196 ?_
      refine mw_iast hx hb hK hP hS 0 f_84 (hAn _ hs_59) rfl (by unfold vp_in; decide) dX3_fractionBare_197 (fun H locs hP hS => ?_)
      obtain ⟨M_86, hM_86⟩ : ∃ z9 : mw_M, z9 = mw_up M_82 q_57 (.inl (gI G, 6, .inl (upd (upd (upd (upd (upd (upd (fun _ => 0) 0 (nI n)) 1 (fHf ((fMx (bW S n) (bW S d)) - (bW S n)))) 2 ((pV S st 3) + (fHf ((3 * (pV S st 13)) - (((pV S st 3) - (bD S n)) - ((bH S d) - (pV S st 5))))))) 3 (nI d)) 4 (fHf ((fMx (bW S n) (bW S d)) - (bW S d)))) 5 (-((pV S st 5) + (fHf ((3 * (pV S st 13)) - (((pV S st 3) - (bD S n)) - ((bH S d) - (pV S st 5)))))))))) := ⟨_, rfl⟩
      have hP : mw_P (gD G) gx_cl M_86 H := by rw [hM_86]; exact hP
      have f_87 : M_86 q_50 = some (.inr (0, [.int 0, .int 0, .int 0, .null, .int 0, .int 0])) := by rw [hM_86, mw_ne _ _ ne_63]; exact f_83
      have f_88 : M_86 q_57 = some (.inl (gI G, 6, .inl (upd (upd (upd (upd (upd (upd (fun _ => 0) 0 (nI n)) 1 (fHf ((fMx (bW S n) (bW S d)) - (bW S n)))) 2 ((pV S st 3) + (fHf ((3 * (pV S st 13)) - (((pV S st 3) - (bD S n)) - ((bH S d) - (pV S st 5))))))) 3 (nI d)) 4 (fHf ((fMx (bW S n) (bW S d)) - (bW S d)))) 5 (-((pV S st 5) + (fHf ((3 * (pV S st 13)) - (((pV S st 3) - (bD S n)) - ((bH S d) - (pV S st 5)))))))))) := by rw [hM_86]; exact mw_self _ _ _
      have x_89 : mw_ext M M_86 := by rw [hM_86]; exact mw_ext.up x_85 n_61 _
      refine mw_callI (As := [.int (fMx (bW S n) (bW S d)), .int (((pV S st 3) + (fHf ((3 * (pV S st 13)) - (((pV S st 3) - (bD S n)) - ((bH S d) - (pV S st 5)))))) + (bH S n)), .int ((bD S d) + ((pV S st 5) + (fHf ((3 * (pV S st 13)) - (((pV S st 3) - (bD S n)) - ((bH S d) - (pV S st 5))))))), .ref q_57]) (rest := [.ref q_50]) hx hb hml hown hl (kX0_init_0 l htr G H.size M_86 q_50 (hAn _ hs_52) f_87 (fMx (bW S n) (bW S d)) (((pV S st 3) + (fHf ((3 * (pV S st 13)) - (((pV S st 3) - (bD S n)) - ((bH S d) - (pV S st 5)))))) + (bH S n)) ((bD S d) + ((pV S st 5) + (fHf ((3 * (pV S st 13)) - (((pV S st 3) - (bD S n)) - ((bH S d) - (pV S st 5))))))) q_57) (g_B (n := 4) htb wd220 wd10 wd218 (by decide +kernel) ⟨Nat.le_of_ble_eq_true rfl, Nat.le_of_ble_eq_true rfl⟩) (htb _ wd219) (htb _ wd220) rfl hE hP hS rfl rfl (Nat.le_of_ble_eq_true rfl) dX3_fractionBare_198 ⟨Nat.le_of_ble_eq_true rfl, Nat.le_of_ble_eq_true rfl⟩ (fun v9 M9 H locs hpo hP hz hS => ?_) (fun x9 E9 cell9 H9 locs9 hE9 => hE9.elim)
      obtain ⟨rfl, hM9⟩ := hpo
      obtain ⟨M_90, hM_90⟩ : ∃ z9 : mw_M, z9 = mw_up M_86 q_50 (.inr (0, [.int (fMx (bW S n) (bW S d)), .int (((pV S st 3) + (fHf ((3 * (pV S st 13)) - (((pV S st 3) - (bD S n)) - ((bH S d) - (pV S st 5)))))) + (bH S n)), .int ((bD S d) + ((pV S st 5) + (fHf ((3 * (pV S st 13)) - (((pV S st 3) - (bD S n)) - ((bH S d) - (pV S st 5))))))), .ref q_57, .int 0, .int 0])) := ⟨_, rfl⟩
      have hP : mw_P (gD G) gx_cl M_90 H := by rw [hM_90, hM9]; exact hP
      have f_91 : M_90 q_50 = some (.inr (0, [.int (fMx (bW S n) (bW S d)), .int (((pV S st 3) + (fHf ((3 * (pV S st 13)) - (((pV S st 3) - (bD S n)) - ((bH S d) - (pV S st 5)))))) + (bH S n)), .int ((bD S d) + ((pV S st 5) + (fHf ((3 * (pV S st 13)) - (((pV S st 3) - (bD S n)) - ((bH S d) - (pV S st 5))))))), .ref q_57, .int 0, .int 0])) := by rw [hM_90]; exact mw_self _ _ _
      have f_92 : M_90 q_57 = some (.inl (gI G, 6, .inl (upd (upd (upd (upd (upd (upd (fun _ => 0) 0 (nI n)) 1 (fHf ((fMx (bW S n) (bW S d)) - (bW S n)))) 2 ((pV S st 3) + (fHf ((3 * (pV S st 13)) - (((pV S st 3) - (bD S n)) - ((bH S d) - (pV S st 5))))))) 3 (nI d)) 4 (fHf ((fMx (bW S n) (bW S d)) - (bW S d)))) 5 (-((pV S st 5) + (fHf ((3 * (pV S st 13)) - (((pV S st 3) - (bD S n)) - ((bH S d) - (pV S st 5)))))))))) := by rw [hM_90, mw_ne _ _ (Ne.symm ne_63)]; exact f_88
      have x_93 : mw_ext M M_90 := by rw [hM_90]; exact mw_ext.up x_89 n_54 _
      refine W.eq (g2 := F0 m 201 ls [.ref q_50]) rfl ?_
      have hbx9 : fs_bx G f M_90 q_50 (fs_fb S st n d) := by
        simp only [fs_fb, fs_fb1, fs_fb2, fs_fb3, if_neg c_1 , if_neg c_5]
        refine fs_mk f_91 f_92 rfl (fun j hj => ?_) (fun z => hX _ z n_54) (fun z => hX _ z n_61)
        rcases (show j = 0 ∨ j = 1 ∨ j = 2 ∨ j = 3 ∨ j = 4 ∨ j = 5 by omega) with rfl | rfl | rfl | rfl | rfl | rfl <;> rfl
      exact mx_aret (q := q_50) (M' := M_90) hx hb hr (Or.inl ⟨_, rfl⟩) hlocks hP hS ⟨q_50, rfl, x_93, hbx9⟩ dX3_fractionBare_201 (Nat.le_of_ble_eq_true rfl) (Nat.le_of_ble_eq_true rfl)
  · refine lv_iconst (v := 1) hx hb dX3_fractionBare_4 (by decide) ?_
    refine lv_goto (tgt := 9) hx hb dX3_fractionBare_5 (by decide) ?_
    refine lv_istore (lv' := [(4, .int 1), (0, .ref (f0 f)), (1, .int (nI st)), (2, .int (nI n)), (3, .int (nI d))]) hx hb dX3_fractionBare_9 hl (by decide) rfl (fun ls hl => ?_)
    refine lv_aload_n hx hb dX3_fractionBare_11 rfl (lv_at hl 1 rfl) ?_
    refine lv_iload_n hx hb dX3_fractionBare_12 rfl (lv_at hl 2 rfl) ?_
    refine lv_iload hx hb dX3_fractionBare_13 (lv_at hl 0 rfl) ?_
    refine lv_if_eq (tgt := 22) hx hb dX3_fractionBare_15 (by decide) (fun c_94 => absurd c_94 (by decide)) (fun c_94 => ?_)
    refine lv_iconst (v := 1) hx hb dX3_fractionBare_18 (by decide) ?_
    refine lv_goto (tgt := 23) hx hb dX3_fractionBare_19 (by decide) ?_
    refine mw_callV (C := RX3) (As := [.int (nI st), .int 1]) (rest := []) hx hb hml hown hl (kX3_valueOf l htr G s.heap.size M f S hR st 1 h_st (by decide)) (g_B (n := 2) htb wd390 wd1 wd387 (by decide +kernel) ⟨Nat.le_of_ble_eq_true rfl, Nat.le_of_ble_eq_true rfl⟩) (htb _ wd389) (htb _ ws11) hE hP hS (fs_R.this hR) rfl rfl rfl (Nat.le_of_ble_eq_true rfl) dX3_fractionBare_23 ⟨Nat.le_of_ble_eq_true rfl, Nat.le_of_ble_eq_true rfl⟩ (fun v9 M9 H locs hpo hP hz hS => ?_) (fun x9 E9 cell9 H9 locs9 hE9 => hE9.elim)
    obtain ⟨rfl, rfl⟩ := hpo
    refine W.eq (g2 := F0 m 26 ls [.int (pV S st 1)]) rfl ?_
    refine lv_istore (lv' := [(5, .int (pV S st 1)), (4, .int 1), (0, .ref (f0 f)), (1, .int (nI st)), (2, .int (nI n)), (3, .int (nI d))]) hx hb dX3_fractionBare_26 hl (by decide) rfl (fun ls hl => ?_)
    refine lv_aload_n hx hb dX3_fractionBare_28 rfl (lv_at hl 2 rfl) ?_
    refine lv_iload_n hx hb dX3_fractionBare_29 rfl (lv_at hl 3 rfl) ?_
    refine lv_iload hx hb dX3_fractionBare_30 (lv_at hl 1 rfl) ?_
    refine lv_if_eq (tgt := 39) hx hb dX3_fractionBare_32 (by decide) (fun c_95 => absurd c_95 (by decide)) (fun c_95 => ?_)
    refine lv_iconst (v := 4) hx hb dX3_fractionBare_35 (by decide) ?_
    refine lv_goto (tgt := 40) hx hb dX3_fractionBare_36 (by decide) ?_
    refine mw_callV (C := RX3) (As := [.int (nI st), .int 4]) (rest := []) hx hb hml hown hl (kX3_valueOf l htr G H.size M f S hR st 4 h_st (by decide)) (g_B (n := 2) htb wd390 wd1 wd387 (by decide +kernel) ⟨Nat.le_of_ble_eq_true rfl, Nat.le_of_ble_eq_true rfl⟩) (htb _ wd389) (htb _ ws11) hE hP hS (fs_R.this hR) rfl rfl rfl (Nat.le_of_ble_eq_true rfl) dX3_fractionBare_40 ⟨Nat.le_of_ble_eq_true rfl, Nat.le_of_ble_eq_true rfl⟩ (fun v9 M9 H locs hpo hP hz hS => ?_) (fun x9 E9 cell9 H9 locs9 hE9 => hE9.elim)
    obtain ⟨rfl, rfl⟩ := hpo
    refine W.eq (g2 := F0 m 43 ls [.int (pV S st 4)]) rfl ?_
    refine lv_istore (lv' := [(6, .int (pV S st 4)), (5, .int (pV S st 1)), (4, .int 1), (0, .ref (f0 f)), (1, .int (nI st)), (2, .int (nI n)), (3, .int (nI d))]) hx hb dX3_fractionBare_43 hl (by decide) rfl (fun ls hl => ?_)
    refine lv_iload hx hb dX3_fractionBare_45 (lv_at hl 2 rfl) ?_
    refine lv_if_eq (tgt := 55) hx hb dX3_fractionBare_47 (by decide) (fun c_96 => absurd c_96 (by decide)) (fun c_96 => ?_)
    refine lv_bipush (v := 7) hx hb dX3_fractionBare_50 (by decide) ?_
    refine lv_goto (tgt := 56) hx hb dX3_fractionBare_52 (by decide) ?_
    refine lv_aload_n hx hb dX3_fractionBare_56 rfl (lv_at hl 3 rfl) ?_
    refine lv_iload_n hx hb dX3_fractionBare_57 rfl (lv_at hl 4 rfl) ?_
    refine lv_bipush (v := 13) hx hb dX3_fractionBare_58 (by decide) ?_
    refine mw_callV (C := RX3) (As := [.int (nI st), .int 13]) (rest := [.int 7]) hx hb hml hown hl (kX3_valueOf l htr G H.size M f S hR st 13 h_st (by decide)) (g_B (n := 2) htb wd390 wd1 wd387 (by decide +kernel) ⟨Nat.le_of_ble_eq_true rfl, Nat.le_of_ble_eq_true rfl⟩) (htb _ wd389) (htb _ ws11) hE hP hS (fs_R.this hR) rfl rfl rfl (Nat.le_of_ble_eq_true rfl) dX3_fractionBare_60 ⟨Nat.le_of_ble_eq_true rfl, Nat.le_of_ble_eq_true rfl⟩ (fun v9 M9 H locs hpo hP hz hS => ?_) (fun x9 E9 cell9 H9 locs9 hE9 => hE9.elim)
    obtain ⟨rfl, rfl⟩ := hpo
    refine W.eq (g2 := F0 m 63 ls [.int (pV S st 13), .int 7]) rfl ?_
    refine lv_imul hx hb dX3_fractionBare_63 ?_
    refine lv_istore (lv' := [(7, .int (7 * (pV S st 13))), (6, .int (pV S st 4)), (5, .int (pV S st 1)), (4, .int 1), (0, .ref (f0 f)), (1, .int (nI st)), (2, .int (nI n)), (3, .int (nI d))]) hx hb dX3_fractionBare_64 hl (by decide) rfl (fun ls hl => ?_)
    refine lv_iload hx hb dX3_fractionBare_66 (lv_at hl 0 rfl) ?_
    refine lv_iload hx hb dX3_fractionBare_68 (lv_at hl 2 rfl) ?_
    refine lv_aload_n hx hb dX3_fractionBare_70 rfl (lv_at hl 4 rfl) ?_
    refine lv_iload_n hx hb dX3_fractionBare_71 rfl (lv_at hl 6 rfl) ?_
    refine mw_callV (C := RX3) (As := [.int (nI n)]) (rest := [.int (pV S st 1), .int (7 * (pV S st 13))]) hx hb hml hown hl (kX3_depthOf l htr G H.size M f S hR n h_n) (g_B (n := 1) htb wd397 wd1 wd394 (by decide +kernel) ⟨Nat.le_of_ble_eq_true rfl, Nat.le_of_ble_eq_true rfl⟩) (htb _ wd396) (htb _ ws12) hE hP hS (fs_R.this hR) rfl rfl rfl (Nat.le_of_ble_eq_true rfl) dX3_fractionBare_72 ⟨Nat.le_of_ble_eq_true rfl, Nat.le_of_ble_eq_true rfl⟩ (fun v9 M9 H locs hpo hP hz hS => ?_) (fun x9 E9 cell9 H9 locs9 hE9 => hE9.elim)
    obtain ⟨rfl, rfl⟩ := hpo
    refine W.eq (g2 := F0 m 75 ls [.int (bD S n), .int (pV S st 1), .int (7 * (pV S st 13))]) rfl ?_
    refine lv_isub hx hb dX3_fractionBare_75 ?_
    refine lv_aload_n hx hb dX3_fractionBare_76 rfl (lv_at hl 4 rfl) ?_
    refine lv_iload_n hx hb dX3_fractionBare_77 rfl (lv_at hl 7 rfl) ?_
    refine mw_callV (C := RX3) (As := [.int (nI d)]) (rest := [.int ((pV S st 1) - (bD S n)), .int (7 * (pV S st 13))]) hx hb hml hown hl (kX3_heightOf l htr G H.size M f S hR d h_d) (g_B (n := 1) htb wd402 wd1 wd399 (by decide +kernel) ⟨Nat.le_of_ble_eq_true rfl, Nat.le_of_ble_eq_true rfl⟩) (htb _ wd401) (htb _ ws13) hE hP hS (fs_R.this hR) rfl rfl rfl (Nat.le_of_ble_eq_true rfl) dX3_fractionBare_78 ⟨Nat.le_of_ble_eq_true rfl, Nat.le_of_ble_eq_true rfl⟩ (fun v9 M9 H locs hpo hP hz hS => ?_) (fun x9 E9 cell9 H9 locs9 hE9 => hE9.elim)
    obtain ⟨rfl, rfl⟩ := hpo
    refine W.eq (g2 := F0 m 81 ls [.int (bH S d), .int ((pV S st 1) - (bD S n)), .int (7 * (pV S st 13))]) rfl ?_
    refine lv_iload hx hb dX3_fractionBare_81 (lv_at hl 1 rfl) ?_
    refine lv_isub hx hb dX3_fractionBare_83 ?_
    refine lv_isub hx hb dX3_fractionBare_84 ?_
    refine lv_isub hx hb dX3_fractionBare_85 ?_
    refine mw_callS (As := [.int ((7 * (pV S st 13)) - (((pV S st 1) - (bD S n)) - ((bH S d) - (pV S st 4))))]) (rest := []) hx hb hml hown hl (kX3_half l htr G H.size M ((7 * (pV S st 13)) - (((pV S st 1) - (bD S n)) - ((bH S d) - (pV S st 4))))) (g_B (n := 1) htb wd393 wd1 wd391 (by decide +kernel) ⟨Nat.le_of_ble_eq_true rfl, Nat.le_of_ble_eq_true rfl⟩) (htb _ wd392) hE hP hS rfl rfl (Nat.le_of_ble_eq_true rfl) dX3_fractionBare_86 ⟨Nat.le_of_ble_eq_true rfl, Nat.le_of_ble_eq_true rfl⟩ (fun v9 M9 H locs hpo hP hz hS => ?_) (fun x9 E9 cell9 H9 locs9 hE9 => hE9.elim)
    obtain ⟨rfl, rfl⟩ := hpo
    refine W.eq (g2 := F0 m 89 ls [.int (fHf ((7 * (pV S st 13)) - (((pV S st 1) - (bD S n)) - ((bH S d) - (pV S st 4)))))]) rfl ?_
    refine lv_istore (lv' := [(8, .int (fHf ((7 * (pV S st 13)) - (((pV S st 1) - (bD S n)) - ((bH S d) - (pV S st 4)))))), (7, .int (7 * (pV S st 13))), (6, .int (pV S st 4)), (5, .int (pV S st 1)), (4, .int 1), (0, .ref (f0 f)), (1, .int (nI st)), (2, .int (nI n)), (3, .int (nI d))]) hx hb dX3_fractionBare_89 hl (by decide) rfl (fun ls hl => ?_)
    refine lv_iload hx hb dX3_fractionBare_91 (lv_at hl 0 rfl) ?_
    refine lv_if_le (tgt := 110) hx hb dX3_fractionBare_93 (by decide) (fun c_97 => ?_) (fun c_97 => ?_)
    · refine lv_aload_n hx hb dX3_fractionBare_110 rfl (lv_at hl 5 rfl) ?_
      refine lv_iload_n hx hb dX3_fractionBare_111 rfl (lv_at hl 7 rfl) ?_
      refine mw_callV (C := RX3) (As := [.int (nI n)]) (rest := []) hx hb hml hown hl (kX3_widthOf l htr G H.size M f S hR n h_n) (g_B (n := 1) htb wd406 wd1 wd403 (by decide +kernel) ⟨Nat.le_of_ble_eq_true rfl, Nat.le_of_ble_eq_true rfl⟩) (htb _ wd405) (htb _ ws14) hE hP hS (fs_R.this hR) rfl rfl rfl (Nat.le_of_ble_eq_true rfl) dX3_fractionBare_112 ⟨Nat.le_of_ble_eq_true rfl, Nat.le_of_ble_eq_true rfl⟩ (fun v9 M9 H locs hpo hP hz hS => ?_) (fun x9 E9 cell9 H9 locs9 hE9 => hE9.elim)
      obtain ⟨rfl, rfl⟩ := hpo
      refine W.eq (g2 := F0 m 115 ls [.int (bW S n)]) rfl ?_
      refine lv_aload_n hx hb dX3_fractionBare_115 rfl (lv_at hl 5 rfl) ?_
      refine lv_iload_n hx hb dX3_fractionBare_116 rfl (lv_at hl 8 rfl) ?_
      refine mw_callV (C := RX3) (As := [.int (nI d)]) (rest := [.int (bW S n)]) hx hb hml hown hl (kX3_widthOf l htr G H.size M f S hR d h_d) (g_B (n := 1) htb wd406 wd1 wd403 (by decide +kernel) ⟨Nat.le_of_ble_eq_true rfl, Nat.le_of_ble_eq_true rfl⟩) (htb _ wd405) (htb _ ws14) hE hP hS (fs_R.this hR) rfl rfl rfl (Nat.le_of_ble_eq_true rfl) dX3_fractionBare_117 ⟨Nat.le_of_ble_eq_true rfl, Nat.le_of_ble_eq_true rfl⟩ (fun v9 M9 H locs hpo hP hz hS => ?_) (fun x9 E9 cell9 H9 locs9 hE9 => hE9.elim)
      obtain ⟨rfl, rfl⟩ := hpo
      refine W.eq (g2 := F0 m 120 ls [.int (bW S d), .int (bW S n)]) rfl ?_
      refine va_mmax hx hb (hml.trans hl.1.symm) hown (htb _ wd398) (htb _ wd364) (htb _ wd13) (htb _ wd365) (Nat.le_of_ble_eq_true rfl) (Nat.le_of_ble_eq_true rfl) (Nat.le_of_ble_eq_true rfl) (Nat.le_of_ble_eq_true rfl) dX3_fractionBare_120 ?_
      refine W.eq (g2 := F0 m 123 ls [.int (fMx (bW S n) (bW S d))]) rfl ?_
      refine lv_istore (lv' := [(9, .int (fMx (bW S n) (bW S d))), (8, .int (fHf ((7 * (pV S st 13)) - (((pV S st 1) - (bD S n)) - ((bH S d) - (pV S st 4)))))), (7, .int (7 * (pV S st 13))), (6, .int (pV S st 4)), (5, .int (pV S st 1)), (4, .int 1), (0, .ref (f0 f)), (1, .int (nI st)), (2, .int (nI n)), (3, .int (nI d))]) hx hb dX3_fractionBare_123 hl (by decide) rfl (fun ls hl => ?_)
      refine mw_new (ci := 0) (fs := [.int 0, .int 0, .int 0, .null, .int 0, .int 0]) (C := RX0) (T := TX0) (N := 6) hx hb htb inX0 tyX0 tyX0_ok hown (htb _ wd22) (htb _ wd215) (htb _ wd10) hK hP hS rfl (fun j hj => by rcases (show j = 0 ∨ j = 1 ∨ j = 2 ∨ j = 3 ∨ j = 4 ∨ j = 5 by omega) with rfl | rfl | rfl | rfl | rfl | rfl <;> rfl) (Nat.le_of_ble_eq_true rfl) (Nat.le_of_ble_eq_true rfl) dX3_fractionBare_125 (fun q_98 H hq_99 hs_100 hP hS => ?_)
      obtain ⟨M_101, hM_101⟩ : ∃ z9 : mw_M, z9 = mw_up M q_98 (.inr (0, [.int 0, .int 0, .int 0, .null, .int 0, .int 0])) := ⟨_, rfl⟩
      have hP : mw_P (gD G) gx_cl M_101 H := by rw [hM_101]; exact hP
      have n_102 : M q_98 = none := mw_ext.no (mw_ext.rf M) hq_99
      have f_103 : M_101 q_98 = some (.inr (0, [.int 0, .int 0, .int 0, .null, .int 0, .int 0])) := by rw [hM_101]; exact mw_self _ _ _
      have x_104 : mw_ext M M_101 := by rw [hM_101]; exact mw_ext.up (mw_ext.rf M) n_102 _
      refine lv_dup hx hb dX3_fractionBare_128 rfl ?_
      refine lv_iload hx hb dX3_fractionBare_129 (lv_at hl 0 rfl) ?_
      refine lv_iload hx hb dX3_fractionBare_131 (lv_at hl 4 rfl) ?_
      refine lv_aload_n hx hb dX3_fractionBare_133 rfl (lv_at hl 6 rfl) ?_
      refine lv_iload_n hx hb dX3_fractionBare_134 rfl (lv_at hl 8 rfl) ?_
      refine mw_callV (C := RX3) (As := [.int (nI n)]) (rest := [.int (pV S st 1), .int (fMx (bW S n) (bW S d)), .ref q_98, .ref q_98]) hx hb hml hown hl (kX3_heightOf l htr G H.size M_101 f S (fs_R.ext hR x_104) n h_n) (g_B (n := 1) htb wd402 wd1 wd399 (by decide +kernel) ⟨Nat.le_of_ble_eq_true rfl, Nat.le_of_ble_eq_true rfl⟩) (htb _ wd401) (htb _ ws13) hE hP hS (fs_R.this (fs_R.ext hR x_104)) rfl rfl rfl (Nat.le_of_ble_eq_true rfl) dX3_fractionBare_135 ⟨Nat.le_of_ble_eq_true rfl, Nat.le_of_ble_eq_true rfl⟩ (fun v9 M9 H locs hpo hP hz hS => ?_) (fun x9 E9 cell9 H9 locs9 hE9 => hE9.elim)
      obtain ⟨rfl, rfl⟩ := hpo
      refine W.eq (g2 := F0 m 138 ls [.int (bH S n), .int (pV S st 1), .int (fMx (bW S n) (bW S d)), .ref q_98, .ref q_98]) rfl ?_
      refine lv_iadd hx hb dX3_fractionBare_138 ?_
      refine lv_aload_n hx hb dX3_fractionBare_139 rfl (lv_at hl 6 rfl) ?_
      refine lv_iload_n hx hb dX3_fractionBare_140 rfl (lv_at hl 9 rfl) ?_
      refine mw_callV (C := RX3) (As := [.int (nI d)]) (rest := [.int ((pV S st 1) + (bH S n)), .int (fMx (bW S n) (bW S d)), .ref q_98, .ref q_98]) hx hb hml hown hl (kX3_depthOf l htr G H.size M_101 f S (fs_R.ext hR x_104) d h_d) (g_B (n := 1) htb wd397 wd1 wd394 (by decide +kernel) ⟨Nat.le_of_ble_eq_true rfl, Nat.le_of_ble_eq_true rfl⟩) (htb _ wd396) (htb _ ws12) hE hP hS (fs_R.this (fs_R.ext hR x_104)) rfl rfl rfl (Nat.le_of_ble_eq_true rfl) dX3_fractionBare_141 ⟨Nat.le_of_ble_eq_true rfl, Nat.le_of_ble_eq_true rfl⟩ (fun v9 M9 H locs hpo hP hz hS => ?_) (fun x9 E9 cell9 H9 locs9 hE9 => hE9.elim)
      obtain ⟨rfl, rfl⟩ := hpo
      refine W.eq (g2 := F0 m 144 ls [.int (bD S d), .int ((pV S st 1) + (bH S n)), .int (fMx (bW S n) (bW S d)), .ref q_98, .ref q_98]) rfl ?_
      refine lv_iload hx hb dX3_fractionBare_144 (lv_at hl 3 rfl) ?_
      refine lv_iadd hx hb dX3_fractionBare_146 ?_
      refine lv_bipush (v := 6) hx hb dX3_fractionBare_147 (by decide) ?_
      refine mw_newi (N := 6) hx hb (htb _ wd55) hK hP hS 0 rfl (by decide) (by decide) (by decide) (Nat.le_of_ble_eq_true rfl) (Nat.le_of_ble_eq_true rfl) dX3_fractionBare_149 (fun q_105 H hq_106 hs_107 hP hS => ?_)
      obtain ⟨M_108, hM_108⟩ : ∃ z9 : mw_M, z9 = mw_up M_101 q_105 (.inl (gI G, 6, .inl (fun _ => 0))) := ⟨_, rfl⟩
      have hP : mw_P (gD G) gx_cl M_108 H := by rw [hM_108]; exact hP
      have n_109 : M q_105 = none := mw_ext.no x_104 hq_106
      have f_110 : M_108 q_98 = some (.inr (0, [.int 0, .int 0, .int 0, .null, .int 0, .int 0])) := by rw [hM_108, mw_ne _ _ (fun z => by have z1 := f_103; rw [z, hq_106] at z1; cases z1)]; exact f_103
      have ne_111 : q_98 ≠ q_105 := fun z => by have z1 := f_103; rw [z, hq_106] at z1; cases z1
      have f_112 : M_108 q_105 = some (.inl (gI G, 6, .inl (fun _ => 0))) := by rw [hM_108]; exact mw_self _ _ _
      have x_113 : mw_ext M M_108 := by rw [hM_108]; exact mw_ext.up x_104 n_109 _
      refine lv_dup hx hb dX3_fractionBare_151 rfl ?_
      refine lv_iconst (v := 0) hx hb dX3_fractionBare_152 (by decide) ?_
      refine lv_iload_n hx hb dX3_fractionBare_153 rfl (lv_at hl 8 rfl) ?_
      refine mw_iast hx hb hK hP hS 0 f_112 (hAn _ hs_107) rfl (by unfold vp_in; decide) dX3_fractionBare_154 (fun H locs hP hS => ?_)
      obtain ⟨M_114, hM_114⟩ : ∃ z9 : mw_M, z9 = mw_up M_108 q_105 (.inl (gI G, 6, .inl (upd (fun _ => 0) 0 (nI n)))) := ⟨_, rfl⟩
      have hP : mw_P (gD G) gx_cl M_114 H := by rw [hM_114]; exact hP
      have f_115 : M_114 q_98 = some (.inr (0, [.int 0, .int 0, .int 0, .null, .int 0, .int 0])) := by rw [hM_114, mw_ne _ _ ne_111]; exact f_110
      have f_116 : M_114 q_105 = some (.inl (gI G, 6, .inl (upd (fun _ => 0) 0 (nI n)))) := by rw [hM_114]; exact mw_self _ _ _
      have x_117 : mw_ext M M_114 := by rw [hM_114]; exact mw_ext.up x_113 n_109 _
      refine lv_dup hx hb dX3_fractionBare_155 rfl ?_
      refine lv_iconst (v := 1) hx hb dX3_fractionBare_156 (by decide) ?_
      refine lv_iload hx hb dX3_fractionBare_157 (lv_at hl 0 rfl) ?_
      refine lv_aload_n hx hb dX3_fractionBare_159 rfl (lv_at hl 6 rfl) ?_
      refine lv_iload_n hx hb dX3_fractionBare_160 rfl (lv_at hl 8 rfl) ?_
      refine mw_callV (C := RX3) (As := [.int (nI n)]) (rest := [.int (fMx (bW S n) (bW S d)), .int 1, .ref q_105, .ref q_105, .int ((bD S d) + (pV S st 4)), .int ((pV S st 1) + (bH S n)), .int (fMx (bW S n) (bW S d)), .ref q_98, .ref q_98]) hx hb hml hown hl (kX3_widthOf l htr G H.size M_114 f S (fs_R.ext hR x_117) n h_n) (g_B (n := 1) htb wd406 wd1 wd403 (by decide +kernel) ⟨Nat.le_of_ble_eq_true rfl, Nat.le_of_ble_eq_true rfl⟩) (htb _ wd405) (htb _ ws14) hE hP hS (fs_R.this (fs_R.ext hR x_117)) rfl rfl rfl (Nat.le_of_ble_eq_true rfl) dX3_fractionBare_161 ⟨Nat.le_of_ble_eq_true rfl, Nat.le_of_ble_eq_true rfl⟩ (fun v9 M9 H locs hpo hP hz hS => ?_) (fun x9 E9 cell9 H9 locs9 hE9 => hE9.elim)
      obtain ⟨rfl, rfl⟩ := hpo
      refine W.eq (g2 := F0 m 164 ls [.int (bW S n), .int (fMx (bW S n) (bW S d)), .int 1, .ref q_105, .ref q_105, .int ((bD S d) + (pV S st 4)), .int ((pV S st 1) + (bH S n)), .int (fMx (bW S n) (bW S d)), .ref q_98, .ref q_98]) rfl ?_
      refine lv_isub hx hb dX3_fractionBare_164 ?_
      refine mw_callS (As := [.int ((fMx (bW S n) (bW S d)) - (bW S n))]) (rest := [.int 1, .ref q_105, .ref q_105, .int ((bD S d) + (pV S st 4)), .int ((pV S st 1) + (bH S n)), .int (fMx (bW S n) (bW S d)), .ref q_98, .ref q_98]) hx hb hml hown hl (kX3_half l htr G H.size M_114 ((fMx (bW S n) (bW S d)) - (bW S n))) (g_B (n := 1) htb wd393 wd1 wd391 (by decide +kernel) ⟨Nat.le_of_ble_eq_true rfl, Nat.le_of_ble_eq_true rfl⟩) (htb _ wd392) hE hP hS rfl rfl (Nat.le_of_ble_eq_true rfl) dX3_fractionBare_165 ⟨Nat.le_of_ble_eq_true rfl, Nat.le_of_ble_eq_true rfl⟩ (fun v9 M9 H locs hpo hP hz hS => ?_) (fun x9 E9 cell9 H9 locs9 hE9 => hE9.elim)
      obtain ⟨rfl, rfl⟩ := hpo
      refine W.eq (g2 := F0 m 168 ls [.int (fHf ((fMx (bW S n) (bW S d)) - (bW S n))), .int 1, .ref q_105, .ref q_105, .int ((bD S d) + (pV S st 4)), .int ((pV S st 1) + (bH S n)), .int (fMx (bW S n) (bW S d)), .ref q_98, .ref q_98]) rfl ?_
      refine mw_iast hx hb hK hP hS 0 f_116 (hAn _ hs_107) rfl (by unfold vp_in; decide) dX3_fractionBare_168 (fun H locs hP hS => ?_)
      obtain ⟨M_118, hM_118⟩ : ∃ z9 : mw_M, z9 = mw_up M_114 q_105 (.inl (gI G, 6, .inl (upd (upd (fun _ => 0) 0 (nI n)) 1 (fHf ((fMx (bW S n) (bW S d)) - (bW S n)))))) := ⟨_, rfl⟩
      have hP : mw_P (gD G) gx_cl M_118 H := by rw [hM_118]; exact hP
      have f_119 : M_118 q_98 = some (.inr (0, [.int 0, .int 0, .int 0, .null, .int 0, .int 0])) := by rw [hM_118, mw_ne _ _ ne_111]; exact f_115
      have f_120 : M_118 q_105 = some (.inl (gI G, 6, .inl (upd (upd (fun _ => 0) 0 (nI n)) 1 (fHf ((fMx (bW S n) (bW S d)) - (bW S n)))))) := by rw [hM_118]; exact mw_self _ _ _
      have x_121 : mw_ext M M_118 := by rw [hM_118]; exact mw_ext.up x_117 n_109 _
      refine lv_dup hx hb dX3_fractionBare_169 rfl ?_
      refine lv_iconst (v := 2) hx hb dX3_fractionBare_170 (by decide) ?_
      refine lv_iload hx hb dX3_fractionBare_171 (lv_at hl 4 rfl) ?_
      refine mw_iast hx hb hK hP hS 0 f_120 (hAn _ hs_107) rfl (by unfold vp_in; decide) dX3_fractionBare_173 (fun H locs hP hS => ?_)
      obtain ⟨M_122, hM_122⟩ : ∃ z9 : mw_M, z9 = mw_up M_118 q_105 (.inl (gI G, 6, .inl (upd (upd (upd (fun _ => 0) 0 (nI n)) 1 (fHf ((fMx (bW S n) (bW S d)) - (bW S n)))) 2 (pV S st 1)))) := ⟨_, rfl⟩
      have hP : mw_P (gD G) gx_cl M_122 H := by rw [hM_122]; exact hP
      have f_123 : M_122 q_98 = some (.inr (0, [.int 0, .int 0, .int 0, .null, .int 0, .int 0])) := by rw [hM_122, mw_ne _ _ ne_111]; exact f_119
      have f_124 : M_122 q_105 = some (.inl (gI G, 6, .inl (upd (upd (upd (fun _ => 0) 0 (nI n)) 1 (fHf ((fMx (bW S n) (bW S d)) - (bW S n)))) 2 (pV S st 1)))) := by rw [hM_122]; exact mw_self _ _ _
      have x_125 : mw_ext M M_122 := by rw [hM_122]; exact mw_ext.up x_121 n_109 _
      refine lv_dup hx hb dX3_fractionBare_174 rfl ?_
      refine lv_iconst (v := 3) hx hb dX3_fractionBare_175 (by decide) ?_
      refine lv_iload_n hx hb dX3_fractionBare_176 rfl (lv_at hl 9 rfl) ?_
      refine mw_iast hx hb hK hP hS 0 f_124 (hAn _ hs_107) rfl (by unfold vp_in; decide) dX3_fractionBare_177 (fun H locs hP hS => ?_)
      obtain ⟨M_126, hM_126⟩ : ∃ z9 : mw_M, z9 = mw_up M_122 q_105 (.inl (gI G, 6, .inl (upd (upd (upd (upd (fun _ => 0) 0 (nI n)) 1 (fHf ((fMx (bW S n) (bW S d)) - (bW S n)))) 2 (pV S st 1)) 3 (nI d)))) := ⟨_, rfl⟩
      have hP : mw_P (gD G) gx_cl M_126 H := by rw [hM_126]; exact hP
      have f_127 : M_126 q_98 = some (.inr (0, [.int 0, .int 0, .int 0, .null, .int 0, .int 0])) := by rw [hM_126, mw_ne _ _ ne_111]; exact f_123
      have f_128 : M_126 q_105 = some (.inl (gI G, 6, .inl (upd (upd (upd (upd (fun _ => 0) 0 (nI n)) 1 (fHf ((fMx (bW S n) (bW S d)) - (bW S n)))) 2 (pV S st 1)) 3 (nI d)))) := by rw [hM_126]; exact mw_self _ _ _
      have x_129 : mw_ext M M_126 := by rw [hM_126]; exact mw_ext.up x_125 n_109 _
      refine lv_dup hx hb dX3_fractionBare_178 rfl ?_
      refine lv_iconst (v := 4) hx hb dX3_fractionBare_179 (by decide) ?_
      refine lv_iload hx hb dX3_fractionBare_180 (lv_at hl 0 rfl) ?_
      refine lv_aload_n hx hb dX3_fractionBare_182 rfl (lv_at hl 6 rfl) ?_
      refine lv_iload_n hx hb dX3_fractionBare_183 rfl (lv_at hl 9 rfl) ?_
      refine mw_callV (C := RX3) (As := [.int (nI d)]) (rest := [.int (fMx (bW S n) (bW S d)), .int 4, .ref q_105, .ref q_105, .int ((bD S d) + (pV S st 4)), .int ((pV S st 1) + (bH S n)), .int (fMx (bW S n) (bW S d)), .ref q_98, .ref q_98]) hx hb hml hown hl (kX3_widthOf l htr G H.size M_126 f S (fs_R.ext hR x_129) d h_d) (g_B (n := 1) htb wd406 wd1 wd403 (by decide +kernel) ⟨Nat.le_of_ble_eq_true rfl, Nat.le_of_ble_eq_true rfl⟩) (htb _ wd405) (htb _ ws14) hE hP hS (fs_R.this (fs_R.ext hR x_129)) rfl rfl rfl (Nat.le_of_ble_eq_true rfl) dX3_fractionBare_184 ⟨Nat.le_of_ble_eq_true rfl, Nat.le_of_ble_eq_true rfl⟩ (fun v9 M9 H locs hpo hP hz hS => ?_) (fun x9 E9 cell9 H9 locs9 hE9 => hE9.elim)
      obtain ⟨rfl, rfl⟩ := hpo
      refine W.eq (g2 := F0 m 187 ls [.int (bW S d), .int (fMx (bW S n) (bW S d)), .int 4, .ref q_105, .ref q_105, .int ((bD S d) + (pV S st 4)), .int ((pV S st 1) + (bH S n)), .int (fMx (bW S n) (bW S d)), .ref q_98, .ref q_98]) rfl ?_
      refine lv_isub hx hb dX3_fractionBare_187 ?_
      refine mw_callS (As := [.int ((fMx (bW S n) (bW S d)) - (bW S d))]) (rest := [.int 4, .ref q_105, .ref q_105, .int ((bD S d) + (pV S st 4)), .int ((pV S st 1) + (bH S n)), .int (fMx (bW S n) (bW S d)), .ref q_98, .ref q_98]) hx hb hml hown hl (kX3_half l htr G H.size M_126 ((fMx (bW S n) (bW S d)) - (bW S d))) (g_B (n := 1) htb wd393 wd1 wd391 (by decide +kernel) ⟨Nat.le_of_ble_eq_true rfl, Nat.le_of_ble_eq_true rfl⟩) (htb _ wd392) hE hP hS rfl rfl (Nat.le_of_ble_eq_true rfl) dX3_fractionBare_188 ⟨Nat.le_of_ble_eq_true rfl, Nat.le_of_ble_eq_true rfl⟩ (fun v9 M9 H locs hpo hP hz hS => ?_) (fun x9 E9 cell9 H9 locs9 hE9 => hE9.elim)
      obtain ⟨rfl, rfl⟩ := hpo
      refine W.eq (g2 := F0 m 191 ls [.int (fHf ((fMx (bW S n) (bW S d)) - (bW S d))), .int 4, .ref q_105, .ref q_105, .int ((bD S d) + (pV S st 4)), .int ((pV S st 1) + (bH S n)), .int (fMx (bW S n) (bW S d)), .ref q_98, .ref q_98]) rfl ?_
      refine mw_iast hx hb hK hP hS 0 f_128 (hAn _ hs_107) rfl (by unfold vp_in; decide) dX3_fractionBare_191 (fun H locs hP hS => ?_)
      obtain ⟨M_130, hM_130⟩ : ∃ z9 : mw_M, z9 = mw_up M_126 q_105 (.inl (gI G, 6, .inl (upd (upd (upd (upd (upd (fun _ => 0) 0 (nI n)) 1 (fHf ((fMx (bW S n) (bW S d)) - (bW S n)))) 2 (pV S st 1)) 3 (nI d)) 4 (fHf ((fMx (bW S n) (bW S d)) - (bW S d)))))) := ⟨_, rfl⟩
      have hP : mw_P (gD G) gx_cl M_130 H := by rw [hM_130]; exact hP
      have f_131 : M_130 q_98 = some (.inr (0, [.int 0, .int 0, .int 0, .null, .int 0, .int 0])) := by rw [hM_130, mw_ne _ _ ne_111]; exact f_127
      have f_132 : M_130 q_105 = some (.inl (gI G, 6, .inl (upd (upd (upd (upd (upd (fun _ => 0) 0 (nI n)) 1 (fHf ((fMx (bW S n) (bW S d)) - (bW S n)))) 2 (pV S st 1)) 3 (nI d)) 4 (fHf ((fMx (bW S n) (bW S d)) - (bW S d)))))) := by rw [hM_130]; exact mw_self _ _ _
      have x_133 : mw_ext M M_130 := by rw [hM_130]; exact mw_ext.up x_129 n_109 _
      refine lv_dup hx hb dX3_fractionBare_192 rfl ?_
      refine lv_iconst (v := 5) hx hb dX3_fractionBare_193 (by decide) ?_
      refine lv_iload hx hb dX3_fractionBare_194 (lv_at hl 3 rfl) ?_
      refine lv_ineg hx hb dX3_fractionBare_196 ?_
      refine mw_iast hx hb hK hP hS 0 f_132 (hAn _ hs_107) rfl (by unfold vp_in; decide) dX3_fractionBare_197 (fun H locs hP hS => ?_)
      obtain ⟨M_134, hM_134⟩ : ∃ z9 : mw_M, z9 = mw_up M_130 q_105 (.inl (gI G, 6, .inl (upd (upd (upd (upd (upd (upd (fun _ => 0) 0 (nI n)) 1 (fHf ((fMx (bW S n) (bW S d)) - (bW S n)))) 2 (pV S st 1)) 3 (nI d)) 4 (fHf ((fMx (bW S n) (bW S d)) - (bW S d)))) 5 (-(pV S st 4))))) := ⟨_, rfl⟩
      have hP : mw_P (gD G) gx_cl M_134 H := by rw [hM_134]; exact hP
      have f_135 : M_134 q_98 = some (.inr (0, [.int 0, .int 0, .int 0, .null, .int 0, .int 0])) := by rw [hM_134, mw_ne _ _ ne_111]; exact f_131
      have f_136 : M_134 q_105 = some (.inl (gI G, 6, .inl (upd (upd (upd (upd (upd (upd (fun _ => 0) 0 (nI n)) 1 (fHf ((fMx (bW S n) (bW S d)) - (bW S n)))) 2 (pV S st 1)) 3 (nI d)) 4 (fHf ((fMx (bW S n) (bW S d)) - (bW S d)))) 5 (-(pV S st 4))))) := by rw [hM_134]; exact mw_self _ _ _
      have x_137 : mw_ext M M_134 := by rw [hM_134]; exact mw_ext.up x_133 n_109 _
      refine mw_callI (As := [.int (fMx (bW S n) (bW S d)), .int ((pV S st 1) + (bH S n)), .int ((bD S d) + (pV S st 4)), .ref q_105]) (rest := [.ref q_98]) hx hb hml hown hl (kX0_init_0 l htr G H.size M_134 q_98 (hAn _ hs_100) f_135 (fMx (bW S n) (bW S d)) ((pV S st 1) + (bH S n)) ((bD S d) + (pV S st 4)) q_105) (g_B (n := 4) htb wd220 wd10 wd218 (by decide +kernel) ⟨Nat.le_of_ble_eq_true rfl, Nat.le_of_ble_eq_true rfl⟩) (htb _ wd219) (htb _ wd220) rfl hE hP hS rfl rfl (Nat.le_of_ble_eq_true rfl) dX3_fractionBare_198 ⟨Nat.le_of_ble_eq_true rfl, Nat.le_of_ble_eq_true rfl⟩ (fun v9 M9 H locs hpo hP hz hS => ?_) (fun x9 E9 cell9 H9 locs9 hE9 => hE9.elim)
      obtain ⟨rfl, hM9⟩ := hpo
      obtain ⟨M_138, hM_138⟩ : ∃ z9 : mw_M, z9 = mw_up M_134 q_98 (.inr (0, [.int (fMx (bW S n) (bW S d)), .int ((pV S st 1) + (bH S n)), .int ((bD S d) + (pV S st 4)), .ref q_105, .int 0, .int 0])) := ⟨_, rfl⟩
      have hP : mw_P (gD G) gx_cl M_138 H := by rw [hM_138, hM9]; exact hP
      have f_139 : M_138 q_98 = some (.inr (0, [.int (fMx (bW S n) (bW S d)), .int ((pV S st 1) + (bH S n)), .int ((bD S d) + (pV S st 4)), .ref q_105, .int 0, .int 0])) := by rw [hM_138]; exact mw_self _ _ _
      have f_140 : M_138 q_105 = some (.inl (gI G, 6, .inl (upd (upd (upd (upd (upd (upd (fun _ => 0) 0 (nI n)) 1 (fHf ((fMx (bW S n) (bW S d)) - (bW S n)))) 2 (pV S st 1)) 3 (nI d)) 4 (fHf ((fMx (bW S n) (bW S d)) - (bW S d)))) 5 (-(pV S st 4))))) := by rw [hM_138, mw_ne _ _ (Ne.symm ne_111)]; exact f_136
      have x_141 : mw_ext M M_138 := by rw [hM_138]; exact mw_ext.up x_137 n_102 _
      refine W.eq (g2 := F0 m 201 ls [.ref q_98]) rfl ?_
      have hbx9 : fs_bx G f M_138 q_98 (fs_fb S st n d) := by
        simp only [fs_fb, fs_fb1, fs_fb2, fs_fb3, if_pos c_1 , if_pos c_97]
        refine fs_mk f_139 f_140 rfl (fun j hj => ?_) (fun z => hX _ z n_102) (fun z => hX _ z n_109)
        rcases (show j = 0 ∨ j = 1 ∨ j = 2 ∨ j = 3 ∨ j = 4 ∨ j = 5 by omega) with rfl | rfl | rfl | rfl | rfl | rfl <;> rfl
      exact mx_aret (q := q_98) (M' := M_138) hx hb hr (Or.inl ⟨_, rfl⟩) hlocks hP hS ⟨q_98, rfl, x_141, hbx9⟩ dX3_fractionBare_201 (Nat.le_of_ble_eq_true rfl) (Nat.le_of_ble_eq_true rfl)
    · refine lv_iload hx hb dX3_fractionBare_96 (lv_at hl 3 rfl) ?_
      refine lv_iload hx hb dX3_fractionBare_98 (lv_at hl 0 rfl) ?_
      refine lv_iadd hx hb dX3_fractionBare_100 ?_
      refine lv_istore (lv' := [(5, .int ((pV S st 1) + (fHf ((7 * (pV S st 13)) - (((pV S st 1) - (bD S n)) - ((bH S d) - (pV S st 4))))))), (8, .int (fHf ((7 * (pV S st 13)) - (((pV S st 1) - (bD S n)) - ((bH S d) - (pV S st 4)))))), (7, .int (7 * (pV S st 13))), (6, .int (pV S st 4)), (4, .int 1), (0, .ref (f0 f)), (1, .int (nI st)), (2, .int (nI n)), (3, .int (nI d))]) hx hb dX3_fractionBare_101 hl (by decide) rfl (fun ls hl => ?_)
      refine lv_iload hx hb dX3_fractionBare_103 (lv_at hl 3 rfl) ?_
      refine lv_iload hx hb dX3_fractionBare_105 (lv_at hl 1 rfl) ?_
      refine lv_iadd hx hb dX3_fractionBare_107 ?_
      refine lv_istore (lv' := [(6, .int ((pV S st 4) + (fHf ((7 * (pV S st 13)) - (((pV S st 1) - (bD S n)) - ((bH S d) - (pV S st 4))))))), (5, .int ((pV S st 1) + (fHf ((7 * (pV S st 13)) - (((pV S st 1) - (bD S n)) - ((bH S d) - (pV S st 4))))))), (8, .int (fHf ((7 * (pV S st 13)) - (((pV S st 1) - (bD S n)) - ((bH S d) - (pV S st 4)))))), (7, .int (7 * (pV S st 13))), (4, .int 1), (0, .ref (f0 f)), (1, .int (nI st)), (2, .int (nI n)), (3, .int (nI d))]) hx hb dX3_fractionBare_108 hl (by decide) rfl (fun ls hl => ?_)
      refine lv_aload_n hx hb dX3_fractionBare_110 rfl (lv_at hl 5 rfl) ?_
      refine lv_iload_n hx hb dX3_fractionBare_111 rfl (lv_at hl 7 rfl) ?_
      refine mw_callV (C := RX3) (As := [.int (nI n)]) (rest := []) hx hb hml hown hl (kX3_widthOf l htr G H.size M f S hR n h_n) (g_B (n := 1) htb wd406 wd1 wd403 (by decide +kernel) ⟨Nat.le_of_ble_eq_true rfl, Nat.le_of_ble_eq_true rfl⟩) (htb _ wd405) (htb _ ws14) hE hP hS (fs_R.this hR) rfl rfl rfl (Nat.le_of_ble_eq_true rfl) dX3_fractionBare_112 ⟨Nat.le_of_ble_eq_true rfl, Nat.le_of_ble_eq_true rfl⟩ (fun v9 M9 H locs hpo hP hz hS => ?_) (fun x9 E9 cell9 H9 locs9 hE9 => hE9.elim)
      obtain ⟨rfl, rfl⟩ := hpo
      refine W.eq (g2 := F0 m 115 ls [.int (bW S n)]) rfl ?_
      refine lv_aload_n hx hb dX3_fractionBare_115 rfl (lv_at hl 5 rfl) ?_
      refine lv_iload_n hx hb dX3_fractionBare_116 rfl (lv_at hl 8 rfl) ?_
      refine mw_callV (C := RX3) (As := [.int (nI d)]) (rest := [.int (bW S n)]) hx hb hml hown hl (kX3_widthOf l htr G H.size M f S hR d h_d) (g_B (n := 1) htb wd406 wd1 wd403 (by decide +kernel) ⟨Nat.le_of_ble_eq_true rfl, Nat.le_of_ble_eq_true rfl⟩) (htb _ wd405) (htb _ ws14) hE hP hS (fs_R.this hR) rfl rfl rfl (Nat.le_of_ble_eq_true rfl) dX3_fractionBare_117 ⟨Nat.le_of_ble_eq_true rfl, Nat.le_of_ble_eq_true rfl⟩ (fun v9 M9 H locs hpo hP hz hS => ?_) (fun x9 E9 cell9 H9 locs9 hE9 => hE9.elim)
      obtain ⟨rfl, rfl⟩ := hpo
      refine W.eq (g2 := F0 m 120 ls [.int (bW S d), .int (bW S n)]) rfl ?_
      refine va_mmax hx hb (hml.trans hl.1.symm) hown (htb _ wd398) (htb _ wd364) (htb _ wd13) (htb _ wd365) (Nat.le_of_ble_eq_true rfl) (Nat.le_of_ble_eq_true rfl) (Nat.le_of_ble_eq_true rfl) (Nat.le_of_ble_eq_true rfl) dX3_fractionBare_120 ?_
      refine W.eq (g2 := F0 m 123 ls [.int (fMx (bW S n) (bW S d))]) rfl ?_
      refine lv_istore (lv' := [(9, .int (fMx (bW S n) (bW S d))), (6, .int ((pV S st 4) + (fHf ((7 * (pV S st 13)) - (((pV S st 1) - (bD S n)) - ((bH S d) - (pV S st 4))))))), (5, .int ((pV S st 1) + (fHf ((7 * (pV S st 13)) - (((pV S st 1) - (bD S n)) - ((bH S d) - (pV S st 4))))))), (8, .int (fHf ((7 * (pV S st 13)) - (((pV S st 1) - (bD S n)) - ((bH S d) - (pV S st 4)))))), (7, .int (7 * (pV S st 13))), (4, .int 1), (0, .ref (f0 f)), (1, .int (nI st)), (2, .int (nI n)), (3, .int (nI d))]) hx hb dX3_fractionBare_123 hl (by decide) rfl (fun ls hl => ?_)
      refine mw_new (ci := 0) (fs := [.int 0, .int 0, .int 0, .null, .int 0, .int 0]) (C := RX0) (T := TX0) (N := 6) hx hb htb inX0 tyX0 tyX0_ok hown (htb _ wd22) (htb _ wd215) (htb _ wd10) hK hP hS rfl (fun j hj => by rcases (show j = 0 ∨ j = 1 ∨ j = 2 ∨ j = 3 ∨ j = 4 ∨ j = 5 by omega) with rfl | rfl | rfl | rfl | rfl | rfl <;> rfl) (Nat.le_of_ble_eq_true rfl) (Nat.le_of_ble_eq_true rfl) dX3_fractionBare_125 (fun q_142 H hq_143 hs_144 hP hS => ?_)
      obtain ⟨M_145, hM_145⟩ : ∃ z9 : mw_M, z9 = mw_up M q_142 (.inr (0, [.int 0, .int 0, .int 0, .null, .int 0, .int 0])) := ⟨_, rfl⟩
      have hP : mw_P (gD G) gx_cl M_145 H := by rw [hM_145]; exact hP
      have n_146 : M q_142 = none := mw_ext.no (mw_ext.rf M) hq_143
      have f_147 : M_145 q_142 = some (.inr (0, [.int 0, .int 0, .int 0, .null, .int 0, .int 0])) := by rw [hM_145]; exact mw_self _ _ _
      have x_148 : mw_ext M M_145 := by rw [hM_145]; exact mw_ext.up (mw_ext.rf M) n_146 _
      refine lv_dup hx hb dX3_fractionBare_128 rfl ?_
      refine lv_iload hx hb dX3_fractionBare_129 (lv_at hl 0 rfl) ?_
      refine lv_iload hx hb dX3_fractionBare_131 (lv_at hl 2 rfl) ?_
      refine lv_aload_n hx hb dX3_fractionBare_133 rfl (lv_at hl 6 rfl) ?_
      refine lv_iload_n hx hb dX3_fractionBare_134 rfl (lv_at hl 8 rfl) ?_
      refine mw_callV (C := RX3) (As := [.int (nI n)]) (rest := [.int ((pV S st 1) + (fHf ((7 * (pV S st 13)) - (((pV S st 1) - (bD S n)) - ((bH S d) - (pV S st 4)))))), .int (fMx (bW S n) (bW S d)), .ref q_142, .ref q_142]) hx hb hml hown hl (kX3_heightOf l htr G H.size M_145 f S (fs_R.ext hR x_148) n h_n) (g_B (n := 1) htb wd402 wd1 wd399 (by decide +kernel) ⟨Nat.le_of_ble_eq_true rfl, Nat.le_of_ble_eq_true rfl⟩) (htb _ wd401) (htb _ ws13) hE hP hS (fs_R.this (fs_R.ext hR x_148)) rfl rfl rfl (Nat.le_of_ble_eq_true rfl) dX3_fractionBare_135 ⟨Nat.le_of_ble_eq_true rfl, Nat.le_of_ble_eq_true rfl⟩ (fun v9 M9 H locs hpo hP hz hS => ?_) (fun x9 E9 cell9 H9 locs9 hE9 => hE9.elim)
      obtain ⟨rfl, rfl⟩ := hpo
      refine W.eq (g2 := F0 m 138 ls [.int (bH S n), .int ((pV S st 1) + (fHf ((7 * (pV S st 13)) - (((pV S st 1) - (bD S n)) - ((bH S d) - (pV S st 4)))))), .int (fMx (bW S n) (bW S d)), .ref q_142, .ref q_142]) rfl ?_
      refine lv_iadd hx hb dX3_fractionBare_138 ?_
      refine lv_aload_n hx hb dX3_fractionBare_139 rfl (lv_at hl 6 rfl) ?_
      refine lv_iload_n hx hb dX3_fractionBare_140 rfl (lv_at hl 9 rfl) ?_
      refine mw_callV (C := RX3) (As := [.int (nI d)]) (rest := [.int (((pV S st 1) + (fHf ((7 * (pV S st 13)) - (((pV S st 1) - (bD S n)) - ((bH S d) - (pV S st 4)))))) + (bH S n)), .int (fMx (bW S n) (bW S d)), .ref q_142, .ref q_142]) hx hb hml hown hl (kX3_depthOf l htr G H.size M_145 f S (fs_R.ext hR x_148) d h_d) (g_B (n := 1) htb wd397 wd1 wd394 (by decide +kernel) ⟨Nat.le_of_ble_eq_true rfl, Nat.le_of_ble_eq_true rfl⟩) (htb _ wd396) (htb _ ws12) hE hP hS (fs_R.this (fs_R.ext hR x_148)) rfl rfl rfl (Nat.le_of_ble_eq_true rfl) dX3_fractionBare_141 ⟨Nat.le_of_ble_eq_true rfl, Nat.le_of_ble_eq_true rfl⟩ (fun v9 M9 H locs hpo hP hz hS => ?_) (fun x9 E9 cell9 H9 locs9 hE9 => hE9.elim)
      obtain ⟨rfl, rfl⟩ := hpo
      refine W.eq (g2 := F0 m 144 ls [.int (bD S d), .int (((pV S st 1) + (fHf ((7 * (pV S st 13)) - (((pV S st 1) - (bD S n)) - ((bH S d) - (pV S st 4)))))) + (bH S n)), .int (fMx (bW S n) (bW S d)), .ref q_142, .ref q_142]) rfl ?_
      refine lv_iload hx hb dX3_fractionBare_144 (lv_at hl 1 rfl) ?_
      refine lv_iadd hx hb dX3_fractionBare_146 ?_
      refine lv_bipush (v := 6) hx hb dX3_fractionBare_147 (by decide) ?_
      refine mw_newi (N := 6) hx hb (htb _ wd55) hK hP hS 0 rfl (by decide) (by decide) (by decide) (Nat.le_of_ble_eq_true rfl) (Nat.le_of_ble_eq_true rfl) dX3_fractionBare_149 (fun q_149 H hq_150 hs_151 hP hS => ?_)
      obtain ⟨M_152, hM_152⟩ : ∃ z9 : mw_M, z9 = mw_up M_145 q_149 (.inl (gI G, 6, .inl (fun _ => 0))) := ⟨_, rfl⟩
      have hP : mw_P (gD G) gx_cl M_152 H := by rw [hM_152]; exact hP
      have n_153 : M q_149 = none := mw_ext.no x_148 hq_150
      have f_154 : M_152 q_142 = some (.inr (0, [.int 0, .int 0, .int 0, .null, .int 0, .int 0])) := by rw [hM_152, mw_ne _ _ (fun z => by have z1 := f_147; rw [z, hq_150] at z1; cases z1)]; exact f_147
      have ne_155 : q_142 ≠ q_149 := fun z => by have z1 := f_147; rw [z, hq_150] at z1; cases z1
      have f_156 : M_152 q_149 = some (.inl (gI G, 6, .inl (fun _ => 0))) := by rw [hM_152]; exact mw_self _ _ _
      have x_157 : mw_ext M M_152 := by rw [hM_152]; exact mw_ext.up x_148 n_153 _
      refine lv_dup hx hb dX3_fractionBare_151 rfl ?_
      refine lv_iconst (v := 0) hx hb dX3_fractionBare_152 (by decide) ?_
      refine lv_iload_n hx hb dX3_fractionBare_153 rfl (lv_at hl 8 rfl) ?_
      refine mw_iast hx hb hK hP hS 0 f_156 (hAn _ hs_151) rfl (by unfold vp_in; decide) dX3_fractionBare_154 (fun H locs hP hS => ?_)
      obtain ⟨M_158, hM_158⟩ : ∃ z9 : mw_M, z9 = mw_up M_152 q_149 (.inl (gI G, 6, .inl (upd (fun _ => 0) 0 (nI n)))) := ⟨_, rfl⟩
      have hP : mw_P (gD G) gx_cl M_158 H := by rw [hM_158]; exact hP
      have f_159 : M_158 q_142 = some (.inr (0, [.int 0, .int 0, .int 0, .null, .int 0, .int 0])) := by rw [hM_158, mw_ne _ _ ne_155]; exact f_154
      have f_160 : M_158 q_149 = some (.inl (gI G, 6, .inl (upd (fun _ => 0) 0 (nI n)))) := by rw [hM_158]; exact mw_self _ _ _
      have x_161 : mw_ext M M_158 := by rw [hM_158]; exact mw_ext.up x_157 n_153 _
      refine lv_dup hx hb dX3_fractionBare_155 rfl ?_
      refine lv_iconst (v := 1) hx hb dX3_fractionBare_156 (by decide) ?_
      refine lv_iload hx hb dX3_fractionBare_157 (lv_at hl 0 rfl) ?_
      refine lv_aload_n hx hb dX3_fractionBare_159 rfl (lv_at hl 6 rfl) ?_
      refine lv_iload_n hx hb dX3_fractionBare_160 rfl (lv_at hl 8 rfl) ?_
      refine mw_callV (C := RX3) (As := [.int (nI n)]) (rest := [.int (fMx (bW S n) (bW S d)), .int 1, .ref q_149, .ref q_149, .int ((bD S d) + ((pV S st 4) + (fHf ((7 * (pV S st 13)) - (((pV S st 1) - (bD S n)) - ((bH S d) - (pV S st 4))))))), .int (((pV S st 1) + (fHf ((7 * (pV S st 13)) - (((pV S st 1) - (bD S n)) - ((bH S d) - (pV S st 4)))))) + (bH S n)), .int (fMx (bW S n) (bW S d)), .ref q_142, .ref q_142]) hx hb hml hown hl (kX3_widthOf l htr G H.size M_158 f S (fs_R.ext hR x_161) n h_n) (g_B (n := 1) htb wd406 wd1 wd403 (by decide +kernel) ⟨Nat.le_of_ble_eq_true rfl, Nat.le_of_ble_eq_true rfl⟩) (htb _ wd405) (htb _ ws14) hE hP hS (fs_R.this (fs_R.ext hR x_161)) rfl rfl rfl (Nat.le_of_ble_eq_true rfl) dX3_fractionBare_161 ⟨Nat.le_of_ble_eq_true rfl, Nat.le_of_ble_eq_true rfl⟩ (fun v9 M9 H locs hpo hP hz hS => ?_) (fun x9 E9 cell9 H9 locs9 hE9 => hE9.elim)
      obtain ⟨rfl, rfl⟩ := hpo
      refine W.eq (g2 := F0 m 164 ls [.int (bW S n), .int (fMx (bW S n) (bW S d)), .int 1, .ref q_149, .ref q_149, .int ((bD S d) + ((pV S st 4) + (fHf ((7 * (pV S st 13)) - (((pV S st 1) - (bD S n)) - ((bH S d) - (pV S st 4))))))), .int (((pV S st 1) + (fHf ((7 * (pV S st 13)) - (((pV S st 1) - (bD S n)) - ((bH S d) - (pV S st 4)))))) + (bH S n)), .int (fMx (bW S n) (bW S d)), .ref q_142, .ref q_142]) rfl ?_
      refine lv_isub hx hb dX3_fractionBare_164 ?_
      refine mw_callS (As := [.int ((fMx (bW S n) (bW S d)) - (bW S n))]) (rest := [.int 1, .ref q_149, .ref q_149, .int ((bD S d) + ((pV S st 4) + (fHf ((7 * (pV S st 13)) - (((pV S st 1) - (bD S n)) - ((bH S d) - (pV S st 4))))))), .int (((pV S st 1) + (fHf ((7 * (pV S st 13)) - (((pV S st 1) - (bD S n)) - ((bH S d) - (pV S st 4)))))) + (bH S n)), .int (fMx (bW S n) (bW S d)), .ref q_142, .ref q_142]) hx hb hml hown hl (kX3_half l htr G H.size M_158 ((fMx (bW S n) (bW S d)) - (bW S n))) (g_B (n := 1) htb wd393 wd1 wd391 (by decide +kernel) ⟨Nat.le_of_ble_eq_true rfl, Nat.le_of_ble_eq_true rfl⟩) (htb _ wd392) hE hP hS rfl rfl (Nat.le_of_ble_eq_true rfl) dX3_fractionBare_165 ⟨Nat.le_of_ble_eq_true rfl, Nat.le_of_ble_eq_true rfl⟩ (fun v9 M9 H locs hpo hP hz hS => ?_) (fun x9 E9 cell9 H9 locs9 hE9 => hE9.elim)
      obtain ⟨rfl, rfl⟩ := hpo
      refine W.eq (g2 := F0 m 168 ls [.int (fHf ((fMx (bW S n) (bW S d)) - (bW S n))), .int 1, .ref q_149, .ref q_149, .int ((bD S d) + ((pV S st 4) + (fHf ((7 * (pV S st 13)) - (((pV S st 1) - (bD S n)) - ((bH S d) - (pV S st 4))))))), .int (((pV S st 1) + (fHf ((7 * (pV S st 13)) - (((pV S st 1) - (bD S n)) - ((bH S d) - (pV S st 4)))))) + (bH S n)), .int (fMx (bW S n) (bW S d)), .ref q_142, .ref q_142]) rfl ?_
      refine mw_iast hx hb hK hP hS 0 f_160 (hAn _ hs_151) rfl (by unfold vp_in; decide) dX3_fractionBare_168 (fun H locs hP hS => ?_)
      obtain ⟨M_162, hM_162⟩ : ∃ z9 : mw_M, z9 = mw_up M_158 q_149 (.inl (gI G, 6, .inl (upd (upd (fun _ => 0) 0 (nI n)) 1 (fHf ((fMx (bW S n) (bW S d)) - (bW S n)))))) := ⟨_, rfl⟩
      have hP : mw_P (gD G) gx_cl M_162 H := by rw [hM_162]; exact hP
      have f_163 : M_162 q_142 = some (.inr (0, [.int 0, .int 0, .int 0, .null, .int 0, .int 0])) := by rw [hM_162, mw_ne _ _ ne_155]; exact f_159
      have f_164 : M_162 q_149 = some (.inl (gI G, 6, .inl (upd (upd (fun _ => 0) 0 (nI n)) 1 (fHf ((fMx (bW S n) (bW S d)) - (bW S n)))))) := by rw [hM_162]; exact mw_self _ _ _
      have x_165 : mw_ext M M_162 := by rw [hM_162]; exact mw_ext.up x_161 n_153 _
      refine lv_dup hx hb dX3_fractionBare_169 rfl ?_
      refine lv_iconst (v := 2) hx hb dX3_fractionBare_170 (by decide) ?_
      refine lv_iload hx hb dX3_fractionBare_171 (lv_at hl 2 rfl) ?_
      refine mw_iast hx hb hK hP hS 0 f_164 (hAn _ hs_151) rfl (by unfold vp_in; decide) dX3_fractionBare_173 (fun H locs hP hS => ?_)
      obtain ⟨M_166, hM_166⟩ : ∃ z9 : mw_M, z9 = mw_up M_162 q_149 (.inl (gI G, 6, .inl (upd (upd (upd (fun _ => 0) 0 (nI n)) 1 (fHf ((fMx (bW S n) (bW S d)) - (bW S n)))) 2 ((pV S st 1) + (fHf ((7 * (pV S st 13)) - (((pV S st 1) - (bD S n)) - ((bH S d) - (pV S st 4))))))))) := ⟨_, rfl⟩
      have hP : mw_P (gD G) gx_cl M_166 H := by rw [hM_166]; exact hP
      have f_167 : M_166 q_142 = some (.inr (0, [.int 0, .int 0, .int 0, .null, .int 0, .int 0])) := by rw [hM_166, mw_ne _ _ ne_155]; exact f_163
      have f_168 : M_166 q_149 = some (.inl (gI G, 6, .inl (upd (upd (upd (fun _ => 0) 0 (nI n)) 1 (fHf ((fMx (bW S n) (bW S d)) - (bW S n)))) 2 ((pV S st 1) + (fHf ((7 * (pV S st 13)) - (((pV S st 1) - (bD S n)) - ((bH S d) - (pV S st 4))))))))) := by rw [hM_166]; exact mw_self _ _ _
      have x_169 : mw_ext M M_166 := by rw [hM_166]; exact mw_ext.up x_165 n_153 _
      refine lv_dup hx hb dX3_fractionBare_174 rfl ?_
      refine lv_iconst (v := 3) hx hb dX3_fractionBare_175 (by decide) ?_
      refine lv_iload_n hx hb dX3_fractionBare_176 rfl (lv_at hl 9 rfl) ?_
      refine mw_iast hx hb hK hP hS 0 f_168 (hAn _ hs_151) rfl (by unfold vp_in; decide) dX3_fractionBare_177 (fun H locs hP hS => ?_)
      obtain ⟨M_170, hM_170⟩ : ∃ z9 : mw_M, z9 = mw_up M_166 q_149 (.inl (gI G, 6, .inl (upd (upd (upd (upd (fun _ => 0) 0 (nI n)) 1 (fHf ((fMx (bW S n) (bW S d)) - (bW S n)))) 2 ((pV S st 1) + (fHf ((7 * (pV S st 13)) - (((pV S st 1) - (bD S n)) - ((bH S d) - (pV S st 4))))))) 3 (nI d)))) := ⟨_, rfl⟩
      have hP : mw_P (gD G) gx_cl M_170 H := by rw [hM_170]; exact hP
      have f_171 : M_170 q_142 = some (.inr (0, [.int 0, .int 0, .int 0, .null, .int 0, .int 0])) := by rw [hM_170, mw_ne _ _ ne_155]; exact f_167
      have f_172 : M_170 q_149 = some (.inl (gI G, 6, .inl (upd (upd (upd (upd (fun _ => 0) 0 (nI n)) 1 (fHf ((fMx (bW S n) (bW S d)) - (bW S n)))) 2 ((pV S st 1) + (fHf ((7 * (pV S st 13)) - (((pV S st 1) - (bD S n)) - ((bH S d) - (pV S st 4))))))) 3 (nI d)))) := by rw [hM_170]; exact mw_self _ _ _
      have x_173 : mw_ext M M_170 := by rw [hM_170]; exact mw_ext.up x_169 n_153 _
      refine lv_dup hx hb dX3_fractionBare_178 rfl ?_
      refine lv_iconst (v := 4) hx hb dX3_fractionBare_179 (by decide) ?_
      refine lv_iload hx hb dX3_fractionBare_180 (lv_at hl 0 rfl) ?_
      refine lv_aload_n hx hb dX3_fractionBare_182 rfl (lv_at hl 6 rfl) ?_
      refine lv_iload_n hx hb dX3_fractionBare_183 rfl (lv_at hl 9 rfl) ?_
      refine mw_callV (C := RX3) (As := [.int (nI d)]) (rest := [.int (fMx (bW S n) (bW S d)), .int 4, .ref q_149, .ref q_149, .int ((bD S d) + ((pV S st 4) + (fHf ((7 * (pV S st 13)) - (((pV S st 1) - (bD S n)) - ((bH S d) - (pV S st 4))))))), .int (((pV S st 1) + (fHf ((7 * (pV S st 13)) - (((pV S st 1) - (bD S n)) - ((bH S d) - (pV S st 4)))))) + (bH S n)), .int (fMx (bW S n) (bW S d)), .ref q_142, .ref q_142]) hx hb hml hown hl (kX3_widthOf l htr G H.size M_170 f S (fs_R.ext hR x_173) d h_d) (g_B (n := 1) htb wd406 wd1 wd403 (by decide +kernel) ⟨Nat.le_of_ble_eq_true rfl, Nat.le_of_ble_eq_true rfl⟩) (htb _ wd405) (htb _ ws14) hE hP hS (fs_R.this (fs_R.ext hR x_173)) rfl rfl rfl (Nat.le_of_ble_eq_true rfl) dX3_fractionBare_184 ⟨Nat.le_of_ble_eq_true rfl, Nat.le_of_ble_eq_true rfl⟩ (fun v9 M9 H locs hpo hP hz hS => ?_) (fun x9 E9 cell9 H9 locs9 hE9 => hE9.elim)
      obtain ⟨rfl, rfl⟩ := hpo
      refine W.eq (g2 := F0 m 187 ls [.int (bW S d), .int (fMx (bW S n) (bW S d)), .int 4, .ref q_149, .ref q_149, .int ((bD S d) + ((pV S st 4) + (fHf ((7 * (pV S st 13)) - (((pV S st 1) - (bD S n)) - ((bH S d) - (pV S st 4))))))), .int (((pV S st 1) + (fHf ((7 * (pV S st 13)) - (((pV S st 1) - (bD S n)) - ((bH S d) - (pV S st 4)))))) + (bH S n)), .int (fMx (bW S n) (bW S d)), .ref q_142, .ref q_142]) rfl ?_
      refine lv_isub hx hb dX3_fractionBare_187 ?_
      refine mw_callS (As := [.int ((fMx (bW S n) (bW S d)) - (bW S d))]) (rest := [.int 4, .ref q_149, .ref q_149, .int ((bD S d) + ((pV S st 4) + (fHf ((7 * (pV S st 13)) - (((pV S st 1) - (bD S n)) - ((bH S d) - (pV S st 4))))))), .int (((pV S st 1) + (fHf ((7 * (pV S st 13)) - (((pV S st 1) - (bD S n)) - ((bH S d) - (pV S st 4)))))) + (bH S n)), .int (fMx (bW S n) (bW S d)), .ref q_142, .ref q_142]) hx hb hml hown hl (kX3_half l htr G H.size M_170 ((fMx (bW S n) (bW S d)) - (bW S d))) (g_B (n := 1) htb wd393 wd1 wd391 (by decide +kernel) ⟨Nat.le_of_ble_eq_true rfl, Nat.le_of_ble_eq_true rfl⟩) (htb _ wd392) hE hP hS rfl rfl (Nat.le_of_ble_eq_true rfl) dX3_fractionBare_188 ⟨Nat.le_of_ble_eq_true rfl, Nat.le_of_ble_eq_true rfl⟩ (fun v9 M9 H locs hpo hP hz hS => ?_) (fun x9 E9 cell9 H9 locs9 hE9 => hE9.elim)
      obtain ⟨rfl, rfl⟩ := hpo
      refine W.eq (g2 := F0 m 191 ls [.int (fHf ((fMx (bW S n) (bW S d)) - (bW S d))), .int 4, .ref q_149, .ref q_149, .int ((bD S d) + ((pV S st 4) + (fHf ((7 * (pV S st 13)) - (((pV S st 1) - (bD S n)) - ((bH S d) - (pV S st 4))))))), .int (((pV S st 1) + (fHf ((7 * (pV S st 13)) - (((pV S st 1) - (bD S n)) - ((bH S d) - (pV S st 4)))))) + (bH S n)), .int (fMx (bW S n) (bW S d)), .ref q_142, .ref q_142]) rfl ?_
      refine mw_iast hx hb hK hP hS 0 f_172 (hAn _ hs_151) rfl (by unfold vp_in; decide) dX3_fractionBare_191 (fun H locs hP hS => ?_)
      obtain ⟨M_174, hM_174⟩ : ∃ z9 : mw_M, z9 = mw_up M_170 q_149 (.inl (gI G, 6, .inl (upd (upd (upd (upd (upd (fun _ => 0) 0 (nI n)) 1 (fHf ((fMx (bW S n) (bW S d)) - (bW S n)))) 2 ((pV S st 1) + (fHf ((7 * (pV S st 13)) - (((pV S st 1) - (bD S n)) - ((bH S d) - (pV S st 4))))))) 3 (nI d)) 4 (fHf ((fMx (bW S n) (bW S d)) - (bW S d)))))) := ⟨_, rfl⟩
      have hP : mw_P (gD G) gx_cl M_174 H := by rw [hM_174]; exact hP
      have f_175 : M_174 q_142 = some (.inr (0, [.int 0, .int 0, .int 0, .null, .int 0, .int 0])) := by rw [hM_174, mw_ne _ _ ne_155]; exact f_171
      have f_176 : M_174 q_149 = some (.inl (gI G, 6, .inl (upd (upd (upd (upd (upd (fun _ => 0) 0 (nI n)) 1 (fHf ((fMx (bW S n) (bW S d)) - (bW S n)))) 2 ((pV S st 1) + (fHf ((7 * (pV S st 13)) - (((pV S st 1) - (bD S n)) - ((bH S d) - (pV S st 4))))))) 3 (nI d)) 4 (fHf ((fMx (bW S n) (bW S d)) - (bW S d)))))) := by rw [hM_174]; exact mw_self _ _ _
      have x_177 : mw_ext M M_174 := by rw [hM_174]; exact mw_ext.up x_173 n_153 _
      refine lv_dup hx hb dX3_fractionBare_192 rfl ?_
      refine lv_iconst (v := 5) hx hb dX3_fractionBare_193 (by decide) ?_
      refine lv_iload hx hb dX3_fractionBare_194 (lv_at hl 1 rfl) ?_
      refine lv_ineg hx hb dX3_fractionBare_196 ?_
      refine mw_iast hx hb hK hP hS 0 f_176 (hAn _ hs_151) rfl (by unfold vp_in; decide) dX3_fractionBare_197 (fun H locs hP hS => ?_)
      obtain ⟨M_178, hM_178⟩ : ∃ z9 : mw_M, z9 = mw_up M_174 q_149 (.inl (gI G, 6, .inl (upd (upd (upd (upd (upd (upd (fun _ => 0) 0 (nI n)) 1 (fHf ((fMx (bW S n) (bW S d)) - (bW S n)))) 2 ((pV S st 1) + (fHf ((7 * (pV S st 13)) - (((pV S st 1) - (bD S n)) - ((bH S d) - (pV S st 4))))))) 3 (nI d)) 4 (fHf ((fMx (bW S n) (bW S d)) - (bW S d)))) 5 (-((pV S st 4) + (fHf ((7 * (pV S st 13)) - (((pV S st 1) - (bD S n)) - ((bH S d) - (pV S st 4)))))))))) := ⟨_, rfl⟩
      have hP : mw_P (gD G) gx_cl M_178 H := by rw [hM_178]; exact hP
      have f_179 : M_178 q_142 = some (.inr (0, [.int 0, .int 0, .int 0, .null, .int 0, .int 0])) := by rw [hM_178, mw_ne _ _ ne_155]; exact f_175
      have f_180 : M_178 q_149 = some (.inl (gI G, 6, .inl (upd (upd (upd (upd (upd (upd (fun _ => 0) 0 (nI n)) 1 (fHf ((fMx (bW S n) (bW S d)) - (bW S n)))) 2 ((pV S st 1) + (fHf ((7 * (pV S st 13)) - (((pV S st 1) - (bD S n)) - ((bH S d) - (pV S st 4))))))) 3 (nI d)) 4 (fHf ((fMx (bW S n) (bW S d)) - (bW S d)))) 5 (-((pV S st 4) + (fHf ((7 * (pV S st 13)) - (((pV S st 1) - (bD S n)) - ((bH S d) - (pV S st 4)))))))))) := by rw [hM_178]; exact mw_self _ _ _
      have x_181 : mw_ext M M_178 := by rw [hM_178]; exact mw_ext.up x_177 n_153 _
      refine mw_callI (As := [.int (fMx (bW S n) (bW S d)), .int (((pV S st 1) + (fHf ((7 * (pV S st 13)) - (((pV S st 1) - (bD S n)) - ((bH S d) - (pV S st 4)))))) + (bH S n)), .int ((bD S d) + ((pV S st 4) + (fHf ((7 * (pV S st 13)) - (((pV S st 1) - (bD S n)) - ((bH S d) - (pV S st 4))))))), .ref q_149]) (rest := [.ref q_142]) hx hb hml hown hl (kX0_init_0 l htr G H.size M_178 q_142 (hAn _ hs_144) f_179 (fMx (bW S n) (bW S d)) (((pV S st 1) + (fHf ((7 * (pV S st 13)) - (((pV S st 1) - (bD S n)) - ((bH S d) - (pV S st 4)))))) + (bH S n)) ((bD S d) + ((pV S st 4) + (fHf ((7 * (pV S st 13)) - (((pV S st 1) - (bD S n)) - ((bH S d) - (pV S st 4))))))) q_149) (g_B (n := 4) htb wd220 wd10 wd218 (by decide +kernel) ⟨Nat.le_of_ble_eq_true rfl, Nat.le_of_ble_eq_true rfl⟩) (htb _ wd219) (htb _ wd220) rfl hE hP hS rfl rfl (Nat.le_of_ble_eq_true rfl) dX3_fractionBare_198 ⟨Nat.le_of_ble_eq_true rfl, Nat.le_of_ble_eq_true rfl⟩ (fun v9 M9 H locs hpo hP hz hS => ?_) (fun x9 E9 cell9 H9 locs9 hE9 => hE9.elim)
      obtain ⟨rfl, hM9⟩ := hpo
      obtain ⟨M_182, hM_182⟩ : ∃ z9 : mw_M, z9 = mw_up M_178 q_142 (.inr (0, [.int (fMx (bW S n) (bW S d)), .int (((pV S st 1) + (fHf ((7 * (pV S st 13)) - (((pV S st 1) - (bD S n)) - ((bH S d) - (pV S st 4)))))) + (bH S n)), .int ((bD S d) + ((pV S st 4) + (fHf ((7 * (pV S st 13)) - (((pV S st 1) - (bD S n)) - ((bH S d) - (pV S st 4))))))), .ref q_149, .int 0, .int 0])) := ⟨_, rfl⟩
      have hP : mw_P (gD G) gx_cl M_182 H := by rw [hM_182, hM9]; exact hP
      have f_183 : M_182 q_142 = some (.inr (0, [.int (fMx (bW S n) (bW S d)), .int (((pV S st 1) + (fHf ((7 * (pV S st 13)) - (((pV S st 1) - (bD S n)) - ((bH S d) - (pV S st 4)))))) + (bH S n)), .int ((bD S d) + ((pV S st 4) + (fHf ((7 * (pV S st 13)) - (((pV S st 1) - (bD S n)) - ((bH S d) - (pV S st 4))))))), .ref q_149, .int 0, .int 0])) := by rw [hM_182]; exact mw_self _ _ _
      have f_184 : M_182 q_149 = some (.inl (gI G, 6, .inl (upd (upd (upd (upd (upd (upd (fun _ => 0) 0 (nI n)) 1 (fHf ((fMx (bW S n) (bW S d)) - (bW S n)))) 2 ((pV S st 1) + (fHf ((7 * (pV S st 13)) - (((pV S st 1) - (bD S n)) - ((bH S d) - (pV S st 4))))))) 3 (nI d)) 4 (fHf ((fMx (bW S n) (bW S d)) - (bW S d)))) 5 (-((pV S st 4) + (fHf ((7 * (pV S st 13)) - (((pV S st 1) - (bD S n)) - ((bH S d) - (pV S st 4)))))))))) := by rw [hM_182, mw_ne _ _ (Ne.symm ne_155)]; exact f_180
      have x_185 : mw_ext M M_182 := by rw [hM_182]; exact mw_ext.up x_181 n_146 _
      refine W.eq (g2 := F0 m 201 ls [.ref q_142]) rfl ?_
      have hbx9 : fs_bx G f M_182 q_142 (fs_fb S st n d) := by
        simp only [fs_fb, fs_fb1, fs_fb2, fs_fb3, if_pos c_1 , if_neg c_97]
        refine fs_mk f_183 f_184 rfl (fun j hj => ?_) (fun z => hX _ z n_146) (fun z => hX _ z n_153)
        rcases (show j = 0 ∨ j = 1 ∨ j = 2 ∨ j = 3 ∨ j = 4 ∨ j = 5 by omega) with rfl | rfl | rfl | rfl | rfl | rfl <;> rfl
      exact mx_aret (q := q_142) (M' := M_182) hx hb hr (Or.inl ⟨_, rfl⟩) hlocks hP hS ⟨q_142, rfl, x_185, hbx9⟩ dX3_fractionBare_201 (Nat.le_of_ble_eq_true rfl) (Nat.le_of_ble_eq_true rfl)
-- X3_fractionWithLine
set_option maxHeartbeats 4000000 in
set_option maxRecDepth 100000 in
theorem kX3_fractionWithLine (l : Launch) (htr : l.stackTraces = false) (G : gx_G) (sz : Nat) (M : mw_M) (f : fs_A) (S : fs_S) (hR : fs_R G f M S) (hX : ∀ a, fX f a → M a ≠ none) (hA : ∀ q : Nat, sz ≤ q → gA G q) (st n d : Nat) (h_st : st < 4) (h_n : n < sN S) (h_d : d < sN S) (t : Int32) : g_Met l G yX3_fractionWithLine (.code yX3_fractionWithLine cX3_fractionWithLine 13 (some (.object "FormulaShapes$Box"))) ({ frames := 4, cells := 3, slots := 24, locals := 180 } : Room) sz M [.ref (f0 f), .int (nI st), .int (nI n), .int (nI d), .int t] (fun v M9 => ∃ q, v = some (.ref q) ∧ mw_ext M M9 ∧ fs_bx G f M9 q (fs_fl S st n d t)) (fun _ => False) := by
  refine MetE.ofW (cc := cX3_fractionWithLine) (maxL := 13) (ret := (some (.object "FormulaShapes$Box"))) (by decide) rfl ?_
  intro p e s m args below meth c s₁ B hml hv
  obtain ⟨rfl, hsz, hP, hE⟩ := hv
  have hx := B.exec
  have hb := B.bytes
  have hr := B.returns
  have hts := atoms_spec (ws := _ :: lw_big) B.pre
  have htb : ∀ w ∈ lw_big, w.before _ s = true := fun w h => hts w (List.mem_cons_of_mem _ h)
  have hno := B.noHandlers (hts _ List.mem_cons_self)
  have hown : s.vm.findClass RX3 = some m.cls := findClass_of_methodNamed B.named
  have hlocks := B.notSynchronized
  have hK := hE.1
  subst hsz
  have hAn : ∀ q : Nat, s.heap.size ≤ q → gA G q := hA
  have hS : va_S (gA G) s.heap s.heap [] := va_S.rf
  have hl := lv_entry ([.ref (f0 f), .int (nI st), .int (nI n), .int (nI d), .int t]) (n := 13) (Nat.le_of_ble_eq_true rfl)
  rw [lg_entry_eq]
  generalize (lg_sl ([.ref (f0 f), .int (nI st), .int (nI n), .int (nI d), .int t]) ++ List.replicate (13 - (lg_sl ([.ref (f0 f), .int (nI st), .int (nI n), .int (nI d), .int t])).length) Slot.unset).toArray = ls at hl ⊢
  have hl : lv_has ls 13 [(0, .ref (f0 f)), (1, .int (nI st)), (2, .int (nI n)), (3, .int (nI d)), (4, .int t)] := hl
  refine lv_iload_n hx hb dX3_fractionWithLine_0 rfl (lv_at hl 1 rfl) ?_
  refine lv_if_ne (tgt := 8) hx hb dX3_fractionWithLine_1 (by decide) (fun c_1 => ?_) (fun c_1 => ?_)
  · refine lv_iconst (v := 0) hx hb dX3_fractionWithLine_8 (by decide) ?_
    refine lv_istore (lv' := [(5, .int 0), (0, .ref (f0 f)), (1, .int (nI st)), (2, .int (nI n)), (3, .int (nI d)), (4, .int t)]) hx hb dX3_fractionWithLine_9 hl (by decide) rfl (fun ls hl => ?_)
    refine lv_aload_n hx hb dX3_fractionWithLine_11 rfl (lv_at hl 1 rfl) ?_
    refine lv_iload_n hx hb dX3_fractionWithLine_12 rfl (lv_at hl 2 rfl) ?_
    refine lv_iload hx hb dX3_fractionWithLine_13 (lv_at hl 0 rfl) ?_
    refine lv_if_eq (tgt := 22) hx hb dX3_fractionWithLine_15 (by decide) (fun c_2 => ?_) (fun c_2 => absurd (by decide) c_2)
    refine lv_iconst (v := 2) hx hb dX3_fractionWithLine_22 (by decide) ?_
    refine mw_callV (C := RX3) (As := [.int (nI st), .int 2]) (rest := []) hx hb hml hown hl (kX3_valueOf l htr G s.heap.size M f S hR st 2 h_st (by decide)) (g_B (n := 2) htb wd390 wd1 wd387 (by decide +kernel) ⟨Nat.le_of_ble_eq_true rfl, Nat.le_of_ble_eq_true rfl⟩) (htb _ wd389) (htb _ ws11) hE hP hS (fs_R.this hR) rfl rfl rfl (Nat.le_of_ble_eq_true rfl) dX3_fractionWithLine_23 ⟨Nat.le_of_ble_eq_true rfl, Nat.le_of_ble_eq_true rfl⟩ (fun v9 M9 H locs hpo hP hz hS => ?_) (fun x9 E9 cell9 H9 locs9 hE9 => hE9.elim)
    obtain ⟨rfl, rfl⟩ := hpo
    refine W.eq (g2 := F0 m 26 ls [.int (pV S st 2)]) rfl ?_
    refine lv_istore (lv' := [(6, .int (pV S st 2)), (5, .int 0), (0, .ref (f0 f)), (1, .int (nI st)), (2, .int (nI n)), (3, .int (nI d)), (4, .int t)]) hx hb dX3_fractionWithLine_26 hl (by decide) rfl (fun ls hl => ?_)
    refine lv_aload_n hx hb dX3_fractionWithLine_28 rfl (lv_at hl 2 rfl) ?_
    refine lv_iload_n hx hb dX3_fractionWithLine_29 rfl (lv_at hl 3 rfl) ?_
    refine lv_iload hx hb dX3_fractionWithLine_30 (lv_at hl 1 rfl) ?_
    refine lv_if_eq (tgt := 39) hx hb dX3_fractionWithLine_32 (by decide) (fun c_3 => ?_) (fun c_3 => absurd (by decide) c_3)
    refine lv_iconst (v := 5) hx hb dX3_fractionWithLine_39 (by decide) ?_
    refine mw_callV (C := RX3) (As := [.int (nI st), .int 5]) (rest := []) hx hb hml hown hl (kX3_valueOf l htr G H.size M f S hR st 5 h_st (by decide)) (g_B (n := 2) htb wd390 wd1 wd387 (by decide +kernel) ⟨Nat.le_of_ble_eq_true rfl, Nat.le_of_ble_eq_true rfl⟩) (htb _ wd389) (htb _ ws11) hE hP hS (fs_R.this hR) rfl rfl rfl (Nat.le_of_ble_eq_true rfl) dX3_fractionWithLine_40 ⟨Nat.le_of_ble_eq_true rfl, Nat.le_of_ble_eq_true rfl⟩ (fun v9 M9 H locs hpo hP hz hS => ?_) (fun x9 E9 cell9 H9 locs9 hE9 => hE9.elim)
    obtain ⟨rfl, rfl⟩ := hpo
    refine W.eq (g2 := F0 m 43 ls [.int (pV S st 5)]) rfl ?_
    refine lv_istore (lv' := [(7, .int (pV S st 5)), (6, .int (pV S st 2)), (5, .int 0), (0, .ref (f0 f)), (1, .int (nI st)), (2, .int (nI n)), (3, .int (nI d)), (4, .int t)]) hx hb dX3_fractionWithLine_43 hl (by decide) rfl (fun ls hl => ?_)
    refine lv_aload_n hx hb dX3_fractionWithLine_45 rfl (lv_at hl 3 rfl) ?_
    refine lv_iload_n hx hb dX3_fractionWithLine_46 rfl (lv_at hl 4 rfl) ?_
    refine lv_iconst (v := 0) hx hb dX3_fractionWithLine_47 (by decide) ?_
    refine mw_callV (C := RX3) (As := [.int (nI st), .int 0]) (rest := []) hx hb hml hown hl (kX3_valueOf l htr G H.size M f S hR st 0 h_st (by decide)) (g_B (n := 2) htb wd390 wd1 wd387 (by decide +kernel) ⟨Nat.le_of_ble_eq_true rfl, Nat.le_of_ble_eq_true rfl⟩) (htb _ wd389) (htb _ ws11) hE hP hS (fs_R.this hR) rfl rfl rfl (Nat.le_of_ble_eq_true rfl) dX3_fractionWithLine_48 ⟨Nat.le_of_ble_eq_true rfl, Nat.le_of_ble_eq_true rfl⟩ (fun v9 M9 H locs hpo hP hz hS => ?_) (fun x9 E9 cell9 H9 locs9 hE9 => hE9.elim)
    obtain ⟨rfl, rfl⟩ := hpo
    refine W.eq (g2 := F0 m 51 ls [.int (pV S st 0)]) rfl ?_
    refine lv_istore (lv' := [(8, .int (pV S st 0)), (7, .int (pV S st 5)), (6, .int (pV S st 2)), (5, .int 0), (0, .ref (f0 f)), (1, .int (nI st)), (2, .int (nI n)), (3, .int (nI d)), (4, .int t)]) hx hb dX3_fractionWithLine_51 hl (by decide) rfl (fun ls hl => ?_)
    refine lv_iload hx hb dX3_fractionWithLine_53 (lv_at hl 8 rfl) ?_
    refine mw_callS (As := [.int t]) (rest := []) hx hb hml hown hl (kX3_half l htr G H.size M t) (g_B (n := 1) htb wd393 wd1 wd391 (by decide +kernel) ⟨Nat.le_of_ble_eq_true rfl, Nat.le_of_ble_eq_true rfl⟩) (htb _ wd392) hE hP hS rfl rfl (Nat.le_of_ble_eq_true rfl) dX3_fractionWithLine_55 ⟨Nat.le_of_ble_eq_true rfl, Nat.le_of_ble_eq_true rfl⟩ (fun v9 M9 H locs hpo hP hz hS => ?_) (fun x9 E9 cell9 H9 locs9 hE9 => hE9.elim)
    obtain ⟨rfl, rfl⟩ := hpo
    refine W.eq (g2 := F0 m 58 ls [.int (fHf t)]) rfl ?_
    refine lv_istore (lv' := [(9, .int (fHf t)), (8, .int (pV S st 0)), (7, .int (pV S st 5)), (6, .int (pV S st 2)), (5, .int 0), (0, .ref (f0 f)), (1, .int (nI st)), (2, .int (nI n)), (3, .int (nI d)), (4, .int t)]) hx hb dX3_fractionWithLine_58 hl (by decide) rfl (fun ls hl => ?_)
    refine lv_iload hx hb dX3_fractionWithLine_60 (lv_at hl 4 rfl) ?_
    refine lv_if_eq (tgt := 72) hx hb dX3_fractionWithLine_62 (by decide) (fun c_4 => ?_) (fun c_4 => absurd (by decide) c_4)
    refine lv_iload hx hb dX3_fractionWithLine_72 (lv_at hl 9 rfl) ?_
    refine lv_istore (lv' := [(10, .int t), (9, .int (fHf t)), (8, .int (pV S st 0)), (7, .int (pV S st 5)), (6, .int (pV S st 2)), (5, .int 0), (0, .ref (f0 f)), (1, .int (nI st)), (2, .int (nI n)), (3, .int (nI d)), (4, .int t)]) hx hb dX3_fractionWithLine_74 hl (by decide) rfl (fun ls hl => ?_)
    refine lv_iload hx hb dX3_fractionWithLine_76 (lv_at hl 4 rfl) ?_
    refine lv_iconst (v := 0) hx hb dX3_fractionWithLine_78 (by decide) ?_
    refine lv_iload hx hb dX3_fractionWithLine_79 (lv_at hl 0 rfl) ?_
    refine lv_iload hx hb dX3_fractionWithLine_81 (lv_at hl 4 rfl) ?_
    refine lv_aload_n hx hb dX3_fractionWithLine_83 rfl (lv_at hl 6 rfl) ?_
    refine lv_iload_n hx hb dX3_fractionWithLine_84 rfl (lv_at hl 8 rfl) ?_
    refine mw_callV (C := RX3) (As := [.int (nI n)]) (rest := [.int (pV S st 2), .int t, .int 0, .int (pV S st 2)]) hx hb hml hown hl (kX3_depthOf l htr G H.size M f S hR n h_n) (g_B (n := 1) htb wd397 wd1 wd394 (by decide +kernel) ⟨Nat.le_of_ble_eq_true rfl, Nat.le_of_ble_eq_true rfl⟩) (htb _ wd396) (htb _ ws12) hE hP hS (fs_R.this hR) rfl rfl rfl (Nat.le_of_ble_eq_true rfl) dX3_fractionWithLine_85 ⟨Nat.le_of_ble_eq_true rfl, Nat.le_of_ble_eq_true rfl⟩ (fun v9 M9 H locs hpo hP hz hS => ?_) (fun x9 E9 cell9 H9 locs9 hE9 => hE9.elim)
    obtain ⟨rfl, rfl⟩ := hpo
    refine W.eq (g2 := F0 m 88 ls [.int (bD S n), .int (pV S st 2), .int t, .int 0, .int (pV S st 2)]) rfl ?_
    refine lv_isub hx hb dX3_fractionWithLine_88 ?_
    refine lv_iload hx hb dX3_fractionWithLine_89 (lv_at hl 2 rfl) ?_
    refine lv_iload hx hb dX3_fractionWithLine_91 (lv_at hl 1 rfl) ?_
    refine lv_iadd hx hb dX3_fractionWithLine_93 ?_
    refine lv_isub hx hb dX3_fractionWithLine_94 ?_
    refine lv_isub hx hb dX3_fractionWithLine_95 ?_
    refine va_mmax hx hb (hml.trans hl.1.symm) hown (htb _ wd398) (htb _ wd364) (htb _ wd13) (htb _ wd365) (Nat.le_of_ble_eq_true rfl) (Nat.le_of_ble_eq_true rfl) (Nat.le_of_ble_eq_true rfl) (Nat.le_of_ble_eq_true rfl) dX3_fractionWithLine_96 ?_
    refine W.eq (g2 := F0 m 99 ls [.int (fMx 0 (t - (((pV S st 2) - (bD S n)) - ((pV S st 0) + (fHf t))))), .int (pV S st 2)]) rfl ?_
    refine lv_iadd hx hb dX3_fractionWithLine_99 ?_
    refine lv_istore (lv' := [(6, .int ((pV S st 2) + (fMx 0 (t - (((pV S st 2) - (bD S n)) - ((pV S st 0) + (fHf t))))))), (10, .int t), (9, .int (fHf t)), (8, .int (pV S st 0)), (7, .int (pV S st 5)), (5, .int 0), (0, .ref (f0 f)), (1, .int (nI st)), (2, .int (nI n)), (3, .int (nI d)), (4, .int t)]) hx hb dX3_fractionWithLine_100 hl (by decide) rfl (fun ls hl => ?_)
    refine lv_iload hx hb dX3_fractionWithLine_102 (lv_at hl 4 rfl) ?_
    refine lv_iconst (v := 0) hx hb dX3_fractionWithLine_104 (by decide) ?_
    refine lv_iload hx hb dX3_fractionWithLine_105 (lv_at hl 1 rfl) ?_
    refine lv_iload hx hb dX3_fractionWithLine_107 (lv_at hl 3 rfl) ?_
    refine lv_iload hx hb dX3_fractionWithLine_109 (lv_at hl 2 rfl) ?_
    refine lv_isub hx hb dX3_fractionWithLine_111 ?_
    refine lv_aload_n hx hb dX3_fractionWithLine_112 rfl (lv_at hl 6 rfl) ?_
    refine lv_iload_n hx hb dX3_fractionWithLine_113 rfl (lv_at hl 9 rfl) ?_
    refine mw_callV (C := RX3) (As := [.int (nI d)]) (rest := [.int ((pV S st 0) - (fHf t)), .int t, .int 0, .int (pV S st 5)]) hx hb hml hown hl (kX3_heightOf l htr G H.size M f S hR d h_d) (g_B (n := 1) htb wd402 wd1 wd399 (by decide +kernel) ⟨Nat.le_of_ble_eq_true rfl, Nat.le_of_ble_eq_true rfl⟩) (htb _ wd401) (htb _ ws13) hE hP hS (fs_R.this hR) rfl rfl rfl (Nat.le_of_ble_eq_true rfl) dX3_fractionWithLine_114 ⟨Nat.le_of_ble_eq_true rfl, Nat.le_of_ble_eq_true rfl⟩ (fun v9 M9 H locs hpo hP hz hS => ?_) (fun x9 E9 cell9 H9 locs9 hE9 => hE9.elim)
    obtain ⟨rfl, rfl⟩ := hpo
    refine W.eq (g2 := F0 m 117 ls [.int (bH S d), .int ((pV S st 0) - (fHf t)), .int t, .int 0, .int (pV S st 5)]) rfl ?_
    refine lv_iload hx hb dX3_fractionWithLine_117 (lv_at hl 4 rfl) ?_
    refine lv_isub hx hb dX3_fractionWithLine_119 ?_
    refine lv_isub hx hb dX3_fractionWithLine_120 ?_
    refine lv_isub hx hb dX3_fractionWithLine_121 ?_
    refine va_mmax hx hb (hml.trans hl.1.symm) hown (htb _ wd398) (htb _ wd364) (htb _ wd13) (htb _ wd365) (Nat.le_of_ble_eq_true rfl) (Nat.le_of_ble_eq_true rfl) (Nat.le_of_ble_eq_true rfl) (Nat.le_of_ble_eq_true rfl) dX3_fractionWithLine_122 ?_
    refine W.eq (g2 := F0 m 125 ls [.int (fMx 0 (t - (((pV S st 0) - (fHf t)) - ((bH S d) - (pV S st 5))))), .int (pV S st 5)]) rfl ?_
    refine lv_iadd hx hb dX3_fractionWithLine_125 ?_
    refine lv_istore (lv' := [(7, .int ((pV S st 5) + (fMx 0 (t - (((pV S st 0) - (fHf t)) - ((bH S d) - (pV S st 5))))))), (6, .int ((pV S st 2) + (fMx 0 (t - (((pV S st 2) - (bD S n)) - ((pV S st 0) + (fHf t))))))), (10, .int t), (9, .int (fHf t)), (8, .int (pV S st 0)), (5, .int 0), (0, .ref (f0 f)), (1, .int (nI st)), (2, .int (nI n)), (3, .int (nI d)), (4, .int t)]) hx hb dX3_fractionWithLine_126 hl (by decide) rfl (fun ls hl => ?_)
    refine lv_aload_n hx hb dX3_fractionWithLine_128 rfl (lv_at hl 6 rfl) ?_
    refine lv_iload_n hx hb dX3_fractionWithLine_129 rfl (lv_at hl 8 rfl) ?_
    refine mw_callV (C := RX3) (As := [.int (nI n)]) (rest := []) hx hb hml hown hl (kX3_widthOf l htr G H.size M f S hR n h_n) (g_B (n := 1) htb wd406 wd1 wd403 (by decide +kernel) ⟨Nat.le_of_ble_eq_true rfl, Nat.le_of_ble_eq_true rfl⟩) (htb _ wd405) (htb _ ws14) hE hP hS (fs_R.this hR) rfl rfl rfl (Nat.le_of_ble_eq_true rfl) dX3_fractionWithLine_130 ⟨Nat.le_of_ble_eq_true rfl, Nat.le_of_ble_eq_true rfl⟩ (fun v9 M9 H locs hpo hP hz hS => ?_) (fun x9 E9 cell9 H9 locs9 hE9 => hE9.elim)
    obtain ⟨rfl, rfl⟩ := hpo
    refine W.eq (g2 := F0 m 133 ls [.int (bW S n)]) rfl ?_
    refine lv_aload_n hx hb dX3_fractionWithLine_133 rfl (lv_at hl 6 rfl) ?_
    refine lv_iload_n hx hb dX3_fractionWithLine_134 rfl (lv_at hl 9 rfl) ?_
    refine mw_callV (C := RX3) (As := [.int (nI d)]) (rest := [.int (bW S n)]) hx hb hml hown hl (kX3_widthOf l htr G H.size M f S hR d h_d) (g_B (n := 1) htb wd406 wd1 wd403 (by decide +kernel) ⟨Nat.le_of_ble_eq_true rfl, Nat.le_of_ble_eq_true rfl⟩) (htb _ wd405) (htb _ ws14) hE hP hS (fs_R.this hR) rfl rfl rfl (Nat.le_of_ble_eq_true rfl) dX3_fractionWithLine_135 ⟨Nat.le_of_ble_eq_true rfl, Nat.le_of_ble_eq_true rfl⟩ (fun v9 M9 H locs hpo hP hz hS => ?_) (fun x9 E9 cell9 H9 locs9 hE9 => hE9.elim)
    obtain ⟨rfl, rfl⟩ := hpo
    refine W.eq (g2 := F0 m 138 ls [.int (bW S d), .int (bW S n)]) rfl ?_
    refine va_mmax hx hb (hml.trans hl.1.symm) hown (htb _ wd398) (htb _ wd364) (htb _ wd13) (htb _ wd365) (Nat.le_of_ble_eq_true rfl) (Nat.le_of_ble_eq_true rfl) (Nat.le_of_ble_eq_true rfl) (Nat.le_of_ble_eq_true rfl) dX3_fractionWithLine_138 ?_
    refine W.eq (g2 := F0 m 141 ls [.int (fMx (bW S n) (bW S d))]) rfl ?_
    refine lv_istore (lv' := [(11, .int (fMx (bW S n) (bW S d))), (7, .int ((pV S st 5) + (fMx 0 (t - (((pV S st 0) - (fHf t)) - ((bH S d) - (pV S st 5))))))), (6, .int ((pV S st 2) + (fMx 0 (t - (((pV S st 2) - (bD S n)) - ((pV S st 0) + (fHf t))))))), (10, .int t), (9, .int (fHf t)), (8, .int (pV S st 0)), (5, .int 0), (0, .ref (f0 f)), (1, .int (nI st)), (2, .int (nI n)), (3, .int (nI d)), (4, .int t)]) hx hb dX3_fractionWithLine_141 hl (by decide) rfl (fun ls hl => ?_)
    refine lv_bipush (v := 9) hx hb dX3_fractionWithLine_143 (by decide) ?_
    refine mw_newi (N := 9) hx hb (htb _ wd55) hK hP hS 0 rfl (by decide) (by decide) (by decide) (Nat.le_of_ble_eq_true rfl) (Nat.le_of_ble_eq_true rfl) dX3_fractionWithLine_145 (fun q_5 H hq_6 hs_7 hP hS => ?_)
    obtain ⟨M_8, hM_8⟩ : ∃ z9 : mw_M, z9 = mw_up M q_5 (.inl (gI G, 9, .inl (fun _ => 0))) := ⟨_, rfl⟩
    have hP : mw_P (gD G) gx_cl M_8 H := by rw [hM_8]; exact hP
    have n_9 : M q_5 = none := mw_ext.no (mw_ext.rf M) hq_6
    have f_10 : M_8 q_5 = some (.inl (gI G, 9, .inl (fun _ => 0))) := by rw [hM_8]; exact mw_self _ _ _
    have x_11 : mw_ext M M_8 := by rw [hM_8]; exact mw_ext.up (mw_ext.rf M) n_9 _
    refine lv_dup hx hb dX3_fractionWithLine_147 rfl ?_
    refine lv_iconst (v := 0) hx hb dX3_fractionWithLine_148 (by decide) ?_
    refine lv_iload_n hx hb dX3_fractionWithLine_149 rfl (lv_at hl 9 rfl) ?_
    refine mw_iast hx hb hK hP hS 0 f_10 (hAn _ hs_7) rfl (by unfold vp_in; decide) dX3_fractionWithLine_150 (fun H locs hP hS => ?_)
    obtain ⟨M_12, hM_12⟩ : ∃ z9 : mw_M, z9 = mw_up M_8 q_5 (.inl (gI G, 9, .inl (upd (fun _ => 0) 0 (nI n)))) := ⟨_, rfl⟩
    have hP : mw_P (gD G) gx_cl M_12 H := by rw [hM_12]; exact hP
    have f_13 : M_12 q_5 = some (.inl (gI G, 9, .inl (upd (fun _ => 0) 0 (nI n)))) := by rw [hM_12]; exact mw_self _ _ _
    have x_14 : mw_ext M M_12 := by rw [hM_12]; exact mw_ext.up x_11 n_9 _
    refine lv_dup hx hb dX3_fractionWithLine_151 rfl ?_
    refine lv_iconst (v := 1) hx hb dX3_fractionWithLine_152 (by decide) ?_
    refine lv_iload hx hb dX3_fractionWithLine_153 (lv_at hl 0 rfl) ?_
    refine lv_aload_n hx hb dX3_fractionWithLine_155 rfl (lv_at hl 7 rfl) ?_
    refine lv_iload_n hx hb dX3_fractionWithLine_156 rfl (lv_at hl 9 rfl) ?_
    refine mw_callV (C := RX3) (As := [.int (nI n)]) (rest := [.int (fMx (bW S n) (bW S d)), .int 1, .ref q_5, .ref q_5]) hx hb hml hown hl (kX3_widthOf l htr G H.size M_12 f S (fs_R.ext hR x_14) n h_n) (g_B (n := 1) htb wd406 wd1 wd403 (by decide +kernel) ⟨Nat.le_of_ble_eq_true rfl, Nat.le_of_ble_eq_true rfl⟩) (htb _ wd405) (htb _ ws14) hE hP hS (fs_R.this (fs_R.ext hR x_14)) rfl rfl rfl (Nat.le_of_ble_eq_true rfl) dX3_fractionWithLine_157 ⟨Nat.le_of_ble_eq_true rfl, Nat.le_of_ble_eq_true rfl⟩ (fun v9 M9 H locs hpo hP hz hS => ?_) (fun x9 E9 cell9 H9 locs9 hE9 => hE9.elim)
    obtain ⟨rfl, rfl⟩ := hpo
    refine W.eq (g2 := F0 m 160 ls [.int (bW S n), .int (fMx (bW S n) (bW S d)), .int 1, .ref q_5, .ref q_5]) rfl ?_
    refine lv_isub hx hb dX3_fractionWithLine_160 ?_
    refine mw_callS (As := [.int ((fMx (bW S n) (bW S d)) - (bW S n))]) (rest := [.int 1, .ref q_5, .ref q_5]) hx hb hml hown hl (kX3_half l htr G H.size M_12 ((fMx (bW S n) (bW S d)) - (bW S n))) (g_B (n := 1) htb wd393 wd1 wd391 (by decide +kernel) ⟨Nat.le_of_ble_eq_true rfl, Nat.le_of_ble_eq_true rfl⟩) (htb _ wd392) hE hP hS rfl rfl (Nat.le_of_ble_eq_true rfl) dX3_fractionWithLine_161 ⟨Nat.le_of_ble_eq_true rfl, Nat.le_of_ble_eq_true rfl⟩ (fun v9 M9 H locs hpo hP hz hS => ?_) (fun x9 E9 cell9 H9 locs9 hE9 => hE9.elim)
    obtain ⟨rfl, rfl⟩ := hpo
    refine W.eq (g2 := F0 m 164 ls [.int (fHf ((fMx (bW S n) (bW S d)) - (bW S n))), .int 1, .ref q_5, .ref q_5]) rfl ?_
    refine mw_iast hx hb hK hP hS 0 f_13 (hAn _ hs_7) rfl (by unfold vp_in; decide) dX3_fractionWithLine_164 (fun H locs hP hS => ?_)
    obtain ⟨M_15, hM_15⟩ : ∃ z9 : mw_M, z9 = mw_up M_12 q_5 (.inl (gI G, 9, .inl (upd (upd (fun _ => 0) 0 (nI n)) 1 (fHf ((fMx (bW S n) (bW S d)) - (bW S n)))))) := ⟨_, rfl⟩
    have hP : mw_P (gD G) gx_cl M_15 H := by rw [hM_15]; exact hP
    have f_16 : M_15 q_5 = some (.inl (gI G, 9, .inl (upd (upd (fun _ => 0) 0 (nI n)) 1 (fHf ((fMx (bW S n) (bW S d)) - (bW S n)))))) := by rw [hM_15]; exact mw_self _ _ _
    have x_17 : mw_ext M M_15 := by rw [hM_15]; exact mw_ext.up x_14 n_9 _
    refine lv_dup hx hb dX3_fractionWithLine_165 rfl ?_
    refine lv_iconst (v := 2) hx hb dX3_fractionWithLine_166 (by decide) ?_
    refine lv_iload hx hb dX3_fractionWithLine_167 (lv_at hl 2 rfl) ?_
    refine mw_iast hx hb hK hP hS 0 f_16 (hAn _ hs_7) rfl (by unfold vp_in; decide) dX3_fractionWithLine_169 (fun H locs hP hS => ?_)
    obtain ⟨M_18, hM_18⟩ : ∃ z9 : mw_M, z9 = mw_up M_15 q_5 (.inl (gI G, 9, .inl (upd (upd (upd (fun _ => 0) 0 (nI n)) 1 (fHf ((fMx (bW S n) (bW S d)) - (bW S n)))) 2 ((pV S st 2) + (fMx 0 (t - (((pV S st 2) - (bD S n)) - ((pV S st 0) + (fHf t))))))))) := ⟨_, rfl⟩
    have hP : mw_P (gD G) gx_cl M_18 H := by rw [hM_18]; exact hP
    have f_19 : M_18 q_5 = some (.inl (gI G, 9, .inl (upd (upd (upd (fun _ => 0) 0 (nI n)) 1 (fHf ((fMx (bW S n) (bW S d)) - (bW S n)))) 2 ((pV S st 2) + (fMx 0 (t - (((pV S st 2) - (bD S n)) - ((pV S st 0) + (fHf t))))))))) := by rw [hM_18]; exact mw_self _ _ _
    have x_20 : mw_ext M M_18 := by rw [hM_18]; exact mw_ext.up x_17 n_9 _
    refine lv_dup hx hb dX3_fractionWithLine_170 rfl ?_
    refine lv_iconst (v := 3) hx hb dX3_fractionWithLine_171 (by decide) ?_
    refine lv_iload_n hx hb dX3_fractionWithLine_172 rfl (lv_at hl 10 rfl) ?_
    refine mw_iast hx hb hK hP hS 0 f_19 (hAn _ hs_7) rfl (by unfold vp_in; decide) dX3_fractionWithLine_173 (fun H locs hP hS => ?_)
    obtain ⟨M_21, hM_21⟩ : ∃ z9 : mw_M, z9 = mw_up M_18 q_5 (.inl (gI G, 9, .inl (upd (upd (upd (upd (fun _ => 0) 0 (nI n)) 1 (fHf ((fMx (bW S n) (bW S d)) - (bW S n)))) 2 ((pV S st 2) + (fMx 0 (t - (((pV S st 2) - (bD S n)) - ((pV S st 0) + (fHf t))))))) 3 (nI d)))) := ⟨_, rfl⟩
    have hP : mw_P (gD G) gx_cl M_21 H := by rw [hM_21]; exact hP
    have f_22 : M_21 q_5 = some (.inl (gI G, 9, .inl (upd (upd (upd (upd (fun _ => 0) 0 (nI n)) 1 (fHf ((fMx (bW S n) (bW S d)) - (bW S n)))) 2 ((pV S st 2) + (fMx 0 (t - (((pV S st 2) - (bD S n)) - ((pV S st 0) + (fHf t))))))) 3 (nI d)))) := by rw [hM_21]; exact mw_self _ _ _
    have x_23 : mw_ext M M_21 := by rw [hM_21]; exact mw_ext.up x_20 n_9 _
    refine lv_dup hx hb dX3_fractionWithLine_174 rfl ?_
    refine lv_iconst (v := 4) hx hb dX3_fractionWithLine_175 (by decide) ?_
    refine lv_iload hx hb dX3_fractionWithLine_176 (lv_at hl 0 rfl) ?_
    refine lv_aload_n hx hb dX3_fractionWithLine_178 rfl (lv_at hl 7 rfl) ?_
    refine lv_iload_n hx hb dX3_fractionWithLine_179 rfl (lv_at hl 10 rfl) ?_
    refine mw_callV (C := RX3) (As := [.int (nI d)]) (rest := [.int (fMx (bW S n) (bW S d)), .int 4, .ref q_5, .ref q_5]) hx hb hml hown hl (kX3_widthOf l htr G H.size M_21 f S (fs_R.ext hR x_23) d h_d) (g_B (n := 1) htb wd406 wd1 wd403 (by decide +kernel) ⟨Nat.le_of_ble_eq_true rfl, Nat.le_of_ble_eq_true rfl⟩) (htb _ wd405) (htb _ ws14) hE hP hS (fs_R.this (fs_R.ext hR x_23)) rfl rfl rfl (Nat.le_of_ble_eq_true rfl) dX3_fractionWithLine_180 ⟨Nat.le_of_ble_eq_true rfl, Nat.le_of_ble_eq_true rfl⟩ (fun v9 M9 H locs hpo hP hz hS => ?_) (fun x9 E9 cell9 H9 locs9 hE9 => hE9.elim)
    obtain ⟨rfl, rfl⟩ := hpo
    refine W.eq (g2 := F0 m 183 ls [.int (bW S d), .int (fMx (bW S n) (bW S d)), .int 4, .ref q_5, .ref q_5]) rfl ?_
    refine lv_isub hx hb dX3_fractionWithLine_183 ?_
    refine mw_callS (As := [.int ((fMx (bW S n) (bW S d)) - (bW S d))]) (rest := [.int 4, .ref q_5, .ref q_5]) hx hb hml hown hl (kX3_half l htr G H.size M_21 ((fMx (bW S n) (bW S d)) - (bW S d))) (g_B (n := 1) htb wd393 wd1 wd391 (by decide +kernel) ⟨Nat.le_of_ble_eq_true rfl, Nat.le_of_ble_eq_true rfl⟩) (htb _ wd392) hE hP hS rfl rfl (Nat.le_of_ble_eq_true rfl) dX3_fractionWithLine_184 ⟨Nat.le_of_ble_eq_true rfl, Nat.le_of_ble_eq_true rfl⟩ (fun v9 M9 H locs hpo hP hz hS => ?_) (fun x9 E9 cell9 H9 locs9 hE9 => hE9.elim)
    obtain ⟨rfl, rfl⟩ := hpo
    refine W.eq (g2 := F0 m 187 ls [.int (fHf ((fMx (bW S n) (bW S d)) - (bW S d))), .int 4, .ref q_5, .ref q_5]) rfl ?_
    refine mw_iast hx hb hK hP hS 0 f_22 (hAn _ hs_7) rfl (by unfold vp_in; decide) dX3_fractionWithLine_187 (fun H locs hP hS => ?_)
    obtain ⟨M_24, hM_24⟩ : ∃ z9 : mw_M, z9 = mw_up M_21 q_5 (.inl (gI G, 9, .inl (upd (upd (upd (upd (upd (fun _ => 0) 0 (nI n)) 1 (fHf ((fMx (bW S n) (bW S d)) - (bW S n)))) 2 ((pV S st 2) + (fMx 0 (t - (((pV S st 2) - (bD S n)) - ((pV S st 0) + (fHf t))))))) 3 (nI d)) 4 (fHf ((fMx (bW S n) (bW S d)) - (bW S d)))))) := ⟨_, rfl⟩
    have hP : mw_P (gD G) gx_cl M_24 H := by rw [hM_24]; exact hP
    have f_25 : M_24 q_5 = some (.inl (gI G, 9, .inl (upd (upd (upd (upd (upd (fun _ => 0) 0 (nI n)) 1 (fHf ((fMx (bW S n) (bW S d)) - (bW S n)))) 2 ((pV S st 2) + (fMx 0 (t - (((pV S st 2) - (bD S n)) - ((pV S st 0) + (fHf t))))))) 3 (nI d)) 4 (fHf ((fMx (bW S n) (bW S d)) - (bW S d)))))) := by rw [hM_24]; exact mw_self _ _ _
    have x_26 : mw_ext M M_24 := by rw [hM_24]; exact mw_ext.up x_23 n_9 _
    refine lv_dup hx hb dX3_fractionWithLine_188 rfl ?_
    refine lv_iconst (v := 5) hx hb dX3_fractionWithLine_189 (by decide) ?_
    refine lv_iload hx hb dX3_fractionWithLine_190 (lv_at hl 1 rfl) ?_
    refine lv_ineg hx hb dX3_fractionWithLine_192 ?_
    refine mw_iast hx hb hK hP hS 0 f_25 (hAn _ hs_7) rfl (by unfold vp_in; decide) dX3_fractionWithLine_193 (fun H locs hP hS => ?_)
    obtain ⟨M_27, hM_27⟩ : ∃ z9 : mw_M, z9 = mw_up M_24 q_5 (.inl (gI G, 9, .inl (upd (upd (upd (upd (upd (upd (fun _ => 0) 0 (nI n)) 1 (fHf ((fMx (bW S n) (bW S d)) - (bW S n)))) 2 ((pV S st 2) + (fMx 0 (t - (((pV S st 2) - (bD S n)) - ((pV S st 0) + (fHf t))))))) 3 (nI d)) 4 (fHf ((fMx (bW S n) (bW S d)) - (bW S d)))) 5 (-((pV S st 5) + (fMx 0 (t - (((pV S st 0) - (fHf t)) - ((bH S d) - (pV S st 5)))))))))) := ⟨_, rfl⟩
    have hP : mw_P (gD G) gx_cl M_27 H := by rw [hM_27]; exact hP
    have f_28 : M_27 q_5 = some (.inl (gI G, 9, .inl (upd (upd (upd (upd (upd (upd (fun _ => 0) 0 (nI n)) 1 (fHf ((fMx (bW S n) (bW S d)) - (bW S n)))) 2 ((pV S st 2) + (fMx 0 (t - (((pV S st 2) - (bD S n)) - ((pV S st 0) + (fHf t))))))) 3 (nI d)) 4 (fHf ((fMx (bW S n) (bW S d)) - (bW S d)))) 5 (-((pV S st 5) + (fMx 0 (t - (((pV S st 0) - (fHf t)) - ((bH S d) - (pV S st 5)))))))))) := by rw [hM_27]; exact mw_self _ _ _
    have x_29 : mw_ext M M_27 := by rw [hM_27]; exact mw_ext.up x_26 n_9 _
    refine lv_dup hx hb dX3_fractionWithLine_194 rfl ?_
    refine lv_bipush (v := 6) hx hb dX3_fractionWithLine_195 (by decide) ?_
    refine lv_iconst (v := (-1)) hx hb dX3_fractionWithLine_197 (by decide) ?_
    refine mw_iast hx hb hK hP hS 0 f_28 (hAn _ hs_7) rfl (by unfold vp_in; decide) dX3_fractionWithLine_198 (fun H locs hP hS => ?_)
    obtain ⟨M_30, hM_30⟩ : ∃ z9 : mw_M, z9 = mw_up M_27 q_5 (.inl (gI G, 9, .inl (upd (upd (upd (upd (upd (upd (upd (fun _ => 0) 0 (nI n)) 1 (fHf ((fMx (bW S n) (bW S d)) - (bW S n)))) 2 ((pV S st 2) + (fMx 0 (t - (((pV S st 2) - (bD S n)) - ((pV S st 0) + (fHf t))))))) 3 (nI d)) 4 (fHf ((fMx (bW S n) (bW S d)) - (bW S d)))) 5 (-((pV S st 5) + (fMx 0 (t - (((pV S st 0) - (fHf t)) - ((bH S d) - (pV S st 5)))))))) 6 (-1)))) := ⟨_, rfl⟩
    have hP : mw_P (gD G) gx_cl M_30 H := by rw [hM_30]; exact hP
    have f_31 : M_30 q_5 = some (.inl (gI G, 9, .inl (upd (upd (upd (upd (upd (upd (upd (fun _ => 0) 0 (nI n)) 1 (fHf ((fMx (bW S n) (bW S d)) - (bW S n)))) 2 ((pV S st 2) + (fMx 0 (t - (((pV S st 2) - (bD S n)) - ((pV S st 0) + (fHf t))))))) 3 (nI d)) 4 (fHf ((fMx (bW S n) (bW S d)) - (bW S d)))) 5 (-((pV S st 5) + (fMx 0 (t - (((pV S st 0) - (fHf t)) - ((bH S d) - (pV S st 5)))))))) 6 (-1)))) := by rw [hM_30]; exact mw_self _ _ _
    have x_32 : mw_ext M M_30 := by rw [hM_30]; exact mw_ext.up x_29 n_9 _
    refine lv_dup hx hb dX3_fractionWithLine_199 rfl ?_
    refine lv_bipush (v := 7) hx hb dX3_fractionWithLine_200 (by decide) ?_
    refine lv_iconst (v := 0) hx hb dX3_fractionWithLine_202 (by decide) ?_
    refine mw_iast hx hb hK hP hS 0 f_31 (hAn _ hs_7) rfl (by unfold vp_in; decide) dX3_fractionWithLine_203 (fun H locs hP hS => ?_)
    obtain ⟨M_33, hM_33⟩ : ∃ z9 : mw_M, z9 = mw_up M_30 q_5 (.inl (gI G, 9, .inl (upd (upd (upd (upd (upd (upd (upd (upd (fun _ => 0) 0 (nI n)) 1 (fHf ((fMx (bW S n) (bW S d)) - (bW S n)))) 2 ((pV S st 2) + (fMx 0 (t - (((pV S st 2) - (bD S n)) - ((pV S st 0) + (fHf t))))))) 3 (nI d)) 4 (fHf ((fMx (bW S n) (bW S d)) - (bW S d)))) 5 (-((pV S st 5) + (fMx 0 (t - (((pV S st 0) - (fHf t)) - ((bH S d) - (pV S st 5)))))))) 6 (-1)) 7 0))) := ⟨_, rfl⟩
    have hP : mw_P (gD G) gx_cl M_33 H := by rw [hM_33]; exact hP
    have f_34 : M_33 q_5 = some (.inl (gI G, 9, .inl (upd (upd (upd (upd (upd (upd (upd (upd (fun _ => 0) 0 (nI n)) 1 (fHf ((fMx (bW S n) (bW S d)) - (bW S n)))) 2 ((pV S st 2) + (fMx 0 (t - (((pV S st 2) - (bD S n)) - ((pV S st 0) + (fHf t))))))) 3 (nI d)) 4 (fHf ((fMx (bW S n) (bW S d)) - (bW S d)))) 5 (-((pV S st 5) + (fMx 0 (t - (((pV S st 0) - (fHf t)) - ((bH S d) - (pV S st 5)))))))) 6 (-1)) 7 0))) := by rw [hM_33]; exact mw_self _ _ _
    have x_35 : mw_ext M M_33 := by rw [hM_33]; exact mw_ext.up x_32 n_9 _
    refine lv_dup hx hb dX3_fractionWithLine_204 rfl ?_
    refine lv_bipush (v := 8) hx hb dX3_fractionWithLine_205 (by decide) ?_
    refine lv_iload hx hb dX3_fractionWithLine_207 (lv_at hl 5 rfl) ?_
    refine lv_iload hx hb dX3_fractionWithLine_209 (lv_at hl 4 rfl) ?_
    refine lv_iadd hx hb dX3_fractionWithLine_211 ?_
    refine lv_iload hx hb dX3_fractionWithLine_212 (lv_at hl 11 rfl) ?_
    refine lv_isub hx hb dX3_fractionWithLine_214 ?_
    refine mw_iast hx hb hK hP hS 0 f_34 (hAn _ hs_7) rfl (by unfold vp_in; decide) dX3_fractionWithLine_215 (fun H locs hP hS => ?_)
    obtain ⟨M_36, hM_36⟩ : ∃ z9 : mw_M, z9 = mw_up M_33 q_5 (.inl (gI G, 9, .inl (upd (upd (upd (upd (upd (upd (upd (upd (upd (fun _ => 0) 0 (nI n)) 1 (fHf ((fMx (bW S n) (bW S d)) - (bW S n)))) 2 ((pV S st 2) + (fMx 0 (t - (((pV S st 2) - (bD S n)) - ((pV S st 0) + (fHf t))))))) 3 (nI d)) 4 (fHf ((fMx (bW S n) (bW S d)) - (bW S d)))) 5 (-((pV S st 5) + (fMx 0 (t - (((pV S st 0) - (fHf t)) - ((bH S d) - (pV S st 5)))))))) 6 (-1)) 7 0) 8 (((pV S st 0) + (fHf t)) - t)))) := ⟨_, rfl⟩
    have hP : mw_P (gD G) gx_cl M_36 H := by rw [hM_36]; exact hP
    have f_37 : M_36 q_5 = some (.inl (gI G, 9, .inl (upd (upd (upd (upd (upd (upd (upd (upd (upd (fun _ => 0) 0 (nI n)) 1 (fHf ((fMx (bW S n) (bW S d)) - (bW S n)))) 2 ((pV S st 2) + (fMx 0 (t - (((pV S st 2) - (bD S n)) - ((pV S st 0) + (fHf t))))))) 3 (nI d)) 4 (fHf ((fMx (bW S n) (bW S d)) - (bW S d)))) 5 (-((pV S st 5) + (fMx 0 (t - (((pV S st 0) - (fHf t)) - ((bH S d) - (pV S st 5)))))))) 6 (-1)) 7 0) 8 (((pV S st 0) + (fHf t)) - t)))) := by rw [hM_36]; exact mw_self _ _ _
    have x_38 : mw_ext M M_36 := by rw [hM_36]; exact mw_ext.up x_35 n_9 _
    refine lv_astore (lv' := [(12, .ref q_5), (11, .int (fMx (bW S n) (bW S d))), (7, .int ((pV S st 5) + (fMx 0 (t - (((pV S st 0) - (fHf t)) - ((bH S d) - (pV S st 5))))))), (6, .int ((pV S st 2) + (fMx 0 (t - (((pV S st 2) - (bD S n)) - ((pV S st 0) + (fHf t))))))), (10, .int t), (9, .int (fHf t)), (8, .int (pV S st 0)), (5, .int 0), (0, .ref (f0 f)), (1, .int (nI st)), (2, .int (nI n)), (3, .int (nI d)), (4, .int t)]) hx hb dX3_fractionWithLine_216 hl (by decide) rfl (fun ls hl => ?_)
    refine mw_new (ci := 0) (fs := [.int 0, .int 0, .int 0, .null, .int 0, .int 0]) (C := RX0) (T := TX0) (N := 6) hx hb htb inX0 tyX0 tyX0_ok hown (htb _ wd22) (htb _ wd215) (htb _ wd10) hK hP hS rfl (fun j hj => by rcases (show j = 0 ∨ j = 1 ∨ j = 2 ∨ j = 3 ∨ j = 4 ∨ j = 5 by omega) with rfl | rfl | rfl | rfl | rfl | rfl <;> rfl) (Nat.le_of_ble_eq_true rfl) (Nat.le_of_ble_eq_true rfl) dX3_fractionWithLine_218 (fun q_39 H hq_40 hs_41 hP hS => ?_)
    obtain ⟨M_42, hM_42⟩ : ∃ z9 : mw_M, z9 = mw_up M_36 q_39 (.inr (0, [.int 0, .int 0, .int 0, .null, .int 0, .int 0])) := ⟨_, rfl⟩
    have hP : mw_P (gD G) gx_cl M_42 H := by rw [hM_42]; exact hP
    have n_43 : M q_39 = none := mw_ext.no x_38 hq_40
    have f_44 : M_42 q_5 = some (.inl (gI G, 9, .inl (upd (upd (upd (upd (upd (upd (upd (upd (upd (fun _ => 0) 0 (nI n)) 1 (fHf ((fMx (bW S n) (bW S d)) - (bW S n)))) 2 ((pV S st 2) + (fMx 0 (t - (((pV S st 2) - (bD S n)) - ((pV S st 0) + (fHf t))))))) 3 (nI d)) 4 (fHf ((fMx (bW S n) (bW S d)) - (bW S d)))) 5 (-((pV S st 5) + (fMx 0 (t - (((pV S st 0) - (fHf t)) - ((bH S d) - (pV S st 5)))))))) 6 (-1)) 7 0) 8 (((pV S st 0) + (fHf t)) - t)))) := by rw [hM_42, mw_ne _ _ (fun z => by have z1 := f_37; rw [z, hq_40] at z1; cases z1)]; exact f_37
    have ne_45 : q_5 ≠ q_39 := fun z => by have z1 := f_37; rw [z, hq_40] at z1; cases z1
    have f_46 : M_42 q_39 = some (.inr (0, [.int 0, .int 0, .int 0, .null, .int 0, .int 0])) := by rw [hM_42]; exact mw_self _ _ _
    have x_47 : mw_ext M M_42 := by rw [hM_42]; exact mw_ext.up x_38 n_43 _
    refine lv_dup hx hb dX3_fractionWithLine_221 rfl ?_
    refine lv_iload hx hb dX3_fractionWithLine_222 (lv_at hl 1 rfl) ?_
    refine lv_iload hx hb dX3_fractionWithLine_224 (lv_at hl 3 rfl) ?_
    refine lv_aload_n hx hb dX3_fractionWithLine_226 rfl (lv_at hl 8 rfl) ?_
    refine lv_iload_n hx hb dX3_fractionWithLine_227 rfl (lv_at hl 10 rfl) ?_
    refine mw_callV (C := RX3) (As := [.int (nI n)]) (rest := [.int ((pV S st 2) + (fMx 0 (t - (((pV S st 2) - (bD S n)) - ((pV S st 0) + (fHf t)))))), .int (fMx (bW S n) (bW S d)), .ref q_39, .ref q_39]) hx hb hml hown hl (kX3_heightOf l htr G H.size M_42 f S (fs_R.ext hR x_47) n h_n) (g_B (n := 1) htb wd402 wd1 wd399 (by decide +kernel) ⟨Nat.le_of_ble_eq_true rfl, Nat.le_of_ble_eq_true rfl⟩) (htb _ wd401) (htb _ ws13) hE hP hS (fs_R.this (fs_R.ext hR x_47)) rfl rfl rfl (Nat.le_of_ble_eq_true rfl) dX3_fractionWithLine_228 ⟨Nat.le_of_ble_eq_true rfl, Nat.le_of_ble_eq_true rfl⟩ (fun v9 M9 H locs hpo hP hz hS => ?_) (fun x9 E9 cell9 H9 locs9 hE9 => hE9.elim)
    obtain ⟨rfl, rfl⟩ := hpo
    refine W.eq (g2 := F0 m 231 ls [.int (bH S n), .int ((pV S st 2) + (fMx 0 (t - (((pV S st 2) - (bD S n)) - ((pV S st 0) + (fHf t)))))), .int (fMx (bW S n) (bW S d)), .ref q_39, .ref q_39]) rfl ?_
    refine lv_iadd hx hb dX3_fractionWithLine_231 ?_
    refine lv_aload_n hx hb dX3_fractionWithLine_232 rfl (lv_at hl 8 rfl) ?_
    refine lv_iload_n hx hb dX3_fractionWithLine_233 rfl (lv_at hl 11 rfl) ?_
    refine mw_callV (C := RX3) (As := [.int (nI d)]) (rest := [.int (((pV S st 2) + (fMx 0 (t - (((pV S st 2) - (bD S n)) - ((pV S st 0) + (fHf t)))))) + (bH S n)), .int (fMx (bW S n) (bW S d)), .ref q_39, .ref q_39]) hx hb hml hown hl (kX3_depthOf l htr G H.size M_42 f S (fs_R.ext hR x_47) d h_d) (g_B (n := 1) htb wd397 wd1 wd394 (by decide +kernel) ⟨Nat.le_of_ble_eq_true rfl, Nat.le_of_ble_eq_true rfl⟩) (htb _ wd396) (htb _ ws12) hE hP hS (fs_R.this (fs_R.ext hR x_47)) rfl rfl rfl (Nat.le_of_ble_eq_true rfl) dX3_fractionWithLine_234 ⟨Nat.le_of_ble_eq_true rfl, Nat.le_of_ble_eq_true rfl⟩ (fun v9 M9 H locs hpo hP hz hS => ?_) (fun x9 E9 cell9 H9 locs9 hE9 => hE9.elim)
    obtain ⟨rfl, rfl⟩ := hpo
    refine W.eq (g2 := F0 m 237 ls [.int (bD S d), .int (((pV S st 2) + (fMx 0 (t - (((pV S st 2) - (bD S n)) - ((pV S st 0) + (fHf t)))))) + (bH S n)), .int (fMx (bW S n) (bW S d)), .ref q_39, .ref q_39]) rfl ?_
    refine lv_iload hx hb dX3_fractionWithLine_237 (lv_at hl 2 rfl) ?_
    refine lv_iadd hx hb dX3_fractionWithLine_239 ?_
    refine lv_aload hx hb dX3_fractionWithLine_240 (lv_at hl 0 rfl) ?_
    refine lv_iload hx hb dX3_fractionWithLine_242 (lv_at hl 1 rfl) ?_
    refine lv_iload hx hb dX3_fractionWithLine_244 (lv_at hl 12 rfl) ?_
    refine mw_callI (As := [.int (fMx (bW S n) (bW S d)), .int (((pV S st 2) + (fMx 0 (t - (((pV S st 2) - (bD S n)) - ((pV S st 0) + (fHf t)))))) + (bH S n)), .int ((bD S d) + ((pV S st 5) + (fMx 0 (t - (((pV S st 0) - (fHf t)) - ((bH S d) - (pV S st 5))))))), .ref q_5, .int (fMx (bW S n) (bW S d)), .int t]) (rest := [.ref q_39]) hx hb hml hown hl (kX0_init_1 l htr G H.size M_42 q_39 (hAn _ hs_41) f_46 (fMx (bW S n) (bW S d)) (((pV S st 2) + (fMx 0 (t - (((pV S st 2) - (bD S n)) - ((pV S st 0) + (fHf t)))))) + (bH S n)) ((bD S d) + ((pV S st 5) + (fMx 0 (t - (((pV S st 0) - (fHf t)) - ((bH S d) - (pV S st 5))))))) q_5 (fMx (bW S n) (bW S d)) t) (g_B (n := 6) htb wd223 wd10 wd407 (by decide +kernel) ⟨Nat.le_of_ble_eq_true rfl, Nat.le_of_ble_eq_true rfl⟩) (htb _ wd222) (htb _ wd223) rfl hE hP hS rfl rfl (Nat.le_of_ble_eq_true rfl) dX3_fractionWithLine_246 ⟨Nat.le_of_ble_eq_true rfl, Nat.le_of_ble_eq_true rfl⟩ (fun v9 M9 H locs hpo hP hz hS => ?_) (fun x9 E9 cell9 H9 locs9 hE9 => hE9.elim)
    obtain ⟨rfl, hM9⟩ := hpo
    obtain ⟨M_48, hM_48⟩ : ∃ z9 : mw_M, z9 = mw_up M_42 q_39 (.inr (0, [.int (fMx (bW S n) (bW S d)), .int (((pV S st 2) + (fMx 0 (t - (((pV S st 2) - (bD S n)) - ((pV S st 0) + (fHf t)))))) + (bH S n)), .int ((bD S d) + ((pV S st 5) + (fMx 0 (t - (((pV S st 0) - (fHf t)) - ((bH S d) - (pV S st 5))))))), .ref q_5, .int (fMx (bW S n) (bW S d)), .int t])) := ⟨_, rfl⟩
    have hP : mw_P (gD G) gx_cl M_48 H := by rw [hM_48, hM9]; exact hP
    have f_49 : M_48 q_5 = some (.inl (gI G, 9, .inl (upd (upd (upd (upd (upd (upd (upd (upd (upd (fun _ => 0) 0 (nI n)) 1 (fHf ((fMx (bW S n) (bW S d)) - (bW S n)))) 2 ((pV S st 2) + (fMx 0 (t - (((pV S st 2) - (bD S n)) - ((pV S st 0) + (fHf t))))))) 3 (nI d)) 4 (fHf ((fMx (bW S n) (bW S d)) - (bW S d)))) 5 (-((pV S st 5) + (fMx 0 (t - (((pV S st 0) - (fHf t)) - ((bH S d) - (pV S st 5)))))))) 6 (-1)) 7 0) 8 (((pV S st 0) + (fHf t)) - t)))) := by rw [hM_48, mw_ne _ _ ne_45]; exact f_44
    have f_50 : M_48 q_39 = some (.inr (0, [.int (fMx (bW S n) (bW S d)), .int (((pV S st 2) + (fMx 0 (t - (((pV S st 2) - (bD S n)) - ((pV S st 0) + (fHf t)))))) + (bH S n)), .int ((bD S d) + ((pV S st 5) + (fMx 0 (t - (((pV S st 0) - (fHf t)) - ((bH S d) - (pV S st 5))))))), .ref q_5, .int (fMx (bW S n) (bW S d)), .int t])) := by rw [hM_48]; exact mw_self _ _ _
    have x_51 : mw_ext M M_48 := by rw [hM_48]; exact mw_ext.up x_47 n_43 _
    refine W.eq (g2 := F0 m 249 ls [.ref q_39]) rfl ?_
    have hbx9 : fs_bx G f M_48 q_39 (fs_fl S st n d t) := by
      simp only [fs_fl, fs_fl1, fs_fl3, if_neg c_1]
      refine fs_mk f_50 f_49 rfl (fun j hj => ?_) (fun z => hX _ z n_43) (fun z => hX _ z n_9)
      rcases (show j = 0 ∨ j = 1 ∨ j = 2 ∨ j = 3 ∨ j = 4 ∨ j = 5 ∨ j = 6 ∨ j = 7 ∨ j = 8 by omega) with rfl | rfl | rfl | rfl | rfl | rfl | rfl | rfl | rfl <;> rfl
    exact mx_aret (q := q_39) (M' := M_48) hx hb hr (Or.inl ⟨_, rfl⟩) hlocks hP hS ⟨q_39, rfl, x_51, hbx9⟩ dX3_fractionWithLine_249 (Nat.le_of_ble_eq_true rfl) (Nat.le_of_ble_eq_true rfl)
  · refine lv_iconst (v := 1) hx hb dX3_fractionWithLine_4 (by decide) ?_
    refine lv_goto (tgt := 9) hx hb dX3_fractionWithLine_5 (by decide) ?_
    refine lv_istore (lv' := [(5, .int 1), (0, .ref (f0 f)), (1, .int (nI st)), (2, .int (nI n)), (3, .int (nI d)), (4, .int t)]) hx hb dX3_fractionWithLine_9 hl (by decide) rfl (fun ls hl => ?_)
    refine lv_aload_n hx hb dX3_fractionWithLine_11 rfl (lv_at hl 1 rfl) ?_
    refine lv_iload_n hx hb dX3_fractionWithLine_12 rfl (lv_at hl 2 rfl) ?_
    refine lv_iload hx hb dX3_fractionWithLine_13 (lv_at hl 0 rfl) ?_
    refine lv_if_eq (tgt := 22) hx hb dX3_fractionWithLine_15 (by decide) (fun c_52 => absurd c_52 (by decide)) (fun c_52 => ?_)
    refine lv_iconst (v := 1) hx hb dX3_fractionWithLine_18 (by decide) ?_
    refine lv_goto (tgt := 23) hx hb dX3_fractionWithLine_19 (by decide) ?_
    refine mw_callV (C := RX3) (As := [.int (nI st), .int 1]) (rest := []) hx hb hml hown hl (kX3_valueOf l htr G s.heap.size M f S hR st 1 h_st (by decide)) (g_B (n := 2) htb wd390 wd1 wd387 (by decide +kernel) ⟨Nat.le_of_ble_eq_true rfl, Nat.le_of_ble_eq_true rfl⟩) (htb _ wd389) (htb _ ws11) hE hP hS (fs_R.this hR) rfl rfl rfl (Nat.le_of_ble_eq_true rfl) dX3_fractionWithLine_23 ⟨Nat.le_of_ble_eq_true rfl, Nat.le_of_ble_eq_true rfl⟩ (fun v9 M9 H locs hpo hP hz hS => ?_) (fun x9 E9 cell9 H9 locs9 hE9 => hE9.elim)
    obtain ⟨rfl, rfl⟩ := hpo
    refine W.eq (g2 := F0 m 26 ls [.int (pV S st 1)]) rfl ?_
    refine lv_istore (lv' := [(6, .int (pV S st 1)), (5, .int 1), (0, .ref (f0 f)), (1, .int (nI st)), (2, .int (nI n)), (3, .int (nI d)), (4, .int t)]) hx hb dX3_fractionWithLine_26 hl (by decide) rfl (fun ls hl => ?_)
    refine lv_aload_n hx hb dX3_fractionWithLine_28 rfl (lv_at hl 2 rfl) ?_
    refine lv_iload_n hx hb dX3_fractionWithLine_29 rfl (lv_at hl 3 rfl) ?_
    refine lv_iload hx hb dX3_fractionWithLine_30 (lv_at hl 1 rfl) ?_
    refine lv_if_eq (tgt := 39) hx hb dX3_fractionWithLine_32 (by decide) (fun c_53 => absurd c_53 (by decide)) (fun c_53 => ?_)
    refine lv_iconst (v := 4) hx hb dX3_fractionWithLine_35 (by decide) ?_
    refine lv_goto (tgt := 40) hx hb dX3_fractionWithLine_36 (by decide) ?_
    refine mw_callV (C := RX3) (As := [.int (nI st), .int 4]) (rest := []) hx hb hml hown hl (kX3_valueOf l htr G H.size M f S hR st 4 h_st (by decide)) (g_B (n := 2) htb wd390 wd1 wd387 (by decide +kernel) ⟨Nat.le_of_ble_eq_true rfl, Nat.le_of_ble_eq_true rfl⟩) (htb _ wd389) (htb _ ws11) hE hP hS (fs_R.this hR) rfl rfl rfl (Nat.le_of_ble_eq_true rfl) dX3_fractionWithLine_40 ⟨Nat.le_of_ble_eq_true rfl, Nat.le_of_ble_eq_true rfl⟩ (fun v9 M9 H locs hpo hP hz hS => ?_) (fun x9 E9 cell9 H9 locs9 hE9 => hE9.elim)
    obtain ⟨rfl, rfl⟩ := hpo
    refine W.eq (g2 := F0 m 43 ls [.int (pV S st 4)]) rfl ?_
    refine lv_istore (lv' := [(7, .int (pV S st 4)), (6, .int (pV S st 1)), (5, .int 1), (0, .ref (f0 f)), (1, .int (nI st)), (2, .int (nI n)), (3, .int (nI d)), (4, .int t)]) hx hb dX3_fractionWithLine_43 hl (by decide) rfl (fun ls hl => ?_)
    refine lv_aload_n hx hb dX3_fractionWithLine_45 rfl (lv_at hl 3 rfl) ?_
    refine lv_iload_n hx hb dX3_fractionWithLine_46 rfl (lv_at hl 4 rfl) ?_
    refine lv_iconst (v := 0) hx hb dX3_fractionWithLine_47 (by decide) ?_
    refine mw_callV (C := RX3) (As := [.int (nI st), .int 0]) (rest := []) hx hb hml hown hl (kX3_valueOf l htr G H.size M f S hR st 0 h_st (by decide)) (g_B (n := 2) htb wd390 wd1 wd387 (by decide +kernel) ⟨Nat.le_of_ble_eq_true rfl, Nat.le_of_ble_eq_true rfl⟩) (htb _ wd389) (htb _ ws11) hE hP hS (fs_R.this hR) rfl rfl rfl (Nat.le_of_ble_eq_true rfl) dX3_fractionWithLine_48 ⟨Nat.le_of_ble_eq_true rfl, Nat.le_of_ble_eq_true rfl⟩ (fun v9 M9 H locs hpo hP hz hS => ?_) (fun x9 E9 cell9 H9 locs9 hE9 => hE9.elim)
    obtain ⟨rfl, rfl⟩ := hpo
    refine W.eq (g2 := F0 m 51 ls [.int (pV S st 0)]) rfl ?_
    refine lv_istore (lv' := [(8, .int (pV S st 0)), (7, .int (pV S st 4)), (6, .int (pV S st 1)), (5, .int 1), (0, .ref (f0 f)), (1, .int (nI st)), (2, .int (nI n)), (3, .int (nI d)), (4, .int t)]) hx hb dX3_fractionWithLine_51 hl (by decide) rfl (fun ls hl => ?_)
    refine lv_iload hx hb dX3_fractionWithLine_53 (lv_at hl 8 rfl) ?_
    refine mw_callS (As := [.int t]) (rest := []) hx hb hml hown hl (kX3_half l htr G H.size M t) (g_B (n := 1) htb wd393 wd1 wd391 (by decide +kernel) ⟨Nat.le_of_ble_eq_true rfl, Nat.le_of_ble_eq_true rfl⟩) (htb _ wd392) hE hP hS rfl rfl (Nat.le_of_ble_eq_true rfl) dX3_fractionWithLine_55 ⟨Nat.le_of_ble_eq_true rfl, Nat.le_of_ble_eq_true rfl⟩ (fun v9 M9 H locs hpo hP hz hS => ?_) (fun x9 E9 cell9 H9 locs9 hE9 => hE9.elim)
    obtain ⟨rfl, rfl⟩ := hpo
    refine W.eq (g2 := F0 m 58 ls [.int (fHf t)]) rfl ?_
    refine lv_istore (lv' := [(9, .int (fHf t)), (8, .int (pV S st 0)), (7, .int (pV S st 4)), (6, .int (pV S st 1)), (5, .int 1), (0, .ref (f0 f)), (1, .int (nI st)), (2, .int (nI n)), (3, .int (nI d)), (4, .int t)]) hx hb dX3_fractionWithLine_58 hl (by decide) rfl (fun ls hl => ?_)
    refine lv_iload hx hb dX3_fractionWithLine_60 (lv_at hl 4 rfl) ?_
    refine lv_if_eq (tgt := 72) hx hb dX3_fractionWithLine_62 (by decide) (fun c_54 => absurd c_54 (by decide)) (fun c_54 => ?_)
    refine lv_iconst (v := 3) hx hb dX3_fractionWithLine_65 (by decide) ?_
    refine lv_iload hx hb dX3_fractionWithLine_66 (lv_at hl 9 rfl) ?_
    refine lv_imul hx hb dX3_fractionWithLine_68 ?_
    refine lv_goto (tgt := 74) hx hb dX3_fractionWithLine_69 (by decide) ?_
    refine lv_istore (lv' := [(10, .int (3 * t)), (9, .int (fHf t)), (8, .int (pV S st 0)), (7, .int (pV S st 4)), (6, .int (pV S st 1)), (5, .int 1), (0, .ref (f0 f)), (1, .int (nI st)), (2, .int (nI n)), (3, .int (nI d)), (4, .int t)]) hx hb dX3_fractionWithLine_74 hl (by decide) rfl (fun ls hl => ?_)
    refine lv_iload hx hb dX3_fractionWithLine_76 (lv_at hl 4 rfl) ?_
    refine lv_iconst (v := 0) hx hb dX3_fractionWithLine_78 (by decide) ?_
    refine lv_iload hx hb dX3_fractionWithLine_79 (lv_at hl 0 rfl) ?_
    refine lv_iload hx hb dX3_fractionWithLine_81 (lv_at hl 4 rfl) ?_
    refine lv_aload_n hx hb dX3_fractionWithLine_83 rfl (lv_at hl 6 rfl) ?_
    refine lv_iload_n hx hb dX3_fractionWithLine_84 rfl (lv_at hl 8 rfl) ?_
    refine mw_callV (C := RX3) (As := [.int (nI n)]) (rest := [.int (pV S st 1), .int (3 * t), .int 0, .int (pV S st 1)]) hx hb hml hown hl (kX3_depthOf l htr G H.size M f S hR n h_n) (g_B (n := 1) htb wd397 wd1 wd394 (by decide +kernel) ⟨Nat.le_of_ble_eq_true rfl, Nat.le_of_ble_eq_true rfl⟩) (htb _ wd396) (htb _ ws12) hE hP hS (fs_R.this hR) rfl rfl rfl (Nat.le_of_ble_eq_true rfl) dX3_fractionWithLine_85 ⟨Nat.le_of_ble_eq_true rfl, Nat.le_of_ble_eq_true rfl⟩ (fun v9 M9 H locs hpo hP hz hS => ?_) (fun x9 E9 cell9 H9 locs9 hE9 => hE9.elim)
    obtain ⟨rfl, rfl⟩ := hpo
    refine W.eq (g2 := F0 m 88 ls [.int (bD S n), .int (pV S st 1), .int (3 * t), .int 0, .int (pV S st 1)]) rfl ?_
    refine lv_isub hx hb dX3_fractionWithLine_88 ?_
    refine lv_iload hx hb dX3_fractionWithLine_89 (lv_at hl 2 rfl) ?_
    refine lv_iload hx hb dX3_fractionWithLine_91 (lv_at hl 1 rfl) ?_
    refine lv_iadd hx hb dX3_fractionWithLine_93 ?_
    refine lv_isub hx hb dX3_fractionWithLine_94 ?_
    refine lv_isub hx hb dX3_fractionWithLine_95 ?_
    refine va_mmax hx hb (hml.trans hl.1.symm) hown (htb _ wd398) (htb _ wd364) (htb _ wd13) (htb _ wd365) (Nat.le_of_ble_eq_true rfl) (Nat.le_of_ble_eq_true rfl) (Nat.le_of_ble_eq_true rfl) (Nat.le_of_ble_eq_true rfl) dX3_fractionWithLine_96 ?_
    refine W.eq (g2 := F0 m 99 ls [.int (fMx 0 ((3 * t) - (((pV S st 1) - (bD S n)) - ((pV S st 0) + (fHf t))))), .int (pV S st 1)]) rfl ?_
    refine lv_iadd hx hb dX3_fractionWithLine_99 ?_
    refine lv_istore (lv' := [(6, .int ((pV S st 1) + (fMx 0 ((3 * t) - (((pV S st 1) - (bD S n)) - ((pV S st 0) + (fHf t))))))), (10, .int (3 * t)), (9, .int (fHf t)), (8, .int (pV S st 0)), (7, .int (pV S st 4)), (5, .int 1), (0, .ref (f0 f)), (1, .int (nI st)), (2, .int (nI n)), (3, .int (nI d)), (4, .int t)]) hx hb dX3_fractionWithLine_100 hl (by decide) rfl (fun ls hl => ?_)
    refine lv_iload hx hb dX3_fractionWithLine_102 (lv_at hl 4 rfl) ?_
    refine lv_iconst (v := 0) hx hb dX3_fractionWithLine_104 (by decide) ?_
    refine lv_iload hx hb dX3_fractionWithLine_105 (lv_at hl 1 rfl) ?_
    refine lv_iload hx hb dX3_fractionWithLine_107 (lv_at hl 3 rfl) ?_
    refine lv_iload hx hb dX3_fractionWithLine_109 (lv_at hl 2 rfl) ?_
    refine lv_isub hx hb dX3_fractionWithLine_111 ?_
    refine lv_aload_n hx hb dX3_fractionWithLine_112 rfl (lv_at hl 6 rfl) ?_
    refine lv_iload_n hx hb dX3_fractionWithLine_113 rfl (lv_at hl 9 rfl) ?_
    refine mw_callV (C := RX3) (As := [.int (nI d)]) (rest := [.int ((pV S st 0) - (fHf t)), .int (3 * t), .int 0, .int (pV S st 4)]) hx hb hml hown hl (kX3_heightOf l htr G H.size M f S hR d h_d) (g_B (n := 1) htb wd402 wd1 wd399 (by decide +kernel) ⟨Nat.le_of_ble_eq_true rfl, Nat.le_of_ble_eq_true rfl⟩) (htb _ wd401) (htb _ ws13) hE hP hS (fs_R.this hR) rfl rfl rfl (Nat.le_of_ble_eq_true rfl) dX3_fractionWithLine_114 ⟨Nat.le_of_ble_eq_true rfl, Nat.le_of_ble_eq_true rfl⟩ (fun v9 M9 H locs hpo hP hz hS => ?_) (fun x9 E9 cell9 H9 locs9 hE9 => hE9.elim)
    obtain ⟨rfl, rfl⟩ := hpo
    refine W.eq (g2 := F0 m 117 ls [.int (bH S d), .int ((pV S st 0) - (fHf t)), .int (3 * t), .int 0, .int (pV S st 4)]) rfl ?_
    refine lv_iload hx hb dX3_fractionWithLine_117 (lv_at hl 4 rfl) ?_
    refine lv_isub hx hb dX3_fractionWithLine_119 ?_
    refine lv_isub hx hb dX3_fractionWithLine_120 ?_
    refine lv_isub hx hb dX3_fractionWithLine_121 ?_
    refine va_mmax hx hb (hml.trans hl.1.symm) hown (htb _ wd398) (htb _ wd364) (htb _ wd13) (htb _ wd365) (Nat.le_of_ble_eq_true rfl) (Nat.le_of_ble_eq_true rfl) (Nat.le_of_ble_eq_true rfl) (Nat.le_of_ble_eq_true rfl) dX3_fractionWithLine_122 ?_
    refine W.eq (g2 := F0 m 125 ls [.int (fMx 0 ((3 * t) - (((pV S st 0) - (fHf t)) - ((bH S d) - (pV S st 4))))), .int (pV S st 4)]) rfl ?_
    refine lv_iadd hx hb dX3_fractionWithLine_125 ?_
    refine lv_istore (lv' := [(7, .int ((pV S st 4) + (fMx 0 ((3 * t) - (((pV S st 0) - (fHf t)) - ((bH S d) - (pV S st 4))))))), (6, .int ((pV S st 1) + (fMx 0 ((3 * t) - (((pV S st 1) - (bD S n)) - ((pV S st 0) + (fHf t))))))), (10, .int (3 * t)), (9, .int (fHf t)), (8, .int (pV S st 0)), (5, .int 1), (0, .ref (f0 f)), (1, .int (nI st)), (2, .int (nI n)), (3, .int (nI d)), (4, .int t)]) hx hb dX3_fractionWithLine_126 hl (by decide) rfl (fun ls hl => ?_)
    refine lv_aload_n hx hb dX3_fractionWithLine_128 rfl (lv_at hl 6 rfl) ?_
    refine lv_iload_n hx hb dX3_fractionWithLine_129 rfl (lv_at hl 8 rfl) ?_
    refine mw_callV (C := RX3) (As := [.int (nI n)]) (rest := []) hx hb hml hown hl (kX3_widthOf l htr G H.size M f S hR n h_n) (g_B (n := 1) htb wd406 wd1 wd403 (by decide +kernel) ⟨Nat.le_of_ble_eq_true rfl, Nat.le_of_ble_eq_true rfl⟩) (htb _ wd405) (htb _ ws14) hE hP hS (fs_R.this hR) rfl rfl rfl (Nat.le_of_ble_eq_true rfl) dX3_fractionWithLine_130 ⟨Nat.le_of_ble_eq_true rfl, Nat.le_of_ble_eq_true rfl⟩ (fun v9 M9 H locs hpo hP hz hS => ?_) (fun x9 E9 cell9 H9 locs9 hE9 => hE9.elim)
    obtain ⟨rfl, rfl⟩ := hpo
    refine W.eq (g2 := F0 m 133 ls [.int (bW S n)]) rfl ?_
    refine lv_aload_n hx hb dX3_fractionWithLine_133 rfl (lv_at hl 6 rfl) ?_
    refine lv_iload_n hx hb dX3_fractionWithLine_134 rfl (lv_at hl 9 rfl) ?_
    refine mw_callV (C := RX3) (As := [.int (nI d)]) (rest := [.int (bW S n)]) hx hb hml hown hl (kX3_widthOf l htr G H.size M f S hR d h_d) (g_B (n := 1) htb wd406 wd1 wd403 (by decide +kernel) ⟨Nat.le_of_ble_eq_true rfl, Nat.le_of_ble_eq_true rfl⟩) (htb _ wd405) (htb _ ws14) hE hP hS (fs_R.this hR) rfl rfl rfl (Nat.le_of_ble_eq_true rfl) dX3_fractionWithLine_135 ⟨Nat.le_of_ble_eq_true rfl, Nat.le_of_ble_eq_true rfl⟩ (fun v9 M9 H locs hpo hP hz hS => ?_) (fun x9 E9 cell9 H9 locs9 hE9 => hE9.elim)
    obtain ⟨rfl, rfl⟩ := hpo
    refine W.eq (g2 := F0 m 138 ls [.int (bW S d), .int (bW S n)]) rfl ?_
    refine va_mmax hx hb (hml.trans hl.1.symm) hown (htb _ wd398) (htb _ wd364) (htb _ wd13) (htb _ wd365) (Nat.le_of_ble_eq_true rfl) (Nat.le_of_ble_eq_true rfl) (Nat.le_of_ble_eq_true rfl) (Nat.le_of_ble_eq_true rfl) dX3_fractionWithLine_138 ?_
    refine W.eq (g2 := F0 m 141 ls [.int (fMx (bW S n) (bW S d))]) rfl ?_
    refine lv_istore (lv' := [(11, .int (fMx (bW S n) (bW S d))), (7, .int ((pV S st 4) + (fMx 0 ((3 * t) - (((pV S st 0) - (fHf t)) - ((bH S d) - (pV S st 4))))))), (6, .int ((pV S st 1) + (fMx 0 ((3 * t) - (((pV S st 1) - (bD S n)) - ((pV S st 0) + (fHf t))))))), (10, .int (3 * t)), (9, .int (fHf t)), (8, .int (pV S st 0)), (5, .int 1), (0, .ref (f0 f)), (1, .int (nI st)), (2, .int (nI n)), (3, .int (nI d)), (4, .int t)]) hx hb dX3_fractionWithLine_141 hl (by decide) rfl (fun ls hl => ?_)
    refine lv_bipush (v := 9) hx hb dX3_fractionWithLine_143 (by decide) ?_
    refine mw_newi (N := 9) hx hb (htb _ wd55) hK hP hS 0 rfl (by decide) (by decide) (by decide) (Nat.le_of_ble_eq_true rfl) (Nat.le_of_ble_eq_true rfl) dX3_fractionWithLine_145 (fun q_55 H hq_56 hs_57 hP hS => ?_)
    obtain ⟨M_58, hM_58⟩ : ∃ z9 : mw_M, z9 = mw_up M q_55 (.inl (gI G, 9, .inl (fun _ => 0))) := ⟨_, rfl⟩
    have hP : mw_P (gD G) gx_cl M_58 H := by rw [hM_58]; exact hP
    have n_59 : M q_55 = none := mw_ext.no (mw_ext.rf M) hq_56
    have f_60 : M_58 q_55 = some (.inl (gI G, 9, .inl (fun _ => 0))) := by rw [hM_58]; exact mw_self _ _ _
    have x_61 : mw_ext M M_58 := by rw [hM_58]; exact mw_ext.up (mw_ext.rf M) n_59 _
    refine lv_dup hx hb dX3_fractionWithLine_147 rfl ?_
    refine lv_iconst (v := 0) hx hb dX3_fractionWithLine_148 (by decide) ?_
    refine lv_iload_n hx hb dX3_fractionWithLine_149 rfl (lv_at hl 9 rfl) ?_
    refine mw_iast hx hb hK hP hS 0 f_60 (hAn _ hs_57) rfl (by unfold vp_in; decide) dX3_fractionWithLine_150 (fun H locs hP hS => ?_)
    obtain ⟨M_62, hM_62⟩ : ∃ z9 : mw_M, z9 = mw_up M_58 q_55 (.inl (gI G, 9, .inl (upd (fun _ => 0) 0 (nI n)))) := ⟨_, rfl⟩
    have hP : mw_P (gD G) gx_cl M_62 H := by rw [hM_62]; exact hP
    have f_63 : M_62 q_55 = some (.inl (gI G, 9, .inl (upd (fun _ => 0) 0 (nI n)))) := by rw [hM_62]; exact mw_self _ _ _
    have x_64 : mw_ext M M_62 := by rw [hM_62]; exact mw_ext.up x_61 n_59 _
    refine lv_dup hx hb dX3_fractionWithLine_151 rfl ?_
    refine lv_iconst (v := 1) hx hb dX3_fractionWithLine_152 (by decide) ?_
    refine lv_iload hx hb dX3_fractionWithLine_153 (lv_at hl 0 rfl) ?_
    refine lv_aload_n hx hb dX3_fractionWithLine_155 rfl (lv_at hl 7 rfl) ?_
    refine lv_iload_n hx hb dX3_fractionWithLine_156 rfl (lv_at hl 9 rfl) ?_
    refine mw_callV (C := RX3) (As := [.int (nI n)]) (rest := [.int (fMx (bW S n) (bW S d)), .int 1, .ref q_55, .ref q_55]) hx hb hml hown hl (kX3_widthOf l htr G H.size M_62 f S (fs_R.ext hR x_64) n h_n) (g_B (n := 1) htb wd406 wd1 wd403 (by decide +kernel) ⟨Nat.le_of_ble_eq_true rfl, Nat.le_of_ble_eq_true rfl⟩) (htb _ wd405) (htb _ ws14) hE hP hS (fs_R.this (fs_R.ext hR x_64)) rfl rfl rfl (Nat.le_of_ble_eq_true rfl) dX3_fractionWithLine_157 ⟨Nat.le_of_ble_eq_true rfl, Nat.le_of_ble_eq_true rfl⟩ (fun v9 M9 H locs hpo hP hz hS => ?_) (fun x9 E9 cell9 H9 locs9 hE9 => hE9.elim)
    obtain ⟨rfl, rfl⟩ := hpo
    refine W.eq (g2 := F0 m 160 ls [.int (bW S n), .int (fMx (bW S n) (bW S d)), .int 1, .ref q_55, .ref q_55]) rfl ?_
    refine lv_isub hx hb dX3_fractionWithLine_160 ?_
    refine mw_callS (As := [.int ((fMx (bW S n) (bW S d)) - (bW S n))]) (rest := [.int 1, .ref q_55, .ref q_55]) hx hb hml hown hl (kX3_half l htr G H.size M_62 ((fMx (bW S n) (bW S d)) - (bW S n))) (g_B (n := 1) htb wd393 wd1 wd391 (by decide +kernel) ⟨Nat.le_of_ble_eq_true rfl, Nat.le_of_ble_eq_true rfl⟩) (htb _ wd392) hE hP hS rfl rfl (Nat.le_of_ble_eq_true rfl) dX3_fractionWithLine_161 ⟨Nat.le_of_ble_eq_true rfl, Nat.le_of_ble_eq_true rfl⟩ (fun v9 M9 H locs hpo hP hz hS => ?_) (fun x9 E9 cell9 H9 locs9 hE9 => hE9.elim)
    obtain ⟨rfl, rfl⟩ := hpo
    refine W.eq (g2 := F0 m 164 ls [.int (fHf ((fMx (bW S n) (bW S d)) - (bW S n))), .int 1, .ref q_55, .ref q_55]) rfl ?_
    refine mw_iast hx hb hK hP hS 0 f_63 (hAn _ hs_57) rfl (by unfold vp_in; decide) dX3_fractionWithLine_164 (fun H locs hP hS => ?_)
    obtain ⟨M_65, hM_65⟩ : ∃ z9 : mw_M, z9 = mw_up M_62 q_55 (.inl (gI G, 9, .inl (upd (upd (fun _ => 0) 0 (nI n)) 1 (fHf ((fMx (bW S n) (bW S d)) - (bW S n)))))) := ⟨_, rfl⟩
    have hP : mw_P (gD G) gx_cl M_65 H := by rw [hM_65]; exact hP
    have f_66 : M_65 q_55 = some (.inl (gI G, 9, .inl (upd (upd (fun _ => 0) 0 (nI n)) 1 (fHf ((fMx (bW S n) (bW S d)) - (bW S n)))))) := by rw [hM_65]; exact mw_self _ _ _
    have x_67 : mw_ext M M_65 := by rw [hM_65]; exact mw_ext.up x_64 n_59 _
    refine lv_dup hx hb dX3_fractionWithLine_165 rfl ?_
    refine lv_iconst (v := 2) hx hb dX3_fractionWithLine_166 (by decide) ?_
    refine lv_iload hx hb dX3_fractionWithLine_167 (lv_at hl 2 rfl) ?_
    refine mw_iast hx hb hK hP hS 0 f_66 (hAn _ hs_57) rfl (by unfold vp_in; decide) dX3_fractionWithLine_169 (fun H locs hP hS => ?_)
    obtain ⟨M_68, hM_68⟩ : ∃ z9 : mw_M, z9 = mw_up M_65 q_55 (.inl (gI G, 9, .inl (upd (upd (upd (fun _ => 0) 0 (nI n)) 1 (fHf ((fMx (bW S n) (bW S d)) - (bW S n)))) 2 ((pV S st 1) + (fMx 0 ((3 * t) - (((pV S st 1) - (bD S n)) - ((pV S st 0) + (fHf t))))))))) := ⟨_, rfl⟩
    have hP : mw_P (gD G) gx_cl M_68 H := by rw [hM_68]; exact hP
    have f_69 : M_68 q_55 = some (.inl (gI G, 9, .inl (upd (upd (upd (fun _ => 0) 0 (nI n)) 1 (fHf ((fMx (bW S n) (bW S d)) - (bW S n)))) 2 ((pV S st 1) + (fMx 0 ((3 * t) - (((pV S st 1) - (bD S n)) - ((pV S st 0) + (fHf t))))))))) := by rw [hM_68]; exact mw_self _ _ _
    have x_70 : mw_ext M M_68 := by rw [hM_68]; exact mw_ext.up x_67 n_59 _
    refine lv_dup hx hb dX3_fractionWithLine_170 rfl ?_
    refine lv_iconst (v := 3) hx hb dX3_fractionWithLine_171 (by decide) ?_
    refine lv_iload_n hx hb dX3_fractionWithLine_172 rfl (lv_at hl 10 rfl) ?_
    refine mw_iast hx hb hK hP hS 0 f_69 (hAn _ hs_57) rfl (by unfold vp_in; decide) dX3_fractionWithLine_173 (fun H locs hP hS => ?_)
    obtain ⟨M_71, hM_71⟩ : ∃ z9 : mw_M, z9 = mw_up M_68 q_55 (.inl (gI G, 9, .inl (upd (upd (upd (upd (fun _ => 0) 0 (nI n)) 1 (fHf ((fMx (bW S n) (bW S d)) - (bW S n)))) 2 ((pV S st 1) + (fMx 0 ((3 * t) - (((pV S st 1) - (bD S n)) - ((pV S st 0) + (fHf t))))))) 3 (nI d)))) := ⟨_, rfl⟩
    have hP : mw_P (gD G) gx_cl M_71 H := by rw [hM_71]; exact hP
    have f_72 : M_71 q_55 = some (.inl (gI G, 9, .inl (upd (upd (upd (upd (fun _ => 0) 0 (nI n)) 1 (fHf ((fMx (bW S n) (bW S d)) - (bW S n)))) 2 ((pV S st 1) + (fMx 0 ((3 * t) - (((pV S st 1) - (bD S n)) - ((pV S st 0) + (fHf t))))))) 3 (nI d)))) := by rw [hM_71]; exact mw_self _ _ _
    have x_73 : mw_ext M M_71 := by rw [hM_71]; exact mw_ext.up x_70 n_59 _
    refine lv_dup hx hb dX3_fractionWithLine_174 rfl ?_
    refine lv_iconst (v := 4) hx hb dX3_fractionWithLine_175 (by decide) ?_
    refine lv_iload hx hb dX3_fractionWithLine_176 (lv_at hl 0 rfl) ?_
    refine lv_aload_n hx hb dX3_fractionWithLine_178 rfl (lv_at hl 7 rfl) ?_
    refine lv_iload_n hx hb dX3_fractionWithLine_179 rfl (lv_at hl 10 rfl) ?_
    refine mw_callV (C := RX3) (As := [.int (nI d)]) (rest := [.int (fMx (bW S n) (bW S d)), .int 4, .ref q_55, .ref q_55]) hx hb hml hown hl (kX3_widthOf l htr G H.size M_71 f S (fs_R.ext hR x_73) d h_d) (g_B (n := 1) htb wd406 wd1 wd403 (by decide +kernel) ⟨Nat.le_of_ble_eq_true rfl, Nat.le_of_ble_eq_true rfl⟩) (htb _ wd405) (htb _ ws14) hE hP hS (fs_R.this (fs_R.ext hR x_73)) rfl rfl rfl (Nat.le_of_ble_eq_true rfl) dX3_fractionWithLine_180 ⟨Nat.le_of_ble_eq_true rfl, Nat.le_of_ble_eq_true rfl⟩ (fun v9 M9 H locs hpo hP hz hS => ?_) (fun x9 E9 cell9 H9 locs9 hE9 => hE9.elim)
    obtain ⟨rfl, rfl⟩ := hpo
    refine W.eq (g2 := F0 m 183 ls [.int (bW S d), .int (fMx (bW S n) (bW S d)), .int 4, .ref q_55, .ref q_55]) rfl ?_
    refine lv_isub hx hb dX3_fractionWithLine_183 ?_
    refine mw_callS (As := [.int ((fMx (bW S n) (bW S d)) - (bW S d))]) (rest := [.int 4, .ref q_55, .ref q_55]) hx hb hml hown hl (kX3_half l htr G H.size M_71 ((fMx (bW S n) (bW S d)) - (bW S d))) (g_B (n := 1) htb wd393 wd1 wd391 (by decide +kernel) ⟨Nat.le_of_ble_eq_true rfl, Nat.le_of_ble_eq_true rfl⟩) (htb _ wd392) hE hP hS rfl rfl (Nat.le_of_ble_eq_true rfl) dX3_fractionWithLine_184 ⟨Nat.le_of_ble_eq_true rfl, Nat.le_of_ble_eq_true rfl⟩ (fun v9 M9 H locs hpo hP hz hS => ?_) (fun x9 E9 cell9 H9 locs9 hE9 => hE9.elim)
    obtain ⟨rfl, rfl⟩ := hpo
    refine W.eq (g2 := F0 m 187 ls [.int (fHf ((fMx (bW S n) (bW S d)) - (bW S d))), .int 4, .ref q_55, .ref q_55]) rfl ?_
    refine mw_iast hx hb hK hP hS 0 f_72 (hAn _ hs_57) rfl (by unfold vp_in; decide) dX3_fractionWithLine_187 (fun H locs hP hS => ?_)
    obtain ⟨M_74, hM_74⟩ : ∃ z9 : mw_M, z9 = mw_up M_71 q_55 (.inl (gI G, 9, .inl (upd (upd (upd (upd (upd (fun _ => 0) 0 (nI n)) 1 (fHf ((fMx (bW S n) (bW S d)) - (bW S n)))) 2 ((pV S st 1) + (fMx 0 ((3 * t) - (((pV S st 1) - (bD S n)) - ((pV S st 0) + (fHf t))))))) 3 (nI d)) 4 (fHf ((fMx (bW S n) (bW S d)) - (bW S d)))))) := ⟨_, rfl⟩
    have hP : mw_P (gD G) gx_cl M_74 H := by rw [hM_74]; exact hP
    have f_75 : M_74 q_55 = some (.inl (gI G, 9, .inl (upd (upd (upd (upd (upd (fun _ => 0) 0 (nI n)) 1 (fHf ((fMx (bW S n) (bW S d)) - (bW S n)))) 2 ((pV S st 1) + (fMx 0 ((3 * t) - (((pV S st 1) - (bD S n)) - ((pV S st 0) + (fHf t))))))) 3 (nI d)) 4 (fHf ((fMx (bW S n) (bW S d)) - (bW S d)))))) := by rw [hM_74]; exact mw_self _ _ _
    have x_76 : mw_ext M M_74 := by rw [hM_74]; exact mw_ext.up x_73 n_59 _
    refine lv_dup hx hb dX3_fractionWithLine_188 rfl ?_
    refine lv_iconst (v := 5) hx hb dX3_fractionWithLine_189 (by decide) ?_
    refine lv_iload hx hb dX3_fractionWithLine_190 (lv_at hl 1 rfl) ?_
    refine lv_ineg hx hb dX3_fractionWithLine_192 ?_
    refine mw_iast hx hb hK hP hS 0 f_75 (hAn _ hs_57) rfl (by unfold vp_in; decide) dX3_fractionWithLine_193 (fun H locs hP hS => ?_)
    obtain ⟨M_77, hM_77⟩ : ∃ z9 : mw_M, z9 = mw_up M_74 q_55 (.inl (gI G, 9, .inl (upd (upd (upd (upd (upd (upd (fun _ => 0) 0 (nI n)) 1 (fHf ((fMx (bW S n) (bW S d)) - (bW S n)))) 2 ((pV S st 1) + (fMx 0 ((3 * t) - (((pV S st 1) - (bD S n)) - ((pV S st 0) + (fHf t))))))) 3 (nI d)) 4 (fHf ((fMx (bW S n) (bW S d)) - (bW S d)))) 5 (-((pV S st 4) + (fMx 0 ((3 * t) - (((pV S st 0) - (fHf t)) - ((bH S d) - (pV S st 4)))))))))) := ⟨_, rfl⟩
    have hP : mw_P (gD G) gx_cl M_77 H := by rw [hM_77]; exact hP
    have f_78 : M_77 q_55 = some (.inl (gI G, 9, .inl (upd (upd (upd (upd (upd (upd (fun _ => 0) 0 (nI n)) 1 (fHf ((fMx (bW S n) (bW S d)) - (bW S n)))) 2 ((pV S st 1) + (fMx 0 ((3 * t) - (((pV S st 1) - (bD S n)) - ((pV S st 0) + (fHf t))))))) 3 (nI d)) 4 (fHf ((fMx (bW S n) (bW S d)) - (bW S d)))) 5 (-((pV S st 4) + (fMx 0 ((3 * t) - (((pV S st 0) - (fHf t)) - ((bH S d) - (pV S st 4)))))))))) := by rw [hM_77]; exact mw_self _ _ _
    have x_79 : mw_ext M M_77 := by rw [hM_77]; exact mw_ext.up x_76 n_59 _
    refine lv_dup hx hb dX3_fractionWithLine_194 rfl ?_
    refine lv_bipush (v := 6) hx hb dX3_fractionWithLine_195 (by decide) ?_
    refine lv_iconst (v := (-1)) hx hb dX3_fractionWithLine_197 (by decide) ?_
    refine mw_iast hx hb hK hP hS 0 f_78 (hAn _ hs_57) rfl (by unfold vp_in; decide) dX3_fractionWithLine_198 (fun H locs hP hS => ?_)
    obtain ⟨M_80, hM_80⟩ : ∃ z9 : mw_M, z9 = mw_up M_77 q_55 (.inl (gI G, 9, .inl (upd (upd (upd (upd (upd (upd (upd (fun _ => 0) 0 (nI n)) 1 (fHf ((fMx (bW S n) (bW S d)) - (bW S n)))) 2 ((pV S st 1) + (fMx 0 ((3 * t) - (((pV S st 1) - (bD S n)) - ((pV S st 0) + (fHf t))))))) 3 (nI d)) 4 (fHf ((fMx (bW S n) (bW S d)) - (bW S d)))) 5 (-((pV S st 4) + (fMx 0 ((3 * t) - (((pV S st 0) - (fHf t)) - ((bH S d) - (pV S st 4)))))))) 6 (-1)))) := ⟨_, rfl⟩
    have hP : mw_P (gD G) gx_cl M_80 H := by rw [hM_80]; exact hP
    have f_81 : M_80 q_55 = some (.inl (gI G, 9, .inl (upd (upd (upd (upd (upd (upd (upd (fun _ => 0) 0 (nI n)) 1 (fHf ((fMx (bW S n) (bW S d)) - (bW S n)))) 2 ((pV S st 1) + (fMx 0 ((3 * t) - (((pV S st 1) - (bD S n)) - ((pV S st 0) + (fHf t))))))) 3 (nI d)) 4 (fHf ((fMx (bW S n) (bW S d)) - (bW S d)))) 5 (-((pV S st 4) + (fMx 0 ((3 * t) - (((pV S st 0) - (fHf t)) - ((bH S d) - (pV S st 4)))))))) 6 (-1)))) := by rw [hM_80]; exact mw_self _ _ _
    have x_82 : mw_ext M M_80 := by rw [hM_80]; exact mw_ext.up x_79 n_59 _
    refine lv_dup hx hb dX3_fractionWithLine_199 rfl ?_
    refine lv_bipush (v := 7) hx hb dX3_fractionWithLine_200 (by decide) ?_
    refine lv_iconst (v := 0) hx hb dX3_fractionWithLine_202 (by decide) ?_
    refine mw_iast hx hb hK hP hS 0 f_81 (hAn _ hs_57) rfl (by unfold vp_in; decide) dX3_fractionWithLine_203 (fun H locs hP hS => ?_)
    obtain ⟨M_83, hM_83⟩ : ∃ z9 : mw_M, z9 = mw_up M_80 q_55 (.inl (gI G, 9, .inl (upd (upd (upd (upd (upd (upd (upd (upd (fun _ => 0) 0 (nI n)) 1 (fHf ((fMx (bW S n) (bW S d)) - (bW S n)))) 2 ((pV S st 1) + (fMx 0 ((3 * t) - (((pV S st 1) - (bD S n)) - ((pV S st 0) + (fHf t))))))) 3 (nI d)) 4 (fHf ((fMx (bW S n) (bW S d)) - (bW S d)))) 5 (-((pV S st 4) + (fMx 0 ((3 * t) - (((pV S st 0) - (fHf t)) - ((bH S d) - (pV S st 4)))))))) 6 (-1)) 7 0))) := ⟨_, rfl⟩
    have hP : mw_P (gD G) gx_cl M_83 H := by rw [hM_83]; exact hP
    have f_84 : M_83 q_55 = some (.inl (gI G, 9, .inl (upd (upd (upd (upd (upd (upd (upd (upd (fun _ => 0) 0 (nI n)) 1 (fHf ((fMx (bW S n) (bW S d)) - (bW S n)))) 2 ((pV S st 1) + (fMx 0 ((3 * t) - (((pV S st 1) - (bD S n)) - ((pV S st 0) + (fHf t))))))) 3 (nI d)) 4 (fHf ((fMx (bW S n) (bW S d)) - (bW S d)))) 5 (-((pV S st 4) + (fMx 0 ((3 * t) - (((pV S st 0) - (fHf t)) - ((bH S d) - (pV S st 4)))))))) 6 (-1)) 7 0))) := by rw [hM_83]; exact mw_self _ _ _
    have x_85 : mw_ext M M_83 := by rw [hM_83]; exact mw_ext.up x_82 n_59 _
    refine lv_dup hx hb dX3_fractionWithLine_204 rfl ?_
    refine lv_bipush (v := 8) hx hb dX3_fractionWithLine_205 (by decide) ?_
    refine lv_iload hx hb dX3_fractionWithLine_207 (lv_at hl 5 rfl) ?_
    refine lv_iload hx hb dX3_fractionWithLine_209 (lv_at hl 4 rfl) ?_
    refine lv_iadd hx hb dX3_fractionWithLine_211 ?_
    refine lv_iload hx hb dX3_fractionWithLine_212 (lv_at hl 11 rfl) ?_
    refine lv_isub hx hb dX3_fractionWithLine_214 ?_
    refine mw_iast hx hb hK hP hS 0 f_84 (hAn _ hs_57) rfl (by unfold vp_in; decide) dX3_fractionWithLine_215 (fun H locs hP hS => ?_)
    obtain ⟨M_86, hM_86⟩ : ∃ z9 : mw_M, z9 = mw_up M_83 q_55 (.inl (gI G, 9, .inl (upd (upd (upd (upd (upd (upd (upd (upd (upd (fun _ => 0) 0 (nI n)) 1 (fHf ((fMx (bW S n) (bW S d)) - (bW S n)))) 2 ((pV S st 1) + (fMx 0 ((3 * t) - (((pV S st 1) - (bD S n)) - ((pV S st 0) + (fHf t))))))) 3 (nI d)) 4 (fHf ((fMx (bW S n) (bW S d)) - (bW S d)))) 5 (-((pV S st 4) + (fMx 0 ((3 * t) - (((pV S st 0) - (fHf t)) - ((bH S d) - (pV S st 4)))))))) 6 (-1)) 7 0) 8 (((pV S st 0) + (fHf t)) - t)))) := ⟨_, rfl⟩
    have hP : mw_P (gD G) gx_cl M_86 H := by rw [hM_86]; exact hP
    have f_87 : M_86 q_55 = some (.inl (gI G, 9, .inl (upd (upd (upd (upd (upd (upd (upd (upd (upd (fun _ => 0) 0 (nI n)) 1 (fHf ((fMx (bW S n) (bW S d)) - (bW S n)))) 2 ((pV S st 1) + (fMx 0 ((3 * t) - (((pV S st 1) - (bD S n)) - ((pV S st 0) + (fHf t))))))) 3 (nI d)) 4 (fHf ((fMx (bW S n) (bW S d)) - (bW S d)))) 5 (-((pV S st 4) + (fMx 0 ((3 * t) - (((pV S st 0) - (fHf t)) - ((bH S d) - (pV S st 4)))))))) 6 (-1)) 7 0) 8 (((pV S st 0) + (fHf t)) - t)))) := by rw [hM_86]; exact mw_self _ _ _
    have x_88 : mw_ext M M_86 := by rw [hM_86]; exact mw_ext.up x_85 n_59 _
    refine lv_astore (lv' := [(12, .ref q_55), (11, .int (fMx (bW S n) (bW S d))), (7, .int ((pV S st 4) + (fMx 0 ((3 * t) - (((pV S st 0) - (fHf t)) - ((bH S d) - (pV S st 4))))))), (6, .int ((pV S st 1) + (fMx 0 ((3 * t) - (((pV S st 1) - (bD S n)) - ((pV S st 0) + (fHf t))))))), (10, .int (3 * t)), (9, .int (fHf t)), (8, .int (pV S st 0)), (5, .int 1), (0, .ref (f0 f)), (1, .int (nI st)), (2, .int (nI n)), (3, .int (nI d)), (4, .int t)]) hx hb dX3_fractionWithLine_216 hl (by decide) rfl (fun ls hl => ?_)
    refine mw_new (ci := 0) (fs := [.int 0, .int 0, .int 0, .null, .int 0, .int 0]) (C := RX0) (T := TX0) (N := 6) hx hb htb inX0 tyX0 tyX0_ok hown (htb _ wd22) (htb _ wd215) (htb _ wd10) hK hP hS rfl (fun j hj => by rcases (show j = 0 ∨ j = 1 ∨ j = 2 ∨ j = 3 ∨ j = 4 ∨ j = 5 by omega) with rfl | rfl | rfl | rfl | rfl | rfl <;> rfl) (Nat.le_of_ble_eq_true rfl) (Nat.le_of_ble_eq_true rfl) dX3_fractionWithLine_218 (fun q_89 H hq_90 hs_91 hP hS => ?_)
    obtain ⟨M_92, hM_92⟩ : ∃ z9 : mw_M, z9 = mw_up M_86 q_89 (.inr (0, [.int 0, .int 0, .int 0, .null, .int 0, .int 0])) := ⟨_, rfl⟩
    have hP : mw_P (gD G) gx_cl M_92 H := by rw [hM_92]; exact hP
    have n_93 : M q_89 = none := mw_ext.no x_88 hq_90
    have f_94 : M_92 q_55 = some (.inl (gI G, 9, .inl (upd (upd (upd (upd (upd (upd (upd (upd (upd (fun _ => 0) 0 (nI n)) 1 (fHf ((fMx (bW S n) (bW S d)) - (bW S n)))) 2 ((pV S st 1) + (fMx 0 ((3 * t) - (((pV S st 1) - (bD S n)) - ((pV S st 0) + (fHf t))))))) 3 (nI d)) 4 (fHf ((fMx (bW S n) (bW S d)) - (bW S d)))) 5 (-((pV S st 4) + (fMx 0 ((3 * t) - (((pV S st 0) - (fHf t)) - ((bH S d) - (pV S st 4)))))))) 6 (-1)) 7 0) 8 (((pV S st 0) + (fHf t)) - t)))) := by rw [hM_92, mw_ne _ _ (fun z => by have z1 := f_87; rw [z, hq_90] at z1; cases z1)]; exact f_87
    have ne_95 : q_55 ≠ q_89 := fun z => by have z1 := f_87; rw [z, hq_90] at z1; cases z1
    have f_96 : M_92 q_89 = some (.inr (0, [.int 0, .int 0, .int 0, .null, .int 0, .int 0])) := by rw [hM_92]; exact mw_self _ _ _
    have x_97 : mw_ext M M_92 := by rw [hM_92]; exact mw_ext.up x_88 n_93 _
    refine lv_dup hx hb dX3_fractionWithLine_221 rfl ?_
    refine lv_iload hx hb dX3_fractionWithLine_222 (lv_at hl 1 rfl) ?_
    refine lv_iload hx hb dX3_fractionWithLine_224 (lv_at hl 3 rfl) ?_
    refine lv_aload_n hx hb dX3_fractionWithLine_226 rfl (lv_at hl 8 rfl) ?_
    refine lv_iload_n hx hb dX3_fractionWithLine_227 rfl (lv_at hl 10 rfl) ?_
    refine mw_callV (C := RX3) (As := [.int (nI n)]) (rest := [.int ((pV S st 1) + (fMx 0 ((3 * t) - (((pV S st 1) - (bD S n)) - ((pV S st 0) + (fHf t)))))), .int (fMx (bW S n) (bW S d)), .ref q_89, .ref q_89]) hx hb hml hown hl (kX3_heightOf l htr G H.size M_92 f S (fs_R.ext hR x_97) n h_n) (g_B (n := 1) htb wd402 wd1 wd399 (by decide +kernel) ⟨Nat.le_of_ble_eq_true rfl, Nat.le_of_ble_eq_true rfl⟩) (htb _ wd401) (htb _ ws13) hE hP hS (fs_R.this (fs_R.ext hR x_97)) rfl rfl rfl (Nat.le_of_ble_eq_true rfl) dX3_fractionWithLine_228 ⟨Nat.le_of_ble_eq_true rfl, Nat.le_of_ble_eq_true rfl⟩ (fun v9 M9 H locs hpo hP hz hS => ?_) (fun x9 E9 cell9 H9 locs9 hE9 => hE9.elim)
    obtain ⟨rfl, rfl⟩ := hpo
    refine W.eq (g2 := F0 m 231 ls [.int (bH S n), .int ((pV S st 1) + (fMx 0 ((3 * t) - (((pV S st 1) - (bD S n)) - ((pV S st 0) + (fHf t)))))), .int (fMx (bW S n) (bW S d)), .ref q_89, .ref q_89]) rfl ?_
    refine lv_iadd hx hb dX3_fractionWithLine_231 ?_
    refine lv_aload_n hx hb dX3_fractionWithLine_232 rfl (lv_at hl 8 rfl) ?_
    refine lv_iload_n hx hb dX3_fractionWithLine_233 rfl (lv_at hl 11 rfl) ?_
    refine mw_callV (C := RX3) (As := [.int (nI d)]) (rest := [.int (((pV S st 1) + (fMx 0 ((3 * t) - (((pV S st 1) - (bD S n)) - ((pV S st 0) + (fHf t)))))) + (bH S n)), .int (fMx (bW S n) (bW S d)), .ref q_89, .ref q_89]) hx hb hml hown hl (kX3_depthOf l htr G H.size M_92 f S (fs_R.ext hR x_97) d h_d) (g_B (n := 1) htb wd397 wd1 wd394 (by decide +kernel) ⟨Nat.le_of_ble_eq_true rfl, Nat.le_of_ble_eq_true rfl⟩) (htb _ wd396) (htb _ ws12) hE hP hS (fs_R.this (fs_R.ext hR x_97)) rfl rfl rfl (Nat.le_of_ble_eq_true rfl) dX3_fractionWithLine_234 ⟨Nat.le_of_ble_eq_true rfl, Nat.le_of_ble_eq_true rfl⟩ (fun v9 M9 H locs hpo hP hz hS => ?_) (fun x9 E9 cell9 H9 locs9 hE9 => hE9.elim)
    obtain ⟨rfl, rfl⟩ := hpo
    refine W.eq (g2 := F0 m 237 ls [.int (bD S d), .int (((pV S st 1) + (fMx 0 ((3 * t) - (((pV S st 1) - (bD S n)) - ((pV S st 0) + (fHf t)))))) + (bH S n)), .int (fMx (bW S n) (bW S d)), .ref q_89, .ref q_89]) rfl ?_
    refine lv_iload hx hb dX3_fractionWithLine_237 (lv_at hl 2 rfl) ?_
    refine lv_iadd hx hb dX3_fractionWithLine_239 ?_
    refine lv_aload hx hb dX3_fractionWithLine_240 (lv_at hl 0 rfl) ?_
    refine lv_iload hx hb dX3_fractionWithLine_242 (lv_at hl 1 rfl) ?_
    refine lv_iload hx hb dX3_fractionWithLine_244 (lv_at hl 12 rfl) ?_
    refine mw_callI (As := [.int (fMx (bW S n) (bW S d)), .int (((pV S st 1) + (fMx 0 ((3 * t) - (((pV S st 1) - (bD S n)) - ((pV S st 0) + (fHf t)))))) + (bH S n)), .int ((bD S d) + ((pV S st 4) + (fMx 0 ((3 * t) - (((pV S st 0) - (fHf t)) - ((bH S d) - (pV S st 4))))))), .ref q_55, .int (fMx (bW S n) (bW S d)), .int t]) (rest := [.ref q_89]) hx hb hml hown hl (kX0_init_1 l htr G H.size M_92 q_89 (hAn _ hs_91) f_96 (fMx (bW S n) (bW S d)) (((pV S st 1) + (fMx 0 ((3 * t) - (((pV S st 1) - (bD S n)) - ((pV S st 0) + (fHf t)))))) + (bH S n)) ((bD S d) + ((pV S st 4) + (fMx 0 ((3 * t) - (((pV S st 0) - (fHf t)) - ((bH S d) - (pV S st 4))))))) q_55 (fMx (bW S n) (bW S d)) t) (g_B (n := 6) htb wd223 wd10 wd407 (by decide +kernel) ⟨Nat.le_of_ble_eq_true rfl, Nat.le_of_ble_eq_true rfl⟩) (htb _ wd222) (htb _ wd223) rfl hE hP hS rfl rfl (Nat.le_of_ble_eq_true rfl) dX3_fractionWithLine_246 ⟨Nat.le_of_ble_eq_true rfl, Nat.le_of_ble_eq_true rfl⟩ (fun v9 M9 H locs hpo hP hz hS => ?_) (fun x9 E9 cell9 H9 locs9 hE9 => hE9.elim)
    obtain ⟨rfl, hM9⟩ := hpo
    obtain ⟨M_98, hM_98⟩ : ∃ z9 : mw_M, z9 = mw_up M_92 q_89 (.inr (0, [.int (fMx (bW S n) (bW S d)), .int (((pV S st 1) + (fMx 0 ((3 * t) - (((pV S st 1) - (bD S n)) - ((pV S st 0) + (fHf t)))))) + (bH S n)), .int ((bD S d) + ((pV S st 4) + (fMx 0 ((3 * t) - (((pV S st 0) - (fHf t)) - ((bH S d) - (pV S st 4))))))), .ref q_55, .int (fMx (bW S n) (bW S d)), .int t])) := ⟨_, rfl⟩
    have hP : mw_P (gD G) gx_cl M_98 H := by rw [hM_98, hM9]; exact hP
    have f_99 : M_98 q_55 = some (.inl (gI G, 9, .inl (upd (upd (upd (upd (upd (upd (upd (upd (upd (fun _ => 0) 0 (nI n)) 1 (fHf ((fMx (bW S n) (bW S d)) - (bW S n)))) 2 ((pV S st 1) + (fMx 0 ((3 * t) - (((pV S st 1) - (bD S n)) - ((pV S st 0) + (fHf t))))))) 3 (nI d)) 4 (fHf ((fMx (bW S n) (bW S d)) - (bW S d)))) 5 (-((pV S st 4) + (fMx 0 ((3 * t) - (((pV S st 0) - (fHf t)) - ((bH S d) - (pV S st 4)))))))) 6 (-1)) 7 0) 8 (((pV S st 0) + (fHf t)) - t)))) := by rw [hM_98, mw_ne _ _ ne_95]; exact f_94
    have f_100 : M_98 q_89 = some (.inr (0, [.int (fMx (bW S n) (bW S d)), .int (((pV S st 1) + (fMx 0 ((3 * t) - (((pV S st 1) - (bD S n)) - ((pV S st 0) + (fHf t)))))) + (bH S n)), .int ((bD S d) + ((pV S st 4) + (fMx 0 ((3 * t) - (((pV S st 0) - (fHf t)) - ((bH S d) - (pV S st 4))))))), .ref q_55, .int (fMx (bW S n) (bW S d)), .int t])) := by rw [hM_98]; exact mw_self _ _ _
    have x_101 : mw_ext M M_98 := by rw [hM_98]; exact mw_ext.up x_97 n_93 _
    refine W.eq (g2 := F0 m 249 ls [.ref q_89]) rfl ?_
    have hbx9 : fs_bx G f M_98 q_89 (fs_fl S st n d t) := by
      simp only [fs_fl, fs_fl1, fs_fl3, if_pos c_1]
      refine fs_mk f_100 f_99 rfl (fun j hj => ?_) (fun z => hX _ z n_93) (fun z => hX _ z n_59)
      rcases (show j = 0 ∨ j = 1 ∨ j = 2 ∨ j = 3 ∨ j = 4 ∨ j = 5 ∨ j = 6 ∨ j = 7 ∨ j = 8 by omega) with rfl | rfl | rfl | rfl | rfl | rfl | rfl | rfl | rfl <;> rfl
    exact mx_aret (q := q_89) (M' := M_98) hx hb hr (Or.inl ⟨_, rfl⟩) hlocks hP hS ⟨q_89, rfl, x_101, hbx9⟩ dX3_fractionWithLine_249 (Nat.le_of_ble_eq_true rfl) (Nat.le_of_ble_eq_true rfl)
