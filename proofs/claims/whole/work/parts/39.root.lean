/-! printed by wip/whole/spec*.py -/
-- X3_rootShape
set_option maxHeartbeats 4000000 in
set_option maxRecDepth 100000 in
theorem kX3_rootShape (l : Launch) (htr : l.stackTraces = false) (G : gx_G) (sz : Nat) (M : mw_M) (f : fs_A) (S : fs_S) (hR : fs_R G f M S) (hX : ∀ a, fX f a → M a ≠ none) (hA : ∀ q : Nat, sz ≤ q → gA G q) (x y : Nat) (h_x : x < sN S) (h_y : y < sN S) (cl tg : Int32) : g_Met l G yX3_rootShape (.code yX3_rootShape cX3_rootShape 11 (some (.object "FormulaShapes$Box"))) ({ frames := 4, cells := 3, slots := 30, locals := 180 } : Room) sz M [.ref (f0 f), .int (nI x), .int (nI y), .int cl, .int tg] (fun v M9 => ∃ q, v = some (.ref q) ∧ mw_ext M M9 ∧ fs_bx G f M9 q (fs_rs S x y cl tg)) (fun _ => False) := by
  refine MetE.ofW (cc := cX3_rootShape) (maxL := 11) (ret := (some (.object "FormulaShapes$Box"))) (by decide) rfl ?_
  intro p e s m args below meth c s₁ B hml hv
  obtain ⟨rfl, hsz, hP, hE⟩ := hv
  have hx := B.exec
  have hb := B.bytes
  have hr := B.returns
  have hts := atoms_spec (ws := _ :: lw_big) B.pre
  have htb : ∀ w ∈ lw_big, w.before _ s = true := fun w h => hts w (List.mem_cons_of_mem _ h)
  have hno := B.noHandlers (hts _ List.mem_cons_self)
  have hown : s.vm.findClass RX3 = some m.cls := findClass_of_methodNamed B.named
  have hlocks := B.notSynchronized
  have hK := hE.1
  subst hsz
  have hAn : ∀ q : Nat, s.heap.size ≤ q → gA G q := hA
  have hS : va_S (gA G) s.heap s.heap [] := va_S.rf
  have hl := lv_entry ([.ref (f0 f), .int (nI x), .int (nI y), .int cl, .int tg]) (n := 11) (Nat.le_of_ble_eq_true rfl)
  rw [lg_entry_eq]
  generalize (lg_sl ([.ref (f0 f), .int (nI x), .int (nI y), .int cl, .int tg]) ++ List.replicate (11 - (lg_sl ([.ref (f0 f), .int (nI x), .int (nI y), .int cl, .int tg])).length) Slot.unset).toArray = ls at hl ⊢
  have hl : lv_has ls 11 [(0, .ref (f0 f)), (1, .int (nI x)), (2, .int (nI y)), (3, .int cl), (4, .int tg)] := hl
  refine lv_iload hx hb dX3_rootShape_0 (lv_at hl 4 rfl) ?_
  refine lv_if_eq (tgt := 9) hx hb dX3_rootShape_2 (by decide) (fun c_1 => ?_) (fun c_1 => ?_)
  · refine lv_aload_n hx hb dX3_rootShape_9 rfl (lv_at hl 0 rfl) ?_
    refine lv_iload_n hx hb dX3_rootShape_10 rfl (lv_at hl 2 rfl) ?_
    refine mw_callV (C := RX3) (As := [.int (nI y)]) (rest := []) hx hb hml hown hl (kX3_heightOf l htr G s.heap.size M f S hR y h_y) (g_B (n := 1) htb wd402 wd1 wd399 (by decide +kernel) ⟨Nat.le_of_ble_eq_true rfl, Nat.le_of_ble_eq_true rfl⟩) (htb _ wd401) (htb _ ws13) hE hP hS (fs_R.this hR) rfl rfl rfl (Nat.le_of_ble_eq_true rfl) dX3_rootShape_11 ⟨Nat.le_of_ble_eq_true rfl, Nat.le_of_ble_eq_true rfl⟩ (fun v9 M9 H locs hpo hP hz hS => ?_) (fun x9 E9 cell9 H9 locs9 hE9 => hE9.elim)
    obtain ⟨rfl, rfl⟩ := hpo
    refine W.eq (g2 := F0 m 14 ls [.int (bH S y)]) rfl ?_
    refine lv_istore (lv' := [(5, .int (bH S y)), (0, .ref (f0 f)), (1, .int (nI x)), (2, .int (nI y)), (3, .int cl), (4, .int tg)]) hx hb dX3_rootShape_14 hl (by decide) rfl (fun ls hl => ?_)
    refine lv_iload hx hb dX3_rootShape_16 (lv_at hl 5 rfl) ?_
    refine lv_if_eq (tgt := 29) hx hb dX3_rootShape_18 (by decide) (fun c_2 => ?_) (fun c_2 => absurd c_1 c_2)
    refine lv_aload_n hx hb dX3_rootShape_29 rfl (lv_at hl 1 rfl) ?_
    refine lv_iload_n hx hb dX3_rootShape_30 rfl (lv_at hl 3 rfl) ?_
    refine mw_callV (C := RX3) (As := [.int (nI y)]) (rest := []) hx hb hml hown hl (kX3_depthOf l htr G H.size M f S hR y h_y) (g_B (n := 1) htb wd397 wd1 wd394 (by decide +kernel) ⟨Nat.le_of_ble_eq_true rfl, Nat.le_of_ble_eq_true rfl⟩) (htb _ wd396) (htb _ ws12) hE hP hS (fs_R.this hR) rfl rfl rfl (Nat.le_of_ble_eq_true rfl) dX3_rootShape_31 ⟨Nat.le_of_ble_eq_true rfl, Nat.le_of_ble_eq_true rfl⟩ (fun v9 M9 H locs hpo hP hz hS => ?_) (fun x9 E9 cell9 H9 locs9 hE9 => hE9.elim)
    obtain ⟨rfl, rfl⟩ := hpo
    refine W.eq (g2 := F0 m 34 ls [.int (bD S y)]) rfl ?_
    refine lv_istore (lv' := [(6, .int (bD S y)), (5, .int (bH S y)), (0, .ref (f0 f)), (1, .int (nI x)), (2, .int (nI y)), (3, .int cl), (4, .int tg)]) hx hb dX3_rootShape_34 hl (by decide) rfl (fun ls hl => ?_)
    refine lv_iload hx hb dX3_rootShape_36 (lv_at hl 0 rfl) ?_
    refine lv_aload_n hx hb dX3_rootShape_38 rfl (lv_at hl 2 rfl) ?_
    refine lv_iload_n hx hb dX3_rootShape_39 rfl (lv_at hl 3 rfl) ?_
    refine mw_callV (C := RX3) (As := [.int (nI x)]) (rest := [.int (bD S y)]) hx hb hml hown hl (kX3_extentOf l htr G H.size M f S hR (nI x) (Or.inr ⟨x, h_x, rfl⟩)) (g_B (n := 1) htb wd288 wd1 wd285 (by decide +kernel) ⟨Nat.le_of_ble_eq_true rfl, Nat.le_of_ble_eq_true rfl⟩) (htb _ wd287) (htb _ ws5) hE hP hS (fs_R.this hR) rfl rfl rfl (Nat.le_of_ble_eq_true rfl) dX3_rootShape_40 ⟨Nat.le_of_ble_eq_true rfl, Nat.le_of_ble_eq_true rfl⟩ (fun v9 M9 H locs hpo hP hz hS => ?_) (fun x9 E9 cell9 H9 locs9 hE9 => hE9.elim)
    obtain ⟨rfl, rfl⟩ := hpo
    refine W.eq (g2 := F0 m 43 ls [.int (fEx S (nI x)), .int (bD S y)]) rfl ?_
    refine lv_iload_n hx hb dX3_rootShape_43 rfl (lv_at hl 5 rfl) ?_
    refine lv_iadd hx hb dX3_rootShape_44 ?_
    refine lv_isub hx hb dX3_rootShape_45 ?_
    refine lv_istore (lv' := [(7, .int ((bD S y) - ((fEx S (nI x)) + cl))), (6, .int (bD S y)), (5, .int (bH S y)), (0, .ref (f0 f)), (1, .int (nI x)), (2, .int (nI y)), (3, .int cl), (4, .int tg)]) hx hb dX3_rootShape_46 hl (by decide) rfl (fun ls hl => ?_)
    refine lv_aload_n hx hb dX3_rootShape_48 rfl (lv_at hl 3 rfl) ?_
    refine lv_iload_n hx hb dX3_rootShape_49 rfl (lv_at hl 4 rfl) ?_
    refine mw_callV (C := RX3) (As := [.int (nI x)]) (rest := []) hx hb hml hown hl (kX3_heightOf l htr G H.size M f S hR x h_x) (g_B (n := 1) htb wd402 wd1 wd399 (by decide +kernel) ⟨Nat.le_of_ble_eq_true rfl, Nat.le_of_ble_eq_true rfl⟩) (htb _ wd401) (htb _ ws13) hE hP hS (fs_R.this hR) rfl rfl rfl (Nat.le_of_ble_eq_true rfl) dX3_rootShape_50 ⟨Nat.le_of_ble_eq_true rfl, Nat.le_of_ble_eq_true rfl⟩ (fun v9 M9 H locs hpo hP hz hS => ?_) (fun x9 E9 cell9 H9 locs9 hE9 => hE9.elim)
    obtain ⟨rfl, rfl⟩ := hpo
    refine W.eq (g2 := F0 m 53 ls [.int (bH S x)]) rfl ?_
    refine lv_iload_n hx hb dX3_rootShape_53 rfl (lv_at hl 6 rfl) ?_
    refine lv_iadd hx hb dX3_rootShape_54 ?_
    refine lv_iload hx hb dX3_rootShape_55 (lv_at hl 0 rfl) ?_
    refine lv_if_le (tgt := 68) hx hb dX3_rootShape_57 (by decide) (fun c_3 => ?_) (fun c_3 => ?_)
    · refine lv_iconst (v := 0) hx hb dX3_rootShape_68 (by decide) ?_
      refine lv_iadd hx hb dX3_rootShape_69 ?_
      refine lv_istore (lv' := [(8, .int (((bH S x) + cl) + 0)), (7, .int ((bD S y) - ((fEx S (nI x)) + cl))), (6, .int (bD S y)), (5, .int (bH S y)), (0, .ref (f0 f)), (1, .int (nI x)), (2, .int (nI y)), (3, .int cl), (4, .int tg)]) hx hb dX3_rootShape_70 hl (by decide) rfl (fun ls hl => ?_)
      refine lv_bipush (v := 9) hx hb dX3_rootShape_72 (by decide) ?_
      refine mw_newi (N := 9) hx hb (htb _ wd55) hK hP hS 0 rfl (by decide) (by decide) (by decide) (Nat.le_of_ble_eq_true rfl) (Nat.le_of_ble_eq_true rfl) dX3_rootShape_74 (fun q_4 H hq_5 hs_6 hP hS => ?_)
      obtain ⟨M_7, hM_7⟩ : ∃ z9 : mw_M, z9 = mw_up M q_4 (.inl (gI G, 9, .inl (fun _ => 0))) := ⟨_, rfl⟩
      have hP : mw_P (gD G) gx_cl M_7 H := by rw [hM_7]; exact hP
      have n_8 : M q_4 = none := mw_ext.no (mw_ext.rf M) hq_5
      have f_9 : M_7 q_4 = some (.inl (gI G, 9, .inl (fun _ => 0))) := by rw [hM_7]; exact mw_self _ _ _
      have x_10 : mw_ext M M_7 := by rw [hM_7]; exact mw_ext.up (mw_ext.rf M) n_8 _
      refine lv_dup hx hb dX3_rootShape_76 rfl ?_
      refine lv_iconst (v := 0) hx hb dX3_rootShape_77 (by decide) ?_
      refine lv_iload_n hx hb dX3_rootShape_78 rfl (lv_at hl 6 rfl) ?_
      refine mw_iast hx hb hK hP hS 0 f_9 (hAn _ hs_6) rfl (by unfold vp_in; decide) dX3_rootShape_79 (fun H locs hP hS => ?_)
      obtain ⟨M_11, hM_11⟩ : ∃ z9 : mw_M, z9 = mw_up M_7 q_4 (.inl (gI G, 9, .inl (upd (fun _ => 0) 0 (nI y)))) := ⟨_, rfl⟩
      have hP : mw_P (gD G) gx_cl M_11 H := by rw [hM_11]; exact hP
      have f_12 : M_11 q_4 = some (.inl (gI G, 9, .inl (upd (fun _ => 0) 0 (nI y)))) := by rw [hM_11]; exact mw_self _ _ _
      have x_13 : mw_ext M M_11 := by rw [hM_11]; exact mw_ext.up x_10 n_8 _
      refine lv_dup hx hb dX3_rootShape_80 rfl ?_
      refine lv_iconst (v := 1) hx hb dX3_rootShape_81 (by decide) ?_
      refine lv_iconst (v := 0) hx hb dX3_rootShape_82 (by decide) ?_
      refine mw_iast hx hb hK hP hS 0 f_12 (hAn _ hs_6) rfl (by unfold vp_in; decide) dX3_rootShape_83 (fun H locs hP hS => ?_)
      obtain ⟨M_14, hM_14⟩ : ∃ z9 : mw_M, z9 = mw_up M_11 q_4 (.inl (gI G, 9, .inl (upd (upd (fun _ => 0) 0 (nI y)) 1 0))) := ⟨_, rfl⟩
      have hP : mw_P (gD G) gx_cl M_14 H := by rw [hM_14]; exact hP
      have f_15 : M_14 q_4 = some (.inl (gI G, 9, .inl (upd (upd (fun _ => 0) 0 (nI y)) 1 0))) := by rw [hM_14]; exact mw_self _ _ _
      have x_16 : mw_ext M M_14 := by rw [hM_14]; exact mw_ext.up x_13 n_8 _
      refine lv_dup hx hb dX3_rootShape_84 rfl ?_
      refine lv_iconst (v := 2) hx hb dX3_rootShape_85 (by decide) ?_
      refine lv_iload hx hb dX3_rootShape_86 (lv_at hl 8 rfl) ?_
      refine lv_if_eq (tgt := 102) hx hb dX3_rootShape_88 (by decide) (fun c_17 => ?_) (fun c_17 => absurd c_1 c_17)
      refine lv_iload hx hb dX3_rootShape_102 (lv_at hl 0 rfl) ?_
      refine mw_iast hx hb hK hP hS 0 f_15 (hAn _ hs_6) rfl (by unfold vp_in; decide) dX3_rootShape_104 (fun H locs hP hS => ?_)
      obtain ⟨M_18, hM_18⟩ : ∃ z9 : mw_M, z9 = mw_up M_14 q_4 (.inl (gI G, 9, .inl (upd (upd (upd (fun _ => 0) 0 (nI y)) 1 0) 2 (((bH S x) + cl) + 0)))) := ⟨_, rfl⟩
      have hP : mw_P (gD G) gx_cl M_18 H := by rw [hM_18]; exact hP
      have f_19 : M_18 q_4 = some (.inl (gI G, 9, .inl (upd (upd (upd (fun _ => 0) 0 (nI y)) 1 0) 2 (((bH S x) + cl) + 0)))) := by rw [hM_18]; exact mw_self _ _ _
      have x_20 : mw_ext M M_18 := by rw [hM_18]; exact mw_ext.up x_16 n_8 _
      refine lv_dup hx hb dX3_rootShape_105 rfl ?_
      refine lv_iconst (v := 3) hx hb dX3_rootShape_106 (by decide) ?_
      refine lv_iload_n hx hb dX3_rootShape_107 rfl (lv_at hl 5 rfl) ?_
      refine mw_iast hx hb hK hP hS 0 f_19 (hAn _ hs_6) rfl (by unfold vp_in; decide) dX3_rootShape_108 (fun H locs hP hS => ?_)
      obtain ⟨M_21, hM_21⟩ : ∃ z9 : mw_M, z9 = mw_up M_18 q_4 (.inl (gI G, 9, .inl (upd (upd (upd (upd (fun _ => 0) 0 (nI y)) 1 0) 2 (((bH S x) + cl) + 0)) 3 (nI x)))) := ⟨_, rfl⟩
      have hP : mw_P (gD G) gx_cl M_21 H := by rw [hM_21]; exact hP
      have f_22 : M_21 q_4 = some (.inl (gI G, 9, .inl (upd (upd (upd (upd (fun _ => 0) 0 (nI y)) 1 0) 2 (((bH S x) + cl) + 0)) 3 (nI x)))) := by rw [hM_21]; exact mw_self _ _ _
      have x_23 : mw_ext M M_21 := by rw [hM_21]; exact mw_ext.up x_20 n_8 _
      refine lv_dup hx hb dX3_rootShape_109 rfl ?_
      refine lv_iconst (v := 4) hx hb dX3_rootShape_110 (by decide) ?_
      refine lv_aload_n hx hb dX3_rootShape_111 rfl (lv_at hl 4 rfl) ?_
      refine lv_iload_n hx hb dX3_rootShape_112 rfl (lv_at hl 6 rfl) ?_
      refine mw_callV (C := RX3) (As := [.int (nI y)]) (rest := [.int 4, .ref q_4, .ref q_4]) hx hb hml hown hl (kX3_widthOf l htr G H.size M_21 f S (fs_R.ext hR x_23) y h_y) (g_B (n := 1) htb wd406 wd1 wd403 (by decide +kernel) ⟨Nat.le_of_ble_eq_true rfl, Nat.le_of_ble_eq_true rfl⟩) (htb _ wd405) (htb _ ws14) hE hP hS (fs_R.this (fs_R.ext hR x_23)) rfl rfl rfl (Nat.le_of_ble_eq_true rfl) dX3_rootShape_113 ⟨Nat.le_of_ble_eq_true rfl, Nat.le_of_ble_eq_true rfl⟩ (fun v9 M9 H locs hpo hP hz hS => ?_) (fun x9 E9 cell9 H9 locs9 hE9 => hE9.elim)
      obtain ⟨rfl, rfl⟩ := hpo
      refine W.eq (g2 := F0 m 116 ls [.int (bW S y), .int 4, .ref q_4, .ref q_4]) rfl ?_
      refine mw_iast hx hb hK hP hS 0 f_22 (hAn _ hs_6) rfl (by unfold vp_in; decide) dX3_rootShape_116 (fun H locs hP hS => ?_)
      obtain ⟨M_24, hM_24⟩ : ∃ z9 : mw_M, z9 = mw_up M_21 q_4 (.inl (gI G, 9, .inl (upd (upd (upd (upd (upd (fun _ => 0) 0 (nI y)) 1 0) 2 (((bH S x) + cl) + 0)) 3 (nI x)) 4 (bW S y)))) := ⟨_, rfl⟩
      have hP : mw_P (gD G) gx_cl M_24 H := by rw [hM_24]; exact hP
      have f_25 : M_24 q_4 = some (.inl (gI G, 9, .inl (upd (upd (upd (upd (upd (fun _ => 0) 0 (nI y)) 1 0) 2 (((bH S x) + cl) + 0)) 3 (nI x)) 4 (bW S y)))) := by rw [hM_24]; exact mw_self _ _ _
      have x_26 : mw_ext M M_24 := by rw [hM_24]; exact mw_ext.up x_23 n_8 _
      refine lv_dup hx hb dX3_rootShape_117 rfl ?_
      refine lv_iconst (v := 5) hx hb dX3_rootShape_118 (by decide) ?_
      refine lv_iconst (v := 0) hx hb dX3_rootShape_119 (by decide) ?_
      refine mw_iast hx hb hK hP hS 0 f_25 (hAn _ hs_6) rfl (by unfold vp_in; decide) dX3_rootShape_120 (fun H locs hP hS => ?_)
      obtain ⟨M_27, hM_27⟩ : ∃ z9 : mw_M, z9 = mw_up M_24 q_4 (.inl (gI G, 9, .inl (upd (upd (upd (upd (upd (upd (fun _ => 0) 0 (nI y)) 1 0) 2 (((bH S x) + cl) + 0)) 3 (nI x)) 4 (bW S y)) 5 0))) := ⟨_, rfl⟩
      have hP : mw_P (gD G) gx_cl M_27 H := by rw [hM_27]; exact hP
      have f_28 : M_27 q_4 = some (.inl (gI G, 9, .inl (upd (upd (upd (upd (upd (upd (fun _ => 0) 0 (nI y)) 1 0) 2 (((bH S x) + cl) + 0)) 3 (nI x)) 4 (bW S y)) 5 0))) := by rw [hM_27]; exact mw_self _ _ _
      have x_29 : mw_ext M M_27 := by rw [hM_27]; exact mw_ext.up x_26 n_8 _
      refine lv_dup hx hb dX3_rootShape_121 rfl ?_
      refine lv_bipush (v := 6) hx hb dX3_rootShape_122 (by decide) ?_
      refine lv_iconst (v := (-1)) hx hb dX3_rootShape_124 (by decide) ?_
      refine mw_iast hx hb hK hP hS 0 f_28 (hAn _ hs_6) rfl (by unfold vp_in; decide) dX3_rootShape_125 (fun H locs hP hS => ?_)
      obtain ⟨M_30, hM_30⟩ : ∃ z9 : mw_M, z9 = mw_up M_27 q_4 (.inl (gI G, 9, .inl (upd (upd (upd (upd (upd (upd (upd (fun _ => 0) 0 (nI y)) 1 0) 2 (((bH S x) + cl) + 0)) 3 (nI x)) 4 (bW S y)) 5 0) 6 (-1)))) := ⟨_, rfl⟩
      have hP : mw_P (gD G) gx_cl M_30 H := by rw [hM_30]; exact hP
      have f_31 : M_30 q_4 = some (.inl (gI G, 9, .inl (upd (upd (upd (upd (upd (upd (upd (fun _ => 0) 0 (nI y)) 1 0) 2 (((bH S x) + cl) + 0)) 3 (nI x)) 4 (bW S y)) 5 0) 6 (-1)))) := by rw [hM_30]; exact mw_self _ _ _
      have x_32 : mw_ext M M_30 := by rw [hM_30]; exact mw_ext.up x_29 n_8 _
      refine lv_dup hx hb dX3_rootShape_126 rfl ?_
      refine lv_bipush (v := 7) hx hb dX3_rootShape_127 (by decide) ?_
      refine lv_aload_n hx hb dX3_rootShape_129 rfl (lv_at hl 4 rfl) ?_
      refine lv_iload_n hx hb dX3_rootShape_130 rfl (lv_at hl 6 rfl) ?_
      refine mw_callV (C := RX3) (As := [.int (nI y)]) (rest := [.int 7, .ref q_4, .ref q_4]) hx hb hml hown hl (kX3_widthOf l htr G H.size M_30 f S (fs_R.ext hR x_32) y h_y) (g_B (n := 1) htb wd406 wd1 wd403 (by decide +kernel) ⟨Nat.le_of_ble_eq_true rfl, Nat.le_of_ble_eq_true rfl⟩) (htb _ wd405) (htb _ ws14) hE hP hS (fs_R.this (fs_R.ext hR x_32)) rfl rfl rfl (Nat.le_of_ble_eq_true rfl) dX3_rootShape_131 ⟨Nat.le_of_ble_eq_true rfl, Nat.le_of_ble_eq_true rfl⟩ (fun v9 M9 H locs hpo hP hz hS => ?_) (fun x9 E9 cell9 H9 locs9 hE9 => hE9.elim)
      obtain ⟨rfl, rfl⟩ := hpo
      refine W.eq (g2 := F0 m 134 ls [.int (bW S y), .int 7, .ref q_4, .ref q_4]) rfl ?_
      refine mw_iast hx hb hK hP hS 0 f_31 (hAn _ hs_6) rfl (by unfold vp_in; decide) dX3_rootShape_134 (fun H locs hP hS => ?_)
      obtain ⟨M_33, hM_33⟩ : ∃ z9 : mw_M, z9 = mw_up M_30 q_4 (.inl (gI G, 9, .inl (upd (upd (upd (upd (upd (upd (upd (upd (fun _ => 0) 0 (nI y)) 1 0) 2 (((bH S x) + cl) + 0)) 3 (nI x)) 4 (bW S y)) 5 0) 6 (-1)) 7 (bW S y)))) := ⟨_, rfl⟩
      have hP : mw_P (gD G) gx_cl M_33 H := by rw [hM_33]; exact hP
      have f_34 : M_33 q_4 = some (.inl (gI G, 9, .inl (upd (upd (upd (upd (upd (upd (upd (upd (fun _ => 0) 0 (nI y)) 1 0) 2 (((bH S x) + cl) + 0)) 3 (nI x)) 4 (bW S y)) 5 0) 6 (-1)) 7 (bW S y)))) := by rw [hM_33]; exact mw_self _ _ _
      have x_35 : mw_ext M M_33 := by rw [hM_33]; exact mw_ext.up x_32 n_8 _
      refine lv_dup hx hb dX3_rootShape_135 rfl ?_
      refine lv_bipush (v := 8) hx hb dX3_rootShape_136 (by decide) ?_
      refine lv_iload hx hb dX3_rootShape_138 (lv_at hl 0 rfl) ?_
      refine mw_iast hx hb hK hP hS 0 f_34 (hAn _ hs_6) rfl (by unfold vp_in; decide) dX3_rootShape_140 (fun H locs hP hS => ?_)
      obtain ⟨M_36, hM_36⟩ : ∃ z9 : mw_M, z9 = mw_up M_33 q_4 (.inl (gI G, 9, .inl (upd (upd (upd (upd (upd (upd (upd (upd (upd (fun _ => 0) 0 (nI y)) 1 0) 2 (((bH S x) + cl) + 0)) 3 (nI x)) 4 (bW S y)) 5 0) 6 (-1)) 7 (bW S y)) 8 (((bH S x) + cl) + 0)))) := ⟨_, rfl⟩
      have hP : mw_P (gD G) gx_cl M_36 H := by rw [hM_36]; exact hP
      have f_37 : M_36 q_4 = some (.inl (gI G, 9, .inl (upd (upd (upd (upd (upd (upd (upd (upd (upd (fun _ => 0) 0 (nI y)) 1 0) 2 (((bH S x) + cl) + 0)) 3 (nI x)) 4 (bW S y)) 5 0) 6 (-1)) 7 (bW S y)) 8 (((bH S x) + cl) + 0)))) := by rw [hM_36]; exact mw_self _ _ _
      have x_38 : mw_ext M M_36 := by rw [hM_36]; exact mw_ext.up x_35 n_8 _
      refine lv_astore (lv' := [(9, .ref q_4), (8, .int (((bH S x) + cl) + 0)), (7, .int ((bD S y) - ((fEx S (nI x)) + cl))), (6, .int (bD S y)), (5, .int (bH S y)), (0, .ref (f0 f)), (1, .int (nI x)), (2, .int (nI y)), (3, .int cl), (4, .int tg)]) hx hb dX3_rootShape_141 hl (by decide) rfl (fun ls hl => ?_)
      refine lv_aload_n hx hb dX3_rootShape_143 rfl (lv_at hl 5 rfl) ?_
      refine lv_iload_n hx hb dX3_rootShape_144 rfl (lv_at hl 6 rfl) ?_
      refine mw_callV (C := RX3) (As := [.int (nI x)]) (rest := []) hx hb hml hown hl (kX3_depthOf l htr G H.size M_36 f S (fs_R.ext hR x_38) x h_x) (g_B (n := 1) htb wd397 wd1 wd394 (by decide +kernel) ⟨Nat.le_of_ble_eq_true rfl, Nat.le_of_ble_eq_true rfl⟩) (htb _ wd396) (htb _ ws12) hE hP hS (fs_R.this (fs_R.ext hR x_38)) rfl rfl rfl (Nat.le_of_ble_eq_true rfl) dX3_rootShape_145 ⟨Nat.le_of_ble_eq_true rfl, Nat.le_of_ble_eq_true rfl⟩ (fun v9 M9 H locs hpo hP hz hS => ?_) (fun x9 E9 cell9 H9 locs9 hE9 => hE9.elim)
      obtain ⟨rfl, rfl⟩ := hpo
      refine W.eq (g2 := F0 m 148 ls [.int (bD S x)]) rfl ?_
      refine lv_iload hx hb dX3_rootShape_148 (lv_at hl 3 rfl) ?_
      refine lv_iload hx hb dX3_rootShape_150 (lv_at hl 1 rfl) ?_
      refine lv_isub hx hb dX3_rootShape_152 ?_
      refine va_mmax hx hb (hml.trans hl.1.symm) hown (htb _ wd398) (htb _ wd364) (htb _ wd13) (htb _ wd365) (Nat.le_of_ble_eq_true rfl) (Nat.le_of_ble_eq_true rfl) (Nat.le_of_ble_eq_true rfl) (Nat.le_of_ble_eq_true rfl) dX3_rootShape_153 ?_
      refine W.eq (g2 := F0 m 156 ls [.int (fMx (bD S x) ((bD S y) - (((bH S x) + cl) + 0)))]) rfl ?_
      refine lv_istore (lv' := [(10, .int (fMx (bD S x) ((bD S y) - (((bH S x) + cl) + 0)))), (9, .ref q_4), (8, .int (((bH S x) + cl) + 0)), (7, .int ((bD S y) - ((fEx S (nI x)) + cl))), (6, .int (bD S y)), (5, .int (bH S y)), (0, .ref (f0 f)), (1, .int (nI x)), (2, .int (nI y)), (3, .int cl), (4, .int tg)]) hx hb dX3_rootShape_156 hl (by decide) rfl (fun ls hl => ?_)
      refine mw_new (ci := 0) (fs := [.int 0, .int 0, .int 0, .null, .int 0, .int 0]) (C := RX0) (T := TX0) (N := 6) hx hb htb inX0 tyX0 tyX0_ok hown (htb _ wd22) (htb _ wd215) (htb _ wd10) hK hP hS rfl (fun j hj => by rcases (show j = 0 ∨ j = 1 ∨ j = 2 ∨ j = 3 ∨ j = 4 ∨ j = 5 by omega) with rfl | rfl | rfl | rfl | rfl | rfl <;> rfl) (Nat.le_of_ble_eq_true rfl) (Nat.le_of_ble_eq_true rfl) dX3_rootShape_158 (fun q_39 H hq_40 hs_41 hP hS => ?_)
      obtain ⟨M_42, hM_42⟩ : ∃ z9 : mw_M, z9 = mw_up M_36 q_39 (.inr (0, [.int 0, .int 0, .int 0, .null, .int 0, .int 0])) := ⟨_, rfl⟩
      have hP : mw_P (gD G) gx_cl M_42 H := by rw [hM_42]; exact hP
      have n_43 : M q_39 = none := mw_ext.no x_38 hq_40
      have f_44 : M_42 q_4 = some (.inl (gI G, 9, .inl (upd (upd (upd (upd (upd (upd (upd (upd (upd (fun _ => 0) 0 (nI y)) 1 0) 2 (((bH S x) + cl) + 0)) 3 (nI x)) 4 (bW S y)) 5 0) 6 (-1)) 7 (bW S y)) 8 (((bH S x) + cl) + 0)))) := by rw [hM_42, mw_ne _ _ (fun z => by have z1 := f_37; rw [z, hq_40] at z1; cases z1)]; exact f_37
      have ne_45 : q_4 ≠ q_39 := fun z => by have z1 := f_37; rw [z, hq_40] at z1; cases z1
      have f_46 : M_42 q_39 = some (.inr (0, [.int 0, .int 0, .int 0, .null, .int 0, .int 0])) := by rw [hM_42]; exact mw_self _ _ _
      have x_47 : mw_ext M M_42 := by rw [hM_42]; exact mw_ext.up x_38 n_43 _
      refine lv_dup hx hb dX3_rootShape_161 rfl ?_
      refine lv_aload_n hx hb dX3_rootShape_162 rfl (lv_at hl 6 rfl) ?_
      refine lv_iload_n hx hb dX3_rootShape_163 rfl (lv_at hl 8 rfl) ?_
      refine mw_callV (C := RX3) (As := [.int (nI y)]) (rest := [.ref q_39, .ref q_39]) hx hb hml hown hl (kX3_widthOf l htr G H.size M_42 f S (fs_R.ext hR x_47) y h_y) (g_B (n := 1) htb wd406 wd1 wd403 (by decide +kernel) ⟨Nat.le_of_ble_eq_true rfl, Nat.le_of_ble_eq_true rfl⟩) (htb _ wd405) (htb _ ws14) hE hP hS (fs_R.this (fs_R.ext hR x_47)) rfl rfl rfl (Nat.le_of_ble_eq_true rfl) dX3_rootShape_164 ⟨Nat.le_of_ble_eq_true rfl, Nat.le_of_ble_eq_true rfl⟩ (fun v9 M9 H locs hpo hP hz hS => ?_) (fun x9 E9 cell9 H9 locs9 hE9 => hE9.elim)
      obtain ⟨rfl, rfl⟩ := hpo
      refine W.eq (g2 := F0 m 167 ls [.int (bW S y), .ref q_39, .ref q_39]) rfl ?_
      refine lv_aload_n hx hb dX3_rootShape_167 rfl (lv_at hl 6 rfl) ?_
      refine lv_iload_n hx hb dX3_rootShape_168 rfl (lv_at hl 7 rfl) ?_
      refine mw_callV (C := RX3) (As := [.int (nI x)]) (rest := [.int (bW S y), .ref q_39, .ref q_39]) hx hb hml hown hl (kX3_widthOf l htr G H.size M_42 f S (fs_R.ext hR x_47) x h_x) (g_B (n := 1) htb wd406 wd1 wd403 (by decide +kernel) ⟨Nat.le_of_ble_eq_true rfl, Nat.le_of_ble_eq_true rfl⟩) (htb _ wd405) (htb _ ws14) hE hP hS (fs_R.this (fs_R.ext hR x_47)) rfl rfl rfl (Nat.le_of_ble_eq_true rfl) dX3_rootShape_169 ⟨Nat.le_of_ble_eq_true rfl, Nat.le_of_ble_eq_true rfl⟩ (fun v9 M9 H locs hpo hP hz hS => ?_) (fun x9 E9 cell9 H9 locs9 hE9 => hE9.elim)
      obtain ⟨rfl, rfl⟩ := hpo
      refine W.eq (g2 := F0 m 172 ls [.int (bW S x), .int (bW S y), .ref q_39, .ref q_39]) rfl ?_
      refine lv_iadd hx hb dX3_rootShape_172 ?_
      refine lv_iload hx hb dX3_rootShape_173 (lv_at hl 2 rfl) ?_
      refine lv_iconst (v := 2) hx hb dX3_rootShape_175 (by decide) ?_
      refine lv_iload hx hb dX3_rootShape_176 (lv_at hl 5 rfl) ?_
      refine lv_imul hx hb dX3_rootShape_178 ?_
      refine lv_iadd hx hb dX3_rootShape_179 ?_
      refine lv_iload hx hb dX3_rootShape_180 (lv_at hl 0 rfl) ?_
      refine lv_aload hx hb dX3_rootShape_182 (lv_at hl 1 rfl) ?_
      refine lv_aload_n hx hb dX3_rootShape_184 rfl (lv_at hl 6 rfl) ?_
      refine lv_iload_n hx hb dX3_rootShape_185 rfl (lv_at hl 7 rfl) ?_
      refine mw_callV (C := RX3) (As := [.int (nI x)]) (rest := [.ref q_4, .int (fMx (bD S x) ((bD S y) - (((bH S x) + cl) + 0))), .int ((((bH S x) + cl) + 0) + (2 * (bH S y))), .int ((bW S y) + (bW S x)), .ref q_39, .ref q_39]) hx hb hml hown hl (kX3_widthOf l htr G H.size M_42 f S (fs_R.ext hR x_47) x h_x) (g_B (n := 1) htb wd406 wd1 wd403 (by decide +kernel) ⟨Nat.le_of_ble_eq_true rfl, Nat.le_of_ble_eq_true rfl⟩) (htb _ wd405) (htb _ ws14) hE hP hS (fs_R.this (fs_R.ext hR x_47)) rfl rfl rfl (Nat.le_of_ble_eq_true rfl) dX3_rootShape_186 ⟨Nat.le_of_ble_eq_true rfl, Nat.le_of_ble_eq_true rfl⟩ (fun v9 M9 H locs hpo hP hz hS => ?_) (fun x9 E9 cell9 H9 locs9 hE9 => hE9.elim)
      obtain ⟨rfl, rfl⟩ := hpo
      refine W.eq (g2 := F0 m 189 ls [.int (bW S x), .ref q_4, .int (fMx (bD S x) ((bD S y) - (((bH S x) + cl) + 0))), .int ((((bH S x) + cl) + 0) + (2 * (bH S y))), .int ((bW S y) + (bW S x)), .ref q_39, .ref q_39]) rfl ?_
      refine lv_iload hx hb dX3_rootShape_189 (lv_at hl 5 rfl) ?_
      refine mw_callI (As := [.int ((bW S y) + (bW S x)), .int ((((bH S x) + cl) + 0) + (2 * (bH S y))), .int (fMx (bD S x) ((bD S y) - (((bH S x) + cl) + 0))), .ref q_4, .int (bW S x), .int (bH S y)]) (rest := [.ref q_39]) hx hb hml hown hl (kX0_init_1 l htr G H.size M_42 q_39 (hAn _ hs_41) f_46 ((bW S y) + (bW S x)) ((((bH S x) + cl) + 0) + (2 * (bH S y))) (fMx (bD S x) ((bD S y) - (((bH S x) + cl) + 0))) q_4 (bW S x) (bH S y)) (g_B (n := 6) htb wd223 wd10 wd407 (by decide +kernel) ⟨Nat.le_of_ble_eq_true rfl, Nat.le_of_ble_eq_true rfl⟩) (htb _ wd222) (htb _ wd223) rfl hE hP hS rfl rfl (Nat.le_of_ble_eq_true rfl) dX3_rootShape_191 ⟨Nat.le_of_ble_eq_true rfl, Nat.le_of_ble_eq_true rfl⟩ (fun v9 M9 H locs hpo hP hz hS => ?_) (fun x9 E9 cell9 H9 locs9 hE9 => hE9.elim)
      obtain ⟨rfl, hM9⟩ := hpo
      obtain ⟨M_48, hM_48⟩ : ∃ z9 : mw_M, z9 = mw_up M_42 q_39 (.inr (0, [.int ((bW S y) + (bW S x)), .int ((((bH S x) + cl) + 0) + (2 * (bH S y))), .int (fMx (bD S x) ((bD S y) - (((bH S x) + cl) + 0))), .ref q_4, .int (bW S x), .int (bH S y)])) := ⟨_, rfl⟩
      have hP : mw_P (gD G) gx_cl M_48 H := by rw [hM_48, hM9]; exact hP
      have f_49 : M_48 q_4 = some (.inl (gI G, 9, .inl (upd (upd (upd (upd (upd (upd (upd (upd (upd (fun _ => 0) 0 (nI y)) 1 0) 2 (((bH S x) + cl) + 0)) 3 (nI x)) 4 (bW S y)) 5 0) 6 (-1)) 7 (bW S y)) 8 (((bH S x) + cl) + 0)))) := by rw [hM_48, mw_ne _ _ ne_45]; exact f_44
      have f_50 : M_48 q_39 = some (.inr (0, [.int ((bW S y) + (bW S x)), .int ((((bH S x) + cl) + 0) + (2 * (bH S y))), .int (fMx (bD S x) ((bD S y) - (((bH S x) + cl) + 0))), .ref q_4, .int (bW S x), .int (bH S y)])) := by rw [hM_48]; exact mw_self _ _ _
      have x_51 : mw_ext M M_48 := by rw [hM_48]; exact mw_ext.up x_47 n_43 _
      refine W.eq (g2 := F0 m 194 ls [.ref q_39]) rfl ?_
      have hbx9 : fs_bx G f M_48 q_39 (fs_rs S x y cl tg) := by
        simp only [fs_rs, fs_rs1, fs_rs2, if_pos c_1 , if_pos c_3]
        refine fs_mk f_50 f_49 rfl (fun j hj => ?_) (fun z => hX _ z n_43) (fun z => hX _ z n_8)
        rcases (show j = 0 ∨ j = 1 ∨ j = 2 ∨ j = 3 ∨ j = 4 ∨ j = 5 ∨ j = 6 ∨ j = 7 ∨ j = 8 by omega) with rfl | rfl | rfl | rfl | rfl | rfl | rfl | rfl | rfl <;> rfl
      exact mx_aret (q := q_39) (M' := M_48) hx hb hr (Or.inl ⟨_, rfl⟩) hlocks hP hS ⟨q_39, rfl, x_51, hbx9⟩ dX3_rootShape_194 (Nat.le_of_ble_eq_true rfl) (Nat.le_of_ble_eq_true rfl)
    · refine lv_iload hx hb dX3_rootShape_60 (lv_at hl 0 rfl) ?_
      refine mw_callS (As := [.int ((bD S y) - ((fEx S (nI x)) + cl))]) (rest := [.int ((bH S x) + cl)]) hx hb hml hown hl (kX3_half l htr G H.size M ((bD S y) - ((fEx S (nI x)) + cl))) (g_B (n := 1) htb wd393 wd1 wd391 (by decide +kernel) ⟨Nat.le_of_ble_eq_true rfl, Nat.le_of_ble_eq_true rfl⟩) (htb _ wd392) hE hP hS rfl rfl (Nat.le_of_ble_eq_true rfl) dX3_rootShape_62 ⟨Nat.le_of_ble_eq_true rfl, Nat.le_of_ble_eq_true rfl⟩ (fun v9 M9 H locs hpo hP hz hS => ?_) (fun x9 E9 cell9 H9 locs9 hE9 => hE9.elim)
      obtain ⟨rfl, rfl⟩ := hpo
      refine W.eq (g2 := F0 m 65 ls [.int (fHf ((bD S y) - ((fEx S (nI x)) + cl))), .int ((bH S x) + cl)]) rfl ?_
      refine lv_goto (tgt := 69) hx hb dX3_rootShape_65 (by decide) ?_
      refine lv_iadd hx hb dX3_rootShape_69 ?_
      refine lv_istore (lv' := [(8, .int (((bH S x) + cl) + (fHf ((bD S y) - ((fEx S (nI x)) + cl))))), (7, .int ((bD S y) - ((fEx S (nI x)) + cl))), (6, .int (bD S y)), (5, .int (bH S y)), (0, .ref (f0 f)), (1, .int (nI x)), (2, .int (nI y)), (3, .int cl), (4, .int tg)]) hx hb dX3_rootShape_70 hl (by decide) rfl (fun ls hl => ?_)
      refine lv_bipush (v := 9) hx hb dX3_rootShape_72 (by decide) ?_
      refine mw_newi (N := 9) hx hb (htb _ wd55) hK hP hS 0 rfl (by decide) (by decide) (by decide) (Nat.le_of_ble_eq_true rfl) (Nat.le_of_ble_eq_true rfl) dX3_rootShape_74 (fun q_52 H hq_53 hs_54 hP hS => ?_)
      obtain ⟨M_55, hM_55⟩ : ∃ z9 : mw_M, z9 = mw_up M q_52 (.inl (gI G, 9, .inl (fun _ => 0))) := ⟨_, rfl⟩
      have hP : mw_P (gD G) gx_cl M_55 H := by rw [hM_55]; exact hP
      have n_56 : M q_52 = none := mw_ext.no (mw_ext.rf M) hq_53
      have f_57 : M_55 q_52 = some (.inl (gI G, 9, .inl (fun _ => 0))) := by rw [hM_55]; exact mw_self _ _ _
      have x_58 : mw_ext M M_55 := by rw [hM_55]; exact mw_ext.up (mw_ext.rf M) n_56 _
      refine lv_dup hx hb dX3_rootShape_76 rfl ?_
      refine lv_iconst (v := 0) hx hb dX3_rootShape_77 (by decide) ?_
      refine lv_iload_n hx hb dX3_rootShape_78 rfl (lv_at hl 6 rfl) ?_
      refine mw_iast hx hb hK hP hS 0 f_57 (hAn _ hs_54) rfl (by unfold vp_in; decide) dX3_rootShape_79 (fun H locs hP hS => ?_)
      obtain ⟨M_59, hM_59⟩ : ∃ z9 : mw_M, z9 = mw_up M_55 q_52 (.inl (gI G, 9, .inl (upd (fun _ => 0) 0 (nI y)))) := ⟨_, rfl⟩
      have hP : mw_P (gD G) gx_cl M_59 H := by rw [hM_59]; exact hP
      have f_60 : M_59 q_52 = some (.inl (gI G, 9, .inl (upd (fun _ => 0) 0 (nI y)))) := by rw [hM_59]; exact mw_self _ _ _
      have x_61 : mw_ext M M_59 := by rw [hM_59]; exact mw_ext.up x_58 n_56 _
      refine lv_dup hx hb dX3_rootShape_80 rfl ?_
      refine lv_iconst (v := 1) hx hb dX3_rootShape_81 (by decide) ?_
      refine lv_iconst (v := 0) hx hb dX3_rootShape_82 (by decide) ?_
      refine mw_iast hx hb hK hP hS 0 f_60 (hAn _ hs_54) rfl (by unfold vp_in; decide) dX3_rootShape_83 (fun H locs hP hS => ?_)
      obtain ⟨M_62, hM_62⟩ : ∃ z9 : mw_M, z9 = mw_up M_59 q_52 (.inl (gI G, 9, .inl (upd (upd (fun _ => 0) 0 (nI y)) 1 0))) := ⟨_, rfl⟩
      have hP : mw_P (gD G) gx_cl M_62 H := by rw [hM_62]; exact hP
      have f_63 : M_62 q_52 = some (.inl (gI G, 9, .inl (upd (upd (fun _ => 0) 0 (nI y)) 1 0))) := by rw [hM_62]; exact mw_self _ _ _
      have x_64 : mw_ext M M_62 := by rw [hM_62]; exact mw_ext.up x_61 n_56 _
      refine lv_dup hx hb dX3_rootShape_84 rfl ?_
      refine lv_iconst (v := 2) hx hb dX3_rootShape_85 (by decide) ?_
      refine lv_iload hx hb dX3_rootShape_86 (lv_at hl 8 rfl) ?_
      refine lv_if_eq (tgt := 102) hx hb dX3_rootShape_88 (by decide) (fun c_65 => ?_) (fun c_65 => absurd c_1 c_65)
      refine lv_iload hx hb dX3_rootShape_102 (lv_at hl 0 rfl) ?_
      refine mw_iast hx hb hK hP hS 0 f_63 (hAn _ hs_54) rfl (by unfold vp_in; decide) dX3_rootShape_104 (fun H locs hP hS => ?_)
      obtain ⟨M_66, hM_66⟩ : ∃ z9 : mw_M, z9 = mw_up M_62 q_52 (.inl (gI G, 9, .inl (upd (upd (upd (fun _ => 0) 0 (nI y)) 1 0) 2 (((bH S x) + cl) + (fHf ((bD S y) - ((fEx S (nI x)) + cl))))))) := ⟨_, rfl⟩
      have hP : mw_P (gD G) gx_cl M_66 H := by rw [hM_66]; exact hP
      have f_67 : M_66 q_52 = some (.inl (gI G, 9, .inl (upd (upd (upd (fun _ => 0) 0 (nI y)) 1 0) 2 (((bH S x) + cl) + (fHf ((bD S y) - ((fEx S (nI x)) + cl))))))) := by rw [hM_66]; exact mw_self _ _ _
      have x_68 : mw_ext M M_66 := by rw [hM_66]; exact mw_ext.up x_64 n_56 _
      refine lv_dup hx hb dX3_rootShape_105 rfl ?_
      refine lv_iconst (v := 3) hx hb dX3_rootShape_106 (by decide) ?_
      refine lv_iload_n hx hb dX3_rootShape_107 rfl (lv_at hl 5 rfl) ?_
      refine mw_iast hx hb hK hP hS 0 f_67 (hAn _ hs_54) rfl (by unfold vp_in; decide) dX3_rootShape_108 (fun H locs hP hS => ?_)
      obtain ⟨M_69, hM_69⟩ : ∃ z9 : mw_M, z9 = mw_up M_66 q_52 (.inl (gI G, 9, .inl (upd (upd (upd (upd (fun _ => 0) 0 (nI y)) 1 0) 2 (((bH S x) + cl) + (fHf ((bD S y) - ((fEx S (nI x)) + cl))))) 3 (nI x)))) := ⟨_, rfl⟩
      have hP : mw_P (gD G) gx_cl M_69 H := by rw [hM_69]; exact hP
      have f_70 : M_69 q_52 = some (.inl (gI G, 9, .inl (upd (upd (upd (upd (fun _ => 0) 0 (nI y)) 1 0) 2 (((bH S x) + cl) + (fHf ((bD S y) - ((fEx S (nI x)) + cl))))) 3 (nI x)))) := by rw [hM_69]; exact mw_self _ _ _
      have x_71 : mw_ext M M_69 := by rw [hM_69]; exact mw_ext.up x_68 n_56 _
      refine lv_dup hx hb dX3_rootShape_109 rfl ?_
      refine lv_iconst (v := 4) hx hb dX3_rootShape_110 (by decide) ?_
      refine lv_aload_n hx hb dX3_rootShape_111 rfl (lv_at hl 4 rfl) ?_
      refine lv_iload_n hx hb dX3_rootShape_112 rfl (lv_at hl 6 rfl) ?_
      refine mw_callV (C := RX3) (As := [.int (nI y)]) (rest := [.int 4, .ref q_52, .ref q_52]) hx hb hml hown hl (kX3_widthOf l htr G H.size M_69 f S (fs_R.ext hR x_71) y h_y) (g_B (n := 1) htb wd406 wd1 wd403 (by decide +kernel) ⟨Nat.le_of_ble_eq_true rfl, Nat.le_of_ble_eq_true rfl⟩) (htb _ wd405) (htb _ ws14) hE hP hS (fs_R.this (fs_R.ext hR x_71)) rfl rfl rfl (Nat.le_of_ble_eq_true rfl) dX3_rootShape_113 ⟨Nat.le_of_ble_eq_true rfl, Nat.le_of_ble_eq_true rfl⟩ (fun v9 M9 H locs hpo hP hz hS => ?_) (fun x9 E9 cell9 H9 locs9 hE9 => hE9.elim)
      obtain ⟨rfl, rfl⟩ := hpo
      refine W.eq (g2 := F0 m 116 ls [.int (bW S y), .int 4, .ref q_52, .ref q_52]) rfl ?_
      refine mw_iast hx hb hK hP hS 0 f_70 (hAn _ hs_54) rfl (by unfold vp_in; decide) dX3_rootShape_116 (fun H locs hP hS => ?_)
      obtain ⟨M_72, hM_72⟩ : ∃ z9 : mw_M, z9 = mw_up M_69 q_52 (.inl (gI G, 9, .inl (upd (upd (upd (upd (upd (fun _ => 0) 0 (nI y)) 1 0) 2 (((bH S x) + cl) + (fHf ((bD S y) - ((fEx S (nI x)) + cl))))) 3 (nI x)) 4 (bW S y)))) := ⟨_, rfl⟩
      have hP : mw_P (gD G) gx_cl M_72 H := by rw [hM_72]; exact hP
      have f_73 : M_72 q_52 = some (.inl (gI G, 9, .inl (upd (upd (upd (upd (upd (fun _ => 0) 0 (nI y)) 1 0) 2 (((bH S x) + cl) + (fHf ((bD S y) - ((fEx S (nI x)) + cl))))) 3 (nI x)) 4 (bW S y)))) := by rw [hM_72]; exact mw_self _ _ _
      have x_74 : mw_ext M M_72 := by rw [hM_72]; exact mw_ext.up x_71 n_56 _
      refine lv_dup hx hb dX3_rootShape_117 rfl ?_
      refine lv_iconst (v := 5) hx hb dX3_rootShape_118 (by decide) ?_
      refine lv_iconst (v := 0) hx hb dX3_rootShape_119 (by decide) ?_
      refine mw_iast hx hb hK hP hS 0 f_73 (hAn _ hs_54) rfl (by unfold vp_in; decide) dX3_rootShape_120 (fun H locs hP hS => ?_)
      obtain ⟨M_75, hM_75⟩ : ∃ z9 : mw_M, z9 = mw_up M_72 q_52 (.inl (gI G, 9, .inl (upd (upd (upd (upd (upd (upd (fun _ => 0) 0 (nI y)) 1 0) 2 (((bH S x) + cl) + (fHf ((bD S y) - ((fEx S (nI x)) + cl))))) 3 (nI x)) 4 (bW S y)) 5 0))) := ⟨_, rfl⟩
      have hP : mw_P (gD G) gx_cl M_75 H := by rw [hM_75]; exact hP
      have f_76 : M_75 q_52 = some (.inl (gI G, 9, .inl (upd (upd (upd (upd (upd (upd (fun _ => 0) 0 (nI y)) 1 0) 2 (((bH S x) + cl) + (fHf ((bD S y) - ((fEx S (nI x)) + cl))))) 3 (nI x)) 4 (bW S y)) 5 0))) := by rw [hM_75]; exact mw_self _ _ _
      have x_77 : mw_ext M M_75 := by rw [hM_75]; exact mw_ext.up x_74 n_56 _
      refine lv_dup hx hb dX3_rootShape_121 rfl ?_
      refine lv_bipush (v := 6) hx hb dX3_rootShape_122 (by decide) ?_
      refine lv_iconst (v := (-1)) hx hb dX3_rootShape_124 (by decide) ?_
      refine mw_iast hx hb hK hP hS 0 f_76 (hAn _ hs_54) rfl (by unfold vp_in; decide) dX3_rootShape_125 (fun H locs hP hS => ?_)
      obtain ⟨M_78, hM_78⟩ : ∃ z9 : mw_M, z9 = mw_up M_75 q_52 (.inl (gI G, 9, .inl (upd (upd (upd (upd (upd (upd (upd (fun _ => 0) 0 (nI y)) 1 0) 2 (((bH S x) + cl) + (fHf ((bD S y) - ((fEx S (nI x)) + cl))))) 3 (nI x)) 4 (bW S y)) 5 0) 6 (-1)))) := ⟨_, rfl⟩
      have hP : mw_P (gD G) gx_cl M_78 H := by rw [hM_78]; exact hP
      have f_79 : M_78 q_52 = some (.inl (gI G, 9, .inl (upd (upd (upd (upd (upd (upd (upd (fun _ => 0) 0 (nI y)) 1 0) 2 (((bH S x) + cl) + (fHf ((bD S y) - ((fEx S (nI x)) + cl))))) 3 (nI x)) 4 (bW S y)) 5 0) 6 (-1)))) := by rw [hM_78]; exact mw_self _ _ _
      have x_80 : mw_ext M M_78 := by rw [hM_78]; exact mw_ext.up x_77 n_56 _
      refine lv_dup hx hb dX3_rootShape_126 rfl ?_
      refine lv_bipush (v := 7) hx hb dX3_rootShape_127 (by decide) ?_
      refine lv_aload_n hx hb dX3_rootShape_129 rfl (lv_at hl 4 rfl) ?_
      refine lv_iload_n hx hb dX3_rootShape_130 rfl (lv_at hl 6 rfl) ?_
      refine mw_callV (C := RX3) (As := [.int (nI y)]) (rest := [.int 7, .ref q_52, .ref q_52]) hx hb hml hown hl (kX3_widthOf l htr G H.size M_78 f S (fs_R.ext hR x_80) y h_y) (g_B (n := 1) htb wd406 wd1 wd403 (by decide +kernel) ⟨Nat.le_of_ble_eq_true rfl, Nat.le_of_ble_eq_true rfl⟩) (htb _ wd405) (htb _ ws14) hE hP hS (fs_R.this (fs_R.ext hR x_80)) rfl rfl rfl (Nat.le_of_ble_eq_true rfl) dX3_rootShape_131 ⟨Nat.le_of_ble_eq_true rfl, Nat.le_of_ble_eq_true rfl⟩ (fun v9 M9 H locs hpo hP hz hS => ?_) (fun x9 E9 cell9 H9 locs9 hE9 => hE9.elim)
      obtain ⟨rfl, rfl⟩ := hpo
      refine W.eq (g2 := F0 m 134 ls [.int (bW S y), .int 7, .ref q_52, .ref q_52]) rfl ?_
      refine mw_iast hx hb hK hP hS 0 f_79 (hAn _ hs_54) rfl (by unfold vp_in; decide) dX3_rootShape_134 (fun H locs hP hS => ?_)
      obtain ⟨M_81, hM_81⟩ : ∃ z9 : mw_M, z9 = mw_up M_78 q_52 (.inl (gI G, 9, .inl (upd (upd (upd (upd (upd (upd (upd (upd (fun _ => 0) 0 (nI y)) 1 0) 2 (((bH S x) + cl) + (fHf ((bD S y) - ((fEx S (nI x)) + cl))))) 3 (nI x)) 4 (bW S y)) 5 0) 6 (-1)) 7 (bW S y)))) := ⟨_, rfl⟩
      have hP : mw_P (gD G) gx_cl M_81 H := by rw [hM_81]; exact hP
      have f_82 : M_81 q_52 = some (.inl (gI G, 9, .inl (upd (upd (upd (upd (upd (upd (upd (upd (fun _ => 0) 0 (nI y)) 1 0) 2 (((bH S x) + cl) + (fHf ((bD S y) - ((fEx S (nI x)) + cl))))) 3 (nI x)) 4 (bW S y)) 5 0) 6 (-1)) 7 (bW S y)))) := by rw [hM_81]; exact mw_self _ _ _
      have x_83 : mw_ext M M_81 := by rw [hM_81]; exact mw_ext.up x_80 n_56 _
      refine lv_dup hx hb dX3_rootShape_135 rfl ?_
      refine lv_bipush (v := 8) hx hb dX3_rootShape_136 (by decide) ?_
      refine lv_iload hx hb dX3_rootShape_138 (lv_at hl 0 rfl) ?_
      refine mw_iast hx hb hK hP hS 0 f_82 (hAn _ hs_54) rfl (by unfold vp_in; decide) dX3_rootShape_140 (fun H locs hP hS => ?_)
      obtain ⟨M_84, hM_84⟩ : ∃ z9 : mw_M, z9 = mw_up M_81 q_52 (.inl (gI G, 9, .inl (upd (upd (upd (upd (upd (upd (upd (upd (upd (fun _ => 0) 0 (nI y)) 1 0) 2 (((bH S x) + cl) + (fHf ((bD S y) - ((fEx S (nI x)) + cl))))) 3 (nI x)) 4 (bW S y)) 5 0) 6 (-1)) 7 (bW S y)) 8 (((bH S x) + cl) + (fHf ((bD S y) - ((fEx S (nI x)) + cl))))))) := ⟨_, rfl⟩
      have hP : mw_P (gD G) gx_cl M_84 H := by rw [hM_84]; exact hP
      have f_85 : M_84 q_52 = some (.inl (gI G, 9, .inl (upd (upd (upd (upd (upd (upd (upd (upd (upd (fun _ => 0) 0 (nI y)) 1 0) 2 (((bH S x) + cl) + (fHf ((bD S y) - ((fEx S (nI x)) + cl))))) 3 (nI x)) 4 (bW S y)) 5 0) 6 (-1)) 7 (bW S y)) 8 (((bH S x) + cl) + (fHf ((bD S y) - ((fEx S (nI x)) + cl))))))) := by rw [hM_84]; exact mw_self _ _ _
      have x_86 : mw_ext M M_84 := by rw [hM_84]; exact mw_ext.up x_83 n_56 _
      refine lv_astore (lv' := [(9, .ref q_52), (8, .int (((bH S x) + cl) + (fHf ((bD S y) - ((fEx S (nI x)) + cl))))), (7, .int ((bD S y) - ((fEx S (nI x)) + cl))), (6, .int (bD S y)), (5, .int (bH S y)), (0, .ref (f0 f)), (1, .int (nI x)), (2, .int (nI y)), (3, .int cl), (4, .int tg)]) hx hb dX3_rootShape_141 hl (by decide) rfl (fun ls hl => ?_)
      refine lv_aload_n hx hb dX3_rootShape_143 rfl (lv_at hl 5 rfl) ?_
      refine lv_iload_n hx hb dX3_rootShape_144 rfl (lv_at hl 6 rfl) ?_
      refine mw_callV (C := RX3) (As := [.int (nI x)]) (rest := []) hx hb hml hown hl (kX3_depthOf l htr G H.size M_84 f S (fs_R.ext hR x_86) x h_x) (g_B (n := 1) htb wd397 wd1 wd394 (by decide +kernel) ⟨Nat.le_of_ble_eq_true rfl, Nat.le_of_ble_eq_true rfl⟩) (htb _ wd396) (htb _ ws12) hE hP hS (fs_R.this (fs_R.ext hR x_86)) rfl rfl rfl (Nat.le_of_ble_eq_true rfl) dX3_rootShape_145 ⟨Nat.le_of_ble_eq_true rfl, Nat.le_of_ble_eq_true rfl⟩ (fun v9 M9 H locs hpo hP hz hS => ?_) (fun x9 E9 cell9 H9 locs9 hE9 => hE9.elim)
      obtain ⟨rfl, rfl⟩ := hpo
      refine W.eq (g2 := F0 m 148 ls [.int (bD S x)]) rfl ?_
      refine lv_iload hx hb dX3_rootShape_148 (lv_at hl 3 rfl) ?_
      refine lv_iload hx hb dX3_rootShape_150 (lv_at hl 1 rfl) ?_
      refine lv_isub hx hb dX3_rootShape_152 ?_
      refine va_mmax hx hb (hml.trans hl.1.symm) hown (htb _ wd398) (htb _ wd364) (htb _ wd13) (htb _ wd365) (Nat.le_of_ble_eq_true rfl) (Nat.le_of_ble_eq_true rfl) (Nat.le_of_ble_eq_true rfl) (Nat.le_of_ble_eq_true rfl) dX3_rootShape_153 ?_
      refine W.eq (g2 := F0 m 156 ls [.int (fMx (bD S x) ((bD S y) - (((bH S x) + cl) + (fHf ((bD S y) - ((fEx S (nI x)) + cl))))))]) rfl ?_
      refine lv_istore (lv' := [(10, .int (fMx (bD S x) ((bD S y) - (((bH S x) + cl) + (fHf ((bD S y) - ((fEx S (nI x)) + cl))))))), (9, .ref q_52), (8, .int (((bH S x) + cl) + (fHf ((bD S y) - ((fEx S (nI x)) + cl))))), (7, .int ((bD S y) - ((fEx S (nI x)) + cl))), (6, .int (bD S y)), (5, .int (bH S y)), (0, .ref (f0 f)), (1, .int (nI x)), (2, .int (nI y)), (3, .int cl), (4, .int tg)]) hx hb dX3_rootShape_156 hl (by decide) rfl (fun ls hl => ?_)
      refine mw_new (ci := 0) (fs := [.int 0, .int 0, .int 0, .null, .int 0, .int 0]) (C := RX0) (T := TX0) (N := 6) hx hb htb inX0 tyX0 tyX0_ok hown (htb _ wd22) (htb _ wd215) (htb _ wd10) hK hP hS rfl (fun j hj => by rcases (show j = 0 ∨ j = 1 ∨ j = 2 ∨ j = 3 ∨ j = 4 ∨ j = 5 by omega) with rfl | rfl | rfl | rfl | rfl | rfl <;> rfl) (Nat.le_of_ble_eq_true rfl) (Nat.le_of_ble_eq_true rfl) dX3_rootShape_158 (fun q_87 H hq_88 hs_89 hP hS => ?_)
      obtain ⟨M_90, hM_90⟩ : ∃ z9 : mw_M, z9 = mw_up M_84 q_87 (.inr (0, [.int 0, .int 0, .int 0, .null, .int 0, .int 0])) := ⟨_, rfl⟩
      have hP : mw_P (gD G) gx_cl M_90 H := by rw [hM_90]; exact hP
      have n_91 : M q_87 = none := mw_ext.no x_86 hq_88
      have f_92 : M_90 q_52 = some (.inl (gI G, 9, .inl (upd (upd (upd (upd (upd (upd (upd (upd (upd (fun _ => 0) 0 (nI y)) 1 0) 2 (((bH S x) + cl) + (fHf ((bD S y) - ((fEx S (nI x)) + cl))))) 3 (nI x)) 4 (bW S y)) 5 0) 6 (-1)) 7 (bW S y)) 8 (((bH S x) + cl) + (fHf ((bD S y) - ((fEx S (nI x)) + cl))))))) := by rw [hM_90, mw_ne _ _ (fun z => by have z1 := f_85; rw [z, hq_88] at z1; cases z1)]; exact f_85
      have ne_93 : q_52 ≠ q_87 := fun z => by have z1 := f_85; rw [z, hq_88] at z1; cases z1
      have f_94 : M_90 q_87 = some (.inr (0, [.int 0, .int 0, .int 0, .null, .int 0, .int 0])) := by rw [hM_90]; exact mw_self _ _ _
      have x_95 : mw_ext M M_90 := by rw [hM_90]; exact mw_ext.up x_86 n_91 _
      refine lv_dup hx hb dX3_rootShape_161 rfl ?_
      refine lv_aload_n hx hb dX3_rootShape_162 rfl (lv_at hl 6 rfl) ?_
      refine lv_iload_n hx hb dX3_rootShape_163 rfl (lv_at hl 8 rfl) ?_
      refine mw_callV (C := RX3) (As := [.int (nI y)]) (rest := [.ref q_87, .ref q_87]) hx hb hml hown hl (kX3_widthOf l htr G H.size M_90 f S (fs_R.ext hR x_95) y h_y) (g_B (n := 1) htb wd406 wd1 wd403 (by decide +kernel) ⟨Nat.le_of_ble_eq_true rfl, Nat.le_of_ble_eq_true rfl⟩) (htb _ wd405) (htb _ ws14) hE hP hS (fs_R.this (fs_R.ext hR x_95)) rfl rfl rfl (Nat.le_of_ble_eq_true rfl) dX3_rootShape_164 ⟨Nat.le_of_ble_eq_true rfl, Nat.le_of_ble_eq_true rfl⟩ (fun v9 M9 H locs hpo hP hz hS => ?_) (fun x9 E9 cell9 H9 locs9 hE9 => hE9.elim)
      obtain ⟨rfl, rfl⟩ := hpo
      refine W.eq (g2 := F0 m 167 ls [.int (bW S y), .ref q_87, .ref q_87]) rfl ?_
      refine lv_aload_n hx hb dX3_rootShape_167 rfl (lv_at hl 6 rfl) ?_
      refine lv_iload_n hx hb dX3_rootShape_168 rfl (lv_at hl 7 rfl) ?_
      refine mw_callV (C := RX3) (As := [.int (nI x)]) (rest := [.int (bW S y), .ref q_87, .ref q_87]) hx hb hml hown hl (kX3_widthOf l htr G H.size M_90 f S (fs_R.ext hR x_95) x h_x) (g_B (n := 1) htb wd406 wd1 wd403 (by decide +kernel) ⟨Nat.le_of_ble_eq_true rfl, Nat.le_of_ble_eq_true rfl⟩) (htb _ wd405) (htb _ ws14) hE hP hS (fs_R.this (fs_R.ext hR x_95)) rfl rfl rfl (Nat.le_of_ble_eq_true rfl) dX3_rootShape_169 ⟨Nat.le_of_ble_eq_true rfl, Nat.le_of_ble_eq_true rfl⟩ (fun v9 M9 H locs hpo hP hz hS => ?_) (fun x9 E9 cell9 H9 locs9 hE9 => hE9.elim)
      obtain ⟨rfl, rfl⟩ := hpo
      refine W.eq (g2 := F0 m 172 ls [.int (bW S x), .int (bW S y), .ref q_87, .ref q_87]) rfl ?_
      refine lv_iadd hx hb dX3_rootShape_172 ?_
      refine lv_iload hx hb dX3_rootShape_173 (lv_at hl 2 rfl) ?_
      refine lv_iconst (v := 2) hx hb dX3_rootShape_175 (by decide) ?_
      refine lv_iload hx hb dX3_rootShape_176 (lv_at hl 5 rfl) ?_
      refine lv_imul hx hb dX3_rootShape_178 ?_
      refine lv_iadd hx hb dX3_rootShape_179 ?_
      refine lv_iload hx hb dX3_rootShape_180 (lv_at hl 0 rfl) ?_
      refine lv_aload hx hb dX3_rootShape_182 (lv_at hl 1 rfl) ?_
      refine lv_aload_n hx hb dX3_rootShape_184 rfl (lv_at hl 6 rfl) ?_
      refine lv_iload_n hx hb dX3_rootShape_185 rfl (lv_at hl 7 rfl) ?_
      refine mw_callV (C := RX3) (As := [.int (nI x)]) (rest := [.ref q_52, .int (fMx (bD S x) ((bD S y) - (((bH S x) + cl) + (fHf ((bD S y) - ((fEx S (nI x)) + cl)))))), .int ((((bH S x) + cl) + (fHf ((bD S y) - ((fEx S (nI x)) + cl)))) + (2 * (bH S y))), .int ((bW S y) + (bW S x)), .ref q_87, .ref q_87]) hx hb hml hown hl (kX3_widthOf l htr G H.size M_90 f S (fs_R.ext hR x_95) x h_x) (g_B (n := 1) htb wd406 wd1 wd403 (by decide +kernel) ⟨Nat.le_of_ble_eq_true rfl, Nat.le_of_ble_eq_true rfl⟩) (htb _ wd405) (htb _ ws14) hE hP hS (fs_R.this (fs_R.ext hR x_95)) rfl rfl rfl (Nat.le_of_ble_eq_true rfl) dX3_rootShape_186 ⟨Nat.le_of_ble_eq_true rfl, Nat.le_of_ble_eq_true rfl⟩ (fun v9 M9 H locs hpo hP hz hS => ?_) (fun x9 E9 cell9 H9 locs9 hE9 => hE9.elim)
      obtain ⟨rfl, rfl⟩ := hpo
      refine W.eq (g2 := F0 m 189 ls [.int (bW S x), .ref q_52, .int (fMx (bD S x) ((bD S y) - (((bH S x) + cl) + (fHf ((bD S y) - ((fEx S (nI x)) + cl)))))), .int ((((bH S x) + cl) + (fHf ((bD S y) - ((fEx S (nI x)) + cl)))) + (2 * (bH S y))), .int ((bW S y) + (bW S x)), .ref q_87, .ref q_87]) rfl ?_
      refine lv_iload hx hb dX3_rootShape_189 (lv_at hl 5 rfl) ?_
      refine mw_callI (As := [.int ((bW S y) + (bW S x)), .int ((((bH S x) + cl) + (fHf ((bD S y) - ((fEx S (nI x)) + cl)))) + (2 * (bH S y))), .int (fMx (bD S x) ((bD S y) - (((bH S x) + cl) + (fHf ((bD S y) - ((fEx S (nI x)) + cl)))))), .ref q_52, .int (bW S x), .int (bH S y)]) (rest := [.ref q_87]) hx hb hml hown hl (kX0_init_1 l htr G H.size M_90 q_87 (hAn _ hs_89) f_94 ((bW S y) + (bW S x)) ((((bH S x) + cl) + (fHf ((bD S y) - ((fEx S (nI x)) + cl)))) + (2 * (bH S y))) (fMx (bD S x) ((bD S y) - (((bH S x) + cl) + (fHf ((bD S y) - ((fEx S (nI x)) + cl)))))) q_52 (bW S x) (bH S y)) (g_B (n := 6) htb wd223 wd10 wd407 (by decide +kernel) ⟨Nat.le_of_ble_eq_true rfl, Nat.le_of_ble_eq_true rfl⟩) (htb _ wd222) (htb _ wd223) rfl hE hP hS rfl rfl (Nat.le_of_ble_eq_true rfl) dX3_rootShape_191 ⟨Nat.le_of_ble_eq_true rfl, Nat.le_of_ble_eq_true rfl⟩ (fun v9 M9 H locs hpo hP hz hS => ?_) (fun x9 E9 cell9 H9 locs9 hE9 => hE9.elim)
      obtain ⟨rfl, hM9⟩ := hpo
      obtain ⟨M_96, hM_96⟩ : ∃ z9 : mw_M, z9 = mw_up M_90 q_87 (.inr (0, [.int ((bW S y) + (bW S x)), .int ((((bH S x) + cl) + (fHf ((bD S y) - ((fEx S (nI x)) + cl)))) + (2 * (bH S y))), .int (fMx (bD S x) ((bD S y) - (((bH S x) + cl) + (fHf ((bD S y) - ((fEx S (nI x)) + cl)))))), .ref q_52, .int (bW S x), .int (bH S y)])) := ⟨_, rfl⟩
      have hP : mw_P (gD G) gx_cl M_96 H := by rw [hM_96, hM9]; exact hP
      have f_97 : M_96 q_52 = some (.inl (gI G, 9, .inl (upd (upd (upd (upd (upd (upd (upd (upd (upd (fun _ => 0) 0 (nI y)) 1 0) 2 (((bH S x) + cl) + (fHf ((bD S y) - ((fEx S (nI x)) + cl))))) 3 (nI x)) 4 (bW S y)) 5 0) 6 (-1)) 7 (bW S y)) 8 (((bH S x) + cl) + (fHf ((bD S y) - ((fEx S (nI x)) + cl))))))) := by rw [hM_96, mw_ne _ _ ne_93]; exact f_92
      have f_98 : M_96 q_87 = some (.inr (0, [.int ((bW S y) + (bW S x)), .int ((((bH S x) + cl) + (fHf ((bD S y) - ((fEx S (nI x)) + cl)))) + (2 * (bH S y))), .int (fMx (bD S x) ((bD S y) - (((bH S x) + cl) + (fHf ((bD S y) - ((fEx S (nI x)) + cl)))))), .ref q_52, .int (bW S x), .int (bH S y)])) := by rw [hM_96]; exact mw_self _ _ _
      have x_99 : mw_ext M M_96 := by rw [hM_96]; exact mw_ext.up x_95 n_91 _
      refine W.eq (g2 := F0 m 194 ls [.ref q_87]) rfl ?_
      have hbx9 : fs_bx G f M_96 q_87 (fs_rs S x y cl tg) := by
        simp only [fs_rs, fs_rs1, fs_rs2, if_pos c_1 , if_neg c_3]
        refine fs_mk f_98 f_97 rfl (fun j hj => ?_) (fun z => hX _ z n_91) (fun z => hX _ z n_56)
        rcases (show j = 0 ∨ j = 1 ∨ j = 2 ∨ j = 3 ∨ j = 4 ∨ j = 5 ∨ j = 6 ∨ j = 7 ∨ j = 8 by omega) with rfl | rfl | rfl | rfl | rfl | rfl | rfl | rfl | rfl <;> rfl
      exact mx_aret (q := q_87) (M' := M_96) hx hb hr (Or.inl ⟨_, rfl⟩) hlocks hP hS ⟨q_87, rfl, x_99, hbx9⟩ dX3_rootShape_194 (Nat.le_of_ble_eq_true rfl) (Nat.le_of_ble_eq_true rfl)
  · refine lv_iconst (v := 0) hx hb dX3_rootShape_5 (by decide) ?_
    refine lv_goto (tgt := 14) hx hb dX3_rootShape_6 (by decide) ?_
    refine lv_istore (lv' := [(5, .int 0), (0, .ref (f0 f)), (1, .int (nI x)), (2, .int (nI y)), (3, .int cl), (4, .int tg)]) hx hb dX3_rootShape_14 hl (by decide) rfl (fun ls hl => ?_)
    refine lv_iload hx hb dX3_rootShape_16 (lv_at hl 5 rfl) ?_
    refine lv_if_eq (tgt := 29) hx hb dX3_rootShape_18 (by decide) (fun c_100 => absurd c_100 c_1) (fun c_100 => ?_)
    refine lv_aload_n hx hb dX3_rootShape_21 rfl (lv_at hl 1 rfl) ?_
    refine lv_iload_n hx hb dX3_rootShape_22 rfl (lv_at hl 3 rfl) ?_
    refine mw_callV (C := RX3) (As := [.int (nI y)]) (rest := []) hx hb hml hown hl (kX3_heightOf l htr G s.heap.size M f S hR y h_y) (g_B (n := 1) htb wd402 wd1 wd399 (by decide +kernel) ⟨Nat.le_of_ble_eq_true rfl, Nat.le_of_ble_eq_true rfl⟩) (htb _ wd401) (htb _ ws13) hE hP hS (fs_R.this hR) rfl rfl rfl (Nat.le_of_ble_eq_true rfl) dX3_rootShape_23 ⟨Nat.le_of_ble_eq_true rfl, Nat.le_of_ble_eq_true rfl⟩ (fun v9 M9 H locs hpo hP hz hS => ?_) (fun x9 E9 cell9 H9 locs9 hE9 => hE9.elim)
    obtain ⟨rfl, rfl⟩ := hpo
    refine W.eq (g2 := F0 m 26 ls [.int (bH S y)]) rfl ?_
    refine lv_goto (tgt := 34) hx hb dX3_rootShape_26 (by decide) ?_
    refine lv_istore (lv' := [(6, .int (bH S y)), (5, .int 0), (0, .ref (f0 f)), (1, .int (nI x)), (2, .int (nI y)), (3, .int cl), (4, .int tg)]) hx hb dX3_rootShape_34 hl (by decide) rfl (fun ls hl => ?_)
    refine lv_iload hx hb dX3_rootShape_36 (lv_at hl 0 rfl) ?_
    refine lv_aload_n hx hb dX3_rootShape_38 rfl (lv_at hl 2 rfl) ?_
    refine lv_iload_n hx hb dX3_rootShape_39 rfl (lv_at hl 3 rfl) ?_
    refine mw_callV (C := RX3) (As := [.int (nI x)]) (rest := [.int (bH S y)]) hx hb hml hown hl (kX3_extentOf l htr G H.size M f S hR (nI x) (Or.inr ⟨x, h_x, rfl⟩)) (g_B (n := 1) htb wd288 wd1 wd285 (by decide +kernel) ⟨Nat.le_of_ble_eq_true rfl, Nat.le_of_ble_eq_true rfl⟩) (htb _ wd287) (htb _ ws5) hE hP hS (fs_R.this hR) rfl rfl rfl (Nat.le_of_ble_eq_true rfl) dX3_rootShape_40 ⟨Nat.le_of_ble_eq_true rfl, Nat.le_of_ble_eq_true rfl⟩ (fun v9 M9 H locs hpo hP hz hS => ?_) (fun x9 E9 cell9 H9 locs9 hE9 => hE9.elim)
    obtain ⟨rfl, rfl⟩ := hpo
    refine W.eq (g2 := F0 m 43 ls [.int (fEx S (nI x)), .int (bH S y)]) rfl ?_
    refine lv_iload_n hx hb dX3_rootShape_43 rfl (lv_at hl 5 rfl) ?_
    refine lv_iadd hx hb dX3_rootShape_44 ?_
    refine lv_isub hx hb dX3_rootShape_45 ?_
    refine lv_istore (lv' := [(7, .int ((bH S y) - ((fEx S (nI x)) + cl))), (6, .int (bH S y)), (5, .int 0), (0, .ref (f0 f)), (1, .int (nI x)), (2, .int (nI y)), (3, .int cl), (4, .int tg)]) hx hb dX3_rootShape_46 hl (by decide) rfl (fun ls hl => ?_)
    refine lv_aload_n hx hb dX3_rootShape_48 rfl (lv_at hl 3 rfl) ?_
    refine lv_iload_n hx hb dX3_rootShape_49 rfl (lv_at hl 4 rfl) ?_
    refine mw_callV (C := RX3) (As := [.int (nI x)]) (rest := []) hx hb hml hown hl (kX3_heightOf l htr G H.size M f S hR x h_x) (g_B (n := 1) htb wd402 wd1 wd399 (by decide +kernel) ⟨Nat.le_of_ble_eq_true rfl, Nat.le_of_ble_eq_true rfl⟩) (htb _ wd401) (htb _ ws13) hE hP hS (fs_R.this hR) rfl rfl rfl (Nat.le_of_ble_eq_true rfl) dX3_rootShape_50 ⟨Nat.le_of_ble_eq_true rfl, Nat.le_of_ble_eq_true rfl⟩ (fun v9 M9 H locs hpo hP hz hS => ?_) (fun x9 E9 cell9 H9 locs9 hE9 => hE9.elim)
    obtain ⟨rfl, rfl⟩ := hpo
    refine W.eq (g2 := F0 m 53 ls [.int (bH S x)]) rfl ?_
    refine lv_iload_n hx hb dX3_rootShape_53 rfl (lv_at hl 6 rfl) ?_
    refine lv_iadd hx hb dX3_rootShape_54 ?_
    refine lv_iload hx hb dX3_rootShape_55 (lv_at hl 0 rfl) ?_
    refine lv_if_le (tgt := 68) hx hb dX3_rootShape_57 (by decide) (fun c_101 => ?_) (fun c_101 => ?_)
    · refine lv_iconst (v := 0) hx hb dX3_rootShape_68 (by decide) ?_
      refine lv_iadd hx hb dX3_rootShape_69 ?_
      refine lv_istore (lv' := [(8, .int (((bH S x) + cl) + 0)), (7, .int ((bH S y) - ((fEx S (nI x)) + cl))), (6, .int (bH S y)), (5, .int 0), (0, .ref (f0 f)), (1, .int (nI x)), (2, .int (nI y)), (3, .int cl), (4, .int tg)]) hx hb dX3_rootShape_70 hl (by decide) rfl (fun ls hl => ?_)
      refine lv_bipush (v := 9) hx hb dX3_rootShape_72 (by decide) ?_
      refine mw_newi (N := 9) hx hb (htb _ wd55) hK hP hS 0 rfl (by decide) (by decide) (by decide) (Nat.le_of_ble_eq_true rfl) (Nat.le_of_ble_eq_true rfl) dX3_rootShape_74 (fun q_102 H hq_103 hs_104 hP hS => ?_)
      obtain ⟨M_105, hM_105⟩ : ∃ z9 : mw_M, z9 = mw_up M q_102 (.inl (gI G, 9, .inl (fun _ => 0))) := ⟨_, rfl⟩
      have hP : mw_P (gD G) gx_cl M_105 H := by rw [hM_105]; exact hP
      have n_106 : M q_102 = none := mw_ext.no (mw_ext.rf M) hq_103
      have f_107 : M_105 q_102 = some (.inl (gI G, 9, .inl (fun _ => 0))) := by rw [hM_105]; exact mw_self _ _ _
      have x_108 : mw_ext M M_105 := by rw [hM_105]; exact mw_ext.up (mw_ext.rf M) n_106 _
      refine lv_dup hx hb dX3_rootShape_76 rfl ?_
      refine lv_iconst (v := 0) hx hb dX3_rootShape_77 (by decide) ?_
      refine lv_iload_n hx hb dX3_rootShape_78 rfl (lv_at hl 6 rfl) ?_
      refine mw_iast hx hb hK hP hS 0 f_107 (hAn _ hs_104) rfl (by unfold vp_in; decide) dX3_rootShape_79 (fun H locs hP hS => ?_)
      obtain ⟨M_109, hM_109⟩ : ∃ z9 : mw_M, z9 = mw_up M_105 q_102 (.inl (gI G, 9, .inl (upd (fun _ => 0) 0 (nI y)))) := ⟨_, rfl⟩
      have hP : mw_P (gD G) gx_cl M_109 H := by rw [hM_109]; exact hP
      have f_110 : M_109 q_102 = some (.inl (gI G, 9, .inl (upd (fun _ => 0) 0 (nI y)))) := by rw [hM_109]; exact mw_self _ _ _
      have x_111 : mw_ext M M_109 := by rw [hM_109]; exact mw_ext.up x_108 n_106 _
      refine lv_dup hx hb dX3_rootShape_80 rfl ?_
      refine lv_iconst (v := 1) hx hb dX3_rootShape_81 (by decide) ?_
      refine lv_iconst (v := 0) hx hb dX3_rootShape_82 (by decide) ?_
      refine mw_iast hx hb hK hP hS 0 f_110 (hAn _ hs_104) rfl (by unfold vp_in; decide) dX3_rootShape_83 (fun H locs hP hS => ?_)
      obtain ⟨M_112, hM_112⟩ : ∃ z9 : mw_M, z9 = mw_up M_109 q_102 (.inl (gI G, 9, .inl (upd (upd (fun _ => 0) 0 (nI y)) 1 0))) := ⟨_, rfl⟩
      have hP : mw_P (gD G) gx_cl M_112 H := by rw [hM_112]; exact hP
      have f_113 : M_112 q_102 = some (.inl (gI G, 9, .inl (upd (upd (fun _ => 0) 0 (nI y)) 1 0))) := by rw [hM_112]; exact mw_self _ _ _
      have x_114 : mw_ext M M_112 := by rw [hM_112]; exact mw_ext.up x_111 n_106 _
      refine lv_dup hx hb dX3_rootShape_84 rfl ?_
      refine lv_iconst (v := 2) hx hb dX3_rootShape_85 (by decide) ?_
      refine lv_iload hx hb dX3_rootShape_86 (lv_at hl 8 rfl) ?_
      refine lv_if_eq (tgt := 102) hx hb dX3_rootShape_88 (by decide) (fun c_115 => absurd c_115 c_1) (fun c_115 => ?_)
      refine lv_iload hx hb dX3_rootShape_91 (lv_at hl 0 rfl) ?_
      refine lv_aload_n hx hb dX3_rootShape_93 rfl (lv_at hl 4 rfl) ?_
      refine lv_iload_n hx hb dX3_rootShape_94 rfl (lv_at hl 6 rfl) ?_
      refine mw_callV (C := RX3) (As := [.int (nI y)]) (rest := [.int (((bH S x) + cl) + 0), .int 2, .ref q_102, .ref q_102]) hx hb hml hown hl (kX3_heightOf l htr G H.size M_112 f S (fs_R.ext hR x_114) y h_y) (g_B (n := 1) htb wd402 wd1 wd399 (by decide +kernel) ⟨Nat.le_of_ble_eq_true rfl, Nat.le_of_ble_eq_true rfl⟩) (htb _ wd401) (htb _ ws13) hE hP hS (fs_R.this (fs_R.ext hR x_114)) rfl rfl rfl (Nat.le_of_ble_eq_true rfl) dX3_rootShape_95 ⟨Nat.le_of_ble_eq_true rfl, Nat.le_of_ble_eq_true rfl⟩ (fun v9 M9 H locs hpo hP hz hS => ?_) (fun x9 E9 cell9 H9 locs9 hE9 => hE9.elim)
      obtain ⟨rfl, rfl⟩ := hpo
      refine W.eq (g2 := F0 m 98 ls [.int (bH S y), .int (((bH S x) + cl) + 0), .int 2, .ref q_102, .ref q_102]) rfl ?_
      refine lv_isub hx hb dX3_rootShape_98 ?_
      refine lv_goto (tgt := 104) hx hb dX3_rootShape_99 (by decide) ?_
      refine mw_iast hx hb hK hP hS 0 f_113 (hAn _ hs_104) rfl (by unfold vp_in; decide) dX3_rootShape_104 (fun H locs hP hS => ?_)
      obtain ⟨M_116, hM_116⟩ : ∃ z9 : mw_M, z9 = mw_up M_112 q_102 (.inl (gI G, 9, .inl (upd (upd (upd (fun _ => 0) 0 (nI y)) 1 0) 2 ((((bH S x) + cl) + 0) - (bH S y))))) := ⟨_, rfl⟩
      have hP : mw_P (gD G) gx_cl M_116 H := by rw [hM_116]; exact hP
      have f_117 : M_116 q_102 = some (.inl (gI G, 9, .inl (upd (upd (upd (fun _ => 0) 0 (nI y)) 1 0) 2 ((((bH S x) + cl) + 0) - (bH S y))))) := by rw [hM_116]; exact mw_self _ _ _
      have x_118 : mw_ext M M_116 := by rw [hM_116]; exact mw_ext.up x_114 n_106 _
      refine lv_dup hx hb dX3_rootShape_105 rfl ?_
      refine lv_iconst (v := 3) hx hb dX3_rootShape_106 (by decide) ?_
      refine lv_iload_n hx hb dX3_rootShape_107 rfl (lv_at hl 5 rfl) ?_
      refine mw_iast hx hb hK hP hS 0 f_117 (hAn _ hs_104) rfl (by unfold vp_in; decide) dX3_rootShape_108 (fun H locs hP hS => ?_)
      obtain ⟨M_119, hM_119⟩ : ∃ z9 : mw_M, z9 = mw_up M_116 q_102 (.inl (gI G, 9, .inl (upd (upd (upd (upd (fun _ => 0) 0 (nI y)) 1 0) 2 ((((bH S x) + cl) + 0) - (bH S y))) 3 (nI x)))) := ⟨_, rfl⟩
      have hP : mw_P (gD G) gx_cl M_119 H := by rw [hM_119]; exact hP
      have f_120 : M_119 q_102 = some (.inl (gI G, 9, .inl (upd (upd (upd (upd (fun _ => 0) 0 (nI y)) 1 0) 2 ((((bH S x) + cl) + 0) - (bH S y))) 3 (nI x)))) := by rw [hM_119]; exact mw_self _ _ _
      have x_121 : mw_ext M M_119 := by rw [hM_119]; exact mw_ext.up x_118 n_106 _
      refine lv_dup hx hb dX3_rootShape_109 rfl ?_
      refine lv_iconst (v := 4) hx hb dX3_rootShape_110 (by decide) ?_
      refine lv_aload_n hx hb dX3_rootShape_111 rfl (lv_at hl 4 rfl) ?_
      refine lv_iload_n hx hb dX3_rootShape_112 rfl (lv_at hl 6 rfl) ?_
      refine mw_callV (C := RX3) (As := [.int (nI y)]) (rest := [.int 4, .ref q_102, .ref q_102]) hx hb hml hown hl (kX3_widthOf l htr G H.size M_119 f S (fs_R.ext hR x_121) y h_y) (g_B (n := 1) htb wd406 wd1 wd403 (by decide +kernel) ⟨Nat.le_of_ble_eq_true rfl, Nat.le_of_ble_eq_true rfl⟩) (htb _ wd405) (htb _ ws14) hE hP hS (fs_R.this (fs_R.ext hR x_121)) rfl rfl rfl (Nat.le_of_ble_eq_true rfl) dX3_rootShape_113 ⟨Nat.le_of_ble_eq_true rfl, Nat.le_of_ble_eq_true rfl⟩ (fun v9 M9 H locs hpo hP hz hS => ?_) (fun x9 E9 cell9 H9 locs9 hE9 => hE9.elim)
      obtain ⟨rfl, rfl⟩ := hpo
      refine W.eq (g2 := F0 m 116 ls [.int (bW S y), .int 4, .ref q_102, .ref q_102]) rfl ?_
      refine mw_iast hx hb hK hP hS 0 f_120 (hAn _ hs_104) rfl (by unfold vp_in; decide) dX3_rootShape_116 (fun H locs hP hS => ?_)
      obtain ⟨M_122, hM_122⟩ : ∃ z9 : mw_M, z9 = mw_up M_119 q_102 (.inl (gI G, 9, .inl (upd (upd (upd (upd (upd (fun _ => 0) 0 (nI y)) 1 0) 2 ((((bH S x) + cl) + 0) - (bH S y))) 3 (nI x)) 4 (bW S y)))) := ⟨_, rfl⟩
      have hP : mw_P (gD G) gx_cl M_122 H := by rw [hM_122]; exact hP
      have f_123 : M_122 q_102 = some (.inl (gI G, 9, .inl (upd (upd (upd (upd (upd (fun _ => 0) 0 (nI y)) 1 0) 2 ((((bH S x) + cl) + 0) - (bH S y))) 3 (nI x)) 4 (bW S y)))) := by rw [hM_122]; exact mw_self _ _ _
      have x_124 : mw_ext M M_122 := by rw [hM_122]; exact mw_ext.up x_121 n_106 _
      refine lv_dup hx hb dX3_rootShape_117 rfl ?_
      refine lv_iconst (v := 5) hx hb dX3_rootShape_118 (by decide) ?_
      refine lv_iconst (v := 0) hx hb dX3_rootShape_119 (by decide) ?_
      refine mw_iast hx hb hK hP hS 0 f_123 (hAn _ hs_104) rfl (by unfold vp_in; decide) dX3_rootShape_120 (fun H locs hP hS => ?_)
      obtain ⟨M_125, hM_125⟩ : ∃ z9 : mw_M, z9 = mw_up M_122 q_102 (.inl (gI G, 9, .inl (upd (upd (upd (upd (upd (upd (fun _ => 0) 0 (nI y)) 1 0) 2 ((((bH S x) + cl) + 0) - (bH S y))) 3 (nI x)) 4 (bW S y)) 5 0))) := ⟨_, rfl⟩
      have hP : mw_P (gD G) gx_cl M_125 H := by rw [hM_125]; exact hP
      have f_126 : M_125 q_102 = some (.inl (gI G, 9, .inl (upd (upd (upd (upd (upd (upd (fun _ => 0) 0 (nI y)) 1 0) 2 ((((bH S x) + cl) + 0) - (bH S y))) 3 (nI x)) 4 (bW S y)) 5 0))) := by rw [hM_125]; exact mw_self _ _ _
      have x_127 : mw_ext M M_125 := by rw [hM_125]; exact mw_ext.up x_124 n_106 _
      refine lv_dup hx hb dX3_rootShape_121 rfl ?_
      refine lv_bipush (v := 6) hx hb dX3_rootShape_122 (by decide) ?_
      refine lv_iconst (v := (-1)) hx hb dX3_rootShape_124 (by decide) ?_
      refine mw_iast hx hb hK hP hS 0 f_126 (hAn _ hs_104) rfl (by unfold vp_in; decide) dX3_rootShape_125 (fun H locs hP hS => ?_)
      obtain ⟨M_128, hM_128⟩ : ∃ z9 : mw_M, z9 = mw_up M_125 q_102 (.inl (gI G, 9, .inl (upd (upd (upd (upd (upd (upd (upd (fun _ => 0) 0 (nI y)) 1 0) 2 ((((bH S x) + cl) + 0) - (bH S y))) 3 (nI x)) 4 (bW S y)) 5 0) 6 (-1)))) := ⟨_, rfl⟩
      have hP : mw_P (gD G) gx_cl M_128 H := by rw [hM_128]; exact hP
      have f_129 : M_128 q_102 = some (.inl (gI G, 9, .inl (upd (upd (upd (upd (upd (upd (upd (fun _ => 0) 0 (nI y)) 1 0) 2 ((((bH S x) + cl) + 0) - (bH S y))) 3 (nI x)) 4 (bW S y)) 5 0) 6 (-1)))) := by rw [hM_128]; exact mw_self _ _ _
      have x_130 : mw_ext M M_128 := by rw [hM_128]; exact mw_ext.up x_127 n_106 _
      refine lv_dup hx hb dX3_rootShape_126 rfl ?_
      refine lv_bipush (v := 7) hx hb dX3_rootShape_127 (by decide) ?_
      refine lv_aload_n hx hb dX3_rootShape_129 rfl (lv_at hl 4 rfl) ?_
      refine lv_iload_n hx hb dX3_rootShape_130 rfl (lv_at hl 6 rfl) ?_
      refine mw_callV (C := RX3) (As := [.int (nI y)]) (rest := [.int 7, .ref q_102, .ref q_102]) hx hb hml hown hl (kX3_widthOf l htr G H.size M_128 f S (fs_R.ext hR x_130) y h_y) (g_B (n := 1) htb wd406 wd1 wd403 (by decide +kernel) ⟨Nat.le_of_ble_eq_true rfl, Nat.le_of_ble_eq_true rfl⟩) (htb _ wd405) (htb _ ws14) hE hP hS (fs_R.this (fs_R.ext hR x_130)) rfl rfl rfl (Nat.le_of_ble_eq_true rfl) dX3_rootShape_131 ⟨Nat.le_of_ble_eq_true rfl, Nat.le_of_ble_eq_true rfl⟩ (fun v9 M9 H locs hpo hP hz hS => ?_) (fun x9 E9 cell9 H9 locs9 hE9 => hE9.elim)
      obtain ⟨rfl, rfl⟩ := hpo
      refine W.eq (g2 := F0 m 134 ls [.int (bW S y), .int 7, .ref q_102, .ref q_102]) rfl ?_
      refine mw_iast hx hb hK hP hS 0 f_129 (hAn _ hs_104) rfl (by unfold vp_in; decide) dX3_rootShape_134 (fun H locs hP hS => ?_)
      obtain ⟨M_131, hM_131⟩ : ∃ z9 : mw_M, z9 = mw_up M_128 q_102 (.inl (gI G, 9, .inl (upd (upd (upd (upd (upd (upd (upd (upd (fun _ => 0) 0 (nI y)) 1 0) 2 ((((bH S x) + cl) + 0) - (bH S y))) 3 (nI x)) 4 (bW S y)) 5 0) 6 (-1)) 7 (bW S y)))) := ⟨_, rfl⟩
      have hP : mw_P (gD G) gx_cl M_131 H := by rw [hM_131]; exact hP
      have f_132 : M_131 q_102 = some (.inl (gI G, 9, .inl (upd (upd (upd (upd (upd (upd (upd (upd (fun _ => 0) 0 (nI y)) 1 0) 2 ((((bH S x) + cl) + 0) - (bH S y))) 3 (nI x)) 4 (bW S y)) 5 0) 6 (-1)) 7 (bW S y)))) := by rw [hM_131]; exact mw_self _ _ _
      have x_133 : mw_ext M M_131 := by rw [hM_131]; exact mw_ext.up x_130 n_106 _
      refine lv_dup hx hb dX3_rootShape_135 rfl ?_
      refine lv_bipush (v := 8) hx hb dX3_rootShape_136 (by decide) ?_
      refine lv_iload hx hb dX3_rootShape_138 (lv_at hl 0 rfl) ?_
      refine mw_iast hx hb hK hP hS 0 f_132 (hAn _ hs_104) rfl (by unfold vp_in; decide) dX3_rootShape_140 (fun H locs hP hS => ?_)
      obtain ⟨M_134, hM_134⟩ : ∃ z9 : mw_M, z9 = mw_up M_131 q_102 (.inl (gI G, 9, .inl (upd (upd (upd (upd (upd (upd (upd (upd (upd (fun _ => 0) 0 (nI y)) 1 0) 2 ((((bH S x) + cl) + 0) - (bH S y))) 3 (nI x)) 4 (bW S y)) 5 0) 6 (-1)) 7 (bW S y)) 8 (((bH S x) + cl) + 0)))) := ⟨_, rfl⟩
      have hP : mw_P (gD G) gx_cl M_134 H := by rw [hM_134]; exact hP
      have f_135 : M_134 q_102 = some (.inl (gI G, 9, .inl (upd (upd (upd (upd (upd (upd (upd (upd (upd (fun _ => 0) 0 (nI y)) 1 0) 2 ((((bH S x) + cl) + 0) - (bH S y))) 3 (nI x)) 4 (bW S y)) 5 0) 6 (-1)) 7 (bW S y)) 8 (((bH S x) + cl) + 0)))) := by rw [hM_134]; exact mw_self _ _ _
      have x_136 : mw_ext M M_134 := by rw [hM_134]; exact mw_ext.up x_133 n_106 _
      refine lv_astore (lv' := [(9, .ref q_102), (8, .int (((bH S x) + cl) + 0)), (7, .int ((bH S y) - ((fEx S (nI x)) + cl))), (6, .int (bH S y)), (5, .int 0), (0, .ref (f0 f)), (1, .int (nI x)), (2, .int (nI y)), (3, .int cl), (4, .int tg)]) hx hb dX3_rootShape_141 hl (by decide) rfl (fun ls hl => ?_)
      refine lv_aload_n hx hb dX3_rootShape_143 rfl (lv_at hl 5 rfl) ?_
      refine lv_iload_n hx hb dX3_rootShape_144 rfl (lv_at hl 6 rfl) ?_
      refine mw_callV (C := RX3) (As := [.int (nI x)]) (rest := []) hx hb hml hown hl (kX3_depthOf l htr G H.size M_134 f S (fs_R.ext hR x_136) x h_x) (g_B (n := 1) htb wd397 wd1 wd394 (by decide +kernel) ⟨Nat.le_of_ble_eq_true rfl, Nat.le_of_ble_eq_true rfl⟩) (htb _ wd396) (htb _ ws12) hE hP hS (fs_R.this (fs_R.ext hR x_136)) rfl rfl rfl (Nat.le_of_ble_eq_true rfl) dX3_rootShape_145 ⟨Nat.le_of_ble_eq_true rfl, Nat.le_of_ble_eq_true rfl⟩ (fun v9 M9 H locs hpo hP hz hS => ?_) (fun x9 E9 cell9 H9 locs9 hE9 => hE9.elim)
      obtain ⟨rfl, rfl⟩ := hpo
      refine W.eq (g2 := F0 m 148 ls [.int (bD S x)]) rfl ?_
      refine lv_iload hx hb dX3_rootShape_148 (lv_at hl 3 rfl) ?_
      refine lv_iload hx hb dX3_rootShape_150 (lv_at hl 1 rfl) ?_
      refine lv_isub hx hb dX3_rootShape_152 ?_
      refine va_mmax hx hb (hml.trans hl.1.symm) hown (htb _ wd398) (htb _ wd364) (htb _ wd13) (htb _ wd365) (Nat.le_of_ble_eq_true rfl) (Nat.le_of_ble_eq_true rfl) (Nat.le_of_ble_eq_true rfl) (Nat.le_of_ble_eq_true rfl) dX3_rootShape_153 ?_
      refine W.eq (g2 := F0 m 156 ls [.int (fMx (bD S x) ((bH S y) - (((bH S x) + cl) + 0)))]) rfl ?_
      refine lv_istore (lv' := [(10, .int (fMx (bD S x) ((bH S y) - (((bH S x) + cl) + 0)))), (9, .ref q_102), (8, .int (((bH S x) + cl) + 0)), (7, .int ((bH S y) - ((fEx S (nI x)) + cl))), (6, .int (bH S y)), (5, .int 0), (0, .ref (f0 f)), (1, .int (nI x)), (2, .int (nI y)), (3, .int cl), (4, .int tg)]) hx hb dX3_rootShape_156 hl (by decide) rfl (fun ls hl => ?_)
      refine mw_new (ci := 0) (fs := [.int 0, .int 0, .int 0, .null, .int 0, .int 0]) (C := RX0) (T := TX0) (N := 6) hx hb htb inX0 tyX0 tyX0_ok hown (htb _ wd22) (htb _ wd215) (htb _ wd10) hK hP hS rfl (fun j hj => by rcases (show j = 0 ∨ j = 1 ∨ j = 2 ∨ j = 3 ∨ j = 4 ∨ j = 5 by omega) with rfl | rfl | rfl | rfl | rfl | rfl <;> rfl) (Nat.le_of_ble_eq_true rfl) (Nat.le_of_ble_eq_true rfl) dX3_rootShape_158 (fun q_137 H hq_138 hs_139 hP hS => ?_)
      obtain ⟨M_140, hM_140⟩ : ∃ z9 : mw_M, z9 = mw_up M_134 q_137 (.inr (0, [.int 0, .int 0, .int 0, .null, .int 0, .int 0])) := ⟨_, rfl⟩
      have hP : mw_P (gD G) gx_cl M_140 H := by rw [hM_140]; exact hP
      have n_141 : M q_137 = none := mw_ext.no x_136 hq_138
      have f_142 : M_140 q_102 = some (.inl (gI G, 9, .inl (upd (upd (upd (upd (upd (upd (upd (upd (upd (fun _ => 0) 0 (nI y)) 1 0) 2 ((((bH S x) + cl) + 0) - (bH S y))) 3 (nI x)) 4 (bW S y)) 5 0) 6 (-1)) 7 (bW S y)) 8 (((bH S x) + cl) + 0)))) := by rw [hM_140, mw_ne _ _ (fun z => by have z1 := f_135; rw [z, hq_138] at z1; cases z1)]; exact f_135
      have ne_143 : q_102 ≠ q_137 := fun z => by have z1 := f_135; rw [z, hq_138] at z1; cases z1
      have f_144 : M_140 q_137 = some (.inr (0, [.int 0, .int 0, .int 0, .null, .int 0, .int 0])) := by rw [hM_140]; exact mw_self _ _ _
      have x_145 : mw_ext M M_140 := by rw [hM_140]; exact mw_ext.up x_136 n_141 _
      refine lv_dup hx hb dX3_rootShape_161 rfl ?_
      refine lv_aload_n hx hb dX3_rootShape_162 rfl (lv_at hl 6 rfl) ?_
      refine lv_iload_n hx hb dX3_rootShape_163 rfl (lv_at hl 8 rfl) ?_
      refine mw_callV (C := RX3) (As := [.int (nI y)]) (rest := [.ref q_137, .ref q_137]) hx hb hml hown hl (kX3_widthOf l htr G H.size M_140 f S (fs_R.ext hR x_145) y h_y) (g_B (n := 1) htb wd406 wd1 wd403 (by decide +kernel) ⟨Nat.le_of_ble_eq_true rfl, Nat.le_of_ble_eq_true rfl⟩) (htb _ wd405) (htb _ ws14) hE hP hS (fs_R.this (fs_R.ext hR x_145)) rfl rfl rfl (Nat.le_of_ble_eq_true rfl) dX3_rootShape_164 ⟨Nat.le_of_ble_eq_true rfl, Nat.le_of_ble_eq_true rfl⟩ (fun v9 M9 H locs hpo hP hz hS => ?_) (fun x9 E9 cell9 H9 locs9 hE9 => hE9.elim)
      obtain ⟨rfl, rfl⟩ := hpo
      refine W.eq (g2 := F0 m 167 ls [.int (bW S y), .ref q_137, .ref q_137]) rfl ?_
      refine lv_aload_n hx hb dX3_rootShape_167 rfl (lv_at hl 6 rfl) ?_
      refine lv_iload_n hx hb dX3_rootShape_168 rfl (lv_at hl 7 rfl) ?_
      refine mw_callV (C := RX3) (As := [.int (nI x)]) (rest := [.int (bW S y), .ref q_137, .ref q_137]) hx hb hml hown hl (kX3_widthOf l htr G H.size M_140 f S (fs_R.ext hR x_145) x h_x) (g_B (n := 1) htb wd406 wd1 wd403 (by decide +kernel) ⟨Nat.le_of_ble_eq_true rfl, Nat.le_of_ble_eq_true rfl⟩) (htb _ wd405) (htb _ ws14) hE hP hS (fs_R.this (fs_R.ext hR x_145)) rfl rfl rfl (Nat.le_of_ble_eq_true rfl) dX3_rootShape_169 ⟨Nat.le_of_ble_eq_true rfl, Nat.le_of_ble_eq_true rfl⟩ (fun v9 M9 H locs hpo hP hz hS => ?_) (fun x9 E9 cell9 H9 locs9 hE9 => hE9.elim)
      obtain ⟨rfl, rfl⟩ := hpo
      refine W.eq (g2 := F0 m 172 ls [.int (bW S x), .int (bW S y), .ref q_137, .ref q_137]) rfl ?_
      refine lv_iadd hx hb dX3_rootShape_172 ?_
      refine lv_iload hx hb dX3_rootShape_173 (lv_at hl 2 rfl) ?_
      refine lv_iconst (v := 2) hx hb dX3_rootShape_175 (by decide) ?_
      refine lv_iload hx hb dX3_rootShape_176 (lv_at hl 5 rfl) ?_
      refine lv_imul hx hb dX3_rootShape_178 ?_
      refine lv_iadd hx hb dX3_rootShape_179 ?_
      refine lv_iload hx hb dX3_rootShape_180 (lv_at hl 0 rfl) ?_
      refine lv_aload hx hb dX3_rootShape_182 (lv_at hl 1 rfl) ?_
      refine lv_aload_n hx hb dX3_rootShape_184 rfl (lv_at hl 6 rfl) ?_
      refine lv_iload_n hx hb dX3_rootShape_185 rfl (lv_at hl 7 rfl) ?_
      refine mw_callV (C := RX3) (As := [.int (nI x)]) (rest := [.ref q_102, .int (fMx (bD S x) ((bH S y) - (((bH S x) + cl) + 0))), .int ((((bH S x) + cl) + 0) + (2 * 0)), .int ((bW S y) + (bW S x)), .ref q_137, .ref q_137]) hx hb hml hown hl (kX3_widthOf l htr G H.size M_140 f S (fs_R.ext hR x_145) x h_x) (g_B (n := 1) htb wd406 wd1 wd403 (by decide +kernel) ⟨Nat.le_of_ble_eq_true rfl, Nat.le_of_ble_eq_true rfl⟩) (htb _ wd405) (htb _ ws14) hE hP hS (fs_R.this (fs_R.ext hR x_145)) rfl rfl rfl (Nat.le_of_ble_eq_true rfl) dX3_rootShape_186 ⟨Nat.le_of_ble_eq_true rfl, Nat.le_of_ble_eq_true rfl⟩ (fun v9 M9 H locs hpo hP hz hS => ?_) (fun x9 E9 cell9 H9 locs9 hE9 => hE9.elim)
      obtain ⟨rfl, rfl⟩ := hpo
      refine W.eq (g2 := F0 m 189 ls [.int (bW S x), .ref q_102, .int (fMx (bD S x) ((bH S y) - (((bH S x) + cl) + 0))), .int ((((bH S x) + cl) + 0) + (2 * 0)), .int ((bW S y) + (bW S x)), .ref q_137, .ref q_137]) rfl ?_
      refine lv_iload hx hb dX3_rootShape_189 (lv_at hl 5 rfl) ?_
      refine mw_callI (As := [.int ((bW S y) + (bW S x)), .int ((((bH S x) + cl) + 0) + (2 * 0)), .int (fMx (bD S x) ((bH S y) - (((bH S x) + cl) + 0))), .ref q_102, .int (bW S x), .int 0]) (rest := [.ref q_137]) hx hb hml hown hl (kX0_init_1 l htr G H.size M_140 q_137 (hAn _ hs_139) f_144 ((bW S y) + (bW S x)) ((((bH S x) + cl) + 0) + (2 * 0)) (fMx (bD S x) ((bH S y) - (((bH S x) + cl) + 0))) q_102 (bW S x) 0) (g_B (n := 6) htb wd223 wd10 wd407 (by decide +kernel) ⟨Nat.le_of_ble_eq_true rfl, Nat.le_of_ble_eq_true rfl⟩) (htb _ wd222) (htb _ wd223) rfl hE hP hS rfl rfl (Nat.le_of_ble_eq_true rfl) dX3_rootShape_191 ⟨Nat.le_of_ble_eq_true rfl, Nat.le_of_ble_eq_true rfl⟩ (fun v9 M9 H locs hpo hP hz hS => ?_) (fun x9 E9 cell9 H9 locs9 hE9 => hE9.elim)
      obtain ⟨rfl, hM9⟩ := hpo
      obtain ⟨M_146, hM_146⟩ : ∃ z9 : mw_M, z9 = mw_up M_140 q_137 (.inr (0, [.int ((bW S y) + (bW S x)), .int ((((bH S x) + cl) + 0) + (2 * 0)), .int (fMx (bD S x) ((bH S y) - (((bH S x) + cl) + 0))), .ref q_102, .int (bW S x), .int 0])) := ⟨_, rfl⟩
      have hP : mw_P (gD G) gx_cl M_146 H := by rw [hM_146, hM9]; exact hP
      have f_147 : M_146 q_102 = some (.inl (gI G, 9, .inl (upd (upd (upd (upd (upd (upd (upd (upd (upd (fun _ => 0) 0 (nI y)) 1 0) 2 ((((bH S x) + cl) + 0) - (bH S y))) 3 (nI x)) 4 (bW S y)) 5 0) 6 (-1)) 7 (bW S y)) 8 (((bH S x) + cl) + 0)))) := by rw [hM_146, mw_ne _ _ ne_143]; exact f_142
      have f_148 : M_146 q_137 = some (.inr (0, [.int ((bW S y) + (bW S x)), .int ((((bH S x) + cl) + 0) + (2 * 0)), .int (fMx (bD S x) ((bH S y) - (((bH S x) + cl) + 0))), .ref q_102, .int (bW S x), .int 0])) := by rw [hM_146]; exact mw_self _ _ _
      have x_149 : mw_ext M M_146 := by rw [hM_146]; exact mw_ext.up x_145 n_141 _
      refine W.eq (g2 := F0 m 194 ls [.ref q_137]) rfl ?_
      have hbx9 : fs_bx G f M_146 q_137 (fs_rs S x y cl tg) := by
        simp only [fs_rs, fs_rs1, fs_rs2, if_neg c_1 , if_pos c_101]
        refine fs_mk f_148 f_147 rfl (fun j hj => ?_) (fun z => hX _ z n_141) (fun z => hX _ z n_106)
        rcases (show j = 0 ∨ j = 1 ∨ j = 2 ∨ j = 3 ∨ j = 4 ∨ j = 5 ∨ j = 6 ∨ j = 7 ∨ j = 8 by omega) with rfl | rfl | rfl | rfl | rfl | rfl | rfl | rfl | rfl <;> rfl
      exact mx_aret (q := q_137) (M' := M_146) hx hb hr (Or.inl ⟨_, rfl⟩) hlocks hP hS ⟨q_137, rfl, x_149, hbx9⟩ dX3_rootShape_194 (Nat.le_of_ble_eq_true rfl) (Nat.le_of_ble_eq_true rfl)
    · refine lv_iload hx hb dX3_rootShape_60 (lv_at hl 0 rfl) ?_
      refine mw_callS (As := [.int ((bH S y) - ((fEx S (nI x)) + cl))]) (rest := [.int ((bH S x) + cl)]) hx hb hml hown hl (kX3_half l htr G H.size M ((bH S y) - ((fEx S (nI x)) + cl))) (g_B (n := 1) htb wd393 wd1 wd391 (by decide +kernel) ⟨Nat.le_of_ble_eq_true rfl, Nat.le_of_ble_eq_true rfl⟩) (htb _ wd392) hE hP hS rfl rfl (Nat.le_of_ble_eq_true rfl) dX3_rootShape_62 ⟨Nat.le_of_ble_eq_true rfl, Nat.le_of_ble_eq_true rfl⟩ (fun v9 M9 H locs hpo hP hz hS => ?_) (fun x9 E9 cell9 H9 locs9 hE9 => hE9.elim)
      obtain ⟨rfl, rfl⟩ := hpo
      refine W.eq (g2 := F0 m 65 ls [.int (fHf ((bH S y) - ((fEx S (nI x)) + cl))), .int ((bH S x) + cl)]) rfl ?_
      refine lv_goto (tgt := 69) hx hb dX3_rootShape_65 (by decide) ?_
      refine lv_iadd hx hb dX3_rootShape_69 ?_
      refine lv_istore (lv' := [(8, .int (((bH S x) + cl) + (fHf ((bH S y) - ((fEx S (nI x)) + cl))))), (7, .int ((bH S y) - ((fEx S (nI x)) + cl))), (6, .int (bH S y)), (5, .int 0), (0, .ref (f0 f)), (1, .int (nI x)), (2, .int (nI y)), (3, .int cl), (4, .int tg)]) hx hb dX3_rootShape_70 hl (by decide) rfl (fun ls hl => ?_)
      refine lv_bipush (v := 9) hx hb dX3_rootShape_72 (by decide) ?_
      refine mw_newi (N := 9) hx hb (htb _ wd55) hK hP hS 0 rfl (by decide) (by decide) (by decide) (Nat.le_of_ble_eq_true rfl) (Nat.le_of_ble_eq_true rfl) dX3_rootShape_74 (fun q_150 H hq_151 hs_152 hP hS => ?_)
      obtain ⟨M_153, hM_153⟩ : ∃ z9 : mw_M, z9 = mw_up M q_150 (.inl (gI G, 9, .inl (fun _ => 0))) := ⟨_, rfl⟩
      have hP : mw_P (gD G) gx_cl M_153 H := by rw [hM_153]; exact hP
      have n_154 : M q_150 = none := mw_ext.no (mw_ext.rf M) hq_151
      have f_155 : M_153 q_150 = some (.inl (gI G, 9, .inl (fun _ => 0))) := by rw [hM_153]; exact mw_self _ _ _
      have x_156 : mw_ext M M_153 := by rw [hM_153]; exact mw_ext.up (mw_ext.rf M) n_154 _
      refine lv_dup hx hb dX3_rootShape_76 rfl ?_
      refine lv_iconst (v := 0) hx hb dX3_rootShape_77 (by decide) ?_
      refine lv_iload_n hx hb dX3_rootShape_78 rfl (lv_at hl 6 rfl) ?_
      refine mw_iast hx hb hK hP hS 0 f_155 (hAn _ hs_152) rfl (by unfold vp_in; decide) dX3_rootShape_79 (fun H locs hP hS => ?_)
      obtain ⟨M_157, hM_157⟩ : ∃ z9 : mw_M, z9 = mw_up M_153 q_150 (.inl (gI G, 9, .inl (upd (fun _ => 0) 0 (nI y)))) := ⟨_, rfl⟩
      have hP : mw_P (gD G) gx_cl M_157 H := by rw [hM_157]; exact hP
      have f_158 : M_157 q_150 = some (.inl (gI G, 9, .inl (upd (fun _ => 0) 0 (nI y)))) := by rw [hM_157]; exact mw_self _ _ _
      have x_159 : mw_ext M M_157 := by rw [hM_157]; exact mw_ext.up x_156 n_154 _
      refine lv_dup hx hb dX3_rootShape_80 rfl ?_
      refine lv_iconst (v := 1) hx hb dX3_rootShape_81 (by decide) ?_
      refine lv_iconst (v := 0) hx hb dX3_rootShape_82 (by decide) ?_
      refine mw_iast hx hb hK hP hS 0 f_158 (hAn _ hs_152) rfl (by unfold vp_in; decide) dX3_rootShape_83 (fun H locs hP hS => ?_)
      obtain ⟨M_160, hM_160⟩ : ∃ z9 : mw_M, z9 = mw_up M_157 q_150 (.inl (gI G, 9, .inl (upd (upd (fun _ => 0) 0 (nI y)) 1 0))) := ⟨_, rfl⟩
      have hP : mw_P (gD G) gx_cl M_160 H := by rw [hM_160]; exact hP
      have f_161 : M_160 q_150 = some (.inl (gI G, 9, .inl (upd (upd (fun _ => 0) 0 (nI y)) 1 0))) := by rw [hM_160]; exact mw_self _ _ _
      have x_162 : mw_ext M M_160 := by rw [hM_160]; exact mw_ext.up x_159 n_154 _
      refine lv_dup hx hb dX3_rootShape_84 rfl ?_
      refine lv_iconst (v := 2) hx hb dX3_rootShape_85 (by decide) ?_
      refine lv_iload hx hb dX3_rootShape_86 (lv_at hl 8 rfl) ?_
      refine lv_if_eq (tgt := 102) hx hb dX3_rootShape_88 (by decide) (fun c_163 => absurd c_163 c_1) (fun c_163 => ?_)
      refine lv_iload hx hb dX3_rootShape_91 (lv_at hl 0 rfl) ?_
      refine lv_aload_n hx hb dX3_rootShape_93 rfl (lv_at hl 4 rfl) ?_
      refine lv_iload_n hx hb dX3_rootShape_94 rfl (lv_at hl 6 rfl) ?_
      refine mw_callV (C := RX3) (As := [.int (nI y)]) (rest := [.int (((bH S x) + cl) + (fHf ((bH S y) - ((fEx S (nI x)) + cl)))), .int 2, .ref q_150, .ref q_150]) hx hb hml hown hl (kX3_heightOf l htr G H.size M_160 f S (fs_R.ext hR x_162) y h_y) (g_B (n := 1) htb wd402 wd1 wd399 (by decide +kernel) ⟨Nat.le_of_ble_eq_true rfl, Nat.le_of_ble_eq_true rfl⟩) (htb _ wd401) (htb _ ws13) hE hP hS (fs_R.this (fs_R.ext hR x_162)) rfl rfl rfl (Nat.le_of_ble_eq_true rfl) dX3_rootShape_95 ⟨Nat.le_of_ble_eq_true rfl, Nat.le_of_ble_eq_true rfl⟩ (fun v9 M9 H locs hpo hP hz hS => ?_) (fun x9 E9 cell9 H9 locs9 hE9 => hE9.elim)
      obtain ⟨rfl, rfl⟩ := hpo
      refine W.eq (g2 := F0 m 98 ls [.int (bH S y), .int (((bH S x) + cl) + (fHf ((bH S y) - ((fEx S (nI x)) + cl)))), .int 2, .ref q_150, .ref q_150]) rfl ?_
      refine lv_isub hx hb dX3_rootShape_98 ?_
      refine lv_goto (tgt := 104) hx hb dX3_rootShape_99 (by decide) ?_
      refine mw_iast hx hb hK hP hS 0 f_161 (hAn _ hs_152) rfl (by unfold vp_in; decide) dX3_rootShape_104 (fun H locs hP hS => ?_)
      obtain ⟨M_164, hM_164⟩ : ∃ z9 : mw_M, z9 = mw_up M_160 q_150 (.inl (gI G, 9, .inl (upd (upd (upd (fun _ => 0) 0 (nI y)) 1 0) 2 ((((bH S x) + cl) + (fHf ((bH S y) - ((fEx S (nI x)) + cl)))) - (bH S y))))) := ⟨_, rfl⟩
      have hP : mw_P (gD G) gx_cl M_164 H := by rw [hM_164]; exact hP
      have f_165 : M_164 q_150 = some (.inl (gI G, 9, .inl (upd (upd (upd (fun _ => 0) 0 (nI y)) 1 0) 2 ((((bH S x) + cl) + (fHf ((bH S y) - ((fEx S (nI x)) + cl)))) - (bH S y))))) := by rw [hM_164]; exact mw_self _ _ _
      have x_166 : mw_ext M M_164 := by rw [hM_164]; exact mw_ext.up x_162 n_154 _
      refine lv_dup hx hb dX3_rootShape_105 rfl ?_
      refine lv_iconst (v := 3) hx hb dX3_rootShape_106 (by decide) ?_
      refine lv_iload_n hx hb dX3_rootShape_107 rfl (lv_at hl 5 rfl) ?_
      refine mw_iast hx hb hK hP hS 0 f_165 (hAn _ hs_152) rfl (by unfold vp_in; decide) dX3_rootShape_108 (fun H locs hP hS => ?_)
      obtain ⟨M_167, hM_167⟩ : ∃ z9 : mw_M, z9 = mw_up M_164 q_150 (.inl (gI G, 9, .inl (upd (upd (upd (upd (fun _ => 0) 0 (nI y)) 1 0) 2 ((((bH S x) + cl) + (fHf ((bH S y) - ((fEx S (nI x)) + cl)))) - (bH S y))) 3 (nI x)))) := ⟨_, rfl⟩
      have hP : mw_P (gD G) gx_cl M_167 H := by rw [hM_167]; exact hP
      have f_168 : M_167 q_150 = some (.inl (gI G, 9, .inl (upd (upd (upd (upd (fun _ => 0) 0 (nI y)) 1 0) 2 ((((bH S x) + cl) + (fHf ((bH S y) - ((fEx S (nI x)) + cl)))) - (bH S y))) 3 (nI x)))) := by rw [hM_167]; exact mw_self _ _ _
      have x_169 : mw_ext M M_167 := by rw [hM_167]; exact mw_ext.up x_166 n_154 _
      refine lv_dup hx hb dX3_rootShape_109 rfl ?_
      refine lv_iconst (v := 4) hx hb dX3_rootShape_110 (by decide) ?_
      refine lv_aload_n hx hb dX3_rootShape_111 rfl (lv_at hl 4 rfl) ?_
      refine lv_iload_n hx hb dX3_rootShape_112 rfl (lv_at hl 6 rfl) ?_
      refine mw_callV (C := RX3) (As := [.int (nI y)]) (rest := [.int 4, .ref q_150, .ref q_150]) hx hb hml hown hl (kX3_widthOf l htr G H.size M_167 f S (fs_R.ext hR x_169) y h_y) (g_B (n := 1) htb wd406 wd1 wd403 (by decide +kernel) ⟨Nat.le_of_ble_eq_true rfl, Nat.le_of_ble_eq_true rfl⟩) (htb _ wd405) (htb _ ws14) hE hP hS (fs_R.this (fs_R.ext hR x_169)) rfl rfl rfl (Nat.le_of_ble_eq_true rfl) dX3_rootShape_113 ⟨Nat.le_of_ble_eq_true rfl, Nat.le_of_ble_eq_true rfl⟩ (fun v9 M9 H locs hpo hP hz hS => ?_) (fun x9 E9 cell9 H9 locs9 hE9 => hE9.elim)
      obtain ⟨rfl, rfl⟩ := hpo
      refine W.eq (g2 := F0 m 116 ls [.int (bW S y), .int 4, .ref q_150, .ref q_150]) rfl ?_
      refine mw_iast hx hb hK hP hS 0 f_168 (hAn _ hs_152) rfl (by unfold vp_in; decide) dX3_rootShape_116 (fun H locs hP hS => ?_)
      obtain ⟨M_170, hM_170⟩ : ∃ z9 : mw_M, z9 = mw_up M_167 q_150 (.inl (gI G, 9, .inl (upd (upd (upd (upd (upd (fun _ => 0) 0 (nI y)) 1 0) 2 ((((bH S x) + cl) + (fHf ((bH S y) - ((fEx S (nI x)) + cl)))) - (bH S y))) 3 (nI x)) 4 (bW S y)))) := ⟨_, rfl⟩
      have hP : mw_P (gD G) gx_cl M_170 H := by rw [hM_170]; exact hP
      have f_171 : M_170 q_150 = some (.inl (gI G, 9, .inl (upd (upd (upd (upd (upd (fun _ => 0) 0 (nI y)) 1 0) 2 ((((bH S x) + cl) + (fHf ((bH S y) - ((fEx S (nI x)) + cl)))) - (bH S y))) 3 (nI x)) 4 (bW S y)))) := by rw [hM_170]; exact mw_self _ _ _
      have x_172 : mw_ext M M_170 := by rw [hM_170]; exact mw_ext.up x_169 n_154 _
      refine lv_dup hx hb dX3_rootShape_117 rfl ?_
      refine lv_iconst (v := 5) hx hb dX3_rootShape_118 (by decide) ?_
      refine lv_iconst (v := 0) hx hb dX3_rootShape_119 (by decide) ?_
      refine mw_iast hx hb hK hP hS 0 f_171 (hAn _ hs_152) rfl (by unfold vp_in; decide) dX3_rootShape_120 (fun H locs hP hS => ?_)
      obtain ⟨M_173, hM_173⟩ : ∃ z9 : mw_M, z9 = mw_up M_170 q_150 (.inl (gI G, 9, .inl (upd (upd (upd (upd (upd (upd (fun _ => 0) 0 (nI y)) 1 0) 2 ((((bH S x) + cl) + (fHf ((bH S y) - ((fEx S (nI x)) + cl)))) - (bH S y))) 3 (nI x)) 4 (bW S y)) 5 0))) := ⟨_, rfl⟩
      have hP : mw_P (gD G) gx_cl M_173 H := by rw [hM_173]; exact hP
      have f_174 : M_173 q_150 = some (.inl (gI G, 9, .inl (upd (upd (upd (upd (upd (upd (fun _ => 0) 0 (nI y)) 1 0) 2 ((((bH S x) + cl) + (fHf ((bH S y) - ((fEx S (nI x)) + cl)))) - (bH S y))) 3 (nI x)) 4 (bW S y)) 5 0))) := by rw [hM_173]; exact mw_self _ _ _
      have x_175 : mw_ext M M_173 := by rw [hM_173]; exact mw_ext.up x_172 n_154 _
      refine lv_dup hx hb dX3_rootShape_121 rfl ?_
      refine lv_bipush (v := 6) hx hb dX3_rootShape_122 (by decide) ?_
      refine lv_iconst (v := (-1)) hx hb dX3_rootShape_124 (by decide) ?_
      refine mw_iast hx hb hK hP hS 0 f_174 (hAn _ hs_152) rfl (by unfold vp_in; decide) dX3_rootShape_125 (fun H locs hP hS => ?_)
      obtain ⟨M_176, hM_176⟩ : ∃ z9 : mw_M, z9 = mw_up M_173 q_150 (.inl (gI G, 9, .inl (upd (upd (upd (upd (upd (upd (upd (fun _ => 0) 0 (nI y)) 1 0) 2 ((((bH S x) + cl) + (fHf ((bH S y) - ((fEx S (nI x)) + cl)))) - (bH S y))) 3 (nI x)) 4 (bW S y)) 5 0) 6 (-1)))) := ⟨_, rfl⟩
      have hP : mw_P (gD G) gx_cl M_176 H := by rw [hM_176]; exact hP
      have f_177 : M_176 q_150 = some (.inl (gI G, 9, .inl (upd (upd (upd (upd (upd (upd (upd (fun _ => 0) 0 (nI y)) 1 0) 2 ((((bH S x) + cl) + (fHf ((bH S y) - ((fEx S (nI x)) + cl)))) - (bH S y))) 3 (nI x)) 4 (bW S y)) 5 0) 6 (-1)))) := by rw [hM_176]; exact mw_self _ _ _
      have x_178 : mw_ext M M_176 := by rw [hM_176]; exact mw_ext.up x_175 n_154 _
      refine lv_dup hx hb dX3_rootShape_126 rfl ?_
      refine lv_bipush (v := 7) hx hb dX3_rootShape_127 (by decide) ?_
      refine lv_aload_n hx hb dX3_rootShape_129 rfl (lv_at hl 4 rfl) ?_
      refine lv_iload_n hx hb dX3_rootShape_130 rfl (lv_at hl 6 rfl) ?_
      refine mw_callV (C := RX3) (As := [.int (nI y)]) (rest := [.int 7, .ref q_150, .ref q_150]) hx hb hml hown hl (kX3_widthOf l htr G H.size M_176 f S (fs_R.ext hR x_178) y h_y) (g_B (n := 1) htb wd406 wd1 wd403 (by decide +kernel) ⟨Nat.le_of_ble_eq_true rfl, Nat.le_of_ble_eq_true rfl⟩) (htb _ wd405) (htb _ ws14) hE hP hS (fs_R.this (fs_R.ext hR x_178)) rfl rfl rfl (Nat.le_of_ble_eq_true rfl) dX3_rootShape_131 ⟨Nat.le_of_ble_eq_true rfl, Nat.le_of_ble_eq_true rfl⟩ (fun v9 M9 H locs hpo hP hz hS => ?_) (fun x9 E9 cell9 H9 locs9 hE9 => hE9.elim)
      obtain ⟨rfl, rfl⟩ := hpo
      refine W.eq (g2 := F0 m 134 ls [.int (bW S y), .int 7, .ref q_150, .ref q_150]) rfl ?_
      refine mw_iast hx hb hK hP hS 0 f_177 (hAn _ hs_152) rfl (by unfold vp_in; decide) dX3_rootShape_134 (fun H locs hP hS => ?_)
      obtain ⟨M_179, hM_179⟩ : ∃ z9 : mw_M, z9 = mw_up M_176 q_150 (.inl (gI G, 9, .inl (upd (upd (upd (upd (upd (upd (upd (upd (fun _ => 0) 0 (nI y)) 1 0) 2 ((((bH S x) + cl) + (fHf ((bH S y) - ((fEx S (nI x)) + cl)))) - (bH S y))) 3 (nI x)) 4 (bW S y)) 5 0) 6 (-1)) 7 (bW S y)))) := ⟨_, rfl⟩
      have hP : mw_P (gD G) gx_cl M_179 H := by rw [hM_179]; exact hP
      have f_180 : M_179 q_150 = some (.inl (gI G, 9, .inl (upd (upd (upd (upd (upd (upd (upd (upd (fun _ => 0) 0 (nI y)) 1 0) 2 ((((bH S x) + cl) + (fHf ((bH S y) - ((fEx S (nI x)) + cl)))) - (bH S y))) 3 (nI x)) 4 (bW S y)) 5 0) 6 (-1)) 7 (bW S y)))) := by rw [hM_179]; exact mw_self _ _ _
      have x_181 : mw_ext M M_179 := by rw [hM_179]; exact mw_ext.up x_178 n_154 _
      refine lv_dup hx hb dX3_rootShape_135 rfl ?_
      refine lv_bipush (v := 8) hx hb dX3_rootShape_136 (by decide) ?_
      refine lv_iload hx hb dX3_rootShape_138 (lv_at hl 0 rfl) ?_
      refine mw_iast hx hb hK hP hS 0 f_180 (hAn _ hs_152) rfl (by unfold vp_in; decide) dX3_rootShape_140 (fun H locs hP hS => ?_)
      obtain ⟨M_182, hM_182⟩ : ∃ z9 : mw_M, z9 = mw_up M_179 q_150 (.inl (gI G, 9, .inl (upd (upd (upd (upd (upd (upd (upd (upd (upd (fun _ => 0) 0 (nI y)) 1 0) 2 ((((bH S x) + cl) + (fHf ((bH S y) - ((fEx S (nI x)) + cl)))) - (bH S y))) 3 (nI x)) 4 (bW S y)) 5 0) 6 (-1)) 7 (bW S y)) 8 (((bH S x) + cl) + (fHf ((bH S y) - ((fEx S (nI x)) + cl))))))) := ⟨_, rfl⟩
      have hP : mw_P (gD G) gx_cl M_182 H := by rw [hM_182]; exact hP
      have f_183 : M_182 q_150 = some (.inl (gI G, 9, .inl (upd (upd (upd (upd (upd (upd (upd (upd (upd (fun _ => 0) 0 (nI y)) 1 0) 2 ((((bH S x) + cl) + (fHf ((bH S y) - ((fEx S (nI x)) + cl)))) - (bH S y))) 3 (nI x)) 4 (bW S y)) 5 0) 6 (-1)) 7 (bW S y)) 8 (((bH S x) + cl) + (fHf ((bH S y) - ((fEx S (nI x)) + cl))))))) := by rw [hM_182]; exact mw_self _ _ _
      have x_184 : mw_ext M M_182 := by rw [hM_182]; exact mw_ext.up x_181 n_154 _
      refine lv_astore (lv' := [(9, .ref q_150), (8, .int (((bH S x) + cl) + (fHf ((bH S y) - ((fEx S (nI x)) + cl))))), (7, .int ((bH S y) - ((fEx S (nI x)) + cl))), (6, .int (bH S y)), (5, .int 0), (0, .ref (f0 f)), (1, .int (nI x)), (2, .int (nI y)), (3, .int cl), (4, .int tg)]) hx hb dX3_rootShape_141 hl (by decide) rfl (fun ls hl => ?_)
      refine lv_aload_n hx hb dX3_rootShape_143 rfl (lv_at hl 5 rfl) ?_
      refine lv_iload_n hx hb dX3_rootShape_144 rfl (lv_at hl 6 rfl) ?_
      refine mw_callV (C := RX3) (As := [.int (nI x)]) (rest := []) hx hb hml hown hl (kX3_depthOf l htr G H.size M_182 f S (fs_R.ext hR x_184) x h_x) (g_B (n := 1) htb wd397 wd1 wd394 (by decide +kernel) ⟨Nat.le_of_ble_eq_true rfl, Nat.le_of_ble_eq_true rfl⟩) (htb _ wd396) (htb _ ws12) hE hP hS (fs_R.this (fs_R.ext hR x_184)) rfl rfl rfl (Nat.le_of_ble_eq_true rfl) dX3_rootShape_145 ⟨Nat.le_of_ble_eq_true rfl, Nat.le_of_ble_eq_true rfl⟩ (fun v9 M9 H locs hpo hP hz hS => ?_) (fun x9 E9 cell9 H9 locs9 hE9 => hE9.elim)
      obtain ⟨rfl, rfl⟩ := hpo
      refine W.eq (g2 := F0 m 148 ls [.int (bD S x)]) rfl ?_
      refine lv_iload hx hb dX3_rootShape_148 (lv_at hl 3 rfl) ?_
      refine lv_iload hx hb dX3_rootShape_150 (lv_at hl 1 rfl) ?_
      refine lv_isub hx hb dX3_rootShape_152 ?_
      refine va_mmax hx hb (hml.trans hl.1.symm) hown (htb _ wd398) (htb _ wd364) (htb _ wd13) (htb _ wd365) (Nat.le_of_ble_eq_true rfl) (Nat.le_of_ble_eq_true rfl) (Nat.le_of_ble_eq_true rfl) (Nat.le_of_ble_eq_true rfl) dX3_rootShape_153 ?_
      refine W.eq (g2 := F0 m 156 ls [.int (fMx (bD S x) ((bH S y) - (((bH S x) + cl) + (fHf ((bH S y) - ((fEx S (nI x)) + cl))))))]) rfl ?_
      refine lv_istore (lv' := [(10, .int (fMx (bD S x) ((bH S y) - (((bH S x) + cl) + (fHf ((bH S y) - ((fEx S (nI x)) + cl))))))), (9, .ref q_150), (8, .int (((bH S x) + cl) + (fHf ((bH S y) - ((fEx S (nI x)) + cl))))), (7, .int ((bH S y) - ((fEx S (nI x)) + cl))), (6, .int (bH S y)), (5, .int 0), (0, .ref (f0 f)), (1, .int (nI x)), (2, .int (nI y)), (3, .int cl), (4, .int tg)]) hx hb dX3_rootShape_156 hl (by decide) rfl (fun ls hl => ?_)
      refine mw_new (ci := 0) (fs := [.int 0, .int 0, .int 0, .null, .int 0, .int 0]) (C := RX0) (T := TX0) (N := 6) hx hb htb inX0 tyX0 tyX0_ok hown (htb _ wd22) (htb _ wd215) (htb _ wd10) hK hP hS rfl (fun j hj => by rcases (show j = 0 ∨ j = 1 ∨ j = 2 ∨ j = 3 ∨ j = 4 ∨ j = 5 by omega) with rfl | rfl | rfl | rfl | rfl | rfl <;> rfl) (Nat.le_of_ble_eq_true rfl) (Nat.le_of_ble_eq_true rfl) dX3_rootShape_158 (fun q_185 H hq_186 hs_187 hP hS => ?_)
      obtain ⟨M_188, hM_188⟩ : ∃ z9 : mw_M, z9 = mw_up M_182 q_185 (.inr (0, [.int 0, .int 0, .int 0, .null, .int 0, .int 0])) := ⟨_, rfl⟩
      have hP : mw_P (gD G) gx_cl M_188 H := by rw [hM_188]; exact hP
      have n_189 : M q_185 = none := mw_ext.no x_184 hq_186
      have f_190 : M_188 q_150 = some (.inl (gI G, 9, .inl (upd (upd (upd (upd (upd (upd (upd (upd (upd (fun _ => 0) 0 (nI y)) 1 0) 2 ((((bH S x) + cl) + (fHf ((bH S y) - ((fEx S (nI x)) + cl)))) - (bH S y))) 3 (nI x)) 4 (bW S y)) 5 0) 6 (-1)) 7 (bW S y)) 8 (((bH S x) + cl) + (fHf ((bH S y) - ((fEx S (nI x)) + cl))))))) := by rw [hM_188, mw_ne _ _ (fun z => by have z1 := f_183; rw [z, hq_186] at z1; cases z1)]; exact f_183
      have ne_191 : q_150 ≠ q_185 := fun z => by have z1 := f_183; rw [z, hq_186] at z1; cases z1
      have f_192 : M_188 q_185 = some (.inr (0, [.int 0, .int 0, .int 0, .null, .int 0, .int 0])) := by rw [hM_188]; exact mw_self _ _ _
      have x_193 : mw_ext M M_188 := by rw [hM_188]; exact mw_ext.up x_184 n_189 _
      refine lv_dup hx hb dX3_rootShape_161 rfl ?_
      refine lv_aload_n hx hb dX3_rootShape_162 rfl (lv_at hl 6 rfl) ?_
      refine lv_iload_n hx hb dX3_rootShape_163 rfl (lv_at hl 8 rfl) ?_
      refine mw_callV (C := RX3) (As := [.int (nI y)]) (rest := [.ref q_185, .ref q_185]) hx hb hml hown hl (kX3_widthOf l htr G H.size M_188 f S (fs_R.ext hR x_193) y h_y) (g_B (n := 1) htb wd406 wd1 wd403 (by decide +kernel) ⟨Nat.le_of_ble_eq_true rfl, Nat.le_of_ble_eq_true rfl⟩) (htb _ wd405) (htb _ ws14) hE hP hS (fs_R.this (fs_R.ext hR x_193)) rfl rfl rfl (Nat.le_of_ble_eq_true rfl) dX3_rootShape_164 ⟨Nat.le_of_ble_eq_true rfl, Nat.le_of_ble_eq_true rfl⟩ (fun v9 M9 H locs hpo hP hz hS => ?_) (fun x9 E9 cell9 H9 locs9 hE9 => hE9.elim)
      obtain ⟨rfl, rfl⟩ := hpo
      refine W.eq (g2 := F0 m 167 ls [.int (bW S y), .ref q_185, .ref q_185]) rfl ?_
      refine lv_aload_n hx hb dX3_rootShape_167 rfl (lv_at hl 6 rfl) ?_
      refine lv_iload_n hx hb dX3_rootShape_168 rfl (lv_at hl 7 rfl) ?_
      refine mw_callV (C := RX3) (As := [.int (nI x)]) (rest := [.int (bW S y), .ref q_185, .ref q_185]) hx hb hml hown hl (kX3_widthOf l htr G H.size M_188 f S (fs_R.ext hR x_193) x h_x) (g_B (n := 1) htb wd406 wd1 wd403 (by decide +kernel) ⟨Nat.le_of_ble_eq_true rfl, Nat.le_of_ble_eq_true rfl⟩) (htb _ wd405) (htb _ ws14) hE hP hS (fs_R.this (fs_R.ext hR x_193)) rfl rfl rfl (Nat.le_of_ble_eq_true rfl) dX3_rootShape_169 ⟨Nat.le_of_ble_eq_true rfl, Nat.le_of_ble_eq_true rfl⟩ (fun v9 M9 H locs hpo hP hz hS => ?_) (fun x9 E9 cell9 H9 locs9 hE9 => hE9.elim)
      obtain ⟨rfl, rfl⟩ := hpo
      refine W.eq (g2 := F0 m 172 ls [.int (bW S x), .int (bW S y), .ref q_185, .ref q_185]) rfl ?_
      refine lv_iadd hx hb dX3_rootShape_172 ?_
      refine lv_iload hx hb dX3_rootShape_173 (lv_at hl 2 rfl) ?_
      refine lv_iconst (v := 2) hx hb dX3_rootShape_175 (by decide) ?_
      refine lv_iload hx hb dX3_rootShape_176 (lv_at hl 5 rfl) ?_
      refine lv_imul hx hb dX3_rootShape_178 ?_
      refine lv_iadd hx hb dX3_rootShape_179 ?_
      refine lv_iload hx hb dX3_rootShape_180 (lv_at hl 0 rfl) ?_
      refine lv_aload hx hb dX3_rootShape_182 (lv_at hl 1 rfl) ?_
      refine lv_aload_n hx hb dX3_rootShape_184 rfl (lv_at hl 6 rfl) ?_
      refine lv_iload_n hx hb dX3_rootShape_185 rfl (lv_at hl 7 rfl) ?_
      refine mw_callV (C := RX3) (As := [.int (nI x)]) (rest := [.ref q_150, .int (fMx (bD S x) ((bH S y) - (((bH S x) + cl) + (fHf ((bH S y) - ((fEx S (nI x)) + cl)))))), .int ((((bH S x) + cl) + (fHf ((bH S y) - ((fEx S (nI x)) + cl)))) + (2 * 0)), .int ((bW S y) + (bW S x)), .ref q_185, .ref q_185]) hx hb hml hown hl (kX3_widthOf l htr G H.size M_188 f S (fs_R.ext hR x_193) x h_x) (g_B (n := 1) htb wd406 wd1 wd403 (by decide +kernel) ⟨Nat.le_of_ble_eq_true rfl, Nat.le_of_ble_eq_true rfl⟩) (htb _ wd405) (htb _ ws14) hE hP hS (fs_R.this (fs_R.ext hR x_193)) rfl rfl rfl (Nat.le_of_ble_eq_true rfl) dX3_rootShape_186 ⟨Nat.le_of_ble_eq_true rfl, Nat.le_of_ble_eq_true rfl⟩ (fun v9 M9 H locs hpo hP hz hS => ?_) (fun x9 E9 cell9 H9 locs9 hE9 => hE9.elim)
      obtain ⟨rfl, rfl⟩ := hpo
      refine W.eq (g2 := F0 m 189 ls [.int (bW S x), .ref q_150, .int (fMx (bD S x) ((bH S y) - (((bH S x) + cl) + (fHf ((bH S y) - ((fEx S (nI x)) + cl)))))), .int ((((bH S x) + cl) + (fHf ((bH S y) - ((fEx S (nI x)) + cl)))) + (2 * 0)), .int ((bW S y) + (bW S x)), .ref q_185, .ref q_185]) rfl ?_
      refine lv_iload hx hb dX3_rootShape_189 (lv_at hl 5 rfl) ?_
      refine mw_callI (As := [.int ((bW S y) + (bW S x)), .int ((((bH S x) + cl) + (fHf ((bH S y) - ((fEx S (nI x)) + cl)))) + (2 * 0)), .int (fMx (bD S x) ((bH S y) - (((bH S x) + cl) + (fHf ((bH S y) - ((fEx S (nI x)) + cl)))))), .ref q_150, .int (bW S x), .int 0]) (rest := [.ref q_185]) hx hb hml hown hl (kX0_init_1 l htr G H.size M_188 q_185 (hAn _ hs_187) f_192 ((bW S y) + (bW S x)) ((((bH S x) + cl) + (fHf ((bH S y) - ((fEx S (nI x)) + cl)))) + (2 * 0)) (fMx (bD S x) ((bH S y) - (((bH S x) + cl) + (fHf ((bH S y) - ((fEx S (nI x)) + cl)))))) q_150 (bW S x) 0) (g_B (n := 6) htb wd223 wd10 wd407 (by decide +kernel) ⟨Nat.le_of_ble_eq_true rfl, Nat.le_of_ble_eq_true rfl⟩) (htb _ wd222) (htb _ wd223) rfl hE hP hS rfl rfl (Nat.le_of_ble_eq_true rfl) dX3_rootShape_191 ⟨Nat.le_of_ble_eq_true rfl, Nat.le_of_ble_eq_true rfl⟩ (fun v9 M9 H locs hpo hP hz hS => ?_) (fun x9 E9 cell9 H9 locs9 hE9 => hE9.elim)
      obtain ⟨rfl, hM9⟩ := hpo
      obtain ⟨M_194, hM_194⟩ : ∃ z9 : mw_M, z9 = mw_up M_188 q_185 (.inr (0, [.int ((bW S y) + (bW S x)), .int ((((bH S x) + cl) + (fHf ((bH S y) - ((fEx S (nI x)) + cl)))) + (2 * 0)), .int (fMx (bD S x) ((bH S y) - (((bH S x) + cl) + (fHf ((bH S y) - ((fEx S (nI x)) + cl)))))), .ref q_150, .int (bW S x), .int 0])) := ⟨_, rfl⟩
      have hP : mw_P (gD G) gx_cl M_194 H := by rw [hM_194, hM9]; exact hP
      have f_195 : M_194 q_150 = some (.inl (gI G, 9, .inl (upd (upd (upd (upd (upd (upd (upd (upd (upd (fun _ => 0) 0 (nI y)) 1 0) 2 ((((bH S x) + cl) + (fHf ((bH S y) - ((fEx S (nI x)) + cl)))) - (bH S y))) 3 (nI x)) 4 (bW S y)) 5 0) 6 (-1)) 7 (bW S y)) 8 (((bH S x) + cl) + (fHf ((bH S y) - ((fEx S (nI x)) + cl))))))) := by rw [hM_194, mw_ne _ _ ne_191]; exact f_190
      have f_196 : M_194 q_185 = some (.inr (0, [.int ((bW S y) + (bW S x)), .int ((((bH S x) + cl) + (fHf ((bH S y) - ((fEx S (nI x)) + cl)))) + (2 * 0)), .int (fMx (bD S x) ((bH S y) - (((bH S x) + cl) + (fHf ((bH S y) - ((fEx S (nI x)) + cl)))))), .ref q_150, .int (bW S x), .int 0])) := by rw [hM_194]; exact mw_self _ _ _
      have x_197 : mw_ext M M_194 := by rw [hM_194]; exact mw_ext.up x_193 n_189 _
      refine W.eq (g2 := F0 m 194 ls [.ref q_185]) rfl ?_
      have hbx9 : fs_bx G f M_194 q_185 (fs_rs S x y cl tg) := by
        simp only [fs_rs, fs_rs1, fs_rs2, if_neg c_1 , if_neg c_101]
        refine fs_mk f_196 f_195 rfl (fun j hj => ?_) (fun z => hX _ z n_189) (fun z => hX _ z n_154)
        rcases (show j = 0 ∨ j = 1 ∨ j = 2 ∨ j = 3 ∨ j = 4 ∨ j = 5 ∨ j = 6 ∨ j = 7 ∨ j = 8 by omega) with rfl | rfl | rfl | rfl | rfl | rfl | rfl | rfl | rfl <;> rfl
      exact mx_aret (q := q_185) (M' := M_194) hx hb hr (Or.inl ⟨_, rfl⟩) hlocks hP hS ⟨q_185, rfl, x_197, hbx9⟩ dX3_rootShape_194 (Nat.le_of_ble_eq_true rfl) (Nat.le_of_ble_eq_true rfl)
