/-! printed by wip/whole/spec*.py -/
-- X3_signsOnBothSides
set_option maxHeartbeats 4000000 in
set_option maxRecDepth 100000 in
theorem kX3_signsOnBothSides (l : Launch) (htr : l.stackTraces = false) (G : gx_G) (sz : Nat) (M : mw_M) (f : fs_A) (S : fs_S) (hR : fs_R G f M S) (hX : ∀ a, fX f a → M a ≠ none) (hA : ∀ q : Nat, sz ≤ q → gA G q) (st : Nat) (h_st : st < 4) (up dn : Int32) (b a z : Nat) (h_b : b < sN S) (h_a : a < sN S) (h_z : z < sN S) : g_Met l G yX3_signsOnBothSides (.code yX3_signsOnBothSides cX3_signsOnBothSides 11 (some (.object "FormulaShapes$Box"))) ({ frames := 4, cells := 2, slots := 15, locals := 190 } : Room) sz M [.ref (f0 f), .int (nI st), .int up, .int dn, .int (nI b), .int (nI a), .int (nI z)] (fun v M9 => ∃ q, v = some (.ref q) ∧ mw_ext M M9 ∧ fs_bx G f M9 q (fs_sb S st up dn b a z)) (fun _ => False) := by
  refine MetE.ofW (cc := cX3_signsOnBothSides) (maxL := 11) (ret := (some (.object "FormulaShapes$Box"))) (by decide) rfl ?_
  intro p e s m args below meth c s₁ B hml hv
  obtain ⟨rfl, hsz, hP, hE⟩ := hv
  have hx := B.exec
  have hb := B.bytes
  have hr := B.returns
  have hts := atoms_spec (ws := _ :: lw_big) B.pre
  have htb : ∀ w ∈ lw_big, w.before _ s = true := fun w h => hts w (List.mem_cons_of_mem _ h)
  have hno := B.noHandlers (hts _ List.mem_cons_self)
  have hown : s.vm.findClass RX3 = some m.cls := findClass_of_methodNamed B.named
  have hlocks := B.notSynchronized
  have hK := hE.1
  subst hsz
  have hAn : ∀ q : Nat, s.heap.size ≤ q → gA G q := hA
  have hS : va_S (gA G) s.heap s.heap [] := va_S.rf
  have hl := lv_entry ([.ref (f0 f), .int (nI st), .int up, .int dn, .int (nI b), .int (nI a), .int (nI z)]) (n := 11) (Nat.le_of_ble_eq_true rfl)
  rw [lg_entry_eq]
  generalize (lg_sl ([.ref (f0 f), .int (nI st), .int up, .int dn, .int (nI b), .int (nI a), .int (nI z)]) ++ List.replicate (11 - (lg_sl ([.ref (f0 f), .int (nI st), .int up, .int dn, .int (nI b), .int (nI a), .int (nI z)])).length) Slot.unset).toArray = ls at hl ⊢
  have hl : lv_has ls 11 [(0, .ref (f0 f)), (1, .int (nI st)), (2, .int up), (3, .int dn), (4, .int (nI b)), (5, .int (nI a)), (6, .int (nI z))] := hl
  refine lv_iload_n hx hb dX3_signsOnBothSides_0 rfl (lv_at hl 2 rfl) ?_
  refine lv_istore (lv' := [(7, .int up), (0, .ref (f0 f)), (1, .int (nI st)), (2, .int up), (3, .int dn), (4, .int (nI b)), (5, .int (nI a)), (6, .int (nI z))]) hx hb dX3_signsOnBothSides_1 hl (by decide) rfl (fun ls hl => ?_)
  refine lv_iload_n hx hb dX3_signsOnBothSides_3 rfl (lv_at hl 4 rfl) ?_
  refine lv_aload_n hx hb dX3_signsOnBothSides_4 rfl (lv_at hl 1 rfl) ?_
  refine lv_iload_n hx hb dX3_signsOnBothSides_5 rfl (lv_at hl 2 rfl) ?_
  refine lv_bipush (v := 10) hx hb dX3_signsOnBothSides_6 (by decide) ?_
  refine mw_callV (C := RX3) (As := [.int (nI st), .int 10]) (rest := [.int dn]) hx hb hml hown hl (kX3_valueOf l htr G s.heap.size M f S hR st 10 h_st (by decide)) (g_B (n := 2) htb wd390 wd1 wd387 (by decide +kernel) ⟨Nat.le_of_ble_eq_true rfl, Nat.le_of_ble_eq_true rfl⟩) (htb _ wd389) (htb _ ws11) hE hP hS (fs_R.this hR) rfl rfl rfl (Nat.le_of_ble_eq_true rfl) dX3_signsOnBothSides_8 ⟨Nat.le_of_ble_eq_true rfl, Nat.le_of_ble_eq_true rfl⟩ (fun v9 M9 H locs hpo hP hz hS => ?_) (fun x9 E9 cell9 H9 locs9 hE9 => hE9.elim)
  obtain ⟨rfl, rfl⟩ := hpo
  refine W.eq (g2 := F0 m 11 ls [.int (pV S st 10), .int dn]) rfl ?_
  refine va_mmax hx hb (hml.trans hl.1.symm) hown (htb _ wd398) (htb _ wd364) (htb _ wd13) (htb _ wd365) (Nat.le_of_ble_eq_true rfl) (Nat.le_of_ble_eq_true rfl) (Nat.le_of_ble_eq_true rfl) (Nat.le_of_ble_eq_true rfl) dX3_signsOnBothSides_11 ?_
  refine W.eq (g2 := F0 m 14 ls [.int (fMx dn (pV S st 10))]) rfl ?_
  refine lv_istore (lv' := [(8, .int (fMx dn (pV S st 10))), (7, .int up), (0, .ref (f0 f)), (1, .int (nI st)), (2, .int up), (3, .int dn), (4, .int (nI b)), (5, .int (nI a)), (6, .int (nI z))]) hx hb dX3_signsOnBothSides_14 hl (by decide) rfl (fun ls hl => ?_)
  refine lv_iconst (v := 4) hx hb dX3_signsOnBothSides_16 (by decide) ?_
  refine lv_aload_n hx hb dX3_signsOnBothSides_17 rfl (lv_at hl 2 rfl) ?_
  refine lv_iload_n hx hb dX3_signsOnBothSides_18 rfl (lv_at hl 3 rfl) ?_
  refine lv_bipush (v := 13) hx hb dX3_signsOnBothSides_19 (by decide) ?_
  refine mw_callV (C := RX3) (As := [.int (nI st), .int 13]) (rest := [.int 4]) hx hb hml hown hl (kX3_valueOf l htr G H.size M f S hR st 13 h_st (by decide)) (g_B (n := 2) htb wd390 wd1 wd387 (by decide +kernel) ⟨Nat.le_of_ble_eq_true rfl, Nat.le_of_ble_eq_true rfl⟩) (htb _ wd389) (htb _ ws11) hE hP hS (fs_R.this hR) rfl rfl rfl (Nat.le_of_ble_eq_true rfl) dX3_signsOnBothSides_21 ⟨Nat.le_of_ble_eq_true rfl, Nat.le_of_ble_eq_true rfl⟩ (fun v9 M9 H locs hpo hP hz hS => ?_) (fun x9 E9 cell9 H9 locs9 hE9 => hE9.elim)
  obtain ⟨rfl, rfl⟩ := hpo
  refine W.eq (g2 := F0 m 24 ls [.int (pV S st 13), .int 4]) rfl ?_
  refine lv_imul hx hb dX3_signsOnBothSides_24 ?_
  refine lv_iload hx hb dX3_signsOnBothSides_25 (lv_at hl 1 rfl) ?_
  refine lv_aload_n hx hb dX3_signsOnBothSides_27 rfl (lv_at hl 2 rfl) ?_
  refine lv_iload hx hb dX3_signsOnBothSides_28 (lv_at hl 7 rfl) ?_
  refine mw_callV (C := RX3) (As := [.int (nI a)]) (rest := [.int up, .int (4 * (pV S st 13))]) hx hb hml hown hl (kX3_depthOf l htr G H.size M f S hR a h_a) (g_B (n := 1) htb wd397 wd1 wd394 (by decide +kernel) ⟨Nat.le_of_ble_eq_true rfl, Nat.le_of_ble_eq_true rfl⟩) (htb _ wd396) (htb _ ws12) hE hP hS (fs_R.this hR) rfl rfl rfl (Nat.le_of_ble_eq_true rfl) dX3_signsOnBothSides_30 ⟨Nat.le_of_ble_eq_true rfl, Nat.le_of_ble_eq_true rfl⟩ (fun v9 M9 H locs hpo hP hz hS => ?_) (fun x9 E9 cell9 H9 locs9 hE9 => hE9.elim)
  obtain ⟨rfl, rfl⟩ := hpo
  refine W.eq (g2 := F0 m 33 ls [.int (bD S a), .int up, .int (4 * (pV S st 13))]) rfl ?_
  refine lv_isub hx hb dX3_signsOnBothSides_33 ?_
  refine lv_aload_n hx hb dX3_signsOnBothSides_34 rfl (lv_at hl 2 rfl) ?_
  refine lv_iload hx hb dX3_signsOnBothSides_35 (lv_at hl 8 rfl) ?_
  refine mw_callV (C := RX3) (As := [.int (nI z)]) (rest := [.int (up - (bD S a)), .int (4 * (pV S st 13))]) hx hb hml hown hl (kX3_heightOf l htr G H.size M f S hR z h_z) (g_B (n := 1) htb wd402 wd1 wd399 (by decide +kernel) ⟨Nat.le_of_ble_eq_true rfl, Nat.le_of_ble_eq_true rfl⟩) (htb _ wd401) (htb _ ws13) hE hP hS (fs_R.this hR) rfl rfl rfl (Nat.le_of_ble_eq_true rfl) dX3_signsOnBothSides_37 ⟨Nat.le_of_ble_eq_true rfl, Nat.le_of_ble_eq_true rfl⟩ (fun v9 M9 H locs hpo hP hz hS => ?_) (fun x9 E9 cell9 H9 locs9 hE9 => hE9.elim)
  obtain ⟨rfl, rfl⟩ := hpo
  refine W.eq (g2 := F0 m 40 ls [.int (bH S z), .int (up - (bD S a)), .int (4 * (pV S st 13))]) rfl ?_
  refine lv_iload hx hb dX3_signsOnBothSides_40 (lv_at hl 0 rfl) ?_
  refine lv_isub hx hb dX3_signsOnBothSides_42 ?_
  refine lv_isub hx hb dX3_signsOnBothSides_43 ?_
  refine lv_isub hx hb dX3_signsOnBothSides_44 ?_
  refine lv_istore (lv' := [(9, .int ((4 * (pV S st 13)) - ((up - (bD S a)) - ((bH S z) - (fMx dn (pV S st 10)))))), (8, .int (fMx dn (pV S st 10))), (7, .int up), (0, .ref (f0 f)), (1, .int (nI st)), (2, .int up), (3, .int dn), (4, .int (nI b)), (5, .int (nI a)), (6, .int (nI z))]) hx hb dX3_signsOnBothSides_45 hl (by decide) rfl (fun ls hl => ?_)
  refine lv_iload hx hb dX3_signsOnBothSides_47 (lv_at hl 0 rfl) ?_
  refine lv_if_le (tgt := 90) hx hb dX3_signsOnBothSides_49 (by decide) (fun c_1 => ?_) (fun c_1 => ?_)
  · refine lv_aload_n hx hb dX3_signsOnBothSides_90 rfl (lv_at hl 3 rfl) ?_
    refine lv_iload hx hb dX3_signsOnBothSides_91 (lv_at hl 7 rfl) ?_
    refine mw_callV (C := RX3) (As := [.int (nI b)]) (rest := []) hx hb hml hown hl (kX3_widthOf l htr G H.size M f S hR b h_b) (g_B (n := 1) htb wd406 wd1 wd403 (by decide +kernel) ⟨Nat.le_of_ble_eq_true rfl, Nat.le_of_ble_eq_true rfl⟩) (htb _ wd405) (htb _ ws14) hE hP hS (fs_R.this hR) rfl rfl rfl (Nat.le_of_ble_eq_true rfl) dX3_signsOnBothSides_93 ⟨Nat.le_of_ble_eq_true rfl, Nat.le_of_ble_eq_true rfl⟩ (fun v9 M9 H locs hpo hP hz hS => ?_) (fun x9 E9 cell9 H9 locs9 hE9 => hE9.elim)
    obtain ⟨rfl, rfl⟩ := hpo
    refine W.eq (g2 := F0 m 96 ls [.int (bW S b)]) rfl ?_
    refine lv_aload_n hx hb dX3_signsOnBothSides_96 rfl (lv_at hl 3 rfl) ?_
    refine lv_iload hx hb dX3_signsOnBothSides_97 (lv_at hl 8 rfl) ?_
    refine mw_callV (C := RX3) (As := [.int (nI a)]) (rest := [.int (bW S b)]) hx hb hml hown hl (kX3_widthOf l htr G H.size M f S hR a h_a) (g_B (n := 1) htb wd406 wd1 wd403 (by decide +kernel) ⟨Nat.le_of_ble_eq_true rfl, Nat.le_of_ble_eq_true rfl⟩) (htb _ wd405) (htb _ ws14) hE hP hS (fs_R.this hR) rfl rfl rfl (Nat.le_of_ble_eq_true rfl) dX3_signsOnBothSides_99 ⟨Nat.le_of_ble_eq_true rfl, Nat.le_of_ble_eq_true rfl⟩ (fun v9 M9 H locs hpo hP hz hS => ?_) (fun x9 E9 cell9 H9 locs9 hE9 => hE9.elim)
    obtain ⟨rfl, rfl⟩ := hpo
    refine W.eq (g2 := F0 m 102 ls [.int (bW S a), .int (bW S b)]) rfl ?_
    refine lv_aload_n hx hb dX3_signsOnBothSides_102 rfl (lv_at hl 3 rfl) ?_
    refine lv_iload hx hb dX3_signsOnBothSides_103 (lv_at hl 9 rfl) ?_
    refine mw_callV (C := RX3) (As := [.int (nI z)]) (rest := [.int (bW S a), .int (bW S b)]) hx hb hml hown hl (kX3_widthOf l htr G H.size M f S hR z h_z) (g_B (n := 1) htb wd406 wd1 wd403 (by decide +kernel) ⟨Nat.le_of_ble_eq_true rfl, Nat.le_of_ble_eq_true rfl⟩) (htb _ wd405) (htb _ ws14) hE hP hS (fs_R.this hR) rfl rfl rfl (Nat.le_of_ble_eq_true rfl) dX3_signsOnBothSides_105 ⟨Nat.le_of_ble_eq_true rfl, Nat.le_of_ble_eq_true rfl⟩ (fun v9 M9 H locs hpo hP hz hS => ?_) (fun x9 E9 cell9 H9 locs9 hE9 => hE9.elim)
    obtain ⟨rfl, rfl⟩ := hpo
    refine W.eq (g2 := F0 m 108 ls [.int (bW S z), .int (bW S a), .int (bW S b)]) rfl ?_
    refine va_mmax hx hb (hml.trans hl.1.symm) hown (htb _ wd398) (htb _ wd364) (htb _ wd13) (htb _ wd365) (Nat.le_of_ble_eq_true rfl) (Nat.le_of_ble_eq_true rfl) (Nat.le_of_ble_eq_true rfl) (Nat.le_of_ble_eq_true rfl) dX3_signsOnBothSides_108 ?_
    refine W.eq (g2 := F0 m 111 ls [.int (fMx (bW S a) (bW S z)), .int (bW S b)]) rfl ?_
    refine lv_iadd hx hb dX3_signsOnBothSides_111 ?_
    refine lv_aload_n hx hb dX3_signsOnBothSides_112 rfl (lv_at hl 3 rfl) ?_
    refine mw_get (D := gD G) (ci := 3) (v := .int (sSp S)) (C := RX3) (T := TX3) (N := 6) hx hb htb inX3 hown hK hP (hR.this) rfl 4 (by decide) (htb _ wd60) (fun _ h9 => h9) rfl dX3_signsOnBothSides_113 ?_
    refine lv_iadd hx hb dX3_signsOnBothSides_116 ?_
    refine lv_istore (lv' := [(10, .int (((bW S b) + (fMx (bW S a) (bW S z))) + (sSp S))), (9, .int ((4 * (pV S st 13)) - ((up - (bD S a)) - ((bH S z) - (fMx dn (pV S st 10)))))), (8, .int (fMx dn (pV S st 10))), (7, .int up), (0, .ref (f0 f)), (1, .int (nI st)), (2, .int up), (3, .int dn), (4, .int (nI b)), (5, .int (nI a)), (6, .int (nI z))]) hx hb dX3_signsOnBothSides_117 hl (by decide) rfl (fun ls hl => ?_)
    refine lv_aload_n hx hb dX3_signsOnBothSides_119 rfl (lv_at hl 4 rfl) ?_
    refine lv_iload hx hb dX3_signsOnBothSides_120 (lv_at hl 0 rfl) ?_
    refine lv_bipush (v := 9) hx hb dX3_signsOnBothSides_122 (by decide) ?_
    refine mw_newi (N := 9) hx hb (htb _ wd55) hK hP hS 0 rfl (by decide) (by decide) (by decide) (Nat.le_of_ble_eq_true rfl) (Nat.le_of_ble_eq_true rfl) dX3_signsOnBothSides_124 (fun q_2 H hq_3 hs_4 hP hS => ?_)
    obtain ⟨M_5, hM_5⟩ : ∃ z9 : mw_M, z9 = mw_up M q_2 (.inl (gI G, 9, .inl (fun _ => 0))) := ⟨_, rfl⟩
    have hP : mw_P (gD G) gx_cl M_5 H := by rw [hM_5]; exact hP
    have n_6 : M q_2 = none := mw_ext.no (mw_ext.rf M) hq_3
    have f_7 : M_5 (f0 f) = some (.inr (3, [.ref (fM f), .int (nI (sN S)), .ref (fF f), .ref (fP f), .int (sSp S), .int (sSh S)])) := by rw [hM_5, mw_ne _ _ (fun z => by have z1 := (hR.this); rw [z, hq_3] at z1; cases z1)]; exact (hR.this)
    have ne_8 : (f0 f) ≠ q_2 := fun z => by have z1 := (hR.this); rw [z, hq_3] at z1; cases z1
    have f_9 : M_5 q_2 = some (.inl (gI G, 9, .inl (fun _ => 0))) := by rw [hM_5]; exact mw_self _ _ _
    have x_10 : mw_ext M M_5 := by rw [hM_5]; exact mw_ext.up (mw_ext.rf M) n_6 _
    refine lv_dup hx hb dX3_signsOnBothSides_126 rfl ?_
    refine lv_iconst (v := 0) hx hb dX3_signsOnBothSides_127 (by decide) ?_
    refine lv_iload hx hb dX3_signsOnBothSides_128 (lv_at hl 8 rfl) ?_
    refine mw_iast hx hb hK hP hS 0 f_9 (hAn _ hs_4) rfl (by unfold vp_in; decide) dX3_signsOnBothSides_130 (fun H locs hP hS => ?_)
    obtain ⟨M_11, hM_11⟩ : ∃ z9 : mw_M, z9 = mw_up M_5 q_2 (.inl (gI G, 9, .inl (upd (fun _ => 0) 0 (nI b)))) := ⟨_, rfl⟩
    have hP : mw_P (gD G) gx_cl M_11 H := by rw [hM_11]; exact hP
    have f_12 : M_11 (f0 f) = some (.inr (3, [.ref (fM f), .int (nI (sN S)), .ref (fF f), .ref (fP f), .int (sSp S), .int (sSh S)])) := by rw [hM_11, mw_ne _ _ ne_8]; exact f_7
    have f_13 : M_11 q_2 = some (.inl (gI G, 9, .inl (upd (fun _ => 0) 0 (nI b)))) := by rw [hM_11]; exact mw_self _ _ _
    have x_14 : mw_ext M M_11 := by rw [hM_11]; exact mw_ext.up x_10 n_6 _
    refine lv_dup hx hb dX3_signsOnBothSides_131 rfl ?_
    refine lv_iconst (v := 1) hx hb dX3_signsOnBothSides_132 (by decide) ?_
    refine lv_iconst (v := 0) hx hb dX3_signsOnBothSides_133 (by decide) ?_
    refine mw_iast hx hb hK hP hS 0 f_13 (hAn _ hs_4) rfl (by unfold vp_in; decide) dX3_signsOnBothSides_134 (fun H locs hP hS => ?_)
    obtain ⟨M_15, hM_15⟩ : ∃ z9 : mw_M, z9 = mw_up M_11 q_2 (.inl (gI G, 9, .inl (upd (upd (fun _ => 0) 0 (nI b)) 1 0))) := ⟨_, rfl⟩
    have hP : mw_P (gD G) gx_cl M_15 H := by rw [hM_15]; exact hP
    have f_16 : M_15 (f0 f) = some (.inr (3, [.ref (fM f), .int (nI (sN S)), .ref (fF f), .ref (fP f), .int (sSp S), .int (sSh S)])) := by rw [hM_15, mw_ne _ _ ne_8]; exact f_12
    have f_17 : M_15 q_2 = some (.inl (gI G, 9, .inl (upd (upd (fun _ => 0) 0 (nI b)) 1 0))) := by rw [hM_15]; exact mw_self _ _ _
    have x_18 : mw_ext M M_15 := by rw [hM_15]; exact mw_ext.up x_14 n_6 _
    refine lv_dup hx hb dX3_signsOnBothSides_135 rfl ?_
    refine lv_iconst (v := 2) hx hb dX3_signsOnBothSides_136 (by decide) ?_
    refine lv_iconst (v := 0) hx hb dX3_signsOnBothSides_137 (by decide) ?_
    refine mw_iast hx hb hK hP hS 0 f_17 (hAn _ hs_4) rfl (by unfold vp_in; decide) dX3_signsOnBothSides_138 (fun H locs hP hS => ?_)
    obtain ⟨M_19, hM_19⟩ : ∃ z9 : mw_M, z9 = mw_up M_15 q_2 (.inl (gI G, 9, .inl (upd (upd (upd (fun _ => 0) 0 (nI b)) 1 0) 2 0))) := ⟨_, rfl⟩
    have hP : mw_P (gD G) gx_cl M_19 H := by rw [hM_19]; exact hP
    have f_20 : M_19 (f0 f) = some (.inr (3, [.ref (fM f), .int (nI (sN S)), .ref (fF f), .ref (fP f), .int (sSp S), .int (sSh S)])) := by rw [hM_19, mw_ne _ _ ne_8]; exact f_16
    have f_21 : M_19 q_2 = some (.inl (gI G, 9, .inl (upd (upd (upd (fun _ => 0) 0 (nI b)) 1 0) 2 0))) := by rw [hM_19]; exact mw_self _ _ _
    have x_22 : mw_ext M M_19 := by rw [hM_19]; exact mw_ext.up x_18 n_6 _
    refine lv_dup hx hb dX3_signsOnBothSides_139 rfl ?_
    refine lv_iconst (v := 3) hx hb dX3_signsOnBothSides_140 (by decide) ?_
    refine lv_iload hx hb dX3_signsOnBothSides_141 (lv_at hl 9 rfl) ?_
    refine mw_iast hx hb hK hP hS 0 f_21 (hAn _ hs_4) rfl (by unfold vp_in; decide) dX3_signsOnBothSides_143 (fun H locs hP hS => ?_)
    obtain ⟨M_23, hM_23⟩ : ∃ z9 : mw_M, z9 = mw_up M_19 q_2 (.inl (gI G, 9, .inl (upd (upd (upd (upd (fun _ => 0) 0 (nI b)) 1 0) 2 0) 3 (nI a)))) := ⟨_, rfl⟩
    have hP : mw_P (gD G) gx_cl M_23 H := by rw [hM_23]; exact hP
    have f_24 : M_23 (f0 f) = some (.inr (3, [.ref (fM f), .int (nI (sN S)), .ref (fF f), .ref (fP f), .int (sSp S), .int (sSh S)])) := by rw [hM_23, mw_ne _ _ ne_8]; exact f_20
    have f_25 : M_23 q_2 = some (.inl (gI G, 9, .inl (upd (upd (upd (upd (fun _ => 0) 0 (nI b)) 1 0) 2 0) 3 (nI a)))) := by rw [hM_23]; exact mw_self _ _ _
    have x_26 : mw_ext M M_23 := by rw [hM_23]; exact mw_ext.up x_22 n_6 _
    refine lv_dup hx hb dX3_signsOnBothSides_144 rfl ?_
    refine lv_iconst (v := 4) hx hb dX3_signsOnBothSides_145 (by decide) ?_
    refine lv_aload_n hx hb dX3_signsOnBothSides_146 rfl (lv_at hl 4 rfl) ?_
    refine lv_iload hx hb dX3_signsOnBothSides_147 (lv_at hl 8 rfl) ?_
    refine mw_callV (C := RX3) (As := [.int (nI b)]) (rest := [.int 4, .ref q_2, .ref q_2, .int (((bW S b) + (fMx (bW S a) (bW S z))) + (sSp S)), .ref (f0 f)]) hx hb hml hown hl (kX3_widthOf l htr G H.size M_23 f S (fs_R.ext hR x_26) b h_b) (g_B (n := 1) htb wd406 wd1 wd403 (by decide +kernel) ⟨Nat.le_of_ble_eq_true rfl, Nat.le_of_ble_eq_true rfl⟩) (htb _ wd405) (htb _ ws14) hE hP hS (fs_R.this (fs_R.ext hR x_26)) rfl rfl rfl (Nat.le_of_ble_eq_true rfl) dX3_signsOnBothSides_149 ⟨Nat.le_of_ble_eq_true rfl, Nat.le_of_ble_eq_true rfl⟩ (fun v9 M9 H locs hpo hP hz hS => ?_) (fun x9 E9 cell9 H9 locs9 hE9 => hE9.elim)
    obtain ⟨rfl, rfl⟩ := hpo
    refine W.eq (g2 := F0 m 152 ls [.int (bW S b), .int 4, .ref q_2, .ref q_2, .int (((bW S b) + (fMx (bW S a) (bW S z))) + (sSp S)), .ref (f0 f)]) rfl ?_
    refine mw_iast hx hb hK hP hS 0 f_25 (hAn _ hs_4) rfl (by unfold vp_in; decide) dX3_signsOnBothSides_152 (fun H locs hP hS => ?_)
    obtain ⟨M_27, hM_27⟩ : ∃ z9 : mw_M, z9 = mw_up M_23 q_2 (.inl (gI G, 9, .inl (upd (upd (upd (upd (upd (fun _ => 0) 0 (nI b)) 1 0) 2 0) 3 (nI a)) 4 (bW S b)))) := ⟨_, rfl⟩
    have hP : mw_P (gD G) gx_cl M_27 H := by rw [hM_27]; exact hP
    have f_28 : M_27 (f0 f) = some (.inr (3, [.ref (fM f), .int (nI (sN S)), .ref (fF f), .ref (fP f), .int (sSp S), .int (sSh S)])) := by rw [hM_27, mw_ne _ _ ne_8]; exact f_24
    have f_29 : M_27 q_2 = some (.inl (gI G, 9, .inl (upd (upd (upd (upd (upd (fun _ => 0) 0 (nI b)) 1 0) 2 0) 3 (nI a)) 4 (bW S b)))) := by rw [hM_27]; exact mw_self _ _ _
    have x_30 : mw_ext M M_27 := by rw [hM_27]; exact mw_ext.up x_26 n_6 _
    refine lv_dup hx hb dX3_signsOnBothSides_153 rfl ?_
    refine lv_iconst (v := 5) hx hb dX3_signsOnBothSides_154 (by decide) ?_
    refine lv_iload hx hb dX3_signsOnBothSides_155 (lv_at hl 3 rfl) ?_
    refine mw_iast hx hb hK hP hS 0 f_29 (hAn _ hs_4) rfl (by unfold vp_in; decide) dX3_signsOnBothSides_157 (fun H locs hP hS => ?_)
    obtain ⟨M_31, hM_31⟩ : ∃ z9 : mw_M, z9 = mw_up M_27 q_2 (.inl (gI G, 9, .inl (upd (upd (upd (upd (upd (upd (fun _ => 0) 0 (nI b)) 1 0) 2 0) 3 (nI a)) 4 (bW S b)) 5 up))) := ⟨_, rfl⟩
    have hP : mw_P (gD G) gx_cl M_31 H := by rw [hM_31]; exact hP
    have f_32 : M_31 (f0 f) = some (.inr (3, [.ref (fM f), .int (nI (sN S)), .ref (fF f), .ref (fP f), .int (sSp S), .int (sSh S)])) := by rw [hM_31, mw_ne _ _ ne_8]; exact f_28
    have f_33 : M_31 q_2 = some (.inl (gI G, 9, .inl (upd (upd (upd (upd (upd (upd (fun _ => 0) 0 (nI b)) 1 0) 2 0) 3 (nI a)) 4 (bW S b)) 5 up))) := by rw [hM_31]; exact mw_self _ _ _
    have x_34 : mw_ext M M_31 := by rw [hM_31]; exact mw_ext.up x_30 n_6 _
    refine lv_dup hx hb dX3_signsOnBothSides_158 rfl ?_
    refine lv_bipush (v := 6) hx hb dX3_signsOnBothSides_159 (by decide) ?_
    refine lv_iload hx hb dX3_signsOnBothSides_161 (lv_at hl 10 rfl) ?_
    refine mw_iast hx hb hK hP hS 0 f_33 (hAn _ hs_4) rfl (by unfold vp_in; decide) dX3_signsOnBothSides_163 (fun H locs hP hS => ?_)
    obtain ⟨M_35, hM_35⟩ : ∃ z9 : mw_M, z9 = mw_up M_31 q_2 (.inl (gI G, 9, .inl (upd (upd (upd (upd (upd (upd (upd (fun _ => 0) 0 (nI b)) 1 0) 2 0) 3 (nI a)) 4 (bW S b)) 5 up) 6 (nI z)))) := ⟨_, rfl⟩
    have hP : mw_P (gD G) gx_cl M_35 H := by rw [hM_35]; exact hP
    have f_36 : M_35 (f0 f) = some (.inr (3, [.ref (fM f), .int (nI (sN S)), .ref (fF f), .ref (fP f), .int (sSp S), .int (sSh S)])) := by rw [hM_35, mw_ne _ _ ne_8]; exact f_32
    have f_37 : M_35 q_2 = some (.inl (gI G, 9, .inl (upd (upd (upd (upd (upd (upd (upd (fun _ => 0) 0 (nI b)) 1 0) 2 0) 3 (nI a)) 4 (bW S b)) 5 up) 6 (nI z)))) := by rw [hM_35]; exact mw_self _ _ _
    have x_38 : mw_ext M M_35 := by rw [hM_35]; exact mw_ext.up x_34 n_6 _
    refine lv_dup hx hb dX3_signsOnBothSides_164 rfl ?_
    refine lv_bipush (v := 7) hx hb dX3_signsOnBothSides_165 (by decide) ?_
    refine lv_aload_n hx hb dX3_signsOnBothSides_167 rfl (lv_at hl 4 rfl) ?_
    refine lv_iload hx hb dX3_signsOnBothSides_168 (lv_at hl 8 rfl) ?_
    refine mw_callV (C := RX3) (As := [.int (nI b)]) (rest := [.int 7, .ref q_2, .ref q_2, .int (((bW S b) + (fMx (bW S a) (bW S z))) + (sSp S)), .ref (f0 f)]) hx hb hml hown hl (kX3_widthOf l htr G H.size M_35 f S (fs_R.ext hR x_38) b h_b) (g_B (n := 1) htb wd406 wd1 wd403 (by decide +kernel) ⟨Nat.le_of_ble_eq_true rfl, Nat.le_of_ble_eq_true rfl⟩) (htb _ wd405) (htb _ ws14) hE hP hS (fs_R.this (fs_R.ext hR x_38)) rfl rfl rfl (Nat.le_of_ble_eq_true rfl) dX3_signsOnBothSides_170 ⟨Nat.le_of_ble_eq_true rfl, Nat.le_of_ble_eq_true rfl⟩ (fun v9 M9 H locs hpo hP hz hS => ?_) (fun x9 E9 cell9 H9 locs9 hE9 => hE9.elim)
    obtain ⟨rfl, rfl⟩ := hpo
    refine W.eq (g2 := F0 m 173 ls [.int (bW S b), .int 7, .ref q_2, .ref q_2, .int (((bW S b) + (fMx (bW S a) (bW S z))) + (sSp S)), .ref (f0 f)]) rfl ?_
    refine mw_iast hx hb hK hP hS 0 f_37 (hAn _ hs_4) rfl (by unfold vp_in; decide) dX3_signsOnBothSides_173 (fun H locs hP hS => ?_)
    obtain ⟨M_39, hM_39⟩ : ∃ z9 : mw_M, z9 = mw_up M_35 q_2 (.inl (gI G, 9, .inl (upd (upd (upd (upd (upd (upd (upd (upd (fun _ => 0) 0 (nI b)) 1 0) 2 0) 3 (nI a)) 4 (bW S b)) 5 up) 6 (nI z)) 7 (bW S b)))) := ⟨_, rfl⟩
    have hP : mw_P (gD G) gx_cl M_39 H := by rw [hM_39]; exact hP
    have f_40 : M_39 (f0 f) = some (.inr (3, [.ref (fM f), .int (nI (sN S)), .ref (fF f), .ref (fP f), .int (sSp S), .int (sSh S)])) := by rw [hM_39, mw_ne _ _ ne_8]; exact f_36
    have f_41 : M_39 q_2 = some (.inl (gI G, 9, .inl (upd (upd (upd (upd (upd (upd (upd (upd (fun _ => 0) 0 (nI b)) 1 0) 2 0) 3 (nI a)) 4 (bW S b)) 5 up) 6 (nI z)) 7 (bW S b)))) := by rw [hM_39]; exact mw_self _ _ _
    have x_42 : mw_ext M M_39 := by rw [hM_39]; exact mw_ext.up x_38 n_6 _
    refine lv_dup hx hb dX3_signsOnBothSides_174 rfl ?_
    refine lv_bipush (v := 8) hx hb dX3_signsOnBothSides_175 (by decide) ?_
    refine lv_iload hx hb dX3_signsOnBothSides_177 (lv_at hl 2 rfl) ?_
    refine lv_ineg hx hb dX3_signsOnBothSides_179 ?_
    refine mw_iast hx hb hK hP hS 0 f_41 (hAn _ hs_4) rfl (by unfold vp_in; decide) dX3_signsOnBothSides_180 (fun H locs hP hS => ?_)
    obtain ⟨M_43, hM_43⟩ : ∃ z9 : mw_M, z9 = mw_up M_39 q_2 (.inl (gI G, 9, .inl (upd (upd (upd (upd (upd (upd (upd (upd (upd (fun _ => 0) 0 (nI b)) 1 0) 2 0) 3 (nI a)) 4 (bW S b)) 5 up) 6 (nI z)) 7 (bW S b)) 8 (-(fMx dn (pV S st 10)))))) := ⟨_, rfl⟩
    have hP : mw_P (gD G) gx_cl M_43 H := by rw [hM_43]; exact hP
    have f_44 : M_43 (f0 f) = some (.inr (3, [.ref (fM f), .int (nI (sN S)), .ref (fF f), .ref (fP f), .int (sSp S), .int (sSh S)])) := by rw [hM_43, mw_ne _ _ ne_8]; exact f_40
    have f_45 : M_43 q_2 = some (.inl (gI G, 9, .inl (upd (upd (upd (upd (upd (upd (upd (upd (upd (fun _ => 0) 0 (nI b)) 1 0) 2 0) 3 (nI a)) 4 (bW S b)) 5 up) 6 (nI z)) 7 (bW S b)) 8 (-(fMx dn (pV S st 10)))))) := by rw [hM_43]; exact mw_self _ _ _
    have x_46 : mw_ext M M_43 := by rw [hM_43]; exact mw_ext.up x_42 n_6 _
    refine mw_callV (C := RX3) (As := [.int (((bW S b) + (fMx (bW S a) (bW S z))) + (sSp S)), .ref q_2]) (rest := []) hx hb hml hown hl (kX3_enclosing l htr G H.size M_43 f S (fs_R.ext hR x_46) (fs_hXe x_46 hX) (fun q h => hAn q (Nat.le_trans hS.1 h)) q_2 (upd (upd (upd (upd (upd (upd (upd (upd (upd (fun _ => 0) 0 (nI b)) 1 0) 2 0) 3 (nI a)) 4 (bW S b)) 5 up) 6 (nI z)) 7 (bW S b)) 8 (-(fMx dn (pV S st 10)))) (((bW S b) + (fMx (bW S a) (bW S z))) + (sSp S)) [(nI b), 0, 0, (nI a), (bW S b), up, (nI z), (bW S b), (-(fMx dn (pV S st 10)))] f_45 (fun z => hX _ z n_6) (fun j hj => by rcases (show j = 0 ∨ j = 1 ∨ j = 2 ∨ j = 3 ∨ j = 4 ∨ j = 5 ∨ j = 6 ∨ j = 7 ∨ j = 8 by simp at hj; omega) with rfl | rfl | rfl | rfl | rfl | rfl | rfl | rfl | rfl <;> rfl) (by simp) (by simp) (fun j hj => by
        rcases (show j = 0 ∨ j = 1 ∨ j = 2 by simp at hj; omega) with rfl | rfl | rfl
        · exact ⟨b, h_b, rfl⟩
        · exact ⟨a, h_a, rfl⟩
        · exact ⟨z, h_z, rfl⟩)) (g_B (n := 2) htb wd452 wd1 wd449 (by decide +kernel) ⟨Nat.le_of_ble_eq_true rfl, Nat.le_of_ble_eq_true rfl⟩) (htb _ wd451) (htb _ ws20) hE hP hS (fs_R.this (fs_R.ext hR x_46)) rfl rfl rfl (Nat.le_of_ble_eq_true rfl) dX3_signsOnBothSides_181 ⟨Nat.le_of_ble_eq_true rfl, Nat.le_of_ble_eq_true rfl⟩ (fun v9 M9 H locs hpo hP hz hS => ?_) (fun x9 E9 cell9 H9 locs9 hE9 => hE9.elim)
    obtain ⟨q_47, rfl, x_48, b_49⟩ := hpo
    obtain ⟨M_51, hM_51⟩ : ∃ z9 : mw_M, z9 = M9 := ⟨_, rfl⟩
    rw [← hM_51] at hP x_48 b_49
    have x_52 : mw_ext M M_51 := mw_ext.tr x_46 x_48
    have f_53 : M_51 (f0 f) = some (.inr (3, [.ref (fM f), .int (nI (sN S)), .ref (fF f), .ref (fP f), .int (sSp S), .int (sSh S)])) := x_48 _ _ f_44
    have f_54 : M_51 q_2 = some (.inl (gI G, 9, .inl (upd (upd (upd (upd (upd (upd (upd (upd (upd (fun _ => 0) 0 (nI b)) 1 0) 2 0) 3 (nI a)) 4 (bW S b)) 5 up) 6 (nI z)) 7 (bW S b)) 8 (-(fMx dn (pV S st 10)))))) := x_48 _ _ f_45
    refine W.eq (g2 := F0 m 184 ls [.ref q_47]) rfl ?_
    have hbx9 : fs_bx G f M_51 q_47 (fs_sb S st up dn b a z) := by
      simp only [fs_sb, fs_sb1, fs_sb2, fs_sb3, if_pos c_1]
      exact b_49
    exact mx_aret (q := q_47) (M' := M_51) hx hb hr (Or.inl ⟨_, rfl⟩) hlocks hP hS ⟨q_47, rfl, x_52, hbx9⟩ dX3_signsOnBothSides_184 (Nat.le_of_ble_eq_true rfl) (Nat.le_of_ble_eq_true rfl)
  · refine lv_iconst (v := 0) hx hb dX3_signsOnBothSides_52 (by decide) ?_
    refine lv_aload_n hx hb dX3_signsOnBothSides_53 rfl (lv_at hl 3 rfl) ?_
    refine lv_iload_n hx hb dX3_signsOnBothSides_54 rfl (lv_at hl 4 rfl) ?_
    refine mw_callV (C := RX3) (As := [.int (nI st)]) (rest := [.int 0]) hx hb hml hown hl (kX3_fourFifths l htr G H.size M f S hR st h_st) (g_B (n := 1) htb wd448 wd1 wd445 (by decide +kernel) ⟨Nat.le_of_ble_eq_true rfl, Nat.le_of_ble_eq_true rfl⟩) (htb _ wd447) (htb _ ws19) hE hP hS (fs_R.this hR) rfl rfl rfl (Nat.le_of_ble_eq_true rfl) dX3_signsOnBothSides_55 ⟨Nat.le_of_ble_eq_true rfl, Nat.le_of_ble_eq_true rfl⟩ (fun v9 M9 H locs hpo hP hz hS => ?_) (fun x9 E9 cell9 H9 locs9 hE9 => hE9.elim)
    obtain ⟨rfl, rfl⟩ := hpo
    refine W.eq (g2 := F0 m 58 ls [.int (fs_45 S st), .int 0]) rfl ?_
    refine lv_iload hx hb dX3_signsOnBothSides_58 (lv_at hl 2 rfl) ?_
    refine lv_aload_n hx hb dX3_signsOnBothSides_60 rfl (lv_at hl 3 rfl) ?_
    refine lv_iload hx hb dX3_signsOnBothSides_61 (lv_at hl 8 rfl) ?_
    refine mw_callV (C := RX3) (As := [.int (nI a)]) (rest := [.int up, .int (fs_45 S st), .int 0]) hx hb hml hown hl (kX3_depthOf l htr G H.size M f S hR a h_a) (g_B (n := 1) htb wd397 wd1 wd394 (by decide +kernel) ⟨Nat.le_of_ble_eq_true rfl, Nat.le_of_ble_eq_true rfl⟩) (htb _ wd396) (htb _ ws12) hE hP hS (fs_R.this hR) rfl rfl rfl (Nat.le_of_ble_eq_true rfl) dX3_signsOnBothSides_63 ⟨Nat.le_of_ble_eq_true rfl, Nat.le_of_ble_eq_true rfl⟩ (fun v9 M9 H locs hpo hP hz hS => ?_) (fun x9 E9 cell9 H9 locs9 hE9 => hE9.elim)
    obtain ⟨rfl, rfl⟩ := hpo
    refine W.eq (g2 := F0 m 66 ls [.int (bD S a), .int up, .int (fs_45 S st), .int 0]) rfl ?_
    refine lv_isub hx hb dX3_signsOnBothSides_66 ?_
    refine lv_isub hx hb dX3_signsOnBothSides_67 ?_
    refine va_mmax hx hb (hml.trans hl.1.symm) hown (htb _ wd398) (htb _ wd364) (htb _ wd13) (htb _ wd365) (Nat.le_of_ble_eq_true rfl) (Nat.le_of_ble_eq_true rfl) (Nat.le_of_ble_eq_true rfl) (Nat.le_of_ble_eq_true rfl) dX3_signsOnBothSides_68 ?_
    refine W.eq (g2 := F0 m 71 ls [.int (fMx 0 ((fs_45 S st) - (up - (bD S a))))]) rfl ?_
    refine lv_istore (lv' := [(10, .int (fMx 0 ((fs_45 S st) - (up - (bD S a))))), (9, .int ((4 * (pV S st 13)) - ((up - (bD S a)) - ((bH S z) - (fMx dn (pV S st 10)))))), (8, .int (fMx dn (pV S st 10))), (7, .int up), (0, .ref (f0 f)), (1, .int (nI st)), (2, .int up), (3, .int dn), (4, .int (nI b)), (5, .int (nI a)), (6, .int (nI z))]) hx hb dX3_signsOnBothSides_71 hl (by decide) rfl (fun ls hl => ?_)
    refine lv_iload hx hb dX3_signsOnBothSides_73 (lv_at hl 3 rfl) ?_
    refine lv_iload hx hb dX3_signsOnBothSides_75 (lv_at hl 0 rfl) ?_
    refine lv_iadd hx hb dX3_signsOnBothSides_77 ?_
    refine lv_istore (lv' := [(7, .int (up + (fMx 0 ((fs_45 S st) - (up - (bD S a)))))), (10, .int (fMx 0 ((fs_45 S st) - (up - (bD S a))))), (9, .int ((4 * (pV S st 13)) - ((up - (bD S a)) - ((bH S z) - (fMx dn (pV S st 10)))))), (8, .int (fMx dn (pV S st 10))), (0, .ref (f0 f)), (1, .int (nI st)), (2, .int up), (3, .int dn), (4, .int (nI b)), (5, .int (nI a)), (6, .int (nI z))]) hx hb dX3_signsOnBothSides_78 hl (by decide) rfl (fun ls hl => ?_)
    refine lv_iload hx hb dX3_signsOnBothSides_80 (lv_at hl 3 rfl) ?_
    refine lv_iload hx hb dX3_signsOnBothSides_82 (lv_at hl 2 rfl) ?_
    refine lv_iload hx hb dX3_signsOnBothSides_84 (lv_at hl 1 rfl) ?_
    refine lv_isub hx hb dX3_signsOnBothSides_86 ?_
    refine lv_iadd hx hb dX3_signsOnBothSides_87 ?_
    refine lv_istore (lv' := [(8, .int ((fMx dn (pV S st 10)) + (((4 * (pV S st 13)) - ((up - (bD S a)) - ((bH S z) - (fMx dn (pV S st 10))))) - (fMx 0 ((fs_45 S st) - (up - (bD S a))))))), (7, .int (up + (fMx 0 ((fs_45 S st) - (up - (bD S a)))))), (10, .int (fMx 0 ((fs_45 S st) - (up - (bD S a))))), (9, .int ((4 * (pV S st 13)) - ((up - (bD S a)) - ((bH S z) - (fMx dn (pV S st 10)))))), (0, .ref (f0 f)), (1, .int (nI st)), (2, .int up), (3, .int dn), (4, .int (nI b)), (5, .int (nI a)), (6, .int (nI z))]) hx hb dX3_signsOnBothSides_88 hl (by decide) rfl (fun ls hl => ?_)
    refine lv_aload_n hx hb dX3_signsOnBothSides_90 rfl (lv_at hl 4 rfl) ?_
    refine lv_iload hx hb dX3_signsOnBothSides_91 (lv_at hl 8 rfl) ?_
    refine mw_callV (C := RX3) (As := [.int (nI b)]) (rest := []) hx hb hml hown hl (kX3_widthOf l htr G H.size M f S hR b h_b) (g_B (n := 1) htb wd406 wd1 wd403 (by decide +kernel) ⟨Nat.le_of_ble_eq_true rfl, Nat.le_of_ble_eq_true rfl⟩) (htb _ wd405) (htb _ ws14) hE hP hS (fs_R.this hR) rfl rfl rfl (Nat.le_of_ble_eq_true rfl) dX3_signsOnBothSides_93 ⟨Nat.le_of_ble_eq_true rfl, Nat.le_of_ble_eq_true rfl⟩ (fun v9 M9 H locs hpo hP hz hS => ?_) (fun x9 E9 cell9 H9 locs9 hE9 => hE9.elim)
    obtain ⟨rfl, rfl⟩ := hpo
    refine W.eq (g2 := F0 m 96 ls [.int (bW S b)]) rfl ?_
    refine lv_aload_n hx hb dX3_signsOnBothSides_96 rfl (lv_at hl 4 rfl) ?_
    refine lv_iload hx hb dX3_signsOnBothSides_97 (lv_at hl 9 rfl) ?_
    refine mw_callV (C := RX3) (As := [.int (nI a)]) (rest := [.int (bW S b)]) hx hb hml hown hl (kX3_widthOf l htr G H.size M f S hR a h_a) (g_B (n := 1) htb wd406 wd1 wd403 (by decide +kernel) ⟨Nat.le_of_ble_eq_true rfl, Nat.le_of_ble_eq_true rfl⟩) (htb _ wd405) (htb _ ws14) hE hP hS (fs_R.this hR) rfl rfl rfl (Nat.le_of_ble_eq_true rfl) dX3_signsOnBothSides_99 ⟨Nat.le_of_ble_eq_true rfl, Nat.le_of_ble_eq_true rfl⟩ (fun v9 M9 H locs hpo hP hz hS => ?_) (fun x9 E9 cell9 H9 locs9 hE9 => hE9.elim)
    obtain ⟨rfl, rfl⟩ := hpo
    refine W.eq (g2 := F0 m 102 ls [.int (bW S a), .int (bW S b)]) rfl ?_
    refine lv_aload_n hx hb dX3_signsOnBothSides_102 rfl (lv_at hl 4 rfl) ?_
    refine lv_iload hx hb dX3_signsOnBothSides_103 (lv_at hl 10 rfl) ?_
    refine mw_callV (C := RX3) (As := [.int (nI z)]) (rest := [.int (bW S a), .int (bW S b)]) hx hb hml hown hl (kX3_widthOf l htr G H.size M f S hR z h_z) (g_B (n := 1) htb wd406 wd1 wd403 (by decide +kernel) ⟨Nat.le_of_ble_eq_true rfl, Nat.le_of_ble_eq_true rfl⟩) (htb _ wd405) (htb _ ws14) hE hP hS (fs_R.this hR) rfl rfl rfl (Nat.le_of_ble_eq_true rfl) dX3_signsOnBothSides_105 ⟨Nat.le_of_ble_eq_true rfl, Nat.le_of_ble_eq_true rfl⟩ (fun v9 M9 H locs hpo hP hz hS => ?_) (fun x9 E9 cell9 H9 locs9 hE9 => hE9.elim)
    obtain ⟨rfl, rfl⟩ := hpo
    refine W.eq (g2 := F0 m 108 ls [.int (bW S z), .int (bW S a), .int (bW S b)]) rfl ?_
    refine va_mmax hx hb (hml.trans hl.1.symm) hown (htb _ wd398) (htb _ wd364) (htb _ wd13) (htb _ wd365) (Nat.le_of_ble_eq_true rfl) (Nat.le_of_ble_eq_true rfl) (Nat.le_of_ble_eq_true rfl) (Nat.le_of_ble_eq_true rfl) dX3_signsOnBothSides_108 ?_
    refine W.eq (g2 := F0 m 111 ls [.int (fMx (bW S a) (bW S z)), .int (bW S b)]) rfl ?_
    refine lv_iadd hx hb dX3_signsOnBothSides_111 ?_
    refine lv_aload_n hx hb dX3_signsOnBothSides_112 rfl (lv_at hl 4 rfl) ?_
    refine mw_get (D := gD G) (ci := 3) (v := .int (sSp S)) (C := RX3) (T := TX3) (N := 6) hx hb htb inX3 hown hK hP (hR.this) rfl 4 (by decide) (htb _ wd60) (fun _ h9 => h9) rfl dX3_signsOnBothSides_113 ?_
    refine lv_iadd hx hb dX3_signsOnBothSides_116 ?_
    refine lv_istore (lv' := [(10, .int (((bW S b) + (fMx (bW S a) (bW S z))) + (sSp S))), (8, .int ((fMx dn (pV S st 10)) + (((4 * (pV S st 13)) - ((up - (bD S a)) - ((bH S z) - (fMx dn (pV S st 10))))) - (fMx 0 ((fs_45 S st) - (up - (bD S a))))))), (7, .int (up + (fMx 0 ((fs_45 S st) - (up - (bD S a)))))), (9, .int ((4 * (pV S st 13)) - ((up - (bD S a)) - ((bH S z) - (fMx dn (pV S st 10)))))), (0, .ref (f0 f)), (1, .int (nI st)), (2, .int up), (3, .int dn), (4, .int (nI b)), (5, .int (nI a)), (6, .int (nI z))]) hx hb dX3_signsOnBothSides_117 hl (by decide) rfl (fun ls hl => ?_)
    refine lv_aload_n hx hb dX3_signsOnBothSides_119 rfl (lv_at hl 4 rfl) ?_
    refine lv_iload hx hb dX3_signsOnBothSides_120 (lv_at hl 0 rfl) ?_
    refine lv_bipush (v := 9) hx hb dX3_signsOnBothSides_122 (by decide) ?_
    refine mw_newi (N := 9) hx hb (htb _ wd55) hK hP hS 0 rfl (by decide) (by decide) (by decide) (Nat.le_of_ble_eq_true rfl) (Nat.le_of_ble_eq_true rfl) dX3_signsOnBothSides_124 (fun q_55 H hq_56 hs_57 hP hS => ?_)
    obtain ⟨M_58, hM_58⟩ : ∃ z9 : mw_M, z9 = mw_up M q_55 (.inl (gI G, 9, .inl (fun _ => 0))) := ⟨_, rfl⟩
    have hP : mw_P (gD G) gx_cl M_58 H := by rw [hM_58]; exact hP
    have n_59 : M q_55 = none := mw_ext.no (mw_ext.rf M) hq_56
    have f_60 : M_58 (f0 f) = some (.inr (3, [.ref (fM f), .int (nI (sN S)), .ref (fF f), .ref (fP f), .int (sSp S), .int (sSh S)])) := by rw [hM_58, mw_ne _ _ (fun z => by have z1 := (hR.this); rw [z, hq_56] at z1; cases z1)]; exact (hR.this)
    have ne_61 : (f0 f) ≠ q_55 := fun z => by have z1 := (hR.this); rw [z, hq_56] at z1; cases z1
    have f_62 : M_58 q_55 = some (.inl (gI G, 9, .inl (fun _ => 0))) := by rw [hM_58]; exact mw_self _ _ _
    have x_63 : mw_ext M M_58 := by rw [hM_58]; exact mw_ext.up (mw_ext.rf M) n_59 _
    refine lv_dup hx hb dX3_signsOnBothSides_126 rfl ?_
    refine lv_iconst (v := 0) hx hb dX3_signsOnBothSides_127 (by decide) ?_
    refine lv_iload hx hb dX3_signsOnBothSides_128 (lv_at hl 8 rfl) ?_
    refine mw_iast hx hb hK hP hS 0 f_62 (hAn _ hs_57) rfl (by unfold vp_in; decide) dX3_signsOnBothSides_130 (fun H locs hP hS => ?_)
    obtain ⟨M_64, hM_64⟩ : ∃ z9 : mw_M, z9 = mw_up M_58 q_55 (.inl (gI G, 9, .inl (upd (fun _ => 0) 0 (nI b)))) := ⟨_, rfl⟩
    have hP : mw_P (gD G) gx_cl M_64 H := by rw [hM_64]; exact hP
    have f_65 : M_64 (f0 f) = some (.inr (3, [.ref (fM f), .int (nI (sN S)), .ref (fF f), .ref (fP f), .int (sSp S), .int (sSh S)])) := by rw [hM_64, mw_ne _ _ ne_61]; exact f_60
    have f_66 : M_64 q_55 = some (.inl (gI G, 9, .inl (upd (fun _ => 0) 0 (nI b)))) := by rw [hM_64]; exact mw_self _ _ _
    have x_67 : mw_ext M M_64 := by rw [hM_64]; exact mw_ext.up x_63 n_59 _
    refine lv_dup hx hb dX3_signsOnBothSides_131 rfl ?_
    refine lv_iconst (v := 1) hx hb dX3_signsOnBothSides_132 (by decide) ?_
    refine lv_iconst (v := 0) hx hb dX3_signsOnBothSides_133 (by decide) ?_
    refine mw_iast hx hb hK hP hS 0 f_66 (hAn _ hs_57) rfl (by unfold vp_in; decide) dX3_signsOnBothSides_134 (fun H locs hP hS => ?_)
    obtain ⟨M_68, hM_68⟩ : ∃ z9 : mw_M, z9 = mw_up M_64 q_55 (.inl (gI G, 9, .inl (upd (upd (fun _ => 0) 0 (nI b)) 1 0))) := ⟨_, rfl⟩
    have hP : mw_P (gD G) gx_cl M_68 H := by rw [hM_68]; exact hP
    have f_69 : M_68 (f0 f) = some (.inr (3, [.ref (fM f), .int (nI (sN S)), .ref (fF f), .ref (fP f), .int (sSp S), .int (sSh S)])) := by rw [hM_68, mw_ne _ _ ne_61]; exact f_65
    have f_70 : M_68 q_55 = some (.inl (gI G, 9, .inl (upd (upd (fun _ => 0) 0 (nI b)) 1 0))) := by rw [hM_68]; exact mw_self _ _ _
    have x_71 : mw_ext M M_68 := by rw [hM_68]; exact mw_ext.up x_67 n_59 _
    refine lv_dup hx hb dX3_signsOnBothSides_135 rfl ?_
    refine lv_iconst (v := 2) hx hb dX3_signsOnBothSides_136 (by decide) ?_
    refine lv_iconst (v := 0) hx hb dX3_signsOnBothSides_137 (by decide) ?_
    refine mw_iast hx hb hK hP hS 0 f_70 (hAn _ hs_57) rfl (by unfold vp_in; decide) dX3_signsOnBothSides_138 (fun H locs hP hS => ?_)
    obtain ⟨M_72, hM_72⟩ : ∃ z9 : mw_M, z9 = mw_up M_68 q_55 (.inl (gI G, 9, .inl (upd (upd (upd (fun _ => 0) 0 (nI b)) 1 0) 2 0))) := ⟨_, rfl⟩
    have hP : mw_P (gD G) gx_cl M_72 H := by rw [hM_72]; exact hP
    have f_73 : M_72 (f0 f) = some (.inr (3, [.ref (fM f), .int (nI (sN S)), .ref (fF f), .ref (fP f), .int (sSp S), .int (sSh S)])) := by rw [hM_72, mw_ne _ _ ne_61]; exact f_69
    have f_74 : M_72 q_55 = some (.inl (gI G, 9, .inl (upd (upd (upd (fun _ => 0) 0 (nI b)) 1 0) 2 0))) := by rw [hM_72]; exact mw_self _ _ _
    have x_75 : mw_ext M M_72 := by rw [hM_72]; exact mw_ext.up x_71 n_59 _
    refine lv_dup hx hb dX3_signsOnBothSides_139 rfl ?_
    refine lv_iconst (v := 3) hx hb dX3_signsOnBothSides_140 (by decide) ?_
    refine lv_iload hx hb dX3_signsOnBothSides_141 (lv_at hl 9 rfl) ?_
    refine mw_iast hx hb hK hP hS 0 f_74 (hAn _ hs_57) rfl (by unfold vp_in; decide) dX3_signsOnBothSides_143 (fun H locs hP hS => ?_)
    obtain ⟨M_76, hM_76⟩ : ∃ z9 : mw_M, z9 = mw_up M_72 q_55 (.inl (gI G, 9, .inl (upd (upd (upd (upd (fun _ => 0) 0 (nI b)) 1 0) 2 0) 3 (nI a)))) := ⟨_, rfl⟩
    have hP : mw_P (gD G) gx_cl M_76 H := by rw [hM_76]; exact hP
    have f_77 : M_76 (f0 f) = some (.inr (3, [.ref (fM f), .int (nI (sN S)), .ref (fF f), .ref (fP f), .int (sSp S), .int (sSh S)])) := by rw [hM_76, mw_ne _ _ ne_61]; exact f_73
    have f_78 : M_76 q_55 = some (.inl (gI G, 9, .inl (upd (upd (upd (upd (fun _ => 0) 0 (nI b)) 1 0) 2 0) 3 (nI a)))) := by rw [hM_76]; exact mw_self _ _ _
    have x_79 : mw_ext M M_76 := by rw [hM_76]; exact mw_ext.up x_75 n_59 _
    refine lv_dup hx hb dX3_signsOnBothSides_144 rfl ?_
    refine lv_iconst (v := 4) hx hb dX3_signsOnBothSides_145 (by decide) ?_
    refine lv_aload_n hx hb dX3_signsOnBothSides_146 rfl (lv_at hl 4 rfl) ?_
    refine lv_iload hx hb dX3_signsOnBothSides_147 (lv_at hl 8 rfl) ?_
    refine mw_callV (C := RX3) (As := [.int (nI b)]) (rest := [.int 4, .ref q_55, .ref q_55, .int (((bW S b) + (fMx (bW S a) (bW S z))) + (sSp S)), .ref (f0 f)]) hx hb hml hown hl (kX3_widthOf l htr G H.size M_76 f S (fs_R.ext hR x_79) b h_b) (g_B (n := 1) htb wd406 wd1 wd403 (by decide +kernel) ⟨Nat.le_of_ble_eq_true rfl, Nat.le_of_ble_eq_true rfl⟩) (htb _ wd405) (htb _ ws14) hE hP hS (fs_R.this (fs_R.ext hR x_79)) rfl rfl rfl (Nat.le_of_ble_eq_true rfl) dX3_signsOnBothSides_149 ⟨Nat.le_of_ble_eq_true rfl, Nat.le_of_ble_eq_true rfl⟩ (fun v9 M9 H locs hpo hP hz hS => ?_) (fun x9 E9 cell9 H9 locs9 hE9 => hE9.elim)
    obtain ⟨rfl, rfl⟩ := hpo
    refine W.eq (g2 := F0 m 152 ls [.int (bW S b), .int 4, .ref q_55, .ref q_55, .int (((bW S b) + (fMx (bW S a) (bW S z))) + (sSp S)), .ref (f0 f)]) rfl ?_
    refine mw_iast hx hb hK hP hS 0 f_78 (hAn _ hs_57) rfl (by unfold vp_in; decide) dX3_signsOnBothSides_152 (fun H locs hP hS => ?_)
    obtain ⟨M_80, hM_80⟩ : ∃ z9 : mw_M, z9 = mw_up M_76 q_55 (.inl (gI G, 9, .inl (upd (upd (upd (upd (upd (fun _ => 0) 0 (nI b)) 1 0) 2 0) 3 (nI a)) 4 (bW S b)))) := ⟨_, rfl⟩
    have hP : mw_P (gD G) gx_cl M_80 H := by rw [hM_80]; exact hP
    have f_81 : M_80 (f0 f) = some (.inr (3, [.ref (fM f), .int (nI (sN S)), .ref (fF f), .ref (fP f), .int (sSp S), .int (sSh S)])) := by rw [hM_80, mw_ne _ _ ne_61]; exact f_77
    have f_82 : M_80 q_55 = some (.inl (gI G, 9, .inl (upd (upd (upd (upd (upd (fun _ => 0) 0 (nI b)) 1 0) 2 0) 3 (nI a)) 4 (bW S b)))) := by rw [hM_80]; exact mw_self _ _ _
    have x_83 : mw_ext M M_80 := by rw [hM_80]; exact mw_ext.up x_79 n_59 _
    refine lv_dup hx hb dX3_signsOnBothSides_153 rfl ?_
    refine lv_iconst (v := 5) hx hb dX3_signsOnBothSides_154 (by decide) ?_
    refine lv_iload hx hb dX3_signsOnBothSides_155 (lv_at hl 2 rfl) ?_
    refine mw_iast hx hb hK hP hS 0 f_82 (hAn _ hs_57) rfl (by unfold vp_in; decide) dX3_signsOnBothSides_157 (fun H locs hP hS => ?_)
    obtain ⟨M_84, hM_84⟩ : ∃ z9 : mw_M, z9 = mw_up M_80 q_55 (.inl (gI G, 9, .inl (upd (upd (upd (upd (upd (upd (fun _ => 0) 0 (nI b)) 1 0) 2 0) 3 (nI a)) 4 (bW S b)) 5 (up + (fMx 0 ((fs_45 S st) - (up - (bD S a)))))))) := ⟨_, rfl⟩
    have hP : mw_P (gD G) gx_cl M_84 H := by rw [hM_84]; exact hP
    have f_85 : M_84 (f0 f) = some (.inr (3, [.ref (fM f), .int (nI (sN S)), .ref (fF f), .ref (fP f), .int (sSp S), .int (sSh S)])) := by rw [hM_84, mw_ne _ _ ne_61]; exact f_81
    have f_86 : M_84 q_55 = some (.inl (gI G, 9, .inl (upd (upd (upd (upd (upd (upd (fun _ => 0) 0 (nI b)) 1 0) 2 0) 3 (nI a)) 4 (bW S b)) 5 (up + (fMx 0 ((fs_45 S st) - (up - (bD S a)))))))) := by rw [hM_84]; exact mw_self _ _ _
    have x_87 : mw_ext M M_84 := by rw [hM_84]; exact mw_ext.up x_83 n_59 _
    refine lv_dup hx hb dX3_signsOnBothSides_158 rfl ?_
    refine lv_bipush (v := 6) hx hb dX3_signsOnBothSides_159 (by decide) ?_
    refine lv_iload hx hb dX3_signsOnBothSides_161 (lv_at hl 10 rfl) ?_
    refine mw_iast hx hb hK hP hS 0 f_86 (hAn _ hs_57) rfl (by unfold vp_in; decide) dX3_signsOnBothSides_163 (fun H locs hP hS => ?_)
    obtain ⟨M_88, hM_88⟩ : ∃ z9 : mw_M, z9 = mw_up M_84 q_55 (.inl (gI G, 9, .inl (upd (upd (upd (upd (upd (upd (upd (fun _ => 0) 0 (nI b)) 1 0) 2 0) 3 (nI a)) 4 (bW S b)) 5 (up + (fMx 0 ((fs_45 S st) - (up - (bD S a)))))) 6 (nI z)))) := ⟨_, rfl⟩
    have hP : mw_P (gD G) gx_cl M_88 H := by rw [hM_88]; exact hP
    have f_89 : M_88 (f0 f) = some (.inr (3, [.ref (fM f), .int (nI (sN S)), .ref (fF f), .ref (fP f), .int (sSp S), .int (sSh S)])) := by rw [hM_88, mw_ne _ _ ne_61]; exact f_85
    have f_90 : M_88 q_55 = some (.inl (gI G, 9, .inl (upd (upd (upd (upd (upd (upd (upd (fun _ => 0) 0 (nI b)) 1 0) 2 0) 3 (nI a)) 4 (bW S b)) 5 (up + (fMx 0 ((fs_45 S st) - (up - (bD S a)))))) 6 (nI z)))) := by rw [hM_88]; exact mw_self _ _ _
    have x_91 : mw_ext M M_88 := by rw [hM_88]; exact mw_ext.up x_87 n_59 _
    refine lv_dup hx hb dX3_signsOnBothSides_164 rfl ?_
    refine lv_bipush (v := 7) hx hb dX3_signsOnBothSides_165 (by decide) ?_
    refine lv_aload_n hx hb dX3_signsOnBothSides_167 rfl (lv_at hl 4 rfl) ?_
    refine lv_iload hx hb dX3_signsOnBothSides_168 (lv_at hl 8 rfl) ?_
    refine mw_callV (C := RX3) (As := [.int (nI b)]) (rest := [.int 7, .ref q_55, .ref q_55, .int (((bW S b) + (fMx (bW S a) (bW S z))) + (sSp S)), .ref (f0 f)]) hx hb hml hown hl (kX3_widthOf l htr G H.size M_88 f S (fs_R.ext hR x_91) b h_b) (g_B (n := 1) htb wd406 wd1 wd403 (by decide +kernel) ⟨Nat.le_of_ble_eq_true rfl, Nat.le_of_ble_eq_true rfl⟩) (htb _ wd405) (htb _ ws14) hE hP hS (fs_R.this (fs_R.ext hR x_91)) rfl rfl rfl (Nat.le_of_ble_eq_true rfl) dX3_signsOnBothSides_170 ⟨Nat.le_of_ble_eq_true rfl, Nat.le_of_ble_eq_true rfl⟩ (fun v9 M9 H locs hpo hP hz hS => ?_) (fun x9 E9 cell9 H9 locs9 hE9 => hE9.elim)
    obtain ⟨rfl, rfl⟩ := hpo
    refine W.eq (g2 := F0 m 173 ls [.int (bW S b), .int 7, .ref q_55, .ref q_55, .int (((bW S b) + (fMx (bW S a) (bW S z))) + (sSp S)), .ref (f0 f)]) rfl ?_
    refine mw_iast hx hb hK hP hS 0 f_90 (hAn _ hs_57) rfl (by unfold vp_in; decide) dX3_signsOnBothSides_173 (fun H locs hP hS => ?_)
    obtain ⟨M_92, hM_92⟩ : ∃ z9 : mw_M, z9 = mw_up M_88 q_55 (.inl (gI G, 9, .inl (upd (upd (upd (upd (upd (upd (upd (upd (fun _ => 0) 0 (nI b)) 1 0) 2 0) 3 (nI a)) 4 (bW S b)) 5 (up + (fMx 0 ((fs_45 S st) - (up - (bD S a)))))) 6 (nI z)) 7 (bW S b)))) := ⟨_, rfl⟩
    have hP : mw_P (gD G) gx_cl M_92 H := by rw [hM_92]; exact hP
    have f_93 : M_92 (f0 f) = some (.inr (3, [.ref (fM f), .int (nI (sN S)), .ref (fF f), .ref (fP f), .int (sSp S), .int (sSh S)])) := by rw [hM_92, mw_ne _ _ ne_61]; exact f_89
    have f_94 : M_92 q_55 = some (.inl (gI G, 9, .inl (upd (upd (upd (upd (upd (upd (upd (upd (fun _ => 0) 0 (nI b)) 1 0) 2 0) 3 (nI a)) 4 (bW S b)) 5 (up + (fMx 0 ((fs_45 S st) - (up - (bD S a)))))) 6 (nI z)) 7 (bW S b)))) := by rw [hM_92]; exact mw_self _ _ _
    have x_95 : mw_ext M M_92 := by rw [hM_92]; exact mw_ext.up x_91 n_59 _
    refine lv_dup hx hb dX3_signsOnBothSides_174 rfl ?_
    refine lv_bipush (v := 8) hx hb dX3_signsOnBothSides_175 (by decide) ?_
    refine lv_iload hx hb dX3_signsOnBothSides_177 (lv_at hl 1 rfl) ?_
    refine lv_ineg hx hb dX3_signsOnBothSides_179 ?_
    refine mw_iast hx hb hK hP hS 0 f_94 (hAn _ hs_57) rfl (by unfold vp_in; decide) dX3_signsOnBothSides_180 (fun H locs hP hS => ?_)
    obtain ⟨M_96, hM_96⟩ : ∃ z9 : mw_M, z9 = mw_up M_92 q_55 (.inl (gI G, 9, .inl (upd (upd (upd (upd (upd (upd (upd (upd (upd (fun _ => 0) 0 (nI b)) 1 0) 2 0) 3 (nI a)) 4 (bW S b)) 5 (up + (fMx 0 ((fs_45 S st) - (up - (bD S a)))))) 6 (nI z)) 7 (bW S b)) 8 (-((fMx dn (pV S st 10)) + (((4 * (pV S st 13)) - ((up - (bD S a)) - ((bH S z) - (fMx dn (pV S st 10))))) - (fMx 0 ((fs_45 S st) - (up - (bD S a)))))))))) := ⟨_, rfl⟩
    have hP : mw_P (gD G) gx_cl M_96 H := by rw [hM_96]; exact hP
    have f_97 : M_96 (f0 f) = some (.inr (3, [.ref (fM f), .int (nI (sN S)), .ref (fF f), .ref (fP f), .int (sSp S), .int (sSh S)])) := by rw [hM_96, mw_ne _ _ ne_61]; exact f_93
    have f_98 : M_96 q_55 = some (.inl (gI G, 9, .inl (upd (upd (upd (upd (upd (upd (upd (upd (upd (fun _ => 0) 0 (nI b)) 1 0) 2 0) 3 (nI a)) 4 (bW S b)) 5 (up + (fMx 0 ((fs_45 S st) - (up - (bD S a)))))) 6 (nI z)) 7 (bW S b)) 8 (-((fMx dn (pV S st 10)) + (((4 * (pV S st 13)) - ((up - (bD S a)) - ((bH S z) - (fMx dn (pV S st 10))))) - (fMx 0 ((fs_45 S st) - (up - (bD S a)))))))))) := by rw [hM_96]; exact mw_self _ _ _
    have x_99 : mw_ext M M_96 := by rw [hM_96]; exact mw_ext.up x_95 n_59 _
    refine mw_callV (C := RX3) (As := [.int (((bW S b) + (fMx (bW S a) (bW S z))) + (sSp S)), .ref q_55]) (rest := []) hx hb hml hown hl (kX3_enclosing l htr G H.size M_96 f S (fs_R.ext hR x_99) (fs_hXe x_99 hX) (fun q h => hAn q (Nat.le_trans hS.1 h)) q_55 (upd (upd (upd (upd (upd (upd (upd (upd (upd (fun _ => 0) 0 (nI b)) 1 0) 2 0) 3 (nI a)) 4 (bW S b)) 5 (up + (fMx 0 ((fs_45 S st) - (up - (bD S a)))))) 6 (nI z)) 7 (bW S b)) 8 (-((fMx dn (pV S st 10)) + (((4 * (pV S st 13)) - ((up - (bD S a)) - ((bH S z) - (fMx dn (pV S st 10))))) - (fMx 0 ((fs_45 S st) - (up - (bD S a)))))))) (((bW S b) + (fMx (bW S a) (bW S z))) + (sSp S)) [(nI b), 0, 0, (nI a), (bW S b), (up + (fMx 0 ((fs_45 S st) - (up - (bD S a))))), (nI z), (bW S b), (-((fMx dn (pV S st 10)) + (((4 * (pV S st 13)) - ((up - (bD S a)) - ((bH S z) - (fMx dn (pV S st 10))))) - (fMx 0 ((fs_45 S st) - (up - (bD S a)))))))] f_98 (fun z => hX _ z n_59) (fun j hj => by rcases (show j = 0 ∨ j = 1 ∨ j = 2 ∨ j = 3 ∨ j = 4 ∨ j = 5 ∨ j = 6 ∨ j = 7 ∨ j = 8 by simp at hj; omega) with rfl | rfl | rfl | rfl | rfl | rfl | rfl | rfl | rfl <;> rfl) (by simp) (by simp) (fun j hj => by
        rcases (show j = 0 ∨ j = 1 ∨ j = 2 by simp at hj; omega) with rfl | rfl | rfl
        · exact ⟨b, h_b, rfl⟩
        · exact ⟨a, h_a, rfl⟩
        · exact ⟨z, h_z, rfl⟩)) (g_B (n := 2) htb wd452 wd1 wd449 (by decide +kernel) ⟨Nat.le_of_ble_eq_true rfl, Nat.le_of_ble_eq_true rfl⟩) (htb _ wd451) (htb _ ws20) hE hP hS (fs_R.this (fs_R.ext hR x_99)) rfl rfl rfl (Nat.le_of_ble_eq_true rfl) dX3_signsOnBothSides_181 ⟨Nat.le_of_ble_eq_true rfl, Nat.le_of_ble_eq_true rfl⟩ (fun v9 M9 H locs hpo hP hz hS => ?_) (fun x9 E9 cell9 H9 locs9 hE9 => hE9.elim)
    obtain ⟨q_100, rfl, x_101, b_102⟩ := hpo
    obtain ⟨M_104, hM_104⟩ : ∃ z9 : mw_M, z9 = M9 := ⟨_, rfl⟩
    rw [← hM_104] at hP x_101 b_102
    have x_105 : mw_ext M M_104 := mw_ext.tr x_99 x_101
    have f_106 : M_104 (f0 f) = some (.inr (3, [.ref (fM f), .int (nI (sN S)), .ref (fF f), .ref (fP f), .int (sSp S), .int (sSh S)])) := x_101 _ _ f_97
    have f_107 : M_104 q_55 = some (.inl (gI G, 9, .inl (upd (upd (upd (upd (upd (upd (upd (upd (upd (fun _ => 0) 0 (nI b)) 1 0) 2 0) 3 (nI a)) 4 (bW S b)) 5 (up + (fMx 0 ((fs_45 S st) - (up - (bD S a)))))) 6 (nI z)) 7 (bW S b)) 8 (-((fMx dn (pV S st 10)) + (((4 * (pV S st 13)) - ((up - (bD S a)) - ((bH S z) - (fMx dn (pV S st 10))))) - (fMx 0 ((fs_45 S st) - (up - (bD S a)))))))))) := x_101 _ _ f_98
    refine W.eq (g2 := F0 m 184 ls [.ref q_100]) rfl ?_
    have hbx9 : fs_bx G f M_104 q_100 (fs_sb S st up dn b a z) := by
      simp only [fs_sb, fs_sb1, fs_sb2, fs_sb3, if_neg c_1]
      exact b_102
    exact mx_aret (q := q_100) (M' := M_104) hx hb hr (Or.inl ⟨_, rfl⟩) hlocks hP hS ⟨q_100, rfl, x_105, hbx9⟩ dX3_signsOnBothSides_184 (Nat.le_of_ble_eq_true rfl) (Nat.le_of_ble_eq_true rfl)
