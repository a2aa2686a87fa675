/-! printed by wip/whole/spec*.py -/
-- X3_limitsShape
set_option maxHeartbeats 4000000 in
set_option maxRecDepth 100000 in
theorem kX3_limitsShape (l : Launch) (htr : l.stackTraces = false) (G : gx_G) (sz : Nat) (M : mw_M) (f : fs_A) (S : fs_S) (hR : fs_R G f M S) (hX : ∀ a, fX f a → M a ≠ none) (hA : ∀ q : Nat, sz ≤ q → gA G q) (st b : Nat) (h_st : st < 4) (h_b : b < sN S) (a z : Int32) (hoa : fs_on S a) (hoz : fs_on S z) (hno2 : ¬ (a = (-1) ∧ z = (-1))) : g_Met l G yX3_limitsShape (.code yX3_limitsShape cX3_limitsShape 13 (some (.object "FormulaShapes$Box"))) ({ frames := 4, cells := 3, slots := 30, locals := 180 } : Room) sz M [.ref (f0 f), .int (nI st), .int (nI b), .int a, .int z] (fun v M9 => ∃ q, v = some (.ref q) ∧ mw_ext M M9 ∧ fs_bx G f M9 q (fs_lm S st b a z)) (fun _ => False) := by
  refine MetE.ofW (cc := cX3_limitsShape) (maxL := 13) (ret := (some (.object "FormulaShapes$Box"))) (by decide) rfl ?_
  intro p e s m args below meth c s₁ B hml hv
  obtain ⟨rfl, hsz, hP, hE⟩ := hv
  have hx := B.exec
  have hb := B.bytes
  have hr := B.returns
  have hts := atoms_spec (ws := _ :: lw_big) B.pre
  have htb : ∀ w ∈ lw_big, w.before _ s = true := fun w h => hts w (List.mem_cons_of_mem _ h)
  have hno := B.noHandlers (hts _ List.mem_cons_self)
  have hown : s.vm.findClass RX3 = some m.cls := findClass_of_methodNamed B.named
  have hlocks := B.notSynchronized
  have hK := hE.1
  subst hsz
  have hAn : ∀ q : Nat, s.heap.size ≤ q → gA G q := hA
  have hS : va_S (gA G) s.heap s.heap [] := va_S.rf
  have hl := lv_entry ([.ref (f0 f), .int (nI st), .int (nI b), .int a, .int z]) (n := 13) (Nat.le_of_ble_eq_true rfl)
  rw [lg_entry_eq]
  generalize (lg_sl ([.ref (f0 f), .int (nI st), .int (nI b), .int a, .int z]) ++ List.replicate (13 - (lg_sl ([.ref (f0 f), .int (nI st), .int (nI b), .int a, .int z])).length) Slot.unset).toArray = ls at hl ⊢
  have hl : lv_has ls 13 [(0, .ref (f0 f)), (1, .int (nI st)), (2, .int (nI b)), (3, .int a), (4, .int z)] := hl
  refine lv_aload_n hx hb dX3_limitsShape_0 rfl (lv_at hl 0 rfl) ?_
  refine lv_iload_n hx hb dX3_limitsShape_1 rfl (lv_at hl 1 rfl) ?_
  refine lv_bipush (v := 19) hx hb dX3_limitsShape_2 (by decide) ?_
  refine mw_callV (C := RX3) (As := [.int (nI st), .int 19]) (rest := []) hx hb hml hown hl (kX3_valueOf l htr G s.heap.size M f S hR st 19 h_st (by decide)) (g_B (n := 2) htb wd390 wd1 wd387 (by decide +kernel) ⟨Nat.le_of_ble_eq_true rfl, Nat.le_of_ble_eq_true rfl⟩) (htb _ wd389) (htb _ ws11) hE hP hS (fs_R.this hR) rfl rfl rfl (Nat.le_of_ble_eq_true rfl) dX3_limitsShape_4 ⟨Nat.le_of_ble_eq_true rfl, Nat.le_of_ble_eq_true rfl⟩ (fun v9 M9 H locs hpo hP hz hS => ?_) (fun x9 E9 cell9 H9 locs9 hE9 => hE9.elim)
  obtain ⟨rfl, rfl⟩ := hpo
  refine W.eq (g2 := F0 m 7 ls [.int (pV S st 19)]) rfl ?_
  refine lv_istore (lv' := [(5, .int (pV S st 19)), (0, .ref (f0 f)), (1, .int (nI st)), (2, .int (nI b)), (3, .int a), (4, .int z)]) hx hb dX3_limitsShape_7 hl (by decide) rfl (fun ls hl => ?_)
  refine lv_aload_n hx hb dX3_limitsShape_9 rfl (lv_at hl 1 rfl) ?_
  refine lv_iload_n hx hb dX3_limitsShape_10 rfl (lv_at hl 3 rfl) ?_
  refine mw_callV (C := RX3) (As := [.int (nI b)]) (rest := []) hx hb hml hown hl (kX3_widthOf l htr G H.size M f S hR b h_b) (g_B (n := 1) htb wd406 wd1 wd403 (by decide +kernel) ⟨Nat.le_of_ble_eq_true rfl, Nat.le_of_ble_eq_true rfl⟩) (htb _ wd405) (htb _ ws14) hE hP hS (fs_R.this hR) rfl rfl rfl (Nat.le_of_ble_eq_true rfl) dX3_limitsShape_11 ⟨Nat.le_of_ble_eq_true rfl, Nat.le_of_ble_eq_true rfl⟩ (fun v9 M9 H locs hpo hP hz hS => ?_) (fun x9 E9 cell9 H9 locs9 hE9 => hE9.elim)
  obtain ⟨rfl, rfl⟩ := hpo
  refine W.eq (g2 := F0 m 14 ls [.int (bW S b)]) rfl ?_
  refine lv_istore (lv' := [(6, .int (bW S b)), (5, .int (pV S st 19)), (0, .ref (f0 f)), (1, .int (nI st)), (2, .int (nI b)), (3, .int a), (4, .int z)]) hx hb dX3_limitsShape_14 hl (by decide) rfl (fun ls hl => ?_)
  refine lv_aload_n hx hb dX3_limitsShape_16 rfl (lv_at hl 2 rfl) ?_
  refine lv_iload_n hx hb dX3_limitsShape_17 rfl (lv_at hl 4 rfl) ?_
  refine mw_callV (C := RX3) (As := [.int (nI b)]) (rest := []) hx hb hml hown hl (kX3_heightOf l htr G H.size M f S hR b h_b) (g_B (n := 1) htb wd402 wd1 wd399 (by decide +kernel) ⟨Nat.le_of_ble_eq_true rfl, Nat.le_of_ble_eq_true rfl⟩) (htb _ wd401) (htb _ ws13) hE hP hS (fs_R.this hR) rfl rfl rfl (Nat.le_of_ble_eq_true rfl) dX3_limitsShape_18 ⟨Nat.le_of_ble_eq_true rfl, Nat.le_of_ble_eq_true rfl⟩ (fun v9 M9 H locs hpo hP hz hS => ?_) (fun x9 E9 cell9 H9 locs9 hE9 => hE9.elim)
  obtain ⟨rfl, rfl⟩ := hpo
  refine W.eq (g2 := F0 m 21 ls [.int (bH S b)]) rfl ?_
  refine lv_istore (lv' := [(7, .int (bH S b)), (6, .int (bW S b)), (5, .int (pV S st 19)), (0, .ref (f0 f)), (1, .int (nI st)), (2, .int (nI b)), (3, .int a), (4, .int z)]) hx hb dX3_limitsShape_21 hl (by decide) rfl (fun ls hl => ?_)
  refine lv_aload_n hx hb dX3_limitsShape_23 rfl (lv_at hl 3 rfl) ?_
  refine lv_iload_n hx hb dX3_limitsShape_24 rfl (lv_at hl 5 rfl) ?_
  refine mw_callV (C := RX3) (As := [.int (nI b)]) (rest := []) hx hb hml hown hl (kX3_depthOf l htr G H.size M f S hR b h_b) (g_B (n := 1) htb wd397 wd1 wd394 (by decide +kernel) ⟨Nat.le_of_ble_eq_true rfl, Nat.le_of_ble_eq_true rfl⟩) (htb _ wd396) (htb _ ws12) hE hP hS (fs_R.this hR) rfl rfl rfl (Nat.le_of_ble_eq_true rfl) dX3_limitsShape_25 ⟨Nat.le_of_ble_eq_true rfl, Nat.le_of_ble_eq_true rfl⟩ (fun v9 M9 H locs hpo hP hz hS => ?_) (fun x9 E9 cell9 H9 locs9 hE9 => hE9.elim)
  obtain ⟨rfl, rfl⟩ := hpo
  refine W.eq (g2 := F0 m 28 ls [.int (bD S b)]) rfl ?_
  refine lv_istore (lv' := [(8, .int (bD S b)), (7, .int (bH S b)), (6, .int (bW S b)), (5, .int (pV S st 19)), (0, .ref (f0 f)), (1, .int (nI st)), (2, .int (nI b)), (3, .int a), (4, .int z)]) hx hb dX3_limitsShape_28 hl (by decide) rfl (fun ls hl => ?_)
  refine lv_iconst (v := 0) hx hb dX3_limitsShape_30 (by decide) ?_
  refine lv_istore (lv' := [(9, .int 0), (8, .int (bD S b)), (7, .int (bH S b)), (6, .int (bW S b)), (5, .int (pV S st 19)), (0, .ref (f0 f)), (1, .int (nI st)), (2, .int (nI b)), (3, .int a), (4, .int z)]) hx hb dX3_limitsShape_31 hl (by decide) rfl (fun ls hl => ?_)
  refine lv_iconst (v := 0) hx hb dX3_limitsShape_33 (by decide) ?_
  refine lv_istore (lv' := [(10, .int 0), (9, .int 0), (8, .int (bD S b)), (7, .int (bH S b)), (6, .int (bW S b)), (5, .int (pV S st 19)), (0, .ref (f0 f)), (1, .int (nI st)), (2, .int (nI b)), (3, .int a), (4, .int z)]) hx hb dX3_limitsShape_34 hl (by decide) rfl (fun ls hl => ?_)
  refine lv_iload_n hx hb dX3_limitsShape_36 rfl (lv_at hl 9 rfl) ?_
  refine lv_iconst (v := (-1)) hx hb dX3_limitsShape_37 (by decide) ?_
  refine lv_icmp_eq (tgt := 104) hx hb dX3_limitsShape_38 (by decide) (fun c_1 => ?_) (fun c_1 => ?_)
  · refine lv_iload hx hb dX3_limitsShape_104 (lv_at hl 10 rfl) ?_
    refine lv_iconst (v := (-1)) hx hb dX3_limitsShape_106 (by decide) ?_
    refine lv_icmp_eq (tgt := 178) hx hb dX3_limitsShape_107 (by decide) (fun c_2 => ?_) (fun c_2 => ?_)
    · exact absurd ⟨c_1, c_2⟩ hno2
    · obtain ⟨zi, h_zi, rfl⟩ := hoz.resolve_left c_2
      have hc_zi : fIx (nI zi) = zi := nI_clamp (show zi < 2 ^ 31 by have := hR.ok.1; omega)
      refine lv_aload_n hx hb dX3_limitsShape_110 rfl (lv_at hl 6 rfl) ?_
      refine lv_iload_n hx hb dX3_limitsShape_111 rfl (lv_at hl 7 rfl) ?_
      refine lv_bipush (v := 18) hx hb dX3_limitsShape_112 (by decide) ?_
      refine mw_callV (C := RX3) (As := [.int (nI st), .int 18]) (rest := []) hx hb hml hown hl (kX3_valueOf l htr G H.size M f S hR st 18 h_st (by decide)) (g_B (n := 2) htb wd390 wd1 wd387 (by decide +kernel) ⟨Nat.le_of_ble_eq_true rfl, Nat.le_of_ble_eq_true rfl⟩) (htb _ wd389) (htb _ ws11) hE hP hS (fs_R.this hR) rfl rfl rfl (Nat.le_of_ble_eq_true rfl) dX3_limitsShape_114 ⟨Nat.le_of_ble_eq_true rfl, Nat.le_of_ble_eq_true rfl⟩ (fun v9 M9 H locs hpo hP hz hS => ?_) (fun x9 E9 cell9 H9 locs9 hE9 => hE9.elim)
      obtain ⟨rfl, rfl⟩ := hpo
      refine W.eq (g2 := F0 m 117 ls [.int (pV S st 18)]) rfl ?_
      refine lv_aload_n hx hb dX3_limitsShape_117 rfl (lv_at hl 6 rfl) ?_
      refine lv_iload hx hb dX3_limitsShape_118 (lv_at hl 10 rfl) ?_
      refine mw_callV (C := RX3) (As := [.int (nI zi)]) (rest := [.int (pV S st 18)]) hx hb hml hown hl (kX3_heightOf l htr G H.size M f S hR zi h_zi) (g_B (n := 1) htb wd402 wd1 wd399 (by decide +kernel) ⟨Nat.le_of_ble_eq_true rfl, Nat.le_of_ble_eq_true rfl⟩) (htb _ wd401) (htb _ ws13) hE hP hS (fs_R.this hR) rfl rfl rfl (Nat.le_of_ble_eq_true rfl) dX3_limitsShape_120 ⟨Nat.le_of_ble_eq_true rfl, Nat.le_of_ble_eq_true rfl⟩ (fun v9 M9 H locs hpo hP hz hS => ?_) (fun x9 E9 cell9 H9 locs9 hE9 => hE9.elim)
      obtain ⟨rfl, rfl⟩ := hpo
      refine W.eq (g2 := F0 m 123 ls [.int (bH S zi), .int (pV S st 18)]) rfl ?_
      refine lv_isub hx hb dX3_limitsShape_123 ?_
      refine lv_aload_n hx hb dX3_limitsShape_124 rfl (lv_at hl 6 rfl) ?_
      refine lv_iload_n hx hb dX3_limitsShape_125 rfl (lv_at hl 7 rfl) ?_
      refine lv_bipush (v := 16) hx hb dX3_limitsShape_126 (by decide) ?_
      refine mw_callV (C := RX3) (As := [.int (nI st), .int 16]) (rest := [.int ((pV S st 18) - (bH S zi))]) hx hb hml hown hl (kX3_valueOf l htr G H.size M f S hR st 16 h_st (by decide)) (g_B (n := 2) htb wd390 wd1 wd387 (by decide +kernel) ⟨Nat.le_of_ble_eq_true rfl, Nat.le_of_ble_eq_true rfl⟩) (htb _ wd389) (htb _ ws11) hE hP hS (fs_R.this hR) rfl rfl rfl (Nat.le_of_ble_eq_true rfl) dX3_limitsShape_128 ⟨Nat.le_of_ble_eq_true rfl, Nat.le_of_ble_eq_true rfl⟩ (fun v9 M9 H locs hpo hP hz hS => ?_) (fun x9 E9 cell9 H9 locs9 hE9 => hE9.elim)
      obtain ⟨rfl, rfl⟩ := hpo
      refine W.eq (g2 := F0 m 131 ls [.int (pV S st 16), .int ((pV S st 18) - (bH S zi))]) rfl ?_
      refine va_mmax hx hb (hml.trans hl.1.symm) hown (htb _ wd398) (htb _ wd364) (htb _ wd13) (htb _ wd365) (Nat.le_of_ble_eq_true rfl) (Nat.le_of_ble_eq_true rfl) (Nat.le_of_ble_eq_true rfl) (Nat.le_of_ble_eq_true rfl) dX3_limitsShape_131 ?_
      refine W.eq (g2 := F0 m 134 ls [.int (fMx ((pV S st 18) - (bH S zi)) (pV S st 16))]) rfl ?_
      refine lv_istore (lv' := [(11, .int (fMx ((pV S st 18) - (bH S zi)) (pV S st 16))), (10, .int 0), (9, .int 0), (8, .int (bD S b)), (7, .int (bH S b)), (6, .int (bW S b)), (5, .int (pV S st 19)), (0, .ref (f0 f)), (1, .int (nI st)), (2, .int (nI b)), (3, .int a), (4, .int (nI zi))]) hx hb dX3_limitsShape_134 hl (by decide) rfl (fun ls hl => ?_)
      refine lv_iload hx hb dX3_limitsShape_136 (lv_at hl 3 rfl) ?_
      refine lv_iload hx hb dX3_limitsShape_138 (lv_at hl 0 rfl) ?_
      refine lv_iadd hx hb dX3_limitsShape_140 ?_
      refine lv_aload_n hx hb dX3_limitsShape_141 rfl (lv_at hl 7 rfl) ?_
      refine lv_iload hx hb dX3_limitsShape_142 (lv_at hl 11 rfl) ?_
      refine mw_callV (C := RX3) (As := [.int (nI zi)]) (rest := [.int ((bD S b) + (fMx ((pV S st 18) - (bH S zi)) (pV S st 16)))]) hx hb hml hown hl (kX3_heightOf l htr G H.size M f S hR zi h_zi) (g_B (n := 1) htb wd402 wd1 wd399 (by decide +kernel) ⟨Nat.le_of_ble_eq_true rfl, Nat.le_of_ble_eq_true rfl⟩) (htb _ wd401) (htb _ ws13) hE hP hS (fs_R.this hR) rfl rfl rfl (Nat.le_of_ble_eq_true rfl) dX3_limitsShape_144 ⟨Nat.le_of_ble_eq_true rfl, Nat.le_of_ble_eq_true rfl⟩ (fun v9 M9 H locs hpo hP hz hS => ?_) (fun x9 E9 cell9 H9 locs9 hE9 => hE9.elim)
      obtain ⟨rfl, rfl⟩ := hpo
      refine W.eq (g2 := F0 m 147 ls [.int (bH S zi), .int ((bD S b) + (fMx ((pV S st 18) - (bH S zi)) (pV S st 16)))]) rfl ?_
      refine lv_iadd hx hb dX3_limitsShape_147 ?_
      refine lv_ineg hx hb dX3_limitsShape_148 ?_
      refine lv_istore (lv' := [(10, .int (-(((bD S b) + (fMx ((pV S st 18) - (bH S zi)) (pV S st 16))) + (bH S zi)))), (11, .int (fMx ((pV S st 18) - (bH S zi)) (pV S st 16))), (9, .int 0), (8, .int (bD S b)), (7, .int (bH S b)), (6, .int (bW S b)), (5, .int (pV S st 19)), (0, .ref (f0 f)), (1, .int (nI st)), (2, .int (nI b)), (3, .int a), (4, .int (nI zi))]) hx hb dX3_limitsShape_149 hl (by decide) rfl (fun ls hl => ?_)
      refine lv_aload_n hx hb dX3_limitsShape_151 rfl (lv_at hl 7 rfl) ?_
      refine lv_iload hx hb dX3_limitsShape_152 (lv_at hl 11 rfl) ?_
      refine mw_callV (C := RX3) (As := [.int (nI zi)]) (rest := []) hx hb hml hown hl (kX3_depthOf l htr G H.size M f S hR zi h_zi) (g_B (n := 1) htb wd397 wd1 wd394 (by decide +kernel) ⟨Nat.le_of_ble_eq_true rfl, Nat.le_of_ble_eq_true rfl⟩) (htb _ wd396) (htb _ ws12) hE hP hS (fs_R.this hR) rfl rfl rfl (Nat.le_of_ble_eq_true rfl) dX3_limitsShape_154 ⟨Nat.le_of_ble_eq_true rfl, Nat.le_of_ble_eq_true rfl⟩ (fun v9 M9 H locs hpo hP hz hS => ?_) (fun x9 E9 cell9 H9 locs9 hE9 => hE9.elim)
      obtain ⟨rfl, rfl⟩ := hpo
      refine W.eq (g2 := F0 m 157 ls [.int (bD S zi)]) rfl ?_
      refine lv_iload hx hb dX3_limitsShape_157 (lv_at hl 6 rfl) ?_
      refine lv_iadd hx hb dX3_limitsShape_159 ?_
      refine lv_iload hx hb dX3_limitsShape_160 (lv_at hl 0 rfl) ?_
      refine lv_isub hx hb dX3_limitsShape_162 ?_
      refine lv_istore (lv' := [(8, .int (((bD S zi) + (pV S st 19)) - (-(((bD S b) + (fMx ((pV S st 18) - (bH S zi)) (pV S st 16))) + (bH S zi))))), (10, .int (-(((bD S b) + (fMx ((pV S st 18) - (bH S zi)) (pV S st 16))) + (bH S zi)))), (11, .int (fMx ((pV S st 18) - (bH S zi)) (pV S st 16))), (9, .int 0), (7, .int (bH S b)), (6, .int (bW S b)), (5, .int (pV S st 19)), (0, .ref (f0 f)), (1, .int (nI st)), (2, .int (nI b)), (3, .int a), (4, .int (nI zi))]) hx hb dX3_limitsShape_163 hl (by decide) rfl (fun ls hl => ?_)
      refine lv_iload hx hb dX3_limitsShape_165 (lv_at hl 5 rfl) ?_
      refine lv_aload_n hx hb dX3_limitsShape_167 rfl (lv_at hl 7 rfl) ?_
      refine lv_iload hx hb dX3_limitsShape_168 (lv_at hl 11 rfl) ?_
      refine mw_callV (C := RX3) (As := [.int (nI zi)]) (rest := [.int (bW S b)]) hx hb hml hown hl (kX3_widthOf l htr G H.size M f S hR zi h_zi) (g_B (n := 1) htb wd406 wd1 wd403 (by decide +kernel) ⟨Nat.le_of_ble_eq_true rfl, Nat.le_of_ble_eq_true rfl⟩) (htb _ wd405) (htb _ ws14) hE hP hS (fs_R.this hR) rfl rfl rfl (Nat.le_of_ble_eq_true rfl) dX3_limitsShape_170 ⟨Nat.le_of_ble_eq_true rfl, Nat.le_of_ble_eq_true rfl⟩ (fun v9 M9 H locs hpo hP hz hS => ?_) (fun x9 E9 cell9 H9 locs9 hE9 => hE9.elim)
      obtain ⟨rfl, rfl⟩ := hpo
      refine W.eq (g2 := F0 m 173 ls [.int (bW S zi), .int (bW S b)]) rfl ?_
      refine va_mmax hx hb (hml.trans hl.1.symm) hown (htb _ wd398) (htb _ wd364) (htb _ wd13) (htb _ wd365) (Nat.le_of_ble_eq_true rfl) (Nat.le_of_ble_eq_true rfl) (Nat.le_of_ble_eq_true rfl) (Nat.le_of_ble_eq_true rfl) dX3_limitsShape_173 ?_
      refine W.eq (g2 := F0 m 176 ls [.int (fMx (bW S b) (bW S zi))]) rfl ?_
      refine lv_istore (lv' := [(6, .int (fMx (bW S b) (bW S zi))), (8, .int (((bD S zi) + (pV S st 19)) - (-(((bD S b) + (fMx ((pV S st 18) - (bH S zi)) (pV S st 16))) + (bH S zi))))), (10, .int (-(((bD S b) + (fMx ((pV S st 18) - (bH S zi)) (pV S st 16))) + (bH S zi)))), (11, .int (fMx ((pV S st 18) - (bH S zi)) (pV S st 16))), (9, .int 0), (7, .int (bH S b)), (5, .int (pV S st 19)), (0, .ref (f0 f)), (1, .int (nI st)), (2, .int (nI b)), (3, .int a), (4, .int (nI zi))]) hx hb dX3_limitsShape_176 hl (by decide) rfl (fun ls hl => ?_)
      refine lv_iload hx hb dX3_limitsShape_178 (lv_at hl 0 rfl) ?_
      refine lv_aload_n hx hb dX3_limitsShape_180 rfl (lv_at hl 7 rfl) ?_
      refine lv_iload_n hx hb dX3_limitsShape_181 rfl (lv_at hl 9 rfl) ?_
      refine mw_callV (C := RX3) (As := [.int (nI b)]) (rest := [.int (fMx (bW S b) (bW S zi))]) hx hb hml hown hl (kX3_widthOf l htr G H.size M f S hR b h_b) (g_B (n := 1) htb wd406 wd1 wd403 (by decide +kernel) ⟨Nat.le_of_ble_eq_true rfl, Nat.le_of_ble_eq_true rfl⟩) (htb _ wd405) (htb _ ws14) hE hP hS (fs_R.this hR) rfl rfl rfl (Nat.le_of_ble_eq_true rfl) dX3_limitsShape_182 ⟨Nat.le_of_ble_eq_true rfl, Nat.le_of_ble_eq_true rfl⟩ (fun v9 M9 H locs hpo hP hz hS => ?_) (fun x9 E9 cell9 H9 locs9 hE9 => hE9.elim)
      obtain ⟨rfl, rfl⟩ := hpo
      refine W.eq (g2 := F0 m 185 ls [.int (bW S b), .int (fMx (bW S b) (bW S zi))]) rfl ?_
      refine lv_isub hx hb dX3_limitsShape_185 ?_
      refine mw_callS (As := [.int ((fMx (bW S b) (bW S zi)) - (bW S b))]) (rest := []) hx hb hml hown hl (kX3_half l htr G H.size M ((fMx (bW S b) (bW S zi)) - (bW S b))) (g_B (n := 1) htb wd393 wd1 wd391 (by decide +kernel) ⟨Nat.le_of_ble_eq_true rfl, Nat.le_of_ble_eq_true rfl⟩) (htb _ wd392) hE hP hS rfl rfl (Nat.le_of_ble_eq_true rfl) dX3_limitsShape_186 ⟨Nat.le_of_ble_eq_true rfl, Nat.le_of_ble_eq_true rfl⟩ (fun v9 M9 H locs hpo hP hz hS => ?_) (fun x9 E9 cell9 H9 locs9 hE9 => hE9.elim)
      obtain ⟨rfl, rfl⟩ := hpo
      refine W.eq (g2 := F0 m 189 ls [.int (fHf ((fMx (bW S b) (bW S zi)) - (bW S b)))]) rfl ?_
      refine lv_istore (lv' := [(11, .int (fHf ((fMx (bW S b) (bW S zi)) - (bW S b)))), (6, .int (fMx (bW S b) (bW S zi))), (8, .int (((bD S zi) + (pV S st 19)) - (-(((bD S b) + (fMx ((pV S st 18) - (bH S zi)) (pV S st 16))) + (bH S zi))))), (10, .int (-(((bD S b) + (fMx ((pV S st 18) - (bH S zi)) (pV S st 16))) + (bH S zi)))), (9, .int 0), (7, .int (bH S b)), (5, .int (pV S st 19)), (0, .ref (f0 f)), (1, .int (nI st)), (2, .int (nI b)), (3, .int a), (4, .int (nI zi))]) hx hb dX3_limitsShape_189 hl (by decide) rfl (fun ls hl => ?_)
      refine lv_iload_n hx hb dX3_limitsShape_191 rfl (lv_at hl 10 rfl) ?_
      refine lv_iconst (v := (-1)) hx hb dX3_limitsShape_192 (by decide) ?_
      refine lv_icmp_ne (tgt := 252) hx hb dX3_limitsShape_193 (by decide) (fun c_3 => absurd c_1 c_3) (fun c_3 => ?_)
      refine mw_new (ci := 0) (fs := [.int 0, .int 0, .int 0, .null, .int 0, .int 0]) (C := RX0) (T := TX0) (N := 6) hx hb htb inX0 tyX0 tyX0_ok hown (htb _ wd22) (htb _ wd215) (htb _ wd10) hK hP hS rfl (fun j hj => by rcases (show j = 0 ∨ j = 1 ∨ j = 2 ∨ j = 3 ∨ j = 4 ∨ j = 5 by omega) with rfl | rfl | rfl | rfl | rfl | rfl <;> rfl) (Nat.le_of_ble_eq_true rfl) (Nat.le_of_ble_eq_true rfl) dX3_limitsShape_196 (fun q_4 H hq_5 hs_6 hP hS => ?_)
      obtain ⟨M_7, hM_7⟩ : ∃ z9 : mw_M, z9 = mw_up M q_4 (.inr (0, [.int 0, .int 0, .int 0, .null, .int 0, .int 0])) := ⟨_, rfl⟩
      have hP : mw_P (gD G) gx_cl M_7 H := by rw [hM_7]; exact hP
      have n_8 : M q_4 = none := mw_ext.no (mw_ext.rf M) hq_5
      have f_9 : M_7 q_4 = some (.inr (0, [.int 0, .int 0, .int 0, .null, .int 0, .int 0])) := by rw [hM_7]; exact mw_self _ _ _
      have x_10 : mw_ext M M_7 := by rw [hM_7]; exact mw_ext.up (mw_ext.rf M) n_8 _
      refine lv_dup hx hb dX3_limitsShape_199 rfl ?_
      refine lv_iload hx hb dX3_limitsShape_200 (lv_at hl 1 rfl) ?_
      refine lv_iload hx hb dX3_limitsShape_202 (lv_at hl 5 rfl) ?_
      refine lv_iload hx hb dX3_limitsShape_204 (lv_at hl 2 rfl) ?_
      refine lv_bipush (v := 6) hx hb dX3_limitsShape_206 (by decide) ?_
      refine mw_newi (N := 6) hx hb (htb _ wd55) hK hP hS 0 rfl (by decide) (by decide) (by decide) (Nat.le_of_ble_eq_true rfl) (Nat.le_of_ble_eq_true rfl) dX3_limitsShape_208 (fun q_11 H hq_12 hs_13 hP hS => ?_)
      obtain ⟨M_14, hM_14⟩ : ∃ z9 : mw_M, z9 = mw_up M_7 q_11 (.inl (gI G, 6, .inl (fun _ => 0))) := ⟨_, rfl⟩
      have hP : mw_P (gD G) gx_cl M_14 H := by rw [hM_14]; exact hP
      have n_15 : M q_11 = none := mw_ext.no x_10 hq_12
      have f_16 : M_14 q_4 = some (.inr (0, [.int 0, .int 0, .int 0, .null, .int 0, .int 0])) := by rw [hM_14, mw_ne _ _ (fun z => by have z1 := f_9; rw [z, hq_12] at z1; cases z1)]; exact f_9
      have ne_17 : q_4 ≠ q_11 := fun z => by have z1 := f_9; rw [z, hq_12] at z1; cases z1
      have f_18 : M_14 q_11 = some (.inl (gI G, 6, .inl (fun _ => 0))) := by rw [hM_14]; exact mw_self _ _ _
      have x_19 : mw_ext M M_14 := by rw [hM_14]; exact mw_ext.up x_10 n_15 _
      refine lv_dup hx hb dX3_limitsShape_210 rfl ?_
      refine lv_iconst (v := 0) hx hb dX3_limitsShape_211 (by decide) ?_
      refine lv_iload_n hx hb dX3_limitsShape_212 rfl (lv_at hl 9 rfl) ?_
      refine mw_iast hx hb hK hP hS 0 f_18 (hAn _ hs_13) rfl (by unfold vp_in; decide) dX3_limitsShape_213 (fun H locs hP hS => ?_)
      obtain ⟨M_20, hM_20⟩ : ∃ z9 : mw_M, z9 = mw_up M_14 q_11 (.inl (gI G, 6, .inl (upd (fun _ => 0) 0 (nI b)))) := ⟨_, rfl⟩
      have hP : mw_P (gD G) gx_cl M_20 H := by rw [hM_20]; exact hP
      have f_21 : M_20 q_4 = some (.inr (0, [.int 0, .int 0, .int 0, .null, .int 0, .int 0])) := by rw [hM_20, mw_ne _ _ ne_17]; exact f_16
      have f_22 : M_20 q_11 = some (.inl (gI G, 6, .inl (upd (fun _ => 0) 0 (nI b)))) := by rw [hM_20]; exact mw_self _ _ _
      have x_23 : mw_ext M M_20 := by rw [hM_20]; exact mw_ext.up x_19 n_15 _
      refine lv_dup hx hb dX3_limitsShape_214 rfl ?_
      refine lv_iconst (v := 1) hx hb dX3_limitsShape_215 (by decide) ?_
      refine lv_iload hx hb dX3_limitsShape_216 (lv_at hl 0 rfl) ?_
      refine mw_iast hx hb hK hP hS 0 f_22 (hAn _ hs_13) rfl (by unfold vp_in; decide) dX3_limitsShape_218 (fun H locs hP hS => ?_)
      obtain ⟨M_24, hM_24⟩ : ∃ z9 : mw_M, z9 = mw_up M_20 q_11 (.inl (gI G, 6, .inl (upd (upd (fun _ => 0) 0 (nI b)) 1 (fHf ((fMx (bW S b) (bW S zi)) - (bW S b)))))) := ⟨_, rfl⟩
      have hP : mw_P (gD G) gx_cl M_24 H := by rw [hM_24]; exact hP
      have f_25 : M_24 q_4 = some (.inr (0, [.int 0, .int 0, .int 0, .null, .int 0, .int 0])) := by rw [hM_24, mw_ne _ _ ne_17]; exact f_21
      have f_26 : M_24 q_11 = some (.inl (gI G, 6, .inl (upd (upd (fun _ => 0) 0 (nI b)) 1 (fHf ((fMx (bW S b) (bW S zi)) - (bW S b)))))) := by rw [hM_24]; exact mw_self _ _ _
      have x_27 : mw_ext M M_24 := by rw [hM_24]; exact mw_ext.up x_23 n_15 _
      refine lv_dup hx hb dX3_limitsShape_219 rfl ?_
      refine lv_iconst (v := 2) hx hb dX3_limitsShape_220 (by decide) ?_
      refine lv_iconst (v := 0) hx hb dX3_limitsShape_221 (by decide) ?_
      refine mw_iast hx hb hK hP hS 0 f_26 (hAn _ hs_13) rfl (by unfold vp_in; decide) dX3_limitsShape_222 (fun H locs hP hS => ?_)
      obtain ⟨M_28, hM_28⟩ : ∃ z9 : mw_M, z9 = mw_up M_24 q_11 (.inl (gI G, 6, .inl (upd (upd (upd (fun _ => 0) 0 (nI b)) 1 (fHf ((fMx (bW S b) (bW S zi)) - (bW S b)))) 2 0))) := ⟨_, rfl⟩
      have hP : mw_P (gD G) gx_cl M_28 H := by rw [hM_28]; exact hP
      have f_29 : M_28 q_4 = some (.inr (0, [.int 0, .int 0, .int 0, .null, .int 0, .int 0])) := by rw [hM_28, mw_ne _ _ ne_17]; exact f_25
      have f_30 : M_28 q_11 = some (.inl (gI G, 6, .inl (upd (upd (upd (fun _ => 0) 0 (nI b)) 1 (fHf ((fMx (bW S b) (bW S zi)) - (bW S b)))) 2 0))) := by rw [hM_28]; exact mw_self _ _ _
      have x_31 : mw_ext M M_28 := by rw [hM_28]; exact mw_ext.up x_27 n_15 _
      refine lv_dup hx hb dX3_limitsShape_223 rfl ?_
      refine lv_iconst (v := 3) hx hb dX3_limitsShape_224 (by decide) ?_
      refine lv_iload hx hb dX3_limitsShape_225 (lv_at hl 11 rfl) ?_
      refine mw_iast hx hb hK hP hS 0 f_30 (hAn _ hs_13) rfl (by unfold vp_in; decide) dX3_limitsShape_227 (fun H locs hP hS => ?_)
      obtain ⟨M_32, hM_32⟩ : ∃ z9 : mw_M, z9 = mw_up M_28 q_11 (.inl (gI G, 6, .inl (upd (upd (upd (upd (fun _ => 0) 0 (nI b)) 1 (fHf ((fMx (bW S b) (bW S zi)) - (bW S b)))) 2 0) 3 (nI zi)))) := ⟨_, rfl⟩
      have hP : mw_P (gD G) gx_cl M_32 H := by rw [hM_32]; exact hP
      have f_33 : M_32 q_4 = some (.inr (0, [.int 0, .int 0, .int 0, .null, .int 0, .int 0])) := by rw [hM_32, mw_ne _ _ ne_17]; exact f_29
      have f_34 : M_32 q_11 = some (.inl (gI G, 6, .inl (upd (upd (upd (upd (fun _ => 0) 0 (nI b)) 1 (fHf ((fMx (bW S b) (bW S zi)) - (bW S b)))) 2 0) 3 (nI zi)))) := by rw [hM_32]; exact mw_self _ _ _
      have x_35 : mw_ext M M_32 := by rw [hM_32]; exact mw_ext.up x_31 n_15 _
      refine lv_dup hx hb dX3_limitsShape_228 rfl ?_
      refine lv_iconst (v := 4) hx hb dX3_limitsShape_229 (by decide) ?_
      refine lv_iload hx hb dX3_limitsShape_230 (lv_at hl 1 rfl) ?_
      refine lv_aload_n hx hb dX3_limitsShape_232 rfl (lv_at hl 7 rfl) ?_
      refine lv_iload hx hb dX3_limitsShape_233 (lv_at hl 11 rfl) ?_
      refine mw_callV (C := RX3) (As := [.int (nI zi)]) (rest := [.int (fMx (bW S b) (bW S zi)), .int 4, .ref q_11, .ref q_11, .int (((bD S zi) + (pV S st 19)) - (-(((bD S b) + (fMx ((pV S st 18) - (bH S zi)) (pV S st 16))) + (bH S zi)))), .int (bH S b), .int (fMx (bW S b) (bW S zi)), .ref q_4, .ref q_4]) hx hb hml hown hl (kX3_widthOf l htr G H.size M_32 f S (fs_R.ext hR x_35) zi h_zi) (g_B (n := 1) htb wd406 wd1 wd403 (by decide +kernel) ⟨Nat.le_of_ble_eq_true rfl, Nat.le_of_ble_eq_true rfl⟩) (htb _ wd405) (htb _ ws14) hE hP hS (fs_R.this (fs_R.ext hR x_35)) rfl rfl rfl (Nat.le_of_ble_eq_true rfl) dX3_limitsShape_235 ⟨Nat.le_of_ble_eq_true rfl, Nat.le_of_ble_eq_true rfl⟩ (fun v9 M9 H locs hpo hP hz hS => ?_) (fun x9 E9 cell9 H9 locs9 hE9 => hE9.elim)
      obtain ⟨rfl, rfl⟩ := hpo
      refine W.eq (g2 := F0 m 238 ls [.int (bW S zi), .int (fMx (bW S b) (bW S zi)), .int 4, .ref q_11, .ref q_11, .int (((bD S zi) + (pV S st 19)) - (-(((bD S b) + (fMx ((pV S st 18) - (bH S zi)) (pV S st 16))) + (bH S zi)))), .int (bH S b), .int (fMx (bW S b) (bW S zi)), .ref q_4, .ref q_4]) rfl ?_
      refine lv_isub hx hb dX3_limitsShape_238 ?_
      refine mw_callS (As := [.int ((fMx (bW S b) (bW S zi)) - (bW S zi))]) (rest := [.int 4, .ref q_11, .ref q_11, .int (((bD S zi) + (pV S st 19)) - (-(((bD S b) + (fMx ((pV S st 18) - (bH S zi)) (pV S st 16))) + (bH S zi)))), .int (bH S b), .int (fMx (bW S b) (bW S zi)), .ref q_4, .ref q_4]) hx hb hml hown hl (kX3_half l htr G H.size M_32 ((fMx (bW S b) (bW S zi)) - (bW S zi))) (g_B (n := 1) htb wd393 wd1 wd391 (by decide +kernel) ⟨Nat.le_of_ble_eq_true rfl, Nat.le_of_ble_eq_true rfl⟩) (htb _ wd392) hE hP hS rfl rfl (Nat.le_of_ble_eq_true rfl) dX3_limitsShape_239 ⟨Nat.le_of_ble_eq_true rfl, Nat.le_of_ble_eq_true rfl⟩ (fun v9 M9 H locs hpo hP hz hS => ?_) (fun x9 E9 cell9 H9 locs9 hE9 => hE9.elim)
      obtain ⟨rfl, rfl⟩ := hpo
      refine W.eq (g2 := F0 m 242 ls [.int (fHf ((fMx (bW S b) (bW S zi)) - (bW S zi))), .int 4, .ref q_11, .ref q_11, .int (((bD S zi) + (pV S st 19)) - (-(((bD S b) + (fMx ((pV S st 18) - (bH S zi)) (pV S st 16))) + (bH S zi)))), .int (bH S b), .int (fMx (bW S b) (bW S zi)), .ref q_4, .ref q_4]) rfl ?_
      refine mw_iast hx hb hK hP hS 0 f_34 (hAn _ hs_13) rfl (by unfold vp_in; decide) dX3_limitsShape_242 (fun H locs hP hS => ?_)
      obtain ⟨M_36, hM_36⟩ : ∃ z9 : mw_M, z9 = mw_up M_32 q_11 (.inl (gI G, 6, .inl (upd (upd (upd (upd (upd (fun _ => 0) 0 (nI b)) 1 (fHf ((fMx (bW S b) (bW S zi)) - (bW S b)))) 2 0) 3 (nI zi)) 4 (fHf ((fMx (bW S b) (bW S zi)) - (bW S zi)))))) := ⟨_, rfl⟩
      have hP : mw_P (gD G) gx_cl M_36 H := by rw [hM_36]; exact hP
      have f_37 : M_36 q_4 = some (.inr (0, [.int 0, .int 0, .int 0, .null, .int 0, .int 0])) := by rw [hM_36, mw_ne _ _ ne_17]; exact f_33
      have f_38 : M_36 q_11 = some (.inl (gI G, 6, .inl (upd (upd (upd (upd (upd (fun _ => 0) 0 (nI b)) 1 (fHf ((fMx (bW S b) (bW S zi)) - (bW S b)))) 2 0) 3 (nI zi)) 4 (fHf ((fMx (bW S b) (bW S zi)) - (bW S zi)))))) := by rw [hM_36]; exact mw_self _ _ _
      have x_39 : mw_ext M M_36 := by rw [hM_36]; exact mw_ext.up x_35 n_15 _
      refine lv_dup hx hb dX3_limitsShape_243 rfl ?_
      refine lv_iconst (v := 5) hx hb dX3_limitsShape_244 (by decide) ?_
      refine lv_iload hx hb dX3_limitsShape_245 (lv_at hl 3 rfl) ?_
      refine mw_iast hx hb hK hP hS 0 f_38 (hAn _ hs_13) rfl (by unfold vp_in; decide) dX3_limitsShape_247 (fun H locs hP hS => ?_)
      obtain ⟨M_40, hM_40⟩ : ∃ z9 : mw_M, z9 = mw_up M_36 q_11 (.inl (gI G, 6, .inl (upd (upd (upd (upd (upd (upd (fun _ => 0) 0 (nI b)) 1 (fHf ((fMx (bW S b) (bW S zi)) - (bW S b)))) 2 0) 3 (nI zi)) 4 (fHf ((fMx (bW S b) (bW S zi)) - (bW S zi)))) 5 (-(((bD S b) + (fMx ((pV S st 18) - (bH S zi)) (pV S st 16))) + (bH S zi)))))) := ⟨_, rfl⟩
      have hP : mw_P (gD G) gx_cl M_40 H := by rw [hM_40]; exact hP
      have f_41 : M_40 q_4 = some (.inr (0, [.int 0, .int 0, .int 0, .null, .int 0, .int 0])) := by rw [hM_40, mw_ne _ _ ne_17]; exact f_37
      have f_42 : M_40 q_11 = some (.inl (gI G, 6, .inl (upd (upd (upd (upd (upd (upd (fun _ => 0) 0 (nI b)) 1 (fHf ((fMx (bW S b) (bW S zi)) - (bW S b)))) 2 0) 3 (nI zi)) 4 (fHf ((fMx (bW S b) (bW S zi)) - (bW S zi)))) 5 (-(((bD S b) + (fMx ((pV S st 18) - (bH S zi)) (pV S st 16))) + (bH S zi)))))) := by rw [hM_40]; exact mw_self _ _ _
      have x_43 : mw_ext M M_40 := by rw [hM_40]; exact mw_ext.up x_39 n_15 _
      refine mw_callI (As := [.int (fMx (bW S b) (bW S zi)), .int (bH S b), .int (((bD S zi) + (pV S st 19)) - (-(((bD S b) + (fMx ((pV S st 18) - (bH S zi)) (pV S st 16))) + (bH S zi)))), .ref q_11]) (rest := [.ref q_4]) hx hb hml hown hl (kX0_init_0 l htr G H.size M_40 q_4 (hAn _ hs_6) f_41 (fMx (bW S b) (bW S zi)) (bH S b) (((bD S zi) + (pV S st 19)) - (-(((bD S b) + (fMx ((pV S st 18) - (bH S zi)) (pV S st 16))) + (bH S zi)))) q_11) (g_B (n := 4) htb wd220 wd10 wd218 (by decide +kernel) ⟨Nat.le_of_ble_eq_true rfl, Nat.le_of_ble_eq_true rfl⟩) (htb _ wd219) (htb _ wd220) rfl hE hP hS rfl rfl (Nat.le_of_ble_eq_true rfl) dX3_limitsShape_248 ⟨Nat.le_of_ble_eq_true rfl, Nat.le_of_ble_eq_true rfl⟩ (fun v9 M9 H locs hpo hP hz hS => ?_) (fun x9 E9 cell9 H9 locs9 hE9 => hE9.elim)
      obtain ⟨rfl, hM9⟩ := hpo
      obtain ⟨M_44, hM_44⟩ : ∃ z9 : mw_M, z9 = mw_up M_40 q_4 (.inr (0, [.int (fMx (bW S b) (bW S zi)), .int (bH S b), .int (((bD S zi) + (pV S st 19)) - (-(((bD S b) + (fMx ((pV S st 18) - (bH S zi)) (pV S st 16))) + (bH S zi)))), .ref q_11, .int 0, .int 0])) := ⟨_, rfl⟩
      have hP : mw_P (gD G) gx_cl M_44 H := by rw [hM_44, hM9]; exact hP
      have f_45 : M_44 q_4 = some (.inr (0, [.int (fMx (bW S b) (bW S zi)), .int (bH S b), .int (((bD S zi) + (pV S st 19)) - (-(((bD S b) + (fMx ((pV S st 18) - (bH S zi)) (pV S st 16))) + (bH S zi)))), .ref q_11, .int 0, .int 0])) := by rw [hM_44]; exact mw_self _ _ _
      have f_46 : M_44 q_11 = some (.inl (gI G, 6, .inl (upd (upd (upd (upd (upd (upd (fun _ => 0) 0 (nI b)) 1 (fHf ((fMx (bW S b) (bW S zi)) - (bW S b)))) 2 0) 3 (nI zi)) 4 (fHf ((fMx (bW S b) (bW S zi)) - (bW S zi)))) 5 (-(((bD S b) + (fMx ((pV S st 18) - (bH S zi)) (pV S st 16))) + (bH S zi)))))) := by rw [hM_44, mw_ne _ _ (Ne.symm ne_17)]; exact f_42
      have x_47 : mw_ext M M_44 := by rw [hM_44]; exact mw_ext.up x_43 n_8 _
      refine W.eq (g2 := F0 m 251 ls [.ref q_4]) rfl ?_
      have hbx9 : fs_bx G f M_44 q_4 (fs_lm S st b a (nI zi)) := by
        simp only [fs_lm, fs_lw, fs_la, fs_ls, if_pos c_1 , if_neg c_2, hc_zi, List.nil_append, List.append_nil, List.cons_append]
        refine fs_mk f_45 f_46 rfl (fun j hj => ?_) (fun z => hX _ z n_8) (fun z => hX _ z n_15)
        rcases (show j = 0 ∨ j = 1 ∨ j = 2 ∨ j = 3 ∨ j = 4 ∨ j = 5 by omega) with rfl | rfl | rfl | rfl | rfl | rfl <;> rfl
      exact mx_aret (q := q_4) (M' := M_44) hx hb hr (Or.inl ⟨_, rfl⟩) hlocks hP hS ⟨q_4, rfl, x_47, hbx9⟩ dX3_limitsShape_251 (Nat.le_of_ble_eq_true rfl) (Nat.le_of_ble_eq_true rfl)
  · obtain ⟨ai, h_ai, rfl⟩ := hoa.resolve_left c_1
    have hc_ai : fIx (nI ai) = ai := nI_clamp (show ai < 2 ^ 31 by have := hR.ok.1; omega)
    refine lv_aload_n hx hb dX3_limitsShape_41 rfl (lv_at hl 6 rfl) ?_
    refine lv_iload_n hx hb dX3_limitsShape_42 rfl (lv_at hl 7 rfl) ?_
    refine lv_bipush (v := 17) hx hb dX3_limitsShape_43 (by decide) ?_
    refine mw_callV (C := RX3) (As := [.int (nI st), .int 17]) (rest := []) hx hb hml hown hl (kX3_valueOf l htr G H.size M f S hR st 17 h_st (by decide)) (g_B (n := 2) htb wd390 wd1 wd387 (by decide +kernel) ⟨Nat.le_of_ble_eq_true rfl, Nat.le_of_ble_eq_true rfl⟩) (htb _ wd389) (htb _ ws11) hE hP hS (fs_R.this hR) rfl rfl rfl (Nat.le_of_ble_eq_true rfl) dX3_limitsShape_45 ⟨Nat.le_of_ble_eq_true rfl, Nat.le_of_ble_eq_true rfl⟩ (fun v9 M9 H locs hpo hP hz hS => ?_) (fun x9 E9 cell9 H9 locs9 hE9 => hE9.elim)
    obtain ⟨rfl, rfl⟩ := hpo
    refine W.eq (g2 := F0 m 48 ls [.int (pV S st 17)]) rfl ?_
    refine lv_aload_n hx hb dX3_limitsShape_48 rfl (lv_at hl 6 rfl) ?_
    refine lv_iload_n hx hb dX3_limitsShape_49 rfl (lv_at hl 9 rfl) ?_
    refine mw_callV (C := RX3) (As := [.int (nI ai)]) (rest := [.int (pV S st 17)]) hx hb hml hown hl (kX3_depthOf l htr G H.size M f S hR ai h_ai) (g_B (n := 1) htb wd397 wd1 wd394 (by decide +kernel) ⟨Nat.le_of_ble_eq_true rfl, Nat.le_of_ble_eq_true rfl⟩) (htb _ wd396) (htb _ ws12) hE hP hS (fs_R.this hR) rfl rfl rfl (Nat.le_of_ble_eq_true rfl) dX3_limitsShape_50 ⟨Nat.le_of_ble_eq_true rfl, Nat.le_of_ble_eq_true rfl⟩ (fun v9 M9 H locs hpo hP hz hS => ?_) (fun x9 E9 cell9 H9 locs9 hE9 => hE9.elim)
    obtain ⟨rfl, rfl⟩ := hpo
    refine W.eq (g2 := F0 m 53 ls [.int (bD S ai), .int (pV S st 17)]) rfl ?_
    refine lv_isub hx hb dX3_limitsShape_53 ?_
    refine lv_aload_n hx hb dX3_limitsShape_54 rfl (lv_at hl 6 rfl) ?_
    refine lv_iload_n hx hb dX3_limitsShape_55 rfl (lv_at hl 7 rfl) ?_
    refine lv_bipush (v := 15) hx hb dX3_limitsShape_56 (by decide) ?_
    refine mw_callV (C := RX3) (As := [.int (nI st), .int 15]) (rest := [.int ((pV S st 17) - (bD S ai))]) hx hb hml hown hl (kX3_valueOf l htr G H.size M f S hR st 15 h_st (by decide)) (g_B (n := 2) htb wd390 wd1 wd387 (by decide +kernel) ⟨Nat.le_of_ble_eq_true rfl, Nat.le_of_ble_eq_true rfl⟩) (htb _ wd389) (htb _ ws11) hE hP hS (fs_R.this hR) rfl rfl rfl (Nat.le_of_ble_eq_true rfl) dX3_limitsShape_58 ⟨Nat.le_of_ble_eq_true rfl, Nat.le_of_ble_eq_true rfl⟩ (fun v9 M9 H locs hpo hP hz hS => ?_) (fun x9 E9 cell9 H9 locs9 hE9 => hE9.elim)
    obtain ⟨rfl, rfl⟩ := hpo
    refine W.eq (g2 := F0 m 61 ls [.int (pV S st 15), .int ((pV S st 17) - (bD S ai))]) rfl ?_
    refine va_mmax hx hb (hml.trans hl.1.symm) hown (htb _ wd398) (htb _ wd364) (htb _ wd13) (htb _ wd365) (Nat.le_of_ble_eq_true rfl) (Nat.le_of_ble_eq_true rfl) (Nat.le_of_ble_eq_true rfl) (Nat.le_of_ble_eq_true rfl) dX3_limitsShape_61 ?_
    refine W.eq (g2 := F0 m 64 ls [.int (fMx ((pV S st 17) - (bD S ai)) (pV S st 15))]) rfl ?_
    refine lv_istore (lv' := [(11, .int (fMx ((pV S st 17) - (bD S ai)) (pV S st 15))), (10, .int 0), (9, .int 0), (8, .int (bD S b)), (7, .int (bH S b)), (6, .int (bW S b)), (5, .int (pV S st 19)), (0, .ref (f0 f)), (1, .int (nI st)), (2, .int (nI b)), (3, .int (nI ai)), (4, .int z)]) hx hb dX3_limitsShape_64 hl (by decide) rfl (fun ls hl => ?_)
    refine lv_iload hx hb dX3_limitsShape_66 (lv_at hl 4 rfl) ?_
    refine lv_iload hx hb dX3_limitsShape_68 (lv_at hl 0 rfl) ?_
    refine lv_iadd hx hb dX3_limitsShape_70 ?_
    refine lv_aload_n hx hb dX3_limitsShape_71 rfl (lv_at hl 7 rfl) ?_
    refine lv_iload_n hx hb dX3_limitsShape_72 rfl (lv_at hl 10 rfl) ?_
    refine mw_callV (C := RX3) (As := [.int (nI ai)]) (rest := [.int ((bH S b) + (fMx ((pV S st 17) - (bD S ai)) (pV S st 15)))]) hx hb hml hown hl (kX3_depthOf l htr G H.size M f S hR ai h_ai) (g_B (n := 1) htb wd397 wd1 wd394 (by decide +kernel) ⟨Nat.le_of_ble_eq_true rfl, Nat.le_of_ble_eq_true rfl⟩) (htb _ wd396) (htb _ ws12) hE hP hS (fs_R.this hR) rfl rfl rfl (Nat.le_of_ble_eq_true rfl) dX3_limitsShape_73 ⟨Nat.le_of_ble_eq_true rfl, Nat.le_of_ble_eq_true rfl⟩ (fun v9 M9 H locs hpo hP hz hS => ?_) (fun x9 E9 cell9 H9 locs9 hE9 => hE9.elim)
    obtain ⟨rfl, rfl⟩ := hpo
    refine W.eq (g2 := F0 m 76 ls [.int (bD S ai), .int ((bH S b) + (fMx ((pV S st 17) - (bD S ai)) (pV S st 15)))]) rfl ?_
    refine lv_iadd hx hb dX3_limitsShape_76 ?_
    refine lv_istore (lv' := [(9, .int (((bH S b) + (fMx ((pV S st 17) - (bD S ai)) (pV S st 15))) + (bD S ai))), (11, .int (fMx ((pV S st 17) - (bD S ai)) (pV S st 15))), (10, .int 0), (8, .int (bD S b)), (7, .int (bH S b)), (6, .int (bW S b)), (5, .int (pV S st 19)), (0, .ref (f0 f)), (1, .int (nI st)), (2, .int (nI b)), (3, .int (nI ai)), (4, .int z)]) hx hb dX3_limitsShape_77 hl (by decide) rfl (fun ls hl => ?_)
    refine lv_iload hx hb dX3_limitsShape_79 (lv_at hl 0 rfl) ?_
    refine lv_aload_n hx hb dX3_limitsShape_81 rfl (lv_at hl 7 rfl) ?_
    refine lv_iload_n hx hb dX3_limitsShape_82 rfl (lv_at hl 10 rfl) ?_
    refine mw_callV (C := RX3) (As := [.int (nI ai)]) (rest := [.int (((bH S b) + (fMx ((pV S st 17) - (bD S ai)) (pV S st 15))) + (bD S ai))]) hx hb hml hown hl (kX3_heightOf l htr G H.size M f S hR ai h_ai) (g_B (n := 1) htb wd402 wd1 wd399 (by decide +kernel) ⟨Nat.le_of_ble_eq_true rfl, Nat.le_of_ble_eq_true rfl⟩) (htb _ wd401) (htb _ ws13) hE hP hS (fs_R.this hR) rfl rfl rfl (Nat.le_of_ble_eq_true rfl) dX3_limitsShape_83 ⟨Nat.le_of_ble_eq_true rfl, Nat.le_of_ble_eq_true rfl⟩ (fun v9 M9 H locs hpo hP hz hS => ?_) (fun x9 E9 cell9 H9 locs9 hE9 => hE9.elim)
    obtain ⟨rfl, rfl⟩ := hpo
    refine W.eq (g2 := F0 m 86 ls [.int (bH S ai), .int (((bH S b) + (fMx ((pV S st 17) - (bD S ai)) (pV S st 15))) + (bD S ai))]) rfl ?_
    refine lv_iadd hx hb dX3_limitsShape_86 ?_
    refine lv_iload hx hb dX3_limitsShape_87 (lv_at hl 6 rfl) ?_
    refine lv_iadd hx hb dX3_limitsShape_89 ?_
    refine lv_istore (lv' := [(7, .int (((((bH S b) + (fMx ((pV S st 17) - (bD S ai)) (pV S st 15))) + (bD S ai)) + (bH S ai)) + (pV S st 19))), (9, .int (((bH S b) + (fMx ((pV S st 17) - (bD S ai)) (pV S st 15))) + (bD S ai))), (11, .int (fMx ((pV S st 17) - (bD S ai)) (pV S st 15))), (10, .int 0), (8, .int (bD S b)), (6, .int (bW S b)), (5, .int (pV S st 19)), (0, .ref (f0 f)), (1, .int (nI st)), (2, .int (nI b)), (3, .int (nI ai)), (4, .int z)]) hx hb dX3_limitsShape_90 hl (by decide) rfl (fun ls hl => ?_)
    refine lv_iload hx hb dX3_limitsShape_92 (lv_at hl 5 rfl) ?_
    refine lv_aload_n hx hb dX3_limitsShape_94 rfl (lv_at hl 7 rfl) ?_
    refine lv_iload_n hx hb dX3_limitsShape_95 rfl (lv_at hl 10 rfl) ?_
    refine mw_callV (C := RX3) (As := [.int (nI ai)]) (rest := [.int (bW S b)]) hx hb hml hown hl (kX3_widthOf l htr G H.size M f S hR ai h_ai) (g_B (n := 1) htb wd406 wd1 wd403 (by decide +kernel) ⟨Nat.le_of_ble_eq_true rfl, Nat.le_of_ble_eq_true rfl⟩) (htb _ wd405) (htb _ ws14) hE hP hS (fs_R.this hR) rfl rfl rfl (Nat.le_of_ble_eq_true rfl) dX3_limitsShape_96 ⟨Nat.le_of_ble_eq_true rfl, Nat.le_of_ble_eq_true rfl⟩ (fun v9 M9 H locs hpo hP hz hS => ?_) (fun x9 E9 cell9 H9 locs9 hE9 => hE9.elim)
    obtain ⟨rfl, rfl⟩ := hpo
    refine W.eq (g2 := F0 m 99 ls [.int (bW S ai), .int (bW S b)]) rfl ?_
    refine va_mmax hx hb (hml.trans hl.1.symm) hown (htb _ wd398) (htb _ wd364) (htb _ wd13) (htb _ wd365) (Nat.le_of_ble_eq_true rfl) (Nat.le_of_ble_eq_true rfl) (Nat.le_of_ble_eq_true rfl) (Nat.le_of_ble_eq_true rfl) dX3_limitsShape_99 ?_
    refine W.eq (g2 := F0 m 102 ls [.int (fMx (bW S b) (bW S ai))]) rfl ?_
    refine lv_istore (lv' := [(6, .int (fMx (bW S b) (bW S ai))), (7, .int (((((bH S b) + (fMx ((pV S st 17) - (bD S ai)) (pV S st 15))) + (bD S ai)) + (bH S ai)) + (pV S st 19))), (9, .int (((bH S b) + (fMx ((pV S st 17) - (bD S ai)) (pV S st 15))) + (bD S ai))), (11, .int (fMx ((pV S st 17) - (bD S ai)) (pV S st 15))), (10, .int 0), (8, .int (bD S b)), (5, .int (pV S st 19)), (0, .ref (f0 f)), (1, .int (nI st)), (2, .int (nI b)), (3, .int (nI ai)), (4, .int z)]) hx hb dX3_limitsShape_102 hl (by decide) rfl (fun ls hl => ?_)
    refine lv_iload hx hb dX3_limitsShape_104 (lv_at hl 11 rfl) ?_
    refine lv_iconst (v := (-1)) hx hb dX3_limitsShape_106 (by decide) ?_
    refine lv_icmp_eq (tgt := 178) hx hb dX3_limitsShape_107 (by decide) (fun c_48 => ?_) (fun c_48 => ?_)
    · refine lv_iload hx hb dX3_limitsShape_178 (lv_at hl 0 rfl) ?_
      refine lv_aload_n hx hb dX3_limitsShape_180 rfl (lv_at hl 7 rfl) ?_
      refine lv_iload_n hx hb dX3_limitsShape_181 rfl (lv_at hl 9 rfl) ?_
      refine mw_callV (C := RX3) (As := [.int (nI b)]) (rest := [.int (fMx (bW S b) (bW S ai))]) hx hb hml hown hl (kX3_widthOf l htr G H.size M f S hR b h_b) (g_B (n := 1) htb wd406 wd1 wd403 (by decide +kernel) ⟨Nat.le_of_ble_eq_true rfl, Nat.le_of_ble_eq_true rfl⟩) (htb _ wd405) (htb _ ws14) hE hP hS (fs_R.this hR) rfl rfl rfl (Nat.le_of_ble_eq_true rfl) dX3_limitsShape_182 ⟨Nat.le_of_ble_eq_true rfl, Nat.le_of_ble_eq_true rfl⟩ (fun v9 M9 H locs hpo hP hz hS => ?_) (fun x9 E9 cell9 H9 locs9 hE9 => hE9.elim)
      obtain ⟨rfl, rfl⟩ := hpo
      refine W.eq (g2 := F0 m 185 ls [.int (bW S b), .int (fMx (bW S b) (bW S ai))]) rfl ?_
      refine lv_isub hx hb dX3_limitsShape_185 ?_
      refine mw_callS (As := [.int ((fMx (bW S b) (bW S ai)) - (bW S b))]) (rest := []) hx hb hml hown hl (kX3_half l htr G H.size M ((fMx (bW S b) (bW S ai)) - (bW S b))) (g_B (n := 1) htb wd393 wd1 wd391 (by decide +kernel) ⟨Nat.le_of_ble_eq_true rfl, Nat.le_of_ble_eq_true rfl⟩) (htb _ wd392) hE hP hS rfl rfl (Nat.le_of_ble_eq_true rfl) dX3_limitsShape_186 ⟨Nat.le_of_ble_eq_true rfl, Nat.le_of_ble_eq_true rfl⟩ (fun v9 M9 H locs hpo hP hz hS => ?_) (fun x9 E9 cell9 H9 locs9 hE9 => hE9.elim)
      obtain ⟨rfl, rfl⟩ := hpo
      refine W.eq (g2 := F0 m 189 ls [.int (fHf ((fMx (bW S b) (bW S ai)) - (bW S b)))]) rfl ?_
      refine lv_istore (lv' := [(11, .int (fHf ((fMx (bW S b) (bW S ai)) - (bW S b)))), (6, .int (fMx (bW S b) (bW S ai))), (7, .int (((((bH S b) + (fMx ((pV S st 17) - (bD S ai)) (pV S st 15))) + (bD S ai)) + (bH S ai)) + (pV S st 19))), (9, .int (((bH S b) + (fMx ((pV S st 17) - (bD S ai)) (pV S st 15))) + (bD S ai))), (10, .int 0), (8, .int (bD S b)), (5, .int (pV S st 19)), (0, .ref (f0 f)), (1, .int (nI st)), (2, .int (nI b)), (3, .int (nI ai)), (4, .int z)]) hx hb dX3_limitsShape_189 hl (by decide) rfl (fun ls hl => ?_)
      refine lv_iload_n hx hb dX3_limitsShape_191 rfl (lv_at hl 10 rfl) ?_
      refine lv_iconst (v := (-1)) hx hb dX3_limitsShape_192 (by decide) ?_
      refine lv_icmp_ne (tgt := 252) hx hb dX3_limitsShape_193 (by decide) (fun c_49 => ?_) (fun c_49 => absurd c_49 c_1)
      refine lv_iload hx hb dX3_limitsShape_252 (lv_at hl 1 rfl) ?_
      refine lv_aload_n hx hb dX3_limitsShape_254 rfl (lv_at hl 7 rfl) ?_
      refine lv_iload_n hx hb dX3_limitsShape_255 rfl (lv_at hl 10 rfl) ?_
      refine mw_callV (C := RX3) (As := [.int (nI ai)]) (rest := [.int (fMx (bW S b) (bW S ai))]) hx hb hml hown hl (kX3_widthOf l htr G H.size M f S hR ai h_ai) (g_B (n := 1) htb wd406 wd1 wd403 (by decide +kernel) ⟨Nat.le_of_ble_eq_true rfl, Nat.le_of_ble_eq_true rfl⟩) (htb _ wd405) (htb _ ws14) hE hP hS (fs_R.this hR) rfl rfl rfl (Nat.le_of_ble_eq_true rfl) dX3_limitsShape_256 ⟨Nat.le_of_ble_eq_true rfl, Nat.le_of_ble_eq_true rfl⟩ (fun v9 M9 H locs hpo hP hz hS => ?_) (fun x9 E9 cell9 H9 locs9 hE9 => hE9.elim)
      obtain ⟨rfl, rfl⟩ := hpo
      refine W.eq (g2 := F0 m 259 ls [.int (bW S ai), .int (fMx (bW S b) (bW S ai))]) rfl ?_
      refine lv_isub hx hb dX3_limitsShape_259 ?_
      refine mw_callS (As := [.int ((fMx (bW S b) (bW S ai)) - (bW S ai))]) (rest := []) hx hb hml hown hl (kX3_half l htr G H.size M ((fMx (bW S b) (bW S ai)) - (bW S ai))) (g_B (n := 1) htb wd393 wd1 wd391 (by decide +kernel) ⟨Nat.le_of_ble_eq_true rfl, Nat.le_of_ble_eq_true rfl⟩) (htb _ wd392) hE hP hS rfl rfl (Nat.le_of_ble_eq_true rfl) dX3_limitsShape_260 ⟨Nat.le_of_ble_eq_true rfl, Nat.le_of_ble_eq_true rfl⟩ (fun v9 M9 H locs hpo hP hz hS => ?_) (fun x9 E9 cell9 H9 locs9 hE9 => hE9.elim)
      obtain ⟨rfl, rfl⟩ := hpo
      refine W.eq (g2 := F0 m 263 ls [.int (fHf ((fMx (bW S b) (bW S ai)) - (bW S ai)))]) rfl ?_
      refine lv_istore (lv' := [(12, .int (fHf ((fMx (bW S b) (bW S ai)) - (bW S ai)))), (11, .int (fHf ((fMx (bW S b) (bW S ai)) - (bW S b)))), (6, .int (fMx (bW S b) (bW S ai))), (7, .int (((((bH S b) + (fMx ((pV S st 17) - (bD S ai)) (pV S st 15))) + (bD S ai)) + (bH S ai)) + (pV S st 19))), (9, .int (((bH S b) + (fMx ((pV S st 17) - (bD S ai)) (pV S st 15))) + (bD S ai))), (10, .int 0), (8, .int (bD S b)), (5, .int (pV S st 19)), (0, .ref (f0 f)), (1, .int (nI st)), (2, .int (nI b)), (3, .int (nI ai)), (4, .int z)]) hx hb dX3_limitsShape_263 hl (by decide) rfl (fun ls hl => ?_)
      refine lv_iload hx hb dX3_limitsShape_265 (lv_at hl 12 rfl) ?_
      refine lv_iconst (v := (-1)) hx hb dX3_limitsShape_267 (by decide) ?_
      refine lv_icmp_ne (tgt := 316) hx hb dX3_limitsShape_268 (by decide) (fun c_50 => absurd c_48 c_50) (fun c_50 => ?_)
      refine mw_new (ci := 0) (fs := [.int 0, .int 0, .int 0, .null, .int 0, .int 0]) (C := RX0) (T := TX0) (N := 6) hx hb htb inX0 tyX0 tyX0_ok hown (htb _ wd22) (htb _ wd215) (htb _ wd10) hK hP hS rfl (fun j hj => by rcases (show j = 0 ∨ j = 1 ∨ j = 2 ∨ j = 3 ∨ j = 4 ∨ j = 5 by omega) with rfl | rfl | rfl | rfl | rfl | rfl <;> rfl) (Nat.le_of_ble_eq_true rfl) (Nat.le_of_ble_eq_true rfl) dX3_limitsShape_271 (fun q_51 H hq_52 hs_53 hP hS => ?_)
      obtain ⟨M_54, hM_54⟩ : ∃ z9 : mw_M, z9 = mw_up M q_51 (.inr (0, [.int 0, .int 0, .int 0, .null, .int 0, .int 0])) := ⟨_, rfl⟩
      have hP : mw_P (gD G) gx_cl M_54 H := by rw [hM_54]; exact hP
      have n_55 : M q_51 = none := mw_ext.no (mw_ext.rf M) hq_52
      have f_56 : M_54 q_51 = some (.inr (0, [.int 0, .int 0, .int 0, .null, .int 0, .int 0])) := by rw [hM_54]; exact mw_self _ _ _
      have x_57 : mw_ext M M_54 := by rw [hM_54]; exact mw_ext.up (mw_ext.rf M) n_55 _
      refine lv_dup hx hb dX3_limitsShape_274 rfl ?_
      refine lv_iload hx hb dX3_limitsShape_275 (lv_at hl 2 rfl) ?_
      refine lv_iload hx hb dX3_limitsShape_277 (lv_at hl 3 rfl) ?_
      refine lv_iload hx hb dX3_limitsShape_279 (lv_at hl 6 rfl) ?_
      refine lv_bipush (v := 6) hx hb dX3_limitsShape_281 (by decide) ?_
      refine mw_newi (N := 6) hx hb (htb _ wd55) hK hP hS 0 rfl (by decide) (by decide) (by decide) (Nat.le_of_ble_eq_true rfl) (Nat.le_of_ble_eq_true rfl) dX3_limitsShape_283 (fun q_58 H hq_59 hs_60 hP hS => ?_)
      obtain ⟨M_61, hM_61⟩ : ∃ z9 : mw_M, z9 = mw_up M_54 q_58 (.inl (gI G, 6, .inl (fun _ => 0))) := ⟨_, rfl⟩
      have hP : mw_P (gD G) gx_cl M_61 H := by rw [hM_61]; exact hP
      have n_62 : M q_58 = none := mw_ext.no x_57 hq_59
      have f_63 : M_61 q_51 = some (.inr (0, [.int 0, .int 0, .int 0, .null, .int 0, .int 0])) := by rw [hM_61, mw_ne _ _ (fun z => by have z1 := f_56; rw [z, hq_59] at z1; cases z1)]; exact f_56
      have ne_64 : q_51 ≠ q_58 := fun z => by have z1 := f_56; rw [z, hq_59] at z1; cases z1
      have f_65 : M_61 q_58 = some (.inl (gI G, 6, .inl (fun _ => 0))) := by rw [hM_61]; exact mw_self _ _ _
      have x_66 : mw_ext M M_61 := by rw [hM_61]; exact mw_ext.up x_57 n_62 _
      refine lv_dup hx hb dX3_limitsShape_285 rfl ?_
      refine lv_iconst (v := 0) hx hb dX3_limitsShape_286 (by decide) ?_
      refine lv_iload_n hx hb dX3_limitsShape_287 rfl (lv_at hl 11 rfl) ?_
      refine mw_iast hx hb hK hP hS 0 f_65 (hAn _ hs_60) rfl (by unfold vp_in; decide) dX3_limitsShape_288 (fun H locs hP hS => ?_)
      obtain ⟨M_67, hM_67⟩ : ∃ z9 : mw_M, z9 = mw_up M_61 q_58 (.inl (gI G, 6, .inl (upd (fun _ => 0) 0 (nI ai)))) := ⟨_, rfl⟩
      have hP : mw_P (gD G) gx_cl M_67 H := by rw [hM_67]; exact hP
      have f_68 : M_67 q_51 = some (.inr (0, [.int 0, .int 0, .int 0, .null, .int 0, .int 0])) := by rw [hM_67, mw_ne _ _ ne_64]; exact f_63
      have f_69 : M_67 q_58 = some (.inl (gI G, 6, .inl (upd (fun _ => 0) 0 (nI ai)))) := by rw [hM_67]; exact mw_self _ _ _
      have x_70 : mw_ext M M_67 := by rw [hM_67]; exact mw_ext.up x_66 n_62 _
      refine lv_dup hx hb dX3_limitsShape_289 rfl ?_
      refine lv_iconst (v := 1) hx hb dX3_limitsShape_290 (by decide) ?_
      refine lv_iload hx hb dX3_limitsShape_291 (lv_at hl 0 rfl) ?_
      refine mw_iast hx hb hK hP hS 0 f_69 (hAn _ hs_60) rfl (by unfold vp_in; decide) dX3_limitsShape_293 (fun H locs hP hS => ?_)
      obtain ⟨M_71, hM_71⟩ : ∃ z9 : mw_M, z9 = mw_up M_67 q_58 (.inl (gI G, 6, .inl (upd (upd (fun _ => 0) 0 (nI ai)) 1 (fHf ((fMx (bW S b) (bW S ai)) - (bW S ai)))))) := ⟨_, rfl⟩
      have hP : mw_P (gD G) gx_cl M_71 H := by rw [hM_71]; exact hP
      have f_72 : M_71 q_51 = some (.inr (0, [.int 0, .int 0, .int 0, .null, .int 0, .int 0])) := by rw [hM_71, mw_ne _ _ ne_64]; exact f_68
      have f_73 : M_71 q_58 = some (.inl (gI G, 6, .inl (upd (upd (fun _ => 0) 0 (nI ai)) 1 (fHf ((fMx (bW S b) (bW S ai)) - (bW S ai)))))) := by rw [hM_71]; exact mw_self _ _ _
      have x_74 : mw_ext M M_71 := by rw [hM_71]; exact mw_ext.up x_70 n_62 _
      refine lv_dup hx hb dX3_limitsShape_294 rfl ?_
      refine lv_iconst (v := 2) hx hb dX3_limitsShape_295 (by decide) ?_
      refine lv_iload hx hb dX3_limitsShape_296 (lv_at hl 4 rfl) ?_
      refine mw_iast hx hb hK hP hS 0 f_73 (hAn _ hs_60) rfl (by unfold vp_in; decide) dX3_limitsShape_298 (fun H locs hP hS => ?_)
      obtain ⟨M_75, hM_75⟩ : ∃ z9 : mw_M, z9 = mw_up M_71 q_58 (.inl (gI G, 6, .inl (upd (upd (upd (fun _ => 0) 0 (nI ai)) 1 (fHf ((fMx (bW S b) (bW S ai)) - (bW S ai)))) 2 (((bH S b) + (fMx ((pV S st 17) - (bD S ai)) (pV S st 15))) + (bD S ai))))) := ⟨_, rfl⟩
      have hP : mw_P (gD G) gx_cl M_75 H := by rw [hM_75]; exact hP
      have f_76 : M_75 q_51 = some (.inr (0, [.int 0, .int 0, .int 0, .null, .int 0, .int 0])) := by rw [hM_75, mw_ne _ _ ne_64]; exact f_72
      have f_77 : M_75 q_58 = some (.inl (gI G, 6, .inl (upd (upd (upd (fun _ => 0) 0 (nI ai)) 1 (fHf ((fMx (bW S b) (bW S ai)) - (bW S ai)))) 2 (((bH S b) + (fMx ((pV S st 17) - (bD S ai)) (pV S st 15))) + (bD S ai))))) := by rw [hM_75]; exact mw_self _ _ _
      have x_78 : mw_ext M M_75 := by rw [hM_75]; exact mw_ext.up x_74 n_62 _
      refine lv_dup hx hb dX3_limitsShape_299 rfl ?_
      refine lv_iconst (v := 3) hx hb dX3_limitsShape_300 (by decide) ?_
      refine lv_iload_n hx hb dX3_limitsShape_301 rfl (lv_at hl 10 rfl) ?_
      refine mw_iast hx hb hK hP hS 0 f_77 (hAn _ hs_60) rfl (by unfold vp_in; decide) dX3_limitsShape_302 (fun H locs hP hS => ?_)
      obtain ⟨M_79, hM_79⟩ : ∃ z9 : mw_M, z9 = mw_up M_75 q_58 (.inl (gI G, 6, .inl (upd (upd (upd (upd (fun _ => 0) 0 (nI ai)) 1 (fHf ((fMx (bW S b) (bW S ai)) - (bW S ai)))) 2 (((bH S b) + (fMx ((pV S st 17) - (bD S ai)) (pV S st 15))) + (bD S ai))) 3 (nI b)))) := ⟨_, rfl⟩
      have hP : mw_P (gD G) gx_cl M_79 H := by rw [hM_79]; exact hP
      have f_80 : M_79 q_51 = some (.inr (0, [.int 0, .int 0, .int 0, .null, .int 0, .int 0])) := by rw [hM_79, mw_ne _ _ ne_64]; exact f_76
      have f_81 : M_79 q_58 = some (.inl (gI G, 6, .inl (upd (upd (upd (upd (fun _ => 0) 0 (nI ai)) 1 (fHf ((fMx (bW S b) (bW S ai)) - (bW S ai)))) 2 (((bH S b) + (fMx ((pV S st 17) - (bD S ai)) (pV S st 15))) + (bD S ai))) 3 (nI b)))) := by rw [hM_79]; exact mw_self _ _ _
      have x_82 : mw_ext M M_79 := by rw [hM_79]; exact mw_ext.up x_78 n_62 _
      refine lv_dup hx hb dX3_limitsShape_303 rfl ?_
      refine lv_iconst (v := 4) hx hb dX3_limitsShape_304 (by decide) ?_
      refine lv_iload hx hb dX3_limitsShape_305 (lv_at hl 1 rfl) ?_
      refine mw_iast hx hb hK hP hS 0 f_81 (hAn _ hs_60) rfl (by unfold vp_in; decide) dX3_limitsShape_307 (fun H locs hP hS => ?_)
      obtain ⟨M_83, hM_83⟩ : ∃ z9 : mw_M, z9 = mw_up M_79 q_58 (.inl (gI G, 6, .inl (upd (upd (upd (upd (upd (fun _ => 0) 0 (nI ai)) 1 (fHf ((fMx (bW S b) (bW S ai)) - (bW S ai)))) 2 (((bH S b) + (fMx ((pV S st 17) - (bD S ai)) (pV S st 15))) + (bD S ai))) 3 (nI b)) 4 (fHf ((fMx (bW S b) (bW S ai)) - (bW S b)))))) := ⟨_, rfl⟩
      have hP : mw_P (gD G) gx_cl M_83 H := by rw [hM_83]; exact hP
      have f_84 : M_83 q_51 = some (.inr (0, [.int 0, .int 0, .int 0, .null, .int 0, .int 0])) := by rw [hM_83, mw_ne _ _ ne_64]; exact f_80
      have f_85 : M_83 q_58 = some (.inl (gI G, 6, .inl (upd (upd (upd (upd (upd (fun _ => 0) 0 (nI ai)) 1 (fHf ((fMx (bW S b) (bW S ai)) - (bW S ai)))) 2 (((bH S b) + (fMx ((pV S st 17) - (bD S ai)) (pV S st 15))) + (bD S ai))) 3 (nI b)) 4 (fHf ((fMx (bW S b) (bW S ai)) - (bW S b)))))) := by rw [hM_83]; exact mw_self _ _ _
      have x_86 : mw_ext M M_83 := by rw [hM_83]; exact mw_ext.up x_82 n_62 _
      refine lv_dup hx hb dX3_limitsShape_308 rfl ?_
      refine lv_iconst (v := 5) hx hb dX3_limitsShape_309 (by decide) ?_
      refine lv_iconst (v := 0) hx hb dX3_limitsShape_310 (by decide) ?_
      refine mw_iast hx hb hK hP hS 0 f_85 (hAn _ hs_60) rfl (by unfold vp_in; decide) dX3_limitsShape_311 (fun H locs hP hS => ?_)
      obtain ⟨M_87, hM_87⟩ : ∃ z9 : mw_M, z9 = mw_up M_83 q_58 (.inl (gI G, 6, .inl (upd (upd (upd (upd (upd (upd (fun _ => 0) 0 (nI ai)) 1 (fHf ((fMx (bW S b) (bW S ai)) - (bW S ai)))) 2 (((bH S b) + (fMx ((pV S st 17) - (bD S ai)) (pV S st 15))) + (bD S ai))) 3 (nI b)) 4 (fHf ((fMx (bW S b) (bW S ai)) - (bW S b)))) 5 0))) := ⟨_, rfl⟩
      have hP : mw_P (gD G) gx_cl M_87 H := by rw [hM_87]; exact hP
      have f_88 : M_87 q_51 = some (.inr (0, [.int 0, .int 0, .int 0, .null, .int 0, .int 0])) := by rw [hM_87, mw_ne _ _ ne_64]; exact f_84
      have f_89 : M_87 q_58 = some (.inl (gI G, 6, .inl (upd (upd (upd (upd (upd (upd (fun _ => 0) 0 (nI ai)) 1 (fHf ((fMx (bW S b) (bW S ai)) - (bW S ai)))) 2 (((bH S b) + (fMx ((pV S st 17) - (bD S ai)) (pV S st 15))) + (bD S ai))) 3 (nI b)) 4 (fHf ((fMx (bW S b) (bW S ai)) - (bW S b)))) 5 0))) := by rw [hM_87]; exact mw_self _ _ _
      have x_90 : mw_ext M M_87 := by rw [hM_87]; exact mw_ext.up x_86 n_62 _
      refine mw_callI (As := [.int (fMx (bW S b) (bW S ai)), .int (((((bH S b) + (fMx ((pV S st 17) - (bD S ai)) (pV S st 15))) + (bD S ai)) + (bH S ai)) + (pV S st 19)), .int (bD S b), .ref q_58]) (rest := [.ref q_51]) hx hb hml hown hl (kX0_init_0 l htr G H.size M_87 q_51 (hAn _ hs_53) f_88 (fMx (bW S b) (bW S ai)) (((((bH S b) + (fMx ((pV S st 17) - (bD S ai)) (pV S st 15))) + (bD S ai)) + (bH S ai)) + (pV S st 19)) (bD S b) q_58) (g_B (n := 4) htb wd220 wd10 wd218 (by decide +kernel) ⟨Nat.le_of_ble_eq_true rfl, Nat.le_of_ble_eq_true rfl⟩) (htb _ wd219) (htb _ wd220) rfl hE hP hS rfl rfl (Nat.le_of_ble_eq_true rfl) dX3_limitsShape_312 ⟨Nat.le_of_ble_eq_true rfl, Nat.le_of_ble_eq_true rfl⟩ (fun v9 M9 H locs hpo hP hz hS => ?_) (fun x9 E9 cell9 H9 locs9 hE9 => hE9.elim)
      obtain ⟨rfl, hM9⟩ := hpo
      obtain ⟨M_91, hM_91⟩ : ∃ z9 : mw_M, z9 = mw_up M_87 q_51 (.inr (0, [.int (fMx (bW S b) (bW S ai)), .int (((((bH S b) + (fMx ((pV S st 17) - (bD S ai)) (pV S st 15))) + (bD S ai)) + (bH S ai)) + (pV S st 19)), .int (bD S b), .ref q_58, .int 0, .int 0])) := ⟨_, rfl⟩
      have hP : mw_P (gD G) gx_cl M_91 H := by rw [hM_91, hM9]; exact hP
      have f_92 : M_91 q_51 = some (.inr (0, [.int (fMx (bW S b) (bW S ai)), .int (((((bH S b) + (fMx ((pV S st 17) - (bD S ai)) (pV S st 15))) + (bD S ai)) + (bH S ai)) + (pV S st 19)), .int (bD S b), .ref q_58, .int 0, .int 0])) := by rw [hM_91]; exact mw_self _ _ _
      have f_93 : M_91 q_58 = some (.inl (gI G, 6, .inl (upd (upd (upd (upd (upd (upd (fun _ => 0) 0 (nI ai)) 1 (fHf ((fMx (bW S b) (bW S ai)) - (bW S ai)))) 2 (((bH S b) + (fMx ((pV S st 17) - (bD S ai)) (pV S st 15))) + (bD S ai))) 3 (nI b)) 4 (fHf ((fMx (bW S b) (bW S ai)) - (bW S b)))) 5 0))) := by rw [hM_91, mw_ne _ _ (Ne.symm ne_64)]; exact f_89
      have x_94 : mw_ext M M_91 := by rw [hM_91]; exact mw_ext.up x_90 n_55 _
      refine W.eq (g2 := F0 m 315 ls [.ref q_51]) rfl ?_
      have hbx9 : fs_bx G f M_91 q_51 (fs_lm S st b (nI ai) z) := by
        simp only [fs_lm, fs_lw, fs_la, fs_ls, if_neg c_1 , if_pos c_48, hc_ai, List.nil_append, List.append_nil, List.cons_append]
        refine fs_mk f_92 f_93 rfl (fun j hj => ?_) (fun z => hX _ z n_55) (fun z => hX _ z n_62)
        rcases (show j = 0 ∨ j = 1 ∨ j = 2 ∨ j = 3 ∨ j = 4 ∨ j = 5 by omega) with rfl | rfl | rfl | rfl | rfl | rfl <;> rfl
      exact mx_aret (q := q_51) (M' := M_91) hx hb hr (Or.inl ⟨_, rfl⟩) hlocks hP hS ⟨q_51, rfl, x_94, hbx9⟩ dX3_limitsShape_315 (Nat.le_of_ble_eq_true rfl) (Nat.le_of_ble_eq_true rfl)
    · obtain ⟨zi, h_zi, rfl⟩ := hoz.resolve_left c_48
      have hc_zi : fIx (nI zi) = zi := nI_clamp (show zi < 2 ^ 31 by have := hR.ok.1; omega)
      refine lv_aload_n hx hb dX3_limitsShape_110 rfl (lv_at hl 7 rfl) ?_
      refine lv_iload_n hx hb dX3_limitsShape_111 rfl (lv_at hl 8 rfl) ?_
      refine lv_bipush (v := 18) hx hb dX3_limitsShape_112 (by decide) ?_
      refine mw_callV (C := RX3) (As := [.int (nI st), .int 18]) (rest := []) hx hb hml hown hl (kX3_valueOf l htr G H.size M f S hR st 18 h_st (by decide)) (g_B (n := 2) htb wd390 wd1 wd387 (by decide +kernel) ⟨Nat.le_of_ble_eq_true rfl, Nat.le_of_ble_eq_true rfl⟩) (htb _ wd389) (htb _ ws11) hE hP hS (fs_R.this hR) rfl rfl rfl (Nat.le_of_ble_eq_true rfl) dX3_limitsShape_114 ⟨Nat.le_of_ble_eq_true rfl, Nat.le_of_ble_eq_true rfl⟩ (fun v9 M9 H locs hpo hP hz hS => ?_) (fun x9 E9 cell9 H9 locs9 hE9 => hE9.elim)
      obtain ⟨rfl, rfl⟩ := hpo
      refine W.eq (g2 := F0 m 117 ls [.int (pV S st 18)]) rfl ?_
      refine lv_aload_n hx hb dX3_limitsShape_117 rfl (lv_at hl 7 rfl) ?_
      refine lv_iload hx hb dX3_limitsShape_118 (lv_at hl 11 rfl) ?_
      refine mw_callV (C := RX3) (As := [.int (nI zi)]) (rest := [.int (pV S st 18)]) hx hb hml hown hl (kX3_heightOf l htr G H.size M f S hR zi h_zi) (g_B (n := 1) htb wd402 wd1 wd399 (by decide +kernel) ⟨Nat.le_of_ble_eq_true rfl, Nat.le_of_ble_eq_true rfl⟩) (htb _ wd401) (htb _ ws13) hE hP hS (fs_R.this hR) rfl rfl rfl (Nat.le_of_ble_eq_true rfl) dX3_limitsShape_120 ⟨Nat.le_of_ble_eq_true rfl, Nat.le_of_ble_eq_true rfl⟩ (fun v9 M9 H locs hpo hP hz hS => ?_) (fun x9 E9 cell9 H9 locs9 hE9 => hE9.elim)
      obtain ⟨rfl, rfl⟩ := hpo
      refine W.eq (g2 := F0 m 123 ls [.int (bH S zi), .int (pV S st 18)]) rfl ?_
      refine lv_isub hx hb dX3_limitsShape_123 ?_
      refine lv_aload_n hx hb dX3_limitsShape_124 rfl (lv_at hl 7 rfl) ?_
      refine lv_iload_n hx hb dX3_limitsShape_125 rfl (lv_at hl 8 rfl) ?_
      refine lv_bipush (v := 16) hx hb dX3_limitsShape_126 (by decide) ?_
      refine mw_callV (C := RX3) (As := [.int (nI st), .int 16]) (rest := [.int ((pV S st 18) - (bH S zi))]) hx hb hml hown hl (kX3_valueOf l htr G H.size M f S hR st 16 h_st (by decide)) (g_B (n := 2) htb wd390 wd1 wd387 (by decide +kernel) ⟨Nat.le_of_ble_eq_true rfl, Nat.le_of_ble_eq_true rfl⟩) (htb _ wd389) (htb _ ws11) hE hP hS (fs_R.this hR) rfl rfl rfl (Nat.le_of_ble_eq_true rfl) dX3_limitsShape_128 ⟨Nat.le_of_ble_eq_true rfl, Nat.le_of_ble_eq_true rfl⟩ (fun v9 M9 H locs hpo hP hz hS => ?_) (fun x9 E9 cell9 H9 locs9 hE9 => hE9.elim)
      obtain ⟨rfl, rfl⟩ := hpo
      refine W.eq (g2 := F0 m 131 ls [.int (pV S st 16), .int ((pV S st 18) - (bH S zi))]) rfl ?_
      refine va_mmax hx hb (hml.trans hl.1.symm) hown (htb _ wd398) (htb _ wd364) (htb _ wd13) (htb _ wd365) (Nat.le_of_ble_eq_true rfl) (Nat.le_of_ble_eq_true rfl) (Nat.le_of_ble_eq_true rfl) (Nat.le_of_ble_eq_true rfl) dX3_limitsShape_131 ?_
      refine W.eq (g2 := F0 m 134 ls [.int (fMx ((pV S st 18) - (bH S zi)) (pV S st 16))]) rfl ?_
      refine lv_istore (lv' := [(11, .int (fMx ((pV S st 18) - (bH S zi)) (pV S st 16))), (6, .int (fMx (bW S b) (bW S ai))), (7, .int (((((bH S b) + (fMx ((pV S st 17) - (bD S ai)) (pV S st 15))) + (bD S ai)) + (bH S ai)) + (pV S st 19))), (9, .int (((bH S b) + (fMx ((pV S st 17) - (bD S ai)) (pV S st 15))) + (bD S ai))), (10, .int 0), (8, .int (bD S b)), (5, .int (pV S st 19)), (0, .ref (f0 f)), (1, .int (nI st)), (2, .int (nI b)), (3, .int (nI ai)), (4, .int (nI zi))]) hx hb dX3_limitsShape_134 hl (by decide) rfl (fun ls hl => ?_)
      refine lv_iload hx hb dX3_limitsShape_136 (lv_at hl 5 rfl) ?_
      refine lv_iload hx hb dX3_limitsShape_138 (lv_at hl 0 rfl) ?_
      refine lv_iadd hx hb dX3_limitsShape_140 ?_
      refine lv_aload_n hx hb dX3_limitsShape_141 rfl (lv_at hl 7 rfl) ?_
      refine lv_iload hx hb dX3_limitsShape_142 (lv_at hl 11 rfl) ?_
      refine mw_callV (C := RX3) (As := [.int (nI zi)]) (rest := [.int ((bD S b) + (fMx ((pV S st 18) - (bH S zi)) (pV S st 16)))]) hx hb hml hown hl (kX3_heightOf l htr G H.size M f S hR zi h_zi) (g_B (n := 1) htb wd402 wd1 wd399 (by decide +kernel) ⟨Nat.le_of_ble_eq_true rfl, Nat.le_of_ble_eq_true rfl⟩) (htb _ wd401) (htb _ ws13) hE hP hS (fs_R.this hR) rfl rfl rfl (Nat.le_of_ble_eq_true rfl) dX3_limitsShape_144 ⟨Nat.le_of_ble_eq_true rfl, Nat.le_of_ble_eq_true rfl⟩ (fun v9 M9 H locs hpo hP hz hS => ?_) (fun x9 E9 cell9 H9 locs9 hE9 => hE9.elim)
      obtain ⟨rfl, rfl⟩ := hpo
      refine W.eq (g2 := F0 m 147 ls [.int (bH S zi), .int ((bD S b) + (fMx ((pV S st 18) - (bH S zi)) (pV S st 16)))]) rfl ?_
      refine lv_iadd hx hb dX3_limitsShape_147 ?_
      refine lv_ineg hx hb dX3_limitsShape_148 ?_
      refine lv_istore (lv' := [(10, .int (-(((bD S b) + (fMx ((pV S st 18) - (bH S zi)) (pV S st 16))) + (bH S zi)))), (11, .int (fMx ((pV S st 18) - (bH S zi)) (pV S st 16))), (6, .int (fMx (bW S b) (bW S ai))), (7, .int (((((bH S b) + (fMx ((pV S st 17) - (bD S ai)) (pV S st 15))) + (bD S ai)) + (bH S ai)) + (pV S st 19))), (9, .int (((bH S b) + (fMx ((pV S st 17) - (bD S ai)) (pV S st 15))) + (bD S ai))), (8, .int (bD S b)), (5, .int (pV S st 19)), (0, .ref (f0 f)), (1, .int (nI st)), (2, .int (nI b)), (3, .int (nI ai)), (4, .int (nI zi))]) hx hb dX3_limitsShape_149 hl (by decide) rfl (fun ls hl => ?_)
      refine lv_aload_n hx hb dX3_limitsShape_151 rfl (lv_at hl 7 rfl) ?_
      refine lv_iload hx hb dX3_limitsShape_152 (lv_at hl 11 rfl) ?_
      refine mw_callV (C := RX3) (As := [.int (nI zi)]) (rest := []) hx hb hml hown hl (kX3_depthOf l htr G H.size M f S hR zi h_zi) (g_B (n := 1) htb wd397 wd1 wd394 (by decide +kernel) ⟨Nat.le_of_ble_eq_true rfl, Nat.le_of_ble_eq_true rfl⟩) (htb _ wd396) (htb _ ws12) hE hP hS (fs_R.this hR) rfl rfl rfl (Nat.le_of_ble_eq_true rfl) dX3_limitsShape_154 ⟨Nat.le_of_ble_eq_true rfl, Nat.le_of_ble_eq_true rfl⟩ (fun v9 M9 H locs hpo hP hz hS => ?_) (fun x9 E9 cell9 H9 locs9 hE9 => hE9.elim)
      obtain ⟨rfl, rfl⟩ := hpo
      refine W.eq (g2 := F0 m 157 ls [.int (bD S zi)]) rfl ?_
      refine lv_iload hx hb dX3_limitsShape_157 (lv_at hl 6 rfl) ?_
      refine lv_iadd hx hb dX3_limitsShape_159 ?_
      refine lv_iload hx hb dX3_limitsShape_160 (lv_at hl 0 rfl) ?_
      refine lv_isub hx hb dX3_limitsShape_162 ?_
      refine lv_istore (lv' := [(8, .int (((bD S zi) + (pV S st 19)) - (-(((bD S b) + (fMx ((pV S st 18) - (bH S zi)) (pV S st 16))) + (bH S zi))))), (10, .int (-(((bD S b) + (fMx ((pV S st 18) - (bH S zi)) (pV S st 16))) + (bH S zi)))), (11, .int (fMx ((pV S st 18) - (bH S zi)) (pV S st 16))), (6, .int (fMx (bW S b) (bW S ai))), (7, .int (((((bH S b) + (fMx ((pV S st 17) - (bD S ai)) (pV S st 15))) + (bD S ai)) + (bH S ai)) + (pV S st 19))), (9, .int (((bH S b) + (fMx ((pV S st 17) - (bD S ai)) (pV S st 15))) + (bD S ai))), (5, .int (pV S st 19)), (0, .ref (f0 f)), (1, .int (nI st)), (2, .int (nI b)), (3, .int (nI ai)), (4, .int (nI zi))]) hx hb dX3_limitsShape_163 hl (by decide) rfl (fun ls hl => ?_)
      refine lv_iload hx hb dX3_limitsShape_165 (lv_at hl 3 rfl) ?_
      refine lv_aload_n hx hb dX3_limitsShape_167 rfl (lv_at hl 7 rfl) ?_
      refine lv_iload hx hb dX3_limitsShape_168 (lv_at hl 11 rfl) ?_
      refine mw_callV (C := RX3) (As := [.int (nI zi)]) (rest := [.int (fMx (bW S b) (bW S ai))]) hx hb hml hown hl (kX3_widthOf l htr G H.size M f S hR zi h_zi) (g_B (n := 1) htb wd406 wd1 wd403 (by decide +kernel) ⟨Nat.le_of_ble_eq_true rfl, Nat.le_of_ble_eq_true rfl⟩) (htb _ wd405) (htb _ ws14) hE hP hS (fs_R.this hR) rfl rfl rfl (Nat.le_of_ble_eq_true rfl) dX3_limitsShape_170 ⟨Nat.le_of_ble_eq_true rfl, Nat.le_of_ble_eq_true rfl⟩ (fun v9 M9 H locs hpo hP hz hS => ?_) (fun x9 E9 cell9 H9 locs9 hE9 => hE9.elim)
      obtain ⟨rfl, rfl⟩ := hpo
      refine W.eq (g2 := F0 m 173 ls [.int (bW S zi), .int (fMx (bW S b) (bW S ai))]) rfl ?_
      refine va_mmax hx hb (hml.trans hl.1.symm) hown (htb _ wd398) (htb _ wd364) (htb _ wd13) (htb _ wd365) (Nat.le_of_ble_eq_true rfl) (Nat.le_of_ble_eq_true rfl) (Nat.le_of_ble_eq_true rfl) (Nat.le_of_ble_eq_true rfl) dX3_limitsShape_173 ?_
      refine W.eq (g2 := F0 m 176 ls [.int (fMx (fMx (bW S b) (bW S ai)) (bW S zi))]) rfl ?_
      refine lv_istore (lv' := [(6, .int (fMx (fMx (bW S b) (bW S ai)) (bW S zi))), (8, .int (((bD S zi) + (pV S st 19)) - (-(((bD S b) + (fMx ((pV S st 18) - (bH S zi)) (pV S st 16))) + (bH S zi))))), (10, .int (-(((bD S b) + (fMx ((pV S st 18) - (bH S zi)) (pV S st 16))) + (bH S zi)))), (11, .int (fMx ((pV S st 18) - (bH S zi)) (pV S st 16))), (7, .int (((((bH S b) + (fMx ((pV S st 17) - (bD S ai)) (pV S st 15))) + (bD S ai)) + (bH S ai)) + (pV S st 19))), (9, .int (((bH S b) + (fMx ((pV S st 17) - (bD S ai)) (pV S st 15))) + (bD S ai))), (5, .int (pV S st 19)), (0, .ref (f0 f)), (1, .int (nI st)), (2, .int (nI b)), (3, .int (nI ai)), (4, .int (nI zi))]) hx hb dX3_limitsShape_176 hl (by decide) rfl (fun ls hl => ?_)
      refine lv_iload hx hb dX3_limitsShape_178 (lv_at hl 0 rfl) ?_
      refine lv_aload_n hx hb dX3_limitsShape_180 rfl (lv_at hl 7 rfl) ?_
      refine lv_iload_n hx hb dX3_limitsShape_181 rfl (lv_at hl 9 rfl) ?_
      refine mw_callV (C := RX3) (As := [.int (nI b)]) (rest := [.int (fMx (fMx (bW S b) (bW S ai)) (bW S zi))]) hx hb hml hown hl (kX3_widthOf l htr G H.size M f S hR b h_b) (g_B (n := 1) htb wd406 wd1 wd403 (by decide +kernel) ⟨Nat.le_of_ble_eq_true rfl, Nat.le_of_ble_eq_true rfl⟩) (htb _ wd405) (htb _ ws14) hE hP hS (fs_R.this hR) rfl rfl rfl (Nat.le_of_ble_eq_true rfl) dX3_limitsShape_182 ⟨Nat.le_of_ble_eq_true rfl, Nat.le_of_ble_eq_true rfl⟩ (fun v9 M9 H locs hpo hP hz hS => ?_) (fun x9 E9 cell9 H9 locs9 hE9 => hE9.elim)
      obtain ⟨rfl, rfl⟩ := hpo
      refine W.eq (g2 := F0 m 185 ls [.int (bW S b), .int (fMx (fMx (bW S b) (bW S ai)) (bW S zi))]) rfl ?_
      refine lv_isub hx hb dX3_limitsShape_185 ?_
      refine mw_callS (As := [.int ((fMx (fMx (bW S b) (bW S ai)) (bW S zi)) - (bW S b))]) (rest := []) hx hb hml hown hl (kX3_half l htr G H.size M ((fMx (fMx (bW S b) (bW S ai)) (bW S zi)) - (bW S b))) (g_B (n := 1) htb wd393 wd1 wd391 (by decide +kernel) ⟨Nat.le_of_ble_eq_true rfl, Nat.le_of_ble_eq_true rfl⟩) (htb _ wd392) hE hP hS rfl rfl (Nat.le_of_ble_eq_true rfl) dX3_limitsShape_186 ⟨Nat.le_of_ble_eq_true rfl, Nat.le_of_ble_eq_true rfl⟩ (fun v9 M9 H locs hpo hP hz hS => ?_) (fun x9 E9 cell9 H9 locs9 hE9 => hE9.elim)
      obtain ⟨rfl, rfl⟩ := hpo
      refine W.eq (g2 := F0 m 189 ls [.int (fHf ((fMx (fMx (bW S b) (bW S ai)) (bW S zi)) - (bW S b)))]) rfl ?_
      refine lv_istore (lv' := [(11, .int (fHf ((fMx (fMx (bW S b) (bW S ai)) (bW S zi)) - (bW S b)))), (6, .int (fMx (fMx (bW S b) (bW S ai)) (bW S zi))), (8, .int (((bD S zi) + (pV S st 19)) - (-(((bD S b) + (fMx ((pV S st 18) - (bH S zi)) (pV S st 16))) + (bH S zi))))), (10, .int (-(((bD S b) + (fMx ((pV S st 18) - (bH S zi)) (pV S st 16))) + (bH S zi)))), (7, .int (((((bH S b) + (fMx ((pV S st 17) - (bD S ai)) (pV S st 15))) + (bD S ai)) + (bH S ai)) + (pV S st 19))), (9, .int (((bH S b) + (fMx ((pV S st 17) - (bD S ai)) (pV S st 15))) + (bD S ai))), (5, .int (pV S st 19)), (0, .ref (f0 f)), (1, .int (nI st)), (2, .int (nI b)), (3, .int (nI ai)), (4, .int (nI zi))]) hx hb dX3_limitsShape_189 hl (by decide) rfl (fun ls hl => ?_)
      refine lv_iload_n hx hb dX3_limitsShape_191 rfl (lv_at hl 10 rfl) ?_
      refine lv_iconst (v := (-1)) hx hb dX3_limitsShape_192 (by decide) ?_
      refine lv_icmp_ne (tgt := 252) hx hb dX3_limitsShape_193 (by decide) (fun c_95 => ?_) (fun c_95 => absurd c_95 c_1)
      refine lv_iload hx hb dX3_limitsShape_252 (lv_at hl 1 rfl) ?_
      refine lv_aload_n hx hb dX3_limitsShape_254 rfl (lv_at hl 7 rfl) ?_
      refine lv_iload_n hx hb dX3_limitsShape_255 rfl (lv_at hl 10 rfl) ?_
      refine mw_callV (C := RX3) (As := [.int (nI ai)]) (rest := [.int (fMx (fMx (bW S b) (bW S ai)) (bW S zi))]) hx hb hml hown hl (kX3_widthOf l htr G H.size M f S hR ai h_ai) (g_B (n := 1) htb wd406 wd1 wd403 (by decide +kernel) ⟨Nat.le_of_ble_eq_true rfl, Nat.le_of_ble_eq_true rfl⟩) (htb _ wd405) (htb _ ws14) hE hP hS (fs_R.this hR) rfl rfl rfl (Nat.le_of_ble_eq_true rfl) dX3_limitsShape_256 ⟨Nat.le_of_ble_eq_true rfl, Nat.le_of_ble_eq_true rfl⟩ (fun v9 M9 H locs hpo hP hz hS => ?_) (fun x9 E9 cell9 H9 locs9 hE9 => hE9.elim)
      obtain ⟨rfl, rfl⟩ := hpo
      refine W.eq (g2 := F0 m 259 ls [.int (bW S ai), .int (fMx (fMx (bW S b) (bW S ai)) (bW S zi))]) rfl ?_
      refine lv_isub hx hb dX3_limitsShape_259 ?_
      refine mw_callS (As := [.int ((fMx (fMx (bW S b) (bW S ai)) (bW S zi)) - (bW S ai))]) (rest := []) hx hb hml hown hl (kX3_half l htr G H.size M ((fMx (fMx (bW S b) (bW S ai)) (bW S zi)) - (bW S ai))) (g_B (n := 1) htb wd393 wd1 wd391 (by decide +kernel) ⟨Nat.le_of_ble_eq_true rfl, Nat.le_of_ble_eq_true rfl⟩) (htb _ wd392) hE hP hS rfl rfl (Nat.le_of_ble_eq_true rfl) dX3_limitsShape_260 ⟨Nat.le_of_ble_eq_true rfl, Nat.le_of_ble_eq_true rfl⟩ (fun v9 M9 H locs hpo hP hz hS => ?_) (fun x9 E9 cell9 H9 locs9 hE9 => hE9.elim)
      obtain ⟨rfl, rfl⟩ := hpo
      refine W.eq (g2 := F0 m 263 ls [.int (fHf ((fMx (fMx (bW S b) (bW S ai)) (bW S zi)) - (bW S ai)))]) rfl ?_
      refine lv_istore (lv' := [(12, .int (fHf ((fMx (fMx (bW S b) (bW S ai)) (bW S zi)) - (bW S ai)))), (11, .int (fHf ((fMx (fMx (bW S b) (bW S ai)) (bW S zi)) - (bW S b)))), (6, .int (fMx (fMx (bW S b) (bW S ai)) (bW S zi))), (8, .int (((bD S zi) + (pV S st 19)) - (-(((bD S b) + (fMx ((pV S st 18) - (bH S zi)) (pV S st 16))) + (bH S zi))))), (10, .int (-(((bD S b) + (fMx ((pV S st 18) - (bH S zi)) (pV S st 16))) + (bH S zi)))), (7, .int (((((bH S b) + (fMx ((pV S st 17) - (bD S ai)) (pV S st 15))) + (bD S ai)) + (bH S ai)) + (pV S st 19))), (9, .int (((bH S b) + (fMx ((pV S st 17) - (bD S ai)) (pV S st 15))) + (bD S ai))), (5, .int (pV S st 19)), (0, .ref (f0 f)), (1, .int (nI st)), (2, .int (nI b)), (3, .int (nI ai)), (4, .int (nI zi))]) hx hb dX3_limitsShape_263 hl (by decide) rfl (fun ls hl => ?_)
      refine lv_iload hx hb dX3_limitsShape_265 (lv_at hl 12 rfl) ?_
      refine lv_iconst (v := (-1)) hx hb dX3_limitsShape_267 (by decide) ?_
      refine lv_icmp_ne (tgt := 316) hx hb dX3_limitsShape_268 (by decide) (fun c_96 => ?_) (fun c_96 => absurd c_96 c_48)
      refine mw_new (ci := 0) (fs := [.int 0, .int 0, .int 0, .null, .int 0, .int 0]) (C := RX0) (T := TX0) (N := 6) hx hb htb inX0 tyX0 tyX0_ok hown (htb _ wd22) (htb _ wd215) (htb _ wd10) hK hP hS rfl (fun j hj => by rcases (show j = 0 ∨ j = 1 ∨ j = 2 ∨ j = 3 ∨ j = 4 ∨ j = 5 by omega) with rfl | rfl | rfl | rfl | rfl | rfl <;> rfl) (Nat.le_of_ble_eq_true rfl) (Nat.le_of_ble_eq_true rfl) dX3_limitsShape_316 (fun q_97 H hq_98 hs_99 hP hS => ?_)
      obtain ⟨M_100, hM_100⟩ : ∃ z9 : mw_M, z9 = mw_up M q_97 (.inr (0, [.int 0, .int 0, .int 0, .null, .int 0, .int 0])) := ⟨_, rfl⟩
      have hP : mw_P (gD G) gx_cl M_100 H := by rw [hM_100]; exact hP
      have n_101 : M q_97 = none := mw_ext.no (mw_ext.rf M) hq_98
      have f_102 : M_100 q_97 = some (.inr (0, [.int 0, .int 0, .int 0, .null, .int 0, .int 0])) := by rw [hM_100]; exact mw_self _ _ _
      have x_103 : mw_ext M M_100 := by rw [hM_100]; exact mw_ext.up (mw_ext.rf M) n_101 _
      refine lv_dup hx hb dX3_limitsShape_319 rfl ?_
      refine lv_iload hx hb dX3_limitsShape_320 (lv_at hl 2 rfl) ?_
      refine lv_iload hx hb dX3_limitsShape_322 (lv_at hl 5 rfl) ?_
      refine lv_iload hx hb dX3_limitsShape_324 (lv_at hl 3 rfl) ?_
      refine lv_bipush (v := 9) hx hb dX3_limitsShape_326 (by decide) ?_
      refine mw_newi (N := 9) hx hb (htb _ wd55) hK hP hS 0 rfl (by decide) (by decide) (by decide) (Nat.le_of_ble_eq_true rfl) (Nat.le_of_ble_eq_true rfl) dX3_limitsShape_328 (fun q_104 H hq_105 hs_106 hP hS => ?_)
      obtain ⟨M_107, hM_107⟩ : ∃ z9 : mw_M, z9 = mw_up M_100 q_104 (.inl (gI G, 9, .inl (fun _ => 0))) := ⟨_, rfl⟩
      have hP : mw_P (gD G) gx_cl M_107 H := by rw [hM_107]; exact hP
      have n_108 : M q_104 = none := mw_ext.no x_103 hq_105
      have f_109 : M_107 q_97 = some (.inr (0, [.int 0, .int 0, .int 0, .null, .int 0, .int 0])) := by rw [hM_107, mw_ne _ _ (fun z => by have z1 := f_102; rw [z, hq_105] at z1; cases z1)]; exact f_102
      have ne_110 : q_97 ≠ q_104 := fun z => by have z1 := f_102; rw [z, hq_105] at z1; cases z1
      have f_111 : M_107 q_104 = some (.inl (gI G, 9, .inl (fun _ => 0))) := by rw [hM_107]; exact mw_self _ _ _
      have x_112 : mw_ext M M_107 := by rw [hM_107]; exact mw_ext.up x_103 n_108 _
      refine lv_dup hx hb dX3_limitsShape_330 rfl ?_
      refine lv_iconst (v := 0) hx hb dX3_limitsShape_331 (by decide) ?_
      refine lv_iload_n hx hb dX3_limitsShape_332 rfl (lv_at hl 11 rfl) ?_
      refine mw_iast hx hb hK hP hS 0 f_111 (hAn _ hs_106) rfl (by unfold vp_in; decide) dX3_limitsShape_333 (fun H locs hP hS => ?_)
      obtain ⟨M_113, hM_113⟩ : ∃ z9 : mw_M, z9 = mw_up M_107 q_104 (.inl (gI G, 9, .inl (upd (fun _ => 0) 0 (nI ai)))) := ⟨_, rfl⟩
      have hP : mw_P (gD G) gx_cl M_113 H := by rw [hM_113]; exact hP
      have f_114 : M_113 q_97 = some (.inr (0, [.int 0, .int 0, .int 0, .null, .int 0, .int 0])) := by rw [hM_113, mw_ne _ _ ne_110]; exact f_109
      have f_115 : M_113 q_104 = some (.inl (gI G, 9, .inl (upd (fun _ => 0) 0 (nI ai)))) := by rw [hM_113]; exact mw_self _ _ _
      have x_116 : mw_ext M M_113 := by rw [hM_113]; exact mw_ext.up x_112 n_108 _
      refine lv_dup hx hb dX3_limitsShape_334 rfl ?_
      refine lv_iconst (v := 1) hx hb dX3_limitsShape_335 (by decide) ?_
      refine lv_iload hx hb dX3_limitsShape_336 (lv_at hl 0 rfl) ?_
      refine mw_iast hx hb hK hP hS 0 f_115 (hAn _ hs_106) rfl (by unfold vp_in; decide) dX3_limitsShape_338 (fun H locs hP hS => ?_)
      obtain ⟨M_117, hM_117⟩ : ∃ z9 : mw_M, z9 = mw_up M_113 q_104 (.inl (gI G, 9, .inl (upd (upd (fun _ => 0) 0 (nI ai)) 1 (fHf ((fMx (fMx (bW S b) (bW S ai)) (bW S zi)) - (bW S ai)))))) := ⟨_, rfl⟩
      have hP : mw_P (gD G) gx_cl M_117 H := by rw [hM_117]; exact hP
      have f_118 : M_117 q_97 = some (.inr (0, [.int 0, .int 0, .int 0, .null, .int 0, .int 0])) := by rw [hM_117, mw_ne _ _ ne_110]; exact f_114
      have f_119 : M_117 q_104 = some (.inl (gI G, 9, .inl (upd (upd (fun _ => 0) 0 (nI ai)) 1 (fHf ((fMx (fMx (bW S b) (bW S ai)) (bW S zi)) - (bW S ai)))))) := by rw [hM_117]; exact mw_self _ _ _
      have x_120 : mw_ext M M_117 := by rw [hM_117]; exact mw_ext.up x_116 n_108 _
      refine lv_dup hx hb dX3_limitsShape_339 rfl ?_
      refine lv_iconst (v := 2) hx hb dX3_limitsShape_340 (by decide) ?_
      refine lv_iload hx hb dX3_limitsShape_341 (lv_at hl 6 rfl) ?_
      refine mw_iast hx hb hK hP hS 0 f_119 (hAn _ hs_106) rfl (by unfold vp_in; decide) dX3_limitsShape_343 (fun H locs hP hS => ?_)
      obtain ⟨M_121, hM_121⟩ : ∃ z9 : mw_M, z9 = mw_up M_117 q_104 (.inl (gI G, 9, .inl (upd (upd (upd (fun _ => 0) 0 (nI ai)) 1 (fHf ((fMx (fMx (bW S b) (bW S ai)) (bW S zi)) - (bW S ai)))) 2 (((bH S b) + (fMx ((pV S st 17) - (bD S ai)) (pV S st 15))) + (bD S ai))))) := ⟨_, rfl⟩
      have hP : mw_P (gD G) gx_cl M_121 H := by rw [hM_121]; exact hP
      have f_122 : M_121 q_97 = some (.inr (0, [.int 0, .int 0, .int 0, .null, .int 0, .int 0])) := by rw [hM_121, mw_ne _ _ ne_110]; exact f_118
      have f_123 : M_121 q_104 = some (.inl (gI G, 9, .inl (upd (upd (upd (fun _ => 0) 0 (nI ai)) 1 (fHf ((fMx (fMx (bW S b) (bW S ai)) (bW S zi)) - (bW S ai)))) 2 (((bH S b) + (fMx ((pV S st 17) - (bD S ai)) (pV S st 15))) + (bD S ai))))) := by rw [hM_121]; exact mw_self _ _ _
      have x_124 : mw_ext M M_121 := by rw [hM_121]; exact mw_ext.up x_120 n_108 _
      refine lv_dup hx hb dX3_limitsShape_344 rfl ?_
      refine lv_iconst (v := 3) hx hb dX3_limitsShape_345 (by decide) ?_
      refine lv_iload_n hx hb dX3_limitsShape_346 rfl (lv_at hl 10 rfl) ?_
      refine mw_iast hx hb hK hP hS 0 f_123 (hAn _ hs_106) rfl (by unfold vp_in; decide) dX3_limitsShape_347 (fun H locs hP hS => ?_)
      obtain ⟨M_125, hM_125⟩ : ∃ z9 : mw_M, z9 = mw_up M_121 q_104 (.inl (gI G, 9, .inl (upd (upd (upd (upd (fun _ => 0) 0 (nI ai)) 1 (fHf ((fMx (fMx (bW S b) (bW S ai)) (bW S zi)) - (bW S ai)))) 2 (((bH S b) + (fMx ((pV S st 17) - (bD S ai)) (pV S st 15))) + (bD S ai))) 3 (nI b)))) := ⟨_, rfl⟩
      have hP : mw_P (gD G) gx_cl M_125 H := by rw [hM_125]; exact hP
      have f_126 : M_125 q_97 = some (.inr (0, [.int 0, .int 0, .int 0, .null, .int 0, .int 0])) := by rw [hM_125, mw_ne _ _ ne_110]; exact f_122
      have f_127 : M_125 q_104 = some (.inl (gI G, 9, .inl (upd (upd (upd (upd (fun _ => 0) 0 (nI ai)) 1 (fHf ((fMx (fMx (bW S b) (bW S ai)) (bW S zi)) - (bW S ai)))) 2 (((bH S b) + (fMx ((pV S st 17) - (bD S ai)) (pV S st 15))) + (bD S ai))) 3 (nI b)))) := by rw [hM_125]; exact mw_self _ _ _
      have x_128 : mw_ext M M_125 := by rw [hM_125]; exact mw_ext.up x_124 n_108 _
      refine lv_dup hx hb dX3_limitsShape_348 rfl ?_
      refine lv_iconst (v := 4) hx hb dX3_limitsShape_349 (by decide) ?_
      refine lv_iload hx hb dX3_limitsShape_350 (lv_at hl 1 rfl) ?_
      refine mw_iast hx hb hK hP hS 0 f_127 (hAn _ hs_106) rfl (by unfold vp_in; decide) dX3_limitsShape_352 (fun H locs hP hS => ?_)
      obtain ⟨M_129, hM_129⟩ : ∃ z9 : mw_M, z9 = mw_up M_125 q_104 (.inl (gI G, 9, .inl (upd (upd (upd (upd (upd (fun _ => 0) 0 (nI ai)) 1 (fHf ((fMx (fMx (bW S b) (bW S ai)) (bW S zi)) - (bW S ai)))) 2 (((bH S b) + (fMx ((pV S st 17) - (bD S ai)) (pV S st 15))) + (bD S ai))) 3 (nI b)) 4 (fHf ((fMx (fMx (bW S b) (bW S ai)) (bW S zi)) - (bW S b)))))) := ⟨_, rfl⟩
      have hP : mw_P (gD G) gx_cl M_129 H := by rw [hM_129]; exact hP
      have f_130 : M_129 q_97 = some (.inr (0, [.int 0, .int 0, .int 0, .null, .int 0, .int 0])) := by rw [hM_129, mw_ne _ _ ne_110]; exact f_126
      have f_131 : M_129 q_104 = some (.inl (gI G, 9, .inl (upd (upd (upd (upd (upd (fun _ => 0) 0 (nI ai)) 1 (fHf ((fMx (fMx (bW S b) (bW S ai)) (bW S zi)) - (bW S ai)))) 2 (((bH S b) + (fMx ((pV S st 17) - (bD S ai)) (pV S st 15))) + (bD S ai))) 3 (nI b)) 4 (fHf ((fMx (fMx (bW S b) (bW S ai)) (bW S zi)) - (bW S b)))))) := by rw [hM_129]; exact mw_self _ _ _
      have x_132 : mw_ext M M_129 := by rw [hM_129]; exact mw_ext.up x_128 n_108 _
      refine lv_dup hx hb dX3_limitsShape_353 rfl ?_
      refine lv_iconst (v := 5) hx hb dX3_limitsShape_354 (by decide) ?_
      refine lv_iconst (v := 0) hx hb dX3_limitsShape_355 (by decide) ?_
      refine mw_iast hx hb hK hP hS 0 f_131 (hAn _ hs_106) rfl (by unfold vp_in; decide) dX3_limitsShape_356 (fun H locs hP hS => ?_)
      obtain ⟨M_133, hM_133⟩ : ∃ z9 : mw_M, z9 = mw_up M_129 q_104 (.inl (gI G, 9, .inl (upd (upd (upd (upd (upd (upd (fun _ => 0) 0 (nI ai)) 1 (fHf ((fMx (fMx (bW S b) (bW S ai)) (bW S zi)) - (bW S ai)))) 2 (((bH S b) + (fMx ((pV S st 17) - (bD S ai)) (pV S st 15))) + (bD S ai))) 3 (nI b)) 4 (fHf ((fMx (fMx (bW S b) (bW S ai)) (bW S zi)) - (bW S b)))) 5 0))) := ⟨_, rfl⟩
      have hP : mw_P (gD G) gx_cl M_133 H := by rw [hM_133]; exact hP
      have f_134 : M_133 q_97 = some (.inr (0, [.int 0, .int 0, .int 0, .null, .int 0, .int 0])) := by rw [hM_133, mw_ne _ _ ne_110]; exact f_130
      have f_135 : M_133 q_104 = some (.inl (gI G, 9, .inl (upd (upd (upd (upd (upd (upd (fun _ => 0) 0 (nI ai)) 1 (fHf ((fMx (fMx (bW S b) (bW S ai)) (bW S zi)) - (bW S ai)))) 2 (((bH S b) + (fMx ((pV S st 17) - (bD S ai)) (pV S st 15))) + (bD S ai))) 3 (nI b)) 4 (fHf ((fMx (fMx (bW S b) (bW S ai)) (bW S zi)) - (bW S b)))) 5 0))) := by rw [hM_133]; exact mw_self _ _ _
      have x_136 : mw_ext M M_133 := by rw [hM_133]; exact mw_ext.up x_132 n_108 _
      refine lv_dup hx hb dX3_limitsShape_357 rfl ?_
      refine lv_bipush (v := 6) hx hb dX3_limitsShape_358 (by decide) ?_
      refine lv_iload hx hb dX3_limitsShape_360 (lv_at hl 12 rfl) ?_
      refine mw_iast hx hb hK hP hS 0 f_135 (hAn _ hs_106) rfl (by unfold vp_in; decide) dX3_limitsShape_362 (fun H locs hP hS => ?_)
      obtain ⟨M_137, hM_137⟩ : ∃ z9 : mw_M, z9 = mw_up M_133 q_104 (.inl (gI G, 9, .inl (upd (upd (upd (upd (upd (upd (upd (fun _ => 0) 0 (nI ai)) 1 (fHf ((fMx (fMx (bW S b) (bW S ai)) (bW S zi)) - (bW S ai)))) 2 (((bH S b) + (fMx ((pV S st 17) - (bD S ai)) (pV S st 15))) + (bD S ai))) 3 (nI b)) 4 (fHf ((fMx (fMx (bW S b) (bW S ai)) (bW S zi)) - (bW S b)))) 5 0) 6 (nI zi)))) := ⟨_, rfl⟩
      have hP : mw_P (gD G) gx_cl M_137 H := by rw [hM_137]; exact hP
      have f_138 : M_137 q_97 = some (.inr (0, [.int 0, .int 0, .int 0, .null, .int 0, .int 0])) := by rw [hM_137, mw_ne _ _ ne_110]; exact f_134
      have f_139 : M_137 q_104 = some (.inl (gI G, 9, .inl (upd (upd (upd (upd (upd (upd (upd (fun _ => 0) 0 (nI ai)) 1 (fHf ((fMx (fMx (bW S b) (bW S ai)) (bW S zi)) - (bW S ai)))) 2 (((bH S b) + (fMx ((pV S st 17) - (bD S ai)) (pV S st 15))) + (bD S ai))) 3 (nI b)) 4 (fHf ((fMx (fMx (bW S b) (bW S ai)) (bW S zi)) - (bW S b)))) 5 0) 6 (nI zi)))) := by rw [hM_137]; exact mw_self _ _ _
      have x_140 : mw_ext M M_137 := by rw [hM_137]; exact mw_ext.up x_136 n_108 _
      refine lv_dup hx hb dX3_limitsShape_363 rfl ?_
      refine lv_bipush (v := 7) hx hb dX3_limitsShape_364 (by decide) ?_
      refine lv_iload hx hb dX3_limitsShape_366 (lv_at hl 2 rfl) ?_
      refine lv_aload_n hx hb dX3_limitsShape_368 rfl (lv_at hl 8 rfl) ?_
      refine lv_iload hx hb dX3_limitsShape_369 (lv_at hl 12 rfl) ?_
      refine mw_callV (C := RX3) (As := [.int (nI zi)]) (rest := [.int (fMx (fMx (bW S b) (bW S ai)) (bW S zi)), .int 7, .ref q_104, .ref q_104, .int (((bD S zi) + (pV S st 19)) - (-(((bD S b) + (fMx ((pV S st 18) - (bH S zi)) (pV S st 16))) + (bH S zi)))), .int (((((bH S b) + (fMx ((pV S st 17) - (bD S ai)) (pV S st 15))) + (bD S ai)) + (bH S ai)) + (pV S st 19)), .int (fMx (fMx (bW S b) (bW S ai)) (bW S zi)), .ref q_97, .ref q_97]) hx hb hml hown hl (kX3_widthOf l htr G H.size M_137 f S (fs_R.ext hR x_140) zi h_zi) (g_B (n := 1) htb wd406 wd1 wd403 (by decide +kernel) ⟨Nat.le_of_ble_eq_true rfl, Nat.le_of_ble_eq_true rfl⟩) (htb _ wd405) (htb _ ws14) hE hP hS (fs_R.this (fs_R.ext hR x_140)) rfl rfl rfl (Nat.le_of_ble_eq_true rfl) dX3_limitsShape_371 ⟨Nat.le_of_ble_eq_true rfl, Nat.le_of_ble_eq_true rfl⟩ (fun v9 M9 H locs hpo hP hz hS => ?_) (fun x9 E9 cell9 H9 locs9 hE9 => hE9.elim)
      obtain ⟨rfl, rfl⟩ := hpo
      refine W.eq (g2 := F0 m 374 ls [.int (bW S zi), .int (fMx (fMx (bW S b) (bW S ai)) (bW S zi)), .int 7, .ref q_104, .ref q_104, .int (((bD S zi) + (pV S st 19)) - (-(((bD S b) + (fMx ((pV S st 18) - (bH S zi)) (pV S st 16))) + (bH S zi)))), .int (((((bH S b) + (fMx ((pV S st 17) - (bD S ai)) (pV S st 15))) + (bD S ai)) + (bH S ai)) + (pV S st 19)), .int (fMx (fMx (bW S b) (bW S ai)) (bW S zi)), .ref q_97, .ref q_97]) rfl ?_
      refine lv_isub hx hb dX3_limitsShape_374 ?_
      refine mw_callS (As := [.int ((fMx (fMx (bW S b) (bW S ai)) (bW S zi)) - (bW S zi))]) (rest := [.int 7, .ref q_104, .ref q_104, .int (((bD S zi) + (pV S st 19)) - (-(((bD S b) + (fMx ((pV S st 18) - (bH S zi)) (pV S st 16))) + (bH S zi)))), .int (((((bH S b) + (fMx ((pV S st 17) - (bD S ai)) (pV S st 15))) + (bD S ai)) + (bH S ai)) + (pV S st 19)), .int (fMx (fMx (bW S b) (bW S ai)) (bW S zi)), .ref q_97, .ref q_97]) hx hb hml hown hl (kX3_half l htr G H.size M_137 ((fMx (fMx (bW S b) (bW S ai)) (bW S zi)) - (bW S zi))) (g_B (n := 1) htb wd393 wd1 wd391 (by decide +kernel) ⟨Nat.le_of_ble_eq_true rfl, Nat.le_of_ble_eq_true rfl⟩) (htb _ wd392) hE hP hS rfl rfl (Nat.le_of_ble_eq_true rfl) dX3_limitsShape_375 ⟨Nat.le_of_ble_eq_true rfl, Nat.le_of_ble_eq_true rfl⟩ (fun v9 M9 H locs hpo hP hz hS => ?_) (fun x9 E9 cell9 H9 locs9 hE9 => hE9.elim)
      obtain ⟨rfl, rfl⟩ := hpo
      refine W.eq (g2 := F0 m 378 ls [.int (fHf ((fMx (fMx (bW S b) (bW S ai)) (bW S zi)) - (bW S zi))), .int 7, .ref q_104, .ref q_104, .int (((bD S zi) + (pV S st 19)) - (-(((bD S b) + (fMx ((pV S st 18) - (bH S zi)) (pV S st 16))) + (bH S zi)))), .int (((((bH S b) + (fMx ((pV S st 17) - (bD S ai)) (pV S st 15))) + (bD S ai)) + (bH S ai)) + (pV S st 19)), .int (fMx (fMx (bW S b) (bW S ai)) (bW S zi)), .ref q_97, .ref q_97]) rfl ?_
      refine mw_iast hx hb hK hP hS 0 f_139 (hAn _ hs_106) rfl (by unfold vp_in; decide) dX3_limitsShape_378 (fun H locs hP hS => ?_)
      obtain ⟨M_141, hM_141⟩ : ∃ z9 : mw_M, z9 = mw_up M_137 q_104 (.inl (gI G, 9, .inl (upd (upd (upd (upd (upd (upd (upd (upd (fun _ => 0) 0 (nI ai)) 1 (fHf ((fMx (fMx (bW S b) (bW S ai)) (bW S zi)) - (bW S ai)))) 2 (((bH S b) + (fMx ((pV S st 17) - (bD S ai)) (pV S st 15))) + (bD S ai))) 3 (nI b)) 4 (fHf ((fMx (fMx (bW S b) (bW S ai)) (bW S zi)) - (bW S b)))) 5 0) 6 (nI zi)) 7 (fHf ((fMx (fMx (bW S b) (bW S ai)) (bW S zi)) - (bW S zi)))))) := ⟨_, rfl⟩
      have hP : mw_P (gD G) gx_cl M_141 H := by rw [hM_141]; exact hP
      have f_142 : M_141 q_97 = some (.inr (0, [.int 0, .int 0, .int 0, .null, .int 0, .int 0])) := by rw [hM_141, mw_ne _ _ ne_110]; exact f_138
      have f_143 : M_141 q_104 = some (.inl (gI G, 9, .inl (upd (upd (upd (upd (upd (upd (upd (upd (fun _ => 0) 0 (nI ai)) 1 (fHf ((fMx (fMx (bW S b) (bW S ai)) (bW S zi)) - (bW S ai)))) 2 (((bH S b) + (fMx ((pV S st 17) - (bD S ai)) (pV S st 15))) + (bD S ai))) 3 (nI b)) 4 (fHf ((fMx (fMx (bW S b) (bW S ai)) (bW S zi)) - (bW S b)))) 5 0) 6 (nI zi)) 7 (fHf ((fMx (fMx (bW S b) (bW S ai)) (bW S zi)) - (bW S zi)))))) := by rw [hM_141]; exact mw_self _ _ _
      have x_144 : mw_ext M M_141 := by rw [hM_141]; exact mw_ext.up x_140 n_108 _
      refine lv_dup hx hb dX3_limitsShape_379 rfl ?_
      refine lv_bipush (v := 8) hx hb dX3_limitsShape_380 (by decide) ?_
      refine lv_iload hx hb dX3_limitsShape_382 (lv_at hl 4 rfl) ?_
      refine mw_iast hx hb hK hP hS 0 f_143 (hAn _ hs_106) rfl (by unfold vp_in; decide) dX3_limitsShape_384 (fun H locs hP hS => ?_)
      obtain ⟨M_145, hM_145⟩ : ∃ z9 : mw_M, z9 = mw_up M_141 q_104 (.inl (gI G, 9, .inl (upd (upd (upd (upd (upd (upd (upd (upd (upd (fun _ => 0) 0 (nI ai)) 1 (fHf ((fMx (fMx (bW S b) (bW S ai)) (bW S zi)) - (bW S ai)))) 2 (((bH S b) + (fMx ((pV S st 17) - (bD S ai)) (pV S st 15))) + (bD S ai))) 3 (nI b)) 4 (fHf ((fMx (fMx (bW S b) (bW S ai)) (bW S zi)) - (bW S b)))) 5 0) 6 (nI zi)) 7 (fHf ((fMx (fMx (bW S b) (bW S ai)) (bW S zi)) - (bW S zi)))) 8 (-(((bD S b) + (fMx ((pV S st 18) - (bH S zi)) (pV S st 16))) + (bH S zi)))))) := ⟨_, rfl⟩
      have hP : mw_P (gD G) gx_cl M_145 H := by rw [hM_145]; exact hP
      have f_146 : M_145 q_97 = some (.inr (0, [.int 0, .int 0, .int 0, .null, .int 0, .int 0])) := by rw [hM_145, mw_ne _ _ ne_110]; exact f_142
      have f_147 : M_145 q_104 = some (.inl (gI G, 9, .inl (upd (upd (upd (upd (upd (upd (upd (upd (upd (fun _ => 0) 0 (nI ai)) 1 (fHf ((fMx (fMx (bW S b) (bW S ai)) (bW S zi)) - (bW S ai)))) 2 (((bH S b) + (fMx ((pV S st 17) - (bD S ai)) (pV S st 15))) + (bD S ai))) 3 (nI b)) 4 (fHf ((fMx (fMx (bW S b) (bW S ai)) (bW S zi)) - (bW S b)))) 5 0) 6 (nI zi)) 7 (fHf ((fMx (fMx (bW S b) (bW S ai)) (bW S zi)) - (bW S zi)))) 8 (-(((bD S b) + (fMx ((pV S st 18) - (bH S zi)) (pV S st 16))) + (bH S zi)))))) := by rw [hM_145]; exact mw_self _ _ _
      have x_148 : mw_ext M M_145 := by rw [hM_145]; exact mw_ext.up x_144 n_108 _
      refine mw_callI (As := [.int (fMx (fMx (bW S b) (bW S ai)) (bW S zi)), .int (((((bH S b) + (fMx ((pV S st 17) - (bD S ai)) (pV S st 15))) + (bD S ai)) + (bH S ai)) + (pV S st 19)), .int (((bD S zi) + (pV S st 19)) - (-(((bD S b) + (fMx ((pV S st 18) - (bH S zi)) (pV S st 16))) + (bH S zi)))), .ref q_104]) (rest := [.ref q_97]) hx hb hml hown hl (kX0_init_0 l htr G H.size M_145 q_97 (hAn _ hs_99) f_146 (fMx (fMx (bW S b) (bW S ai)) (bW S zi)) (((((bH S b) + (fMx ((pV S st 17) - (bD S ai)) (pV S st 15))) + (bD S ai)) + (bH S ai)) + (pV S st 19)) (((bD S zi) + (pV S st 19)) - (-(((bD S b) + (fMx ((pV S st 18) - (bH S zi)) (pV S st 16))) + (bH S zi)))) q_104) (g_B (n := 4) htb wd220 wd10 wd218 (by decide +kernel) ⟨Nat.le_of_ble_eq_true rfl, Nat.le_of_ble_eq_true rfl⟩) (htb _ wd219) (htb _ wd220) rfl hE hP hS rfl rfl (Nat.le_of_ble_eq_true rfl) dX3_limitsShape_385 ⟨Nat.le_of_ble_eq_true rfl, Nat.le_of_ble_eq_true rfl⟩ (fun v9 M9 H locs hpo hP hz hS => ?_) (fun x9 E9 cell9 H9 locs9 hE9 => hE9.elim)
      obtain ⟨rfl, hM9⟩ := hpo
      obtain ⟨M_149, hM_149⟩ : ∃ z9 : mw_M, z9 = mw_up M_145 q_97 (.inr (0, [.int (fMx (fMx (bW S b) (bW S ai)) (bW S zi)), .int (((((bH S b) + (fMx ((pV S st 17) - (bD S ai)) (pV S st 15))) + (bD S ai)) + (bH S ai)) + (pV S st 19)), .int (((bD S zi) + (pV S st 19)) - (-(((bD S b) + (fMx ((pV S st 18) - (bH S zi)) (pV S st 16))) + (bH S zi)))), .ref q_104, .int 0, .int 0])) := ⟨_, rfl⟩
      have hP : mw_P (gD G) gx_cl M_149 H := by rw [hM_149, hM9]; exact hP
      have f_150 : M_149 q_97 = some (.inr (0, [.int (fMx (fMx (bW S b) (bW S ai)) (bW S zi)), .int (((((bH S b) + (fMx ((pV S st 17) - (bD S ai)) (pV S st 15))) + (bD S ai)) + (bH S ai)) + (pV S st 19)), .int (((bD S zi) + (pV S st 19)) - (-(((bD S b) + (fMx ((pV S st 18) - (bH S zi)) (pV S st 16))) + (bH S zi)))), .ref q_104, .int 0, .int 0])) := by rw [hM_149]; exact mw_self _ _ _
      have f_151 : M_149 q_104 = some (.inl (gI G, 9, .inl (upd (upd (upd (upd (upd (upd (upd (upd (upd (fun _ => 0) 0 (nI ai)) 1 (fHf ((fMx (fMx (bW S b) (bW S ai)) (bW S zi)) - (bW S ai)))) 2 (((bH S b) + (fMx ((pV S st 17) - (bD S ai)) (pV S st 15))) + (bD S ai))) 3 (nI b)) 4 (fHf ((fMx (fMx (bW S b) (bW S ai)) (bW S zi)) - (bW S b)))) 5 0) 6 (nI zi)) 7 (fHf ((fMx (fMx (bW S b) (bW S ai)) (bW S zi)) - (bW S zi)))) 8 (-(((bD S b) + (fMx ((pV S st 18) - (bH S zi)) (pV S st 16))) + (bH S zi)))))) := by rw [hM_149, mw_ne _ _ (Ne.symm ne_110)]; exact f_147
      have x_152 : mw_ext M M_149 := by rw [hM_149]; exact mw_ext.up x_148 n_101 _
      refine W.eq (g2 := F0 m 388 ls [.ref q_97]) rfl ?_
      have hbx9 : fs_bx G f M_149 q_97 (fs_lm S st b (nI ai) (nI zi)) := by
        simp only [fs_lm, fs_lw, fs_la, fs_ls, if_neg c_1 , if_neg c_48, hc_ai , hc_zi, List.nil_append, List.append_nil, List.cons_append]
        refine fs_mk f_150 f_151 rfl (fun j hj => ?_) (fun z => hX _ z n_101) (fun z => hX _ z n_108)
        rcases (show j = 0 ∨ j = 1 ∨ j = 2 ∨ j = 3 ∨ j = 4 ∨ j = 5 ∨ j = 6 ∨ j = 7 ∨ j = 8 by omega) with rfl | rfl | rfl | rfl | rfl | rfl | rfl | rfl | rfl <;> rfl
      exact mx_aret (q := q_97) (M' := M_149) hx hb hr (Or.inl ⟨_, rfl⟩) hlocks hP hS ⟨q_97, rfl, x_152, hbx9⟩ dX3_limitsShape_388 (Nat.le_of_ble_eq_true rfl) (Nat.le_of_ble_eq_true rfl)
