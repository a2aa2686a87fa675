/-! printed by wip/whole/spec*.py -/
-- X3_putTogether
set_option maxHeartbeats 4000000 in
set_option maxRecDepth 100000 in
theorem kX3_putTogether (l : Launch) (htr : l.stackTraces = false) (G : gx_G) (sz : Nat) (M : mw_M) (f : fs_A) (S : fs_S) (hR : fs_R G f M S) (hX : ∀ a, fX f a → M a ≠ none) (hA : ∀ q : Nat, sz ≤ q → gA G q) (k : Nat) (hk : k < 8) (least : Int32) (hrep : ¬ (sF S k).2.2.2.2 = (-1)) : g_Met l G yX3_putTogether (.code yX3_putTogether cX3_putTogether 10 (some (.object "FormulaShapes$Box"))) ({ frames := 4, cells := 3, slots := 379, locals := 200 } : Room) sz M [.ref (f0 f), .ref (fQ f k), .int least] (fun v M9 => ∃ q, v = some (.ref q) ∧ mw_ext M M9 ∧ fs_bx G f M9 q (fs_tg S (sF S k) least)) (fun _ => False) := by
  refine MetE.ofW (cc := cX3_putTogether) (maxL := 10) (ret := (some (.object "FormulaShapes$Box"))) (by decide) rfl ?_
  intro p e s m args below meth c s₁ B hml hv
  obtain ⟨rfl, hsz, hP, hE⟩ := hv
  have hx := B.exec
  have hb := B.bytes
  have hr := B.returns
  have hts := atoms_spec (ws := _ :: lw_big) B.pre
  have htb : ∀ w ∈ lw_big, w.before _ s = true := fun w h => hts w (List.mem_cons_of_mem _ h)
  have hno := B.noHandlers (hts _ List.mem_cons_self)
  have hown : s.vm.findClass RX3 = some m.cls := findClass_of_methodNamed B.named
  have hlocks := B.notSynchronized
  have hK := hE.1
  subst hsz
  have hAn : ∀ q : Nat, s.heap.size ≤ q → gA G q := hA
  have hS : va_S (gA G) s.heap s.heap [] := va_S.rf
  have hl := lv_entry ([.ref (f0 f), .ref (fQ f k), .int least]) (n := 10) (Nat.le_of_ble_eq_true rfl)
  rw [lg_entry_eq]
  generalize (lg_sl ([.ref (f0 f), .ref (fQ f k), .int least]) ++ List.replicate (10 - (lg_sl ([.ref (f0 f), .ref (fQ f k), .int least])).length) Slot.unset).toArray = ls at hl ⊢
  have hl : lv_has ls 10 [(0, .ref (f0 f)), (1, .ref (fQ f k)), (2, .int least)] := hl
  obtain ⟨gm, gf, g, h1, h2, h3, h4, h5, h6, h7, h8, h9⟩ := id hR
  obtain ⟨hgf_k, gr_k, hf1_k, hf2_k, hf3_k⟩ := h7 k hk
  obtain ⟨o1, o2, o3, o4, o5, o6⟩ := h8.2.2 k hk
  refine lv_aload_n hx hb dX3_putTogether_0 rfl (lv_at hl 1 rfl) ?_
  refine mw_get (D := gD G) (ci := 1) (v := .int (sF S k).2.2.1) (C := RX1) (T := TX1) (N := 6) hx hb htb inX1 hown hK hP hf1_k rfl 3 (by decide) (htb _ wd37) (fun _ h9 => h9) rfl dX3_putTogether_1 ?_
  refine lv_iconst (v := (-1)) hx hb dX3_putTogether_4 (by decide) ?_
  refine lv_icmp_eq (tgt := 12) hx hb dX3_putTogether_5 (by decide) (fun c_1 => ?_) (fun c_1 => ?_)
  · refine lv_iconst (v := 0) hx hb dX3_putTogether_12 (by decide) ?_
    refine lv_istore_n (lv' := [(3, .int 0), (0, .ref (f0 f)), (1, .ref (fQ f k)), (2, .int least)]) hx hb dX3_putTogether_13 rfl hl (by decide) rfl (fun ls hl => ?_)
    refine lv_aload_n hx hb dX3_putTogether_14 rfl (lv_at hl 1 rfl) ?_
    refine lv_aload_n hx hb dX3_putTogether_15 rfl (lv_at hl 2 rfl) ?_
    refine mw_get (D := gD G) (ci := 1) (v := .int (sF S k).2.2.2.2) (C := RX1) (T := TX1) (N := 6) hx hb htb inX1 hown hK hP hf1_k rfl 5 (by decide) (htb _ wd41) (fun _ h9 => h9) rfl dX3_putTogether_16 ?_
    refine mw_callV (C := RX3) (As := [.int (sF S k).2.2.2.2]) (rest := []) hx hb hml hown hl (kX3_extentOf l htr G s.heap.size M f S hR ((sF S k).2.2.2.2) o6) (g_B (n := 1) htb wd288 wd1 wd285 (by decide +kernel) ⟨Nat.le_of_ble_eq_true rfl, Nat.le_of_ble_eq_true rfl⟩) (htb _ wd287) (htb _ ws5) hE hP hS (fs_R.this hR) rfl rfl rfl (Nat.le_of_ble_eq_true rfl) dX3_putTogether_19 ⟨Nat.le_of_ble_eq_true rfl, Nat.le_of_ble_eq_true rfl⟩ (fun v9 M9 H locs hpo hP hz hS => ?_) (fun x9 E9 cell9 H9 locs9 hE9 => hE9.elim)
    obtain ⟨rfl, rfl⟩ := hpo
    refine W.eq (g2 := F0 m 22 ls [.int (fEx S ((sF S k).2.2.2.2))]) rfl ?_
    refine lv_istore (lv' := [(4, .int (fEx S ((sF S k).2.2.2.2))), (3, .int 0), (0, .ref (f0 f)), (1, .ref (fQ f k)), (2, .int least)]) hx hb dX3_putTogether_22 hl (by decide) rfl (fun ls hl => ?_)
    refine lv_iload_n hx hb dX3_putTogether_24 rfl (lv_at hl 1 rfl) ?_
    refine lv_if_eq (tgt := 35) hx hb dX3_putTogether_25 (by decide) (fun c_2 => ?_) (fun c_2 => absurd (by decide) c_2)
    refine lv_iload hx hb dX3_putTogether_35 (lv_at hl 0 rfl) ?_
    refine lv_istore (lv' := [(5, .int (fEx S ((sF S k).2.2.2.2))), (4, .int (fEx S ((sF S k).2.2.2.2))), (3, .int 0), (0, .ref (f0 f)), (1, .ref (fQ f k)), (2, .int least)]) hx hb dX3_putTogether_37 hl (by decide) rfl (fun ls hl => ?_)
    refine lv_aload_n hx hb dX3_putTogether_39 rfl (lv_at hl 3 rfl) ?_
    refine lv_aload_n hx hb dX3_putTogether_40 rfl (lv_at hl 4 rfl) ?_
    refine mw_get (D := gD G) (ci := 1) (v := .int (sF S k).2.1) (C := RX1) (T := TX1) (N := 6) hx hb htb inX1 hown hK hP hf1_k rfl 2 (by decide) (htb _ wd35) (fun _ h9 => h9) rfl dX3_putTogether_41 ?_
    refine mw_callV (C := RX3) (As := [.int (sF S k).2.1]) (rest := []) hx hb hml hown hl (kX3_extentOf l htr G H.size M f S hR ((sF S k).2.1) o3) (g_B (n := 1) htb wd288 wd1 wd285 (by decide +kernel) ⟨Nat.le_of_ble_eq_true rfl, Nat.le_of_ble_eq_true rfl⟩) (htb _ wd287) (htb _ ws5) hE hP hS (fs_R.this hR) rfl rfl rfl (Nat.le_of_ble_eq_true rfl) dX3_putTogether_44 ⟨Nat.le_of_ble_eq_true rfl, Nat.le_of_ble_eq_true rfl⟩ (fun v9 M9 H locs hpo hP hz hS => ?_) (fun x9 E9 cell9 H9 locs9 hE9 => hE9.elim)
    obtain ⟨rfl, rfl⟩ := hpo
    refine W.eq (g2 := F0 m 47 ls [.int (fEx S ((sF S k).2.1))]) rfl ?_
    refine lv_aload_n hx hb dX3_putTogether_47 rfl (lv_at hl 3 rfl) ?_
    refine lv_aload_n hx hb dX3_putTogether_48 rfl (lv_at hl 4 rfl) ?_
    refine mw_get (D := gD G) (ci := 1) (v := .int (sF S k).2.2.1) (C := RX1) (T := TX1) (N := 6) hx hb htb inX1 hown hK hP hf1_k rfl 3 (by decide) (htb _ wd37) (fun _ h9 => h9) rfl dX3_putTogether_49 ?_
    refine mw_callV (C := RX3) (As := [.int (sF S k).2.2.1]) (rest := [.int (fEx S ((sF S k).2.1))]) hx hb hml hown hl (kX3_extentOf l htr G H.size M f S hR ((sF S k).2.2.1) o4) (g_B (n := 1) htb wd288 wd1 wd285 (by decide +kernel) ⟨Nat.le_of_ble_eq_true rfl, Nat.le_of_ble_eq_true rfl⟩) (htb _ wd287) (htb _ ws5) hE hP hS (fs_R.this hR) rfl rfl rfl (Nat.le_of_ble_eq_true rfl) dX3_putTogether_52 ⟨Nat.le_of_ble_eq_true rfl, Nat.le_of_ble_eq_true rfl⟩ (fun v9 M9 H locs hpo hP hz hS => ?_) (fun x9 E9 cell9 H9 locs9 hE9 => hE9.elim)
    obtain ⟨rfl, rfl⟩ := hpo
    refine W.eq (g2 := F0 m 55 ls [.int (fEx S ((sF S k).2.2.1)), .int (fEx S ((sF S k).2.1))]) rfl ?_
    refine lv_iadd hx hb dX3_putTogether_55 ?_
    refine lv_aload_n hx hb dX3_putTogether_56 rfl (lv_at hl 3 rfl) ?_
    refine lv_aload_n hx hb dX3_putTogether_57 rfl (lv_at hl 4 rfl) ?_
    refine mw_get (D := gD G) (ci := 1) (v := .int (sF S k).2.2.2.1) (C := RX1) (T := TX1) (N := 6) hx hb htb inX1 hown hK hP hf1_k rfl 4 (by decide) (htb _ wd39) (fun _ h9 => h9) rfl dX3_putTogether_58 ?_
    refine mw_callV (C := RX3) (As := [.int (sF S k).2.2.2.1]) (rest := [.int ((fEx S ((sF S k).2.1)) + (fEx S ((sF S k).2.2.1)))]) hx hb hml hown hl (kX3_extentOf l htr G H.size M f S hR ((sF S k).2.2.2.1) o5) (g_B (n := 1) htb wd288 wd1 wd285 (by decide +kernel) ⟨Nat.le_of_ble_eq_true rfl, Nat.le_of_ble_eq_true rfl⟩) (htb _ wd287) (htb _ ws5) hE hP hS (fs_R.this hR) rfl rfl rfl (Nat.le_of_ble_eq_true rfl) dX3_putTogether_61 ⟨Nat.le_of_ble_eq_true rfl, Nat.le_of_ble_eq_true rfl⟩ (fun v9 M9 H locs hpo hP hz hS => ?_) (fun x9 E9 cell9 H9 locs9 hE9 => hE9.elim)
    obtain ⟨rfl, rfl⟩ := hpo
    refine W.eq (g2 := F0 m 64 ls [.int (fEx S ((sF S k).2.2.2.1)), .int ((fEx S ((sF S k).2.1)) + (fEx S ((sF S k).2.2.1)))]) rfl ?_
    refine lv_iadd hx hb dX3_putTogether_64 ?_
    refine lv_istore (lv' := [(6, .int (((fEx S ((sF S k).2.1)) + (fEx S ((sF S k).2.2.1))) + (fEx S ((sF S k).2.2.2.1)))), (5, .int (fEx S ((sF S k).2.2.2.2))), (4, .int (fEx S ((sF S k).2.2.2.2))), (3, .int 0), (0, .ref (f0 f)), (1, .ref (fQ f k)), (2, .int least)]) hx hb dX3_putTogether_65 hl (by decide) rfl (fun ls hl => ?_)
    refine lv_iconst (v := 0) hx hb dX3_putTogether_67 (by decide) ?_
    refine lv_istore (lv' := [(7, .int 0), (6, .int (((fEx S ((sF S k).2.1)) + (fEx S ((sF S k).2.2.1))) + (fEx S ((sF S k).2.2.2.1)))), (5, .int (fEx S ((sF S k).2.2.2.2))), (4, .int (fEx S ((sF S k).2.2.2.2))), (3, .int 0), (0, .ref (f0 f)), (1, .ref (fQ f k)), (2, .int least)]) hx hb dX3_putTogether_68 hl (by decide) rfl (fun ls hl => ?_)
    have e_stp : fs_stp S (sF S k) = (fEx S ((sF S k).2.2.2.2)) := by rw [fs_stp, if_pos c_1]
    obtain ⟨N, hN⟩ : ∃ z9, z9 = fs_tn S (sF S k) least := ⟨_, rfl⟩
    have hN60 : N ≤ 60 := by rw [hN]; exact fs_rn_le _ _ _ _
    have tail : ∀ (H : Heap) (locs : List Loc) (ls : Array Slot), mw_P (gD G) gx_cl M H → va_S (gA G) s.heap H locs → lv_has ls 10 [(0, .ref (f0 f)), (1, .ref (fQ f k)), (3, .int 0), (7, .int (nI N))] → W p l e (headSpec (Cond.code yX3_putTogether cX3_putTogether 10 (some (.object "FormulaShapes$Box")) :: lw_big) ({ frames := 4, cells := 3, slots := 379, locals := 200 } : Room)).room s m ([.ref (f0 f), .ref (fQ f k), .int least] : List Value).toArray below meth c H locs 0 0 (mx_Q below (mw_Qx (gD G) gx_cl M (fun v M9 => ∃ q, v = some (.ref q) ∧ mw_ext M M9 ∧ fs_bx G f M9 q (fs_tg S (sF S k) least)) (fun _ => False) (gA G)) ([.ref (f0 f), .ref (fQ f k), .int least] : List Value).toArray s ({ frames := 4, cells := 3, slots := 379, locals := 200 } : Room).cells ({ frames := 4, cells := 3, slots := 379, locals := 200 } : Room).slots (gA G)) (F0 m 96 ls []) := by
      intro H locs ls hP hS hl
      refine lv_aload_n hx hb dX3_putTogether_96 rfl (lv_at hl 1 rfl) ?_
      refine mw_get (D := gD G) (ci := 1) (v := .int (sF S k).2.1) (C := RX1) (T := TX1) (N := 6) hx hb htb inX1 hown hK hP hf1_k rfl 2 (by decide) (htb _ wd35) (fun _ h9 => h9) rfl dX3_putTogether_97 ?_
      refine mw_callS (As := [.int (sF S k).2.1]) (rest := []) hx hb hml hown hl (kX3_oneIfThere l htr G H.size M ((sF S k).2.1)) (g_B (n := 1) htb wd335 wd1 wd333 (by decide +kernel) ⟨Nat.le_of_ble_eq_true rfl, Nat.le_of_ble_eq_true rfl⟩) (htb _ wd334) hE hP hS rfl rfl (Nat.le_of_ble_eq_true rfl) dX3_putTogether_100 ⟨Nat.le_of_ble_eq_true rfl, Nat.le_of_ble_eq_true rfl⟩ (fun v9 M9 H locs hpo hP hz hS => ?_) (fun x9 E9 cell9 H9 locs9 hE9 => hE9.elim)
      obtain ⟨rfl, rfl⟩ := hpo
      refine W.eq (g2 := F0 m 103 ls [.int (if (sF S k).2.1 = (-1) then 0 else 1)]) rfl ?_
      refine lv_aload_n hx hb dX3_putTogether_103 rfl (lv_at hl 1 rfl) ?_
      refine mw_get (D := gD G) (ci := 1) (v := .int (sF S k).2.2.1) (C := RX1) (T := TX1) (N := 6) hx hb htb inX1 hown hK hP hf1_k rfl 3 (by decide) (htb _ wd37) (fun _ h9 => h9) rfl dX3_putTogether_104 ?_
      refine mw_callS (As := [.int (sF S k).2.2.1]) (rest := [.int (if (sF S k).2.1 = (-1) then 0 else 1)]) hx hb hml hown hl (kX3_oneIfThere l htr G H.size M ((sF S k).2.2.1)) (g_B (n := 1) htb wd335 wd1 wd333 (by decide +kernel) ⟨Nat.le_of_ble_eq_true rfl, Nat.le_of_ble_eq_true rfl⟩) (htb _ wd334) hE hP hS rfl rfl (Nat.le_of_ble_eq_true rfl) dX3_putTogether_107 ⟨Nat.le_of_ble_eq_true rfl, Nat.le_of_ble_eq_true rfl⟩ (fun v9 M9 H locs hpo hP hz hS => ?_) (fun x9 E9 cell9 H9 locs9 hE9 => hE9.elim)
      obtain ⟨rfl, rfl⟩ := hpo
      refine W.eq (g2 := F0 m 110 ls [.int (if (sF S k).2.2.1 = (-1) then 0 else 1), .int (if (sF S k).2.1 = (-1) then 0 else 1)]) rfl ?_
      refine lv_iadd hx hb dX3_putTogether_110 ?_
      refine lv_aload_n hx hb dX3_putTogether_111 rfl (lv_at hl 1 rfl) ?_
      refine mw_get (D := gD G) (ci := 1) (v := .int (sF S k).2.2.2.1) (C := RX1) (T := TX1) (N := 6) hx hb htb inX1 hown hK hP hf1_k rfl 4 (by decide) (htb _ wd39) (fun _ h9 => h9) rfl dX3_putTogether_112 ?_
      refine mw_callS (As := [.int (sF S k).2.2.2.1]) (rest := [.int ((if (sF S k).2.1 = (-1) then 0 else 1) + (if (sF S k).2.2.1 = (-1) then 0 else 1))]) hx hb hml hown hl (kX3_oneIfThere l htr G H.size M ((sF S k).2.2.2.1)) (g_B (n := 1) htb wd335 wd1 wd333 (by decide +kernel) ⟨Nat.le_of_ble_eq_true rfl, Nat.le_of_ble_eq_true rfl⟩) (htb _ wd334) hE hP hS rfl rfl (Nat.le_of_ble_eq_true rfl) dX3_putTogether_115 ⟨Nat.le_of_ble_eq_true rfl, Nat.le_of_ble_eq_true rfl⟩ (fun v9 M9 H locs hpo hP hz hS => ?_) (fun x9 E9 cell9 H9 locs9 hE9 => hE9.elim)
      obtain ⟨rfl, rfl⟩ := hpo
      refine W.eq (g2 := F0 m 118 ls [.int (if (sF S k).2.2.2.1 = (-1) then 0 else 1), .int ((if (sF S k).2.1 = (-1) then 0 else 1) + (if (sF S k).2.2.1 = (-1) then 0 else 1))]) rfl ?_
      refine lv_iadd hx hb dX3_putTogether_118 ?_
      refine lv_istore (lv' := [(8, .int (((if (sF S k).2.1 = (-1) then 0 else 1) + (if (sF S k).2.2.1 = (-1) then 0 else 1)) + (if (sF S k).2.2.2.1 = (-1) then 0 else 1))), (0, .ref (f0 f)), (1, .ref (fQ f k)), (3, .int 0), (7, .int (nI N))]) hx hb dX3_putTogether_119 hl (by decide) rfl (fun ls hl => ?_)
      refine mw_new (ci := 2) (fs := [.null, .int 0, .int 0, .int 0]) (C := RX2) (T := TX2) (N := 4) hx hb htb inX2 tyX2 tyX2_ok hown (htb _ wd336) (htb _ wd337) (htb _ wd12) hK hP hS rfl (fun j hj => by rcases (show j = 0 ∨ j = 1 ∨ j = 2 ∨ j = 3 by omega) with rfl | rfl | rfl | rfl <;> rfl) (Nat.le_of_ble_eq_true rfl) (Nat.le_of_ble_eq_true rfl) dX3_putTogether_121 (fun q_3 H hq_4 hs_5 hP hS => ?_)
      obtain ⟨M_6, hM_6⟩ : ∃ z9 : mw_M, z9 = mw_up M q_3 (.inr (2, [.null, .int 0, .int 0, .int 0])) := ⟨_, rfl⟩
      have hP : mw_P (gD G) gx_cl M_6 H := by rw [hM_6]; exact hP
      have n_7 : M q_3 = none := mw_ext.no (mw_ext.rf M) hq_4
      have f_8 : M_6 (f0 f) = some (.inr (3, [.ref (fM f), .int (nI (sN S)), .ref (fF f), .ref (fP f), .int (sSp S), .int (sSh S)])) := by rw [hM_6, mw_ne _ _ (fun z => by have z1 := h1; rw [z, hq_4] at z1; cases z1)]; exact h1
      have ne_9 : (f0 f) ≠ q_3 := fun z => by have z1 := h1; rw [z, hq_4] at z1; cases z1
      have f_10 : M_6 (fQ f k) = some (.inr (1, [.ref (fR f k), .int (nI (sF S k).1.length), .int (sF S k).2.1, .int (sF S k).2.2.1, .int (sF S k).2.2.2.1, .int (sF S k).2.2.2.2])) := by rw [hM_6, mw_ne _ _ (fun z => by have z1 := hf1_k; rw [z, hq_4] at z1; cases z1)]; exact hf1_k
      have ne_11 : (fQ f k) ≠ q_3 := fun z => by have z1 := hf1_k; rw [z, hq_4] at z1; cases z1
      have f_12 : M_6 q_3 = some (.inr (2, [.null, .int 0, .int 0, .int 0])) := by rw [hM_6]; exact mw_self _ _ _
      have x_13 : mw_ext M M_6 := by rw [hM_6]; exact mw_ext.up (mw_ext.rf M) n_7 _
      refine lv_dup hx hb dX3_putTogether_124 rfl ?_
      refine lv_iload hx hb dX3_putTogether_125 (lv_at hl 0 rfl) ?_
      refine lv_iload_n hx hb dX3_putTogether_127 rfl (lv_at hl 3 rfl) ?_
      refine lv_if_eq (tgt := 138) hx hb dX3_putTogether_128 (by decide) (fun c_14 => ?_) (fun c_14 => absurd (by decide) c_14)
      refine lv_iload hx hb dX3_putTogether_138 (lv_at hl 4 rfl) ?_
      refine lv_iadd hx hb dX3_putTogether_140 ?_
      obtain ⟨cu, ecu⟩ : ∃ z9 : Nat, z9 = (if (sF S k).2.1 = (-1) then 0 else 1) := ⟨_, rfl⟩
      obtain ⟨cm, ecm⟩ : ∃ z9 : Nat, z9 = (if (sF S k).2.2.1 = (-1) then 0 else 1) := ⟨_, rfl⟩
      obtain ⟨cl, ecl⟩ : ∃ z9 : Nat, z9 = (if (sF S k).2.2.2.1 = (-1) then 0 else 1) := ⟨_, rfl⟩
      have lcu : cu ≤ 1 := by rw [ecu]; exact fs_le1 _
      have lcm : cm ≤ 1 := by rw [ecm]; exact fs_le1 _
      have lcl : cl ≤ 1 := by rw [ecl]; exact fs_le1 _
      have e_c : ((((if (sF S k).2.1 = (-1) then 0 else 1) + (if (sF S k).2.2.1 = (-1) then 0 else 1)) + (if (sF S k).2.2.2.1 = (-1) then 0 else 1)) + (nI N)) = nI (cu + cm + cl + N) := by rw [ecu, ecm, ecl]; exact fs_cnt1 _ _ _ N
      rw [e_c]
      refine mw_callI (As := [.int (nI (cu + cm + cl + N))]) (rest := [.ref q_3]) hx hb hml hown hl (kX2_init l htr G H.size M_6 (fun q h => hAn q (Nat.le_trans hS.1 h)) q_3 (cu + cm + cl + N) (by omega) (hAn _ hs_5) f_12) (g_B (n := 1) htb wd340 wd12 wd338 (by decide +kernel) ⟨Nat.le_of_ble_eq_true rfl, Nat.le_of_ble_eq_true rfl⟩) (htb _ wd339) (htb _ wd340) rfl hE hP hS rfl rfl (Nat.le_of_ble_eq_true rfl) dX3_putTogether_141 ⟨Nat.le_of_ble_eq_true rfl, Nat.le_of_ble_eq_true rfl⟩ (fun v9 M9 H locs hpo hP hz hS => ?_) (fun x9 E9 cell9 H9 locs9 hE9 => hE9.elim)
      obtain ⟨rfl, pl, hpi0, hpl0, hold0, hAp⟩ := hpo
      have hp0 : M pl = none := mw_ext.no x_13 hpl0
      have x0 : mw_ext M M9 := fun y9 e9 h => hold0 y9 e9 (fun z9 => by rw [z9, n_7] at h; cases h) (x_13 y9 e9 h)
      obtain ⟨M_15, hM_15⟩ : ∃ z9 : mw_M, z9 = M9 := ⟨_, rfl⟩
      rw [← hM_15] at hP hpi0 x0
      refine W.eq (g2 := F0 m 144 ls [.ref q_3]) rfl ?_
      refine lv_astore (lv' := [(9, .ref q_3), (8, .int (((if (sF S k).2.1 = (-1) then 0 else 1) + (if (sF S k).2.2.1 = (-1) then 0 else 1)) + (if (sF S k).2.2.2.1 = (-1) then 0 else 1))), (0, .ref (f0 f)), (1, .ref (fQ f k)), (3, .int 0), (7, .int (nI N))]) hx hb dX3_putTogether_144 hl (by decide) rfl (fun ls hl => ?_)
      refine lv_aload_n hx hb dX3_putTogether_146 rfl (lv_at hl 2 rfl) ?_
      refine lv_aload hx hb dX3_putTogether_147 (lv_at hl 0 rfl) ?_
      refine lv_aload_n hx hb dX3_putTogether_149 rfl (lv_at hl 3 rfl) ?_
      refine mw_get (D := gD G) (ci := 1) (v := .int (sF S k).2.2.2.1) (C := RX1) (T := TX1) (N := 6) hx hb htb inX1 hown hK hP (x0 _ _ hf1_k) rfl 4 (by decide) (htb _ wd39) (fun _ h9 => h9) rfl dX3_putTogether_150 ?_
      refine lv_iconst (v := 1) hx hb dX3_putTogether_153 (by decide) ?_
      refine mw_callV (C := RX3) (As := [.ref q_3, .int (sF S k).2.2.2.1, .int 1]) (rest := []) hx hb hml hown hl (kX3_pileUp l htr G H.size M_15 f S M hR x0 q_3 pl ((cu + cm + cl + N) * 3) n_7 hp0 ([], 0, 0) hpi0 (hAn _ hs_5) hAp (by omega) (sF S k).2.2.2.1 o5 1 (by omega) (by simp only [fs_puo_len, if_neg hrep, List.length_nil, ← ecu, ← ecm, ← ecl]; omega)) (g_B (n := 3) htb wd358 wd1 wd355 (by decide +kernel) ⟨Nat.le_of_ble_eq_true rfl, Nat.le_of_ble_eq_true rfl⟩) (htb _ wd357) (htb _ ws9) hE hP hS (fs_R.this (fs_R.ext hR x0)) rfl rfl rfl (Nat.le_of_ble_eq_true rfl) dX3_putTogether_154 ⟨Nat.le_of_ble_eq_true rfl, Nat.le_of_ble_eq_true rfl⟩ (fun v9 M9 H locs hpo hP hz hS => ?_) (fun x9 E9 cell9 H9 locs9 hE9 => hE9.elim)
      obtain ⟨rfl, hpi_16, holdhpi_16⟩ := hpo
      have x_17 : mw_ext M M9 := fun y9 e9 h => holdhpi_16 y9 e9 (fun z9 => by rw [z9, n_7] at h; cases h) (fun z9 => by rw [z9, hp0] at h; cases h) (x0 y9 e9 h)
      obtain ⟨M_18, hM_18⟩ : ∃ z9 : mw_M, z9 = M9 := ⟨_, rfl⟩
      rw [← hM_18] at hP hpi_16 x_17
      refine W.eq (g2 := F0 m 157 ls []) rfl ?_
      refine lv_aload_n hx hb dX3_putTogether_157 rfl (lv_at hl 2 rfl) ?_
      refine lv_aload hx hb dX3_putTogether_158 (lv_at hl 0 rfl) ?_
      refine lv_aload_n hx hb dX3_putTogether_160 rfl (lv_at hl 3 rfl) ?_
      refine mw_get (D := gD G) (ci := 1) (v := .int (sF S k).2.2.2.2) (C := RX1) (T := TX1) (N := 6) hx hb htb inX1 hown hK hP (x_17 _ _ hf1_k) rfl 5 (by decide) (htb _ wd41) (fun _ h9 => h9) rfl dX3_putTogether_161 ?_
      refine lv_iload hx hb dX3_putTogether_164 (lv_at hl 5 rfl) ?_
      refine mw_callV (C := RX3) (As := [.ref q_3, .int (sF S k).2.2.2.2, .int (nI N)]) (rest := []) hx hb hml hown hl (kX3_pileUp l htr G H.size M_18 f S M hR x_17 q_3 pl ((cu + cm + cl + N) * 3) n_7 hp0 (fs_puo S ([], 0, 0) (sF S k).2.2.2.1 1) hpi_16 (hAn _ hs_5) hAp (by omega) (sF S k).2.2.2.2 o6 N (by omega) (by simp only [fs_puo_len, if_neg hrep, List.length_nil, ← ecu, ← ecm, ← ecl]; omega)) (g_B (n := 3) htb wd358 wd1 wd355 (by decide +kernel) ⟨Nat.le_of_ble_eq_true rfl, Nat.le_of_ble_eq_true rfl⟩) (htb _ wd357) (htb _ ws9) hE hP hS (fs_R.this (fs_R.ext hR x_17)) rfl rfl rfl (Nat.le_of_ble_eq_true rfl) dX3_putTogether_166 ⟨Nat.le_of_ble_eq_true rfl, Nat.le_of_ble_eq_true rfl⟩ (fun v9 M9 H locs hpo hP hz hS => ?_) (fun x9 E9 cell9 H9 locs9 hE9 => hE9.elim)
      obtain ⟨rfl, hpi_19, holdhpi_19⟩ := hpo
      have x_20 : mw_ext M M9 := fun y9 e9 h => holdhpi_19 y9 e9 (fun z9 => by rw [z9, n_7] at h; cases h) (fun z9 => by rw [z9, hp0] at h; cases h) (x_17 y9 e9 h)
      obtain ⟨M_21, hM_21⟩ : ∃ z9 : mw_M, z9 = M9 := ⟨_, rfl⟩
      rw [← hM_21] at hP hpi_19 x_20
      refine W.eq (g2 := F0 m 169 ls []) rfl ?_
      refine lv_iload_n hx hb dX3_putTogether_169 rfl (lv_at hl 4 rfl) ?_
      refine lv_if_eq (tgt := 196) hx hb dX3_putTogether_170 (by decide) (fun c_22 => ?_) (fun c_22 => absurd (by decide) c_22)
      refine lv_aload_n hx hb dX3_putTogether_196 rfl (lv_at hl 2 rfl) ?_
      refine lv_aload hx hb dX3_putTogether_197 (lv_at hl 0 rfl) ?_
      refine lv_aload_n hx hb dX3_putTogether_199 rfl (lv_at hl 3 rfl) ?_
      refine mw_get (D := gD G) (ci := 1) (v := .int (sF S k).2.1) (C := RX1) (T := TX1) (N := 6) hx hb htb inX1 hown hK hP (x_20 _ _ hf1_k) rfl 2 (by decide) (htb _ wd35) (fun _ h9 => h9) rfl dX3_putTogether_200 ?_
      refine lv_iconst (v := 1) hx hb dX3_putTogether_203 (by decide) ?_
      refine mw_callV (C := RX3) (As := [.ref q_3, .int (sF S k).2.1, .int 1]) (rest := []) hx hb hml hown hl (kX3_pileUp l htr G H.size M_21 f S M hR x_20 q_3 pl ((cu + cm + cl + N) * 3) n_7 hp0 (fs_puo S (fs_puo S ([], 0, 0) (sF S k).2.2.2.1 1) (sF S k).2.2.2.2 N) hpi_19 (hAn _ hs_5) hAp (by omega) (sF S k).2.1 o3 1 (by omega) (by simp only [fs_puo_len, if_neg hrep, List.length_nil, ← ecu, ← ecm, ← ecl]; omega)) (g_B (n := 3) htb wd358 wd1 wd355 (by decide +kernel) ⟨Nat.le_of_ble_eq_true rfl, Nat.le_of_ble_eq_true rfl⟩) (htb _ wd357) (htb _ ws9) hE hP hS (fs_R.this (fs_R.ext hR x_20)) rfl rfl rfl (Nat.le_of_ble_eq_true rfl) dX3_putTogether_204 ⟨Nat.le_of_ble_eq_true rfl, Nat.le_of_ble_eq_true rfl⟩ (fun v9 M9 H locs hpo hP hz hS => ?_) (fun x9 E9 cell9 H9 locs9 hE9 => hE9.elim)
      obtain ⟨rfl, hpi_23, holdhpi_23⟩ := hpo
      have x_24 : mw_ext M M9 := fun y9 e9 h => holdhpi_23 y9 e9 (fun z9 => by rw [z9, n_7] at h; cases h) (fun z9 => by rw [z9, hp0] at h; cases h) (x_20 y9 e9 h)
      obtain ⟨M_25, hM_25⟩ : ∃ z9 : mw_M, z9 = M9 := ⟨_, rfl⟩
      rw [← hM_25] at hP hpi_23 x_24
      refine W.eq (g2 := F0 m 207 ls []) rfl ?_
      refine lv_aload hx hb dX3_putTogether_207 (lv_at hl 0 rfl) ?_
      obtain ⟨gg, hpq, hpg, hpe, -⟩ := id hpi_23
      refine mw_callV (C := RX2) (As := []) (rest := []) hx hb hml hown hl (kX2_asBox l htr G H.size M_25 (fun q h => hAn q (Nat.le_trans hS.1 h)) q_3 pl ((cu + cm + cl + N) * 3) (fs_puo S (fs_puo S (fs_puo S ([], 0, 0) (sF S k).2.2.2.1 1) (sF S k).2.2.2.2 N) (sF S k).2.1 1) hpi_23) (g_B (n := 0) htb wd369 wd12 wd366 (by decide +kernel) ⟨Nat.le_of_ble_eq_true rfl, Nat.le_of_ble_eq_true rfl⟩) (htb _ wd367) (htb _ wd368) hE hP hS hpq rfl rfl rfl (Nat.le_of_ble_eq_true rfl) dX3_putTogether_209 ⟨Nat.le_of_ble_eq_true rfl, Nat.le_of_ble_eq_true rfl⟩ (fun v9 M9 H locs hpo hP hz hS => ?_) (fun x9 E9 cell9 H9 locs9 hE9 => hE9.elim)
      obtain ⟨q, rfl, xq, hq0, hq1⟩ := hpo
      have xx : mw_ext M M9 := mw_ext.tr x_24 xq
      have hqM : M q = none := mw_ext.no x_24 hq0
      refine W.eq (g2 := F0 m 212 ls [.ref q]) rfl ?_
      have e_u : fs_tp S (sF S k) N = (fs_puo S (fs_puo S (fs_puo S ([], 0, 0) (sF S k).2.2.2.1 1) (sF S k).2.2.2.2 N) (sF S k).2.1 1) := by rw [fs_tp, if_pos c_1]
      have hbx9 : fs_bx G f M9 q (fs_tg S (sF S k) least) := by
        rw [fs_tg, ← hN, e_u]
        have hlen : (fs_puo S (fs_puo S (fs_puo S ([], 0, 0) (sF S k).2.2.2.1 1) (sF S k).2.2.2.2 N) (sF S k).2.1 1).1.length = (cu + cm + cl + N) * 3 := by
          have ecm2 : cm = 0 := by rw [ecm, if_pos c_1]
          simp only [fs_puo_len, if_neg hrep, List.length_nil, ← ecu, ← ecm, ← ecl]; omega
        exact fs_mk hq1 (xq _ _ hpg) hlen (fun j hj => hpe j (by rw [hlen]; exact hj)) (fun z9 => hX _ z9 hqM) (fun z9 => hX _ z9 hp0)
      exact mx_aret (q := q) (M' := M9) hx hb hr (Or.inl ⟨_, rfl⟩) hlocks hP hS ⟨q, rfl, xx, hbx9⟩ dX3_putTogether_212 (Nat.le_of_ble_eq_true rfl) (Nat.le_of_ble_eq_true rfl)
    have loop : ∀ (n j : Nat) (sm : Int32), j + n = 60 → N = j + fs_rn least (fEx S ((sF S k).2.2.2.2)) n sm → ∀ (H : Heap) (locs : List Loc) (ls : Array Slot), mw_P (gD G) gx_cl M H → va_S (gA G) s.heap H locs → lv_has ls 10 [(0, .ref (f0 f)), (1, .ref (fQ f k)), (2, .int least), (3, .int 0), (5, .int (fEx S ((sF S k).2.2.2.2))), (6, .int sm), (7, .int (nI j))] → W p l e (headSpec (Cond.code yX3_putTogether cX3_putTogether 10 (some (.object "FormulaShapes$Box")) :: lw_big) ({ frames := 4, cells := 3, slots := 379, locals := 200 } : Room)).room s m ([.ref (f0 f), .ref (fQ f k), .int least] : List Value).toArray below meth c H locs 0 0 (mx_Q below (mw_Qx (gD G) gx_cl M (fun v M9 => ∃ q, v = some (.ref q) ∧ mw_ext M M9 ∧ fs_bx G f M9 q (fs_tg S (sF S k) least)) (fun _ => False) (gA G)) ([.ref (f0 f), .ref (fQ f k), .int least] : List Value).toArray s ({ frames := 4, cells := 3, slots := 379, locals := 200 } : Room).cells ({ frames := 4, cells := 3, slots := 379, locals := 200 } : Room).slots (gA G)) (F0 m 70 ls []) := by
      intro n
      induction n with
      | zero =>
        intro j sm hj hfi H locs ls hP hS hl
        have hK7 : (60 : Int32) ≤ nI j := nI_le (a := 60) (by omega) (by omega)
        refine lv_iload hx hb dX3_putTogether_70 (lv_at hl 6 rfl) ?_
        refine lv_bipush (v := 60) hx hb dX3_putTogether_72 (by decide) ?_
        refine lv_icmp_ge (tgt := 96) hx hb dX3_putTogether_74 (by decide) (fun c_26 => ?_) (fun c_26 => absurd hK7 c_26)
        obtain rfl : j = N := by rw [hfi]; rfl
        refine W.widen (k := 0) (n := 0) (Nat.le_of_ble_eq_true rfl) (Nat.le_of_ble_eq_true rfl) ?_
        exact tail H locs ls hP hS (lv_sub hl [0, 1, 3, 6] rfl)
      | succ n ih =>
        intro j sm hj hfi H locs ls hP hS hl
        have hK7 : ¬ (60 : Int32) ≤ nI j := nI_ge (a := j) (b := 60) (by omega) (by omega)
        refine lv_iload hx hb dX3_putTogether_70 (lv_at hl 6 rfl) ?_
        refine lv_bipush (v := 60) hx hb dX3_putTogether_72 (by decide) ?_
        refine lv_icmp_ge (tgt := 96) hx hb dX3_putTogether_74 (by decide) (fun c_27 => absurd c_27 hK7) (fun c_27 => ?_)
        refine lv_iload hx hb dX3_putTogether_77 (lv_at hl 5 rfl) ?_
        refine lv_iload_n hx hb dX3_putTogether_79 rfl (lv_at hl 2 rfl) ?_
        refine lv_icmp_ge (tgt := 96) hx hb dX3_putTogether_80 (by decide) (fun c_28 => ?_) (fun c_28 => ?_)
        · obtain rfl : j = N := by rw [hfi, fs_rn, if_neg (Int32.not_lt.mpr c_28)]; omega
          refine W.widen (k := 0) (n := 0) (Nat.le_of_ble_eq_true rfl) (Nat.le_of_ble_eq_true rfl) ?_
          exact tail H locs ls hP hS (lv_sub hl [0, 1, 3, 6] rfl)
        · refine lv_iload hx hb dX3_putTogether_83 (lv_at hl 5 rfl) ?_
          refine lv_iload hx hb dX3_putTogether_85 (lv_at hl 4 rfl) ?_
          refine lv_iadd hx hb dX3_putTogether_87 ?_
          refine lv_istore (lv' := [(6, .int (sm + (fEx S ((sF S k).2.2.2.2)))), (0, .ref (f0 f)), (1, .ref (fQ f k)), (2, .int least), (3, .int 0), (5, .int (fEx S ((sF S k).2.2.2.2))), (7, .int (nI j))]) hx hb dX3_putTogether_88 hl (by decide) rfl (fun ls hl => ?_)
          obtain ⟨v_29, ev_29⟩ : ∃ y : Int32, y = (nI j) + 1 := ⟨_, rfl⟩
          refine lv_iinc (v := v_29) (lv' := [(7, .int v_29), (6, .int (sm + (fEx S ((sF S k).2.2.2.2)))), (0, .ref (f0 f)), (1, .ref (fQ f k)), (2, .int least), (3, .int 0), (5, .int (fEx S ((sF S k).2.2.2.2)))]) hx hb dX3_putTogether_90 hl (k := 6) rfl (by rw [ev_29]; rfl) (by decide) rfl (fun ls hl => ?_)
          refine lv_goto (tgt := 70) hx hb dX3_putTogether_93 (by decide) ?_
          obtain rfl : v_29 = nI (j + 1) := by rw [ev_29]; exact nI_1 j
          refine W.widen (k := 0) (n := 0) (Nat.le_of_ble_eq_true rfl) (Nat.le_of_ble_eq_true rfl) ?_
          exact ih (j + 1) (sm + (fEx S ((sF S k).2.2.2.2))) (by omega) (by rw [hfi, fs_rn, if_pos (Int32.not_le.mp c_28)]; omega) H locs ls hP hS (lv_sub hl [2, 3, 4, 5, 6, 1, 0] rfl)
    exact loop 60 0 _ (by omega) (by rw [hN, fs_tn, e_stp, Nat.zero_add]; rfl) _ _ _ hP hS (lv_sub hl [5, 6, 7, 4, 2, 1, 0] rfl)
  · refine lv_iconst (v := 1) hx hb dX3_putTogether_8 (by decide) ?_
    refine lv_goto (tgt := 13) hx hb dX3_putTogether_9 (by decide) ?_
    refine lv_istore_n (lv' := [(3, .int 1), (0, .ref (f0 f)), (1, .ref (fQ f k)), (2, .int least)]) hx hb dX3_putTogether_13 rfl hl (by decide) rfl (fun ls hl => ?_)
    refine lv_aload_n hx hb dX3_putTogether_14 rfl (lv_at hl 1 rfl) ?_
    refine lv_aload_n hx hb dX3_putTogether_15 rfl (lv_at hl 2 rfl) ?_
    refine mw_get (D := gD G) (ci := 1) (v := .int (sF S k).2.2.2.2) (C := RX1) (T := TX1) (N := 6) hx hb htb inX1 hown hK hP hf1_k rfl 5 (by decide) (htb _ wd41) (fun _ h9 => h9) rfl dX3_putTogether_16 ?_
    refine mw_callV (C := RX3) (As := [.int (sF S k).2.2.2.2]) (rest := []) hx hb hml hown hl (kX3_extentOf l htr G s.heap.size M f S hR ((sF S k).2.2.2.2) o6) (g_B (n := 1) htb wd288 wd1 wd285 (by decide +kernel) ⟨Nat.le_of_ble_eq_true rfl, Nat.le_of_ble_eq_true rfl⟩) (htb _ wd287) (htb _ ws5) hE hP hS (fs_R.this hR) rfl rfl rfl (Nat.le_of_ble_eq_true rfl) dX3_putTogether_19 ⟨Nat.le_of_ble_eq_true rfl, Nat.le_of_ble_eq_true rfl⟩ (fun v9 M9 H locs hpo hP hz hS => ?_) (fun x9 E9 cell9 H9 locs9 hE9 => hE9.elim)
    obtain ⟨rfl, rfl⟩ := hpo
    refine W.eq (g2 := F0 m 22 ls [.int (fEx S ((sF S k).2.2.2.2))]) rfl ?_
    refine lv_istore (lv' := [(4, .int (fEx S ((sF S k).2.2.2.2))), (3, .int 1), (0, .ref (f0 f)), (1, .ref (fQ f k)), (2, .int least)]) hx hb dX3_putTogether_22 hl (by decide) rfl (fun ls hl => ?_)
    refine lv_iload_n hx hb dX3_putTogether_24 rfl (lv_at hl 1 rfl) ?_
    refine lv_if_eq (tgt := 35) hx hb dX3_putTogether_25 (by decide) (fun c_30 => absurd c_30 (by decide)) (fun c_30 => ?_)
    refine lv_iconst (v := 2) hx hb dX3_putTogether_28 (by decide) ?_
    refine lv_iload hx hb dX3_putTogether_29 (lv_at hl 0 rfl) ?_
    refine lv_imul hx hb dX3_putTogether_31 ?_
    refine lv_goto (tgt := 37) hx hb dX3_putTogether_32 (by decide) ?_
    refine lv_istore (lv' := [(5, .int (2 * (fEx S ((sF S k).2.2.2.2)))), (4, .int (fEx S ((sF S k).2.2.2.2))), (3, .int 1), (0, .ref (f0 f)), (1, .ref (fQ f k)), (2, .int least)]) hx hb dX3_putTogether_37 hl (by decide) rfl (fun ls hl => ?_)
    refine lv_aload_n hx hb dX3_putTogether_39 rfl (lv_at hl 3 rfl) ?_
    refine lv_aload_n hx hb dX3_putTogether_40 rfl (lv_at hl 4 rfl) ?_
    refine mw_get (D := gD G) (ci := 1) (v := .int (sF S k).2.1) (C := RX1) (T := TX1) (N := 6) hx hb htb inX1 hown hK hP hf1_k rfl 2 (by decide) (htb _ wd35) (fun _ h9 => h9) rfl dX3_putTogether_41 ?_
    refine mw_callV (C := RX3) (As := [.int (sF S k).2.1]) (rest := []) hx hb hml hown hl (kX3_extentOf l htr G H.size M f S hR ((sF S k).2.1) o3) (g_B (n := 1) htb wd288 wd1 wd285 (by decide +kernel) ⟨Nat.le_of_ble_eq_true rfl, Nat.le_of_ble_eq_true rfl⟩) (htb _ wd287) (htb _ ws5) hE hP hS (fs_R.this hR) rfl rfl rfl (Nat.le_of_ble_eq_true rfl) dX3_putTogether_44 ⟨Nat.le_of_ble_eq_true rfl, Nat.le_of_ble_eq_true rfl⟩ (fun v9 M9 H locs hpo hP hz hS => ?_) (fun x9 E9 cell9 H9 locs9 hE9 => hE9.elim)
    obtain ⟨rfl, rfl⟩ := hpo
    refine W.eq (g2 := F0 m 47 ls [.int (fEx S ((sF S k).2.1))]) rfl ?_
    refine lv_aload_n hx hb dX3_putTogether_47 rfl (lv_at hl 3 rfl) ?_
    refine lv_aload_n hx hb dX3_putTogether_48 rfl (lv_at hl 4 rfl) ?_
    refine mw_get (D := gD G) (ci := 1) (v := .int (sF S k).2.2.1) (C := RX1) (T := TX1) (N := 6) hx hb htb inX1 hown hK hP hf1_k rfl 3 (by decide) (htb _ wd37) (fun _ h9 => h9) rfl dX3_putTogether_49 ?_
    refine mw_callV (C := RX3) (As := [.int (sF S k).2.2.1]) (rest := [.int (fEx S ((sF S k).2.1))]) hx hb hml hown hl (kX3_extentOf l htr G H.size M f S hR ((sF S k).2.2.1) o4) (g_B (n := 1) htb wd288 wd1 wd285 (by decide +kernel) ⟨Nat.le_of_ble_eq_true rfl, Nat.le_of_ble_eq_true rfl⟩) (htb _ wd287) (htb _ ws5) hE hP hS (fs_R.this hR) rfl rfl rfl (Nat.le_of_ble_eq_true rfl) dX3_putTogether_52 ⟨Nat.le_of_ble_eq_true rfl, Nat.le_of_ble_eq_true rfl⟩ (fun v9 M9 H locs hpo hP hz hS => ?_) (fun x9 E9 cell9 H9 locs9 hE9 => hE9.elim)
    obtain ⟨rfl, rfl⟩ := hpo
    refine W.eq (g2 := F0 m 55 ls [.int (fEx S ((sF S k).2.2.1)), .int (fEx S ((sF S k).2.1))]) rfl ?_
    refine lv_iadd hx hb dX3_putTogether_55 ?_
    refine lv_aload_n hx hb dX3_putTogether_56 rfl (lv_at hl 3 rfl) ?_
    refine lv_aload_n hx hb dX3_putTogether_57 rfl (lv_at hl 4 rfl) ?_
    refine mw_get (D := gD G) (ci := 1) (v := .int (sF S k).2.2.2.1) (C := RX1) (T := TX1) (N := 6) hx hb htb inX1 hown hK hP hf1_k rfl 4 (by decide) (htb _ wd39) (fun _ h9 => h9) rfl dX3_putTogether_58 ?_
    refine mw_callV (C := RX3) (As := [.int (sF S k).2.2.2.1]) (rest := [.int ((fEx S ((sF S k).2.1)) + (fEx S ((sF S k).2.2.1)))]) hx hb hml hown hl (kX3_extentOf l htr G H.size M f S hR ((sF S k).2.2.2.1) o5) (g_B (n := 1) htb wd288 wd1 wd285 (by decide +kernel) ⟨Nat.le_of_ble_eq_true rfl, Nat.le_of_ble_eq_true rfl⟩) (htb _ wd287) (htb _ ws5) hE hP hS (fs_R.this hR) rfl rfl rfl (Nat.le_of_ble_eq_true rfl) dX3_putTogether_61 ⟨Nat.le_of_ble_eq_true rfl, Nat.le_of_ble_eq_true rfl⟩ (fun v9 M9 H locs hpo hP hz hS => ?_) (fun x9 E9 cell9 H9 locs9 hE9 => hE9.elim)
    obtain ⟨rfl, rfl⟩ := hpo
    refine W.eq (g2 := F0 m 64 ls [.int (fEx S ((sF S k).2.2.2.1)), .int ((fEx S ((sF S k).2.1)) + (fEx S ((sF S k).2.2.1)))]) rfl ?_
    refine lv_iadd hx hb dX3_putTogether_64 ?_
    refine lv_istore (lv' := [(6, .int (((fEx S ((sF S k).2.1)) + (fEx S ((sF S k).2.2.1))) + (fEx S ((sF S k).2.2.2.1)))), (5, .int (2 * (fEx S ((sF S k).2.2.2.2)))), (4, .int (fEx S ((sF S k).2.2.2.2))), (3, .int 1), (0, .ref (f0 f)), (1, .ref (fQ f k)), (2, .int least)]) hx hb dX3_putTogether_65 hl (by decide) rfl (fun ls hl => ?_)
    refine lv_iconst (v := 0) hx hb dX3_putTogether_67 (by decide) ?_
    refine lv_istore (lv' := [(7, .int 0), (6, .int (((fEx S ((sF S k).2.1)) + (fEx S ((sF S k).2.2.1))) + (fEx S ((sF S k).2.2.2.1)))), (5, .int (2 * (fEx S ((sF S k).2.2.2.2)))), (4, .int (fEx S ((sF S k).2.2.2.2))), (3, .int 1), (0, .ref (f0 f)), (1, .ref (fQ f k)), (2, .int least)]) hx hb dX3_putTogether_68 hl (by decide) rfl (fun ls hl => ?_)
    have e_stp : fs_stp S (sF S k) = (2 * (fEx S ((sF S k).2.2.2.2))) := by rw [fs_stp, if_neg c_1]
    obtain ⟨N, hN⟩ : ∃ z9, z9 = fs_tn S (sF S k) least := ⟨_, rfl⟩
    have hN60 : N ≤ 60 := by rw [hN]; exact fs_rn_le _ _ _ _
    have tail : ∀ (H : Heap) (locs : List Loc) (ls : Array Slot), mw_P (gD G) gx_cl M H → va_S (gA G) s.heap H locs → lv_has ls 10 [(0, .ref (f0 f)), (1, .ref (fQ f k)), (3, .int 1), (7, .int (nI N))] → W p l e (headSpec (Cond.code yX3_putTogether cX3_putTogether 10 (some (.object "FormulaShapes$Box")) :: lw_big) ({ frames := 4, cells := 3, slots := 379, locals := 200 } : Room)).room s m ([.ref (f0 f), .ref (fQ f k), .int least] : List Value).toArray below meth c H locs 0 0 (mx_Q below (mw_Qx (gD G) gx_cl M (fun v M9 => ∃ q, v = some (.ref q) ∧ mw_ext M M9 ∧ fs_bx G f M9 q (fs_tg S (sF S k) least)) (fun _ => False) (gA G)) ([.ref (f0 f), .ref (fQ f k), .int least] : List Value).toArray s ({ frames := 4, cells := 3, slots := 379, locals := 200 } : Room).cells ({ frames := 4, cells := 3, slots := 379, locals := 200 } : Room).slots (gA G)) (F0 m 96 ls []) := by
      intro H locs ls hP hS hl
      refine lv_aload_n hx hb dX3_putTogether_96 rfl (lv_at hl 1 rfl) ?_
      refine mw_get (D := gD G) (ci := 1) (v := .int (sF S k).2.1) (C := RX1) (T := TX1) (N := 6) hx hb htb inX1 hown hK hP hf1_k rfl 2 (by decide) (htb _ wd35) (fun _ h9 => h9) rfl dX3_putTogether_97 ?_
      refine mw_callS (As := [.int (sF S k).2.1]) (rest := []) hx hb hml hown hl (kX3_oneIfThere l htr G H.size M ((sF S k).2.1)) (g_B (n := 1) htb wd335 wd1 wd333 (by decide +kernel) ⟨Nat.le_of_ble_eq_true rfl, Nat.le_of_ble_eq_true rfl⟩) (htb _ wd334) hE hP hS rfl rfl (Nat.le_of_ble_eq_true rfl) dX3_putTogether_100 ⟨Nat.le_of_ble_eq_true rfl, Nat.le_of_ble_eq_true rfl⟩ (fun v9 M9 H locs hpo hP hz hS => ?_) (fun x9 E9 cell9 H9 locs9 hE9 => hE9.elim)
      obtain ⟨rfl, rfl⟩ := hpo
      refine W.eq (g2 := F0 m 103 ls [.int (if (sF S k).2.1 = (-1) then 0 else 1)]) rfl ?_
      refine lv_aload_n hx hb dX3_putTogether_103 rfl (lv_at hl 1 rfl) ?_
      refine mw_get (D := gD G) (ci := 1) (v := .int (sF S k).2.2.1) (C := RX1) (T := TX1) (N := 6) hx hb htb inX1 hown hK hP hf1_k rfl 3 (by decide) (htb _ wd37) (fun _ h9 => h9) rfl dX3_putTogether_104 ?_
      refine mw_callS (As := [.int (sF S k).2.2.1]) (rest := [.int (if (sF S k).2.1 = (-1) then 0 else 1)]) hx hb hml hown hl (kX3_oneIfThere l htr G H.size M ((sF S k).2.2.1)) (g_B (n := 1) htb wd335 wd1 wd333 (by decide +kernel) ⟨Nat.le_of_ble_eq_true rfl, Nat.le_of_ble_eq_true rfl⟩) (htb _ wd334) hE hP hS rfl rfl (Nat.le_of_ble_eq_true rfl) dX3_putTogether_107 ⟨Nat.le_of_ble_eq_true rfl, Nat.le_of_ble_eq_true rfl⟩ (fun v9 M9 H locs hpo hP hz hS => ?_) (fun x9 E9 cell9 H9 locs9 hE9 => hE9.elim)
      obtain ⟨rfl, rfl⟩ := hpo
      refine W.eq (g2 := F0 m 110 ls [.int (if (sF S k).2.2.1 = (-1) then 0 else 1), .int (if (sF S k).2.1 = (-1) then 0 else 1)]) rfl ?_
      refine lv_iadd hx hb dX3_putTogether_110 ?_
      refine lv_aload_n hx hb dX3_putTogether_111 rfl (lv_at hl 1 rfl) ?_
      refine mw_get (D := gD G) (ci := 1) (v := .int (sF S k).2.2.2.1) (C := RX1) (T := TX1) (N := 6) hx hb htb inX1 hown hK hP hf1_k rfl 4 (by decide) (htb _ wd39) (fun _ h9 => h9) rfl dX3_putTogether_112 ?_
      refine mw_callS (As := [.int (sF S k).2.2.2.1]) (rest := [.int ((if (sF S k).2.1 = (-1) then 0 else 1) + (if (sF S k).2.2.1 = (-1) then 0 else 1))]) hx hb hml hown hl (kX3_oneIfThere l htr G H.size M ((sF S k).2.2.2.1)) (g_B (n := 1) htb wd335 wd1 wd333 (by decide +kernel) ⟨Nat.le_of_ble_eq_true rfl, Nat.le_of_ble_eq_true rfl⟩) (htb _ wd334) hE hP hS rfl rfl (Nat.le_of_ble_eq_true rfl) dX3_putTogether_115 ⟨Nat.le_of_ble_eq_true rfl, Nat.le_of_ble_eq_true rfl⟩ (fun v9 M9 H locs hpo hP hz hS => ?_) (fun x9 E9 cell9 H9 locs9 hE9 => hE9.elim)
      obtain ⟨rfl, rfl⟩ := hpo
      refine W.eq (g2 := F0 m 118 ls [.int (if (sF S k).2.2.2.1 = (-1) then 0 else 1), .int ((if (sF S k).2.1 = (-1) then 0 else 1) + (if (sF S k).2.2.1 = (-1) then 0 else 1))]) rfl ?_
      refine lv_iadd hx hb dX3_putTogether_118 ?_
      refine lv_istore (lv' := [(8, .int (((if (sF S k).2.1 = (-1) then 0 else 1) + (if (sF S k).2.2.1 = (-1) then 0 else 1)) + (if (sF S k).2.2.2.1 = (-1) then 0 else 1))), (0, .ref (f0 f)), (1, .ref (fQ f k)), (3, .int 1), (7, .int (nI N))]) hx hb dX3_putTogether_119 hl (by decide) rfl (fun ls hl => ?_)
      refine mw_new (ci := 2) (fs := [.null, .int 0, .int 0, .int 0]) (C := RX2) (T := TX2) (N := 4) hx hb htb inX2 tyX2 tyX2_ok hown (htb _ wd336) (htb _ wd337) (htb _ wd12) hK hP hS rfl (fun j hj => by rcases (show j = 0 ∨ j = 1 ∨ j = 2 ∨ j = 3 by omega) with rfl | rfl | rfl | rfl <;> rfl) (Nat.le_of_ble_eq_true rfl) (Nat.le_of_ble_eq_true rfl) dX3_putTogether_121 (fun q_31 H hq_32 hs_33 hP hS => ?_)
      obtain ⟨M_34, hM_34⟩ : ∃ z9 : mw_M, z9 = mw_up M q_31 (.inr (2, [.null, .int 0, .int 0, .int 0])) := ⟨_, rfl⟩
      have hP : mw_P (gD G) gx_cl M_34 H := by rw [hM_34]; exact hP
      have n_35 : M q_31 = none := mw_ext.no (mw_ext.rf M) hq_32
      have f_36 : M_34 (f0 f) = some (.inr (3, [.ref (fM f), .int (nI (sN S)), .ref (fF f), .ref (fP f), .int (sSp S), .int (sSh S)])) := by rw [hM_34, mw_ne _ _ (fun z => by have z1 := h1; rw [z, hq_32] at z1; cases z1)]; exact h1
      have ne_37 : (f0 f) ≠ q_31 := fun z => by have z1 := h1; rw [z, hq_32] at z1; cases z1
      have f_38 : M_34 (fQ f k) = some (.inr (1, [.ref (fR f k), .int (nI (sF S k).1.length), .int (sF S k).2.1, .int (sF S k).2.2.1, .int (sF S k).2.2.2.1, .int (sF S k).2.2.2.2])) := by rw [hM_34, mw_ne _ _ (fun z => by have z1 := hf1_k; rw [z, hq_32] at z1; cases z1)]; exact hf1_k
      have ne_39 : (fQ f k) ≠ q_31 := fun z => by have z1 := hf1_k; rw [z, hq_32] at z1; cases z1
      have f_40 : M_34 q_31 = some (.inr (2, [.null, .int 0, .int 0, .int 0])) := by rw [hM_34]; exact mw_self _ _ _
      have x_41 : mw_ext M M_34 := by rw [hM_34]; exact mw_ext.up (mw_ext.rf M) n_35 _
      refine lv_dup hx hb dX3_putTogether_124 rfl ?_
      refine lv_iload hx hb dX3_putTogether_125 (lv_at hl 0 rfl) ?_
      refine lv_iload_n hx hb dX3_putTogether_127 rfl (lv_at hl 3 rfl) ?_
      refine lv_if_eq (tgt := 138) hx hb dX3_putTogether_128 (by decide) (fun c_42 => absurd c_42 (by decide)) (fun c_42 => ?_)
      refine lv_iconst (v := 2) hx hb dX3_putTogether_131 (by decide) ?_
      refine lv_iload hx hb dX3_putTogether_132 (lv_at hl 4 rfl) ?_
      refine lv_imul hx hb dX3_putTogether_134 ?_
      refine lv_goto (tgt := 140) hx hb dX3_putTogether_135 (by decide) ?_
      refine lv_iadd hx hb dX3_putTogether_140 ?_
      obtain ⟨cu, ecu⟩ : ∃ z9 : Nat, z9 = (if (sF S k).2.1 = (-1) then 0 else 1) := ⟨_, rfl⟩
      obtain ⟨cm, ecm⟩ : ∃ z9 : Nat, z9 = (if (sF S k).2.2.1 = (-1) then 0 else 1) := ⟨_, rfl⟩
      obtain ⟨cl, ecl⟩ : ∃ z9 : Nat, z9 = (if (sF S k).2.2.2.1 = (-1) then 0 else 1) := ⟨_, rfl⟩
      have lcu : cu ≤ 1 := by rw [ecu]; exact fs_le1 _
      have lcm : cm ≤ 1 := by rw [ecm]; exact fs_le1 _
      have lcl : cl ≤ 1 := by rw [ecl]; exact fs_le1 _
      have e_c : ((((if (sF S k).2.1 = (-1) then 0 else 1) + (if (sF S k).2.2.1 = (-1) then 0 else 1)) + (if (sF S k).2.2.2.1 = (-1) then 0 else 1)) + (2 * (nI N))) = nI (cu + cm + cl + 2 * N) := by rw [ecu, ecm, ecl]; exact fs_cnt2 _ _ _ N
      rw [e_c]
      refine mw_callI (As := [.int (nI (cu + cm + cl + 2 * N))]) (rest := [.ref q_31]) hx hb hml hown hl (kX2_init l htr G H.size M_34 (fun q h => hAn q (Nat.le_trans hS.1 h)) q_31 (cu + cm + cl + 2 * N) (by omega) (hAn _ hs_33) f_40) (g_B (n := 1) htb wd340 wd12 wd338 (by decide +kernel) ⟨Nat.le_of_ble_eq_true rfl, Nat.le_of_ble_eq_true rfl⟩) (htb _ wd339) (htb _ wd340) rfl hE hP hS rfl rfl (Nat.le_of_ble_eq_true rfl) dX3_putTogether_141 ⟨Nat.le_of_ble_eq_true rfl, Nat.le_of_ble_eq_true rfl⟩ (fun v9 M9 H locs hpo hP hz hS => ?_) (fun x9 E9 cell9 H9 locs9 hE9 => hE9.elim)
      obtain ⟨rfl, pl, hpi0, hpl0, hold0, hAp⟩ := hpo
      have hp0 : M pl = none := mw_ext.no x_41 hpl0
      have x0 : mw_ext M M9 := fun y9 e9 h => hold0 y9 e9 (fun z9 => by rw [z9, n_35] at h; cases h) (x_41 y9 e9 h)
      obtain ⟨M_43, hM_43⟩ : ∃ z9 : mw_M, z9 = M9 := ⟨_, rfl⟩
      rw [← hM_43] at hP hpi0 x0
      refine W.eq (g2 := F0 m 144 ls [.ref q_31]) rfl ?_
      refine lv_astore (lv' := [(9, .ref q_31), (8, .int (((if (sF S k).2.1 = (-1) then 0 else 1) + (if (sF S k).2.2.1 = (-1) then 0 else 1)) + (if (sF S k).2.2.2.1 = (-1) then 0 else 1))), (0, .ref (f0 f)), (1, .ref (fQ f k)), (3, .int 1), (7, .int (nI N))]) hx hb dX3_putTogether_144 hl (by decide) rfl (fun ls hl => ?_)
      refine lv_aload_n hx hb dX3_putTogether_146 rfl (lv_at hl 2 rfl) ?_
      refine lv_aload hx hb dX3_putTogether_147 (lv_at hl 0 rfl) ?_
      refine lv_aload_n hx hb dX3_putTogether_149 rfl (lv_at hl 3 rfl) ?_
      refine mw_get (D := gD G) (ci := 1) (v := .int (sF S k).2.2.2.1) (C := RX1) (T := TX1) (N := 6) hx hb htb inX1 hown hK hP (x0 _ _ hf1_k) rfl 4 (by decide) (htb _ wd39) (fun _ h9 => h9) rfl dX3_putTogether_150 ?_
      refine lv_iconst (v := 1) hx hb dX3_putTogether_153 (by decide) ?_
      refine mw_callV (C := RX3) (As := [.ref q_31, .int (sF S k).2.2.2.1, .int 1]) (rest := []) hx hb hml hown hl (kX3_pileUp l htr G H.size M_43 f S M hR x0 q_31 pl ((cu + cm + cl + 2 * N) * 3) n_35 hp0 ([], 0, 0) hpi0 (hAn _ hs_33) hAp (by omega) (sF S k).2.2.2.1 o5 1 (by omega) (by simp only [fs_puo_len, if_neg hrep, List.length_nil, ← ecu, ← ecm, ← ecl]; omega)) (g_B (n := 3) htb wd358 wd1 wd355 (by decide +kernel) ⟨Nat.le_of_ble_eq_true rfl, Nat.le_of_ble_eq_true rfl⟩) (htb _ wd357) (htb _ ws9) hE hP hS (fs_R.this (fs_R.ext hR x0)) rfl rfl rfl (Nat.le_of_ble_eq_true rfl) dX3_putTogether_154 ⟨Nat.le_of_ble_eq_true rfl, Nat.le_of_ble_eq_true rfl⟩ (fun v9 M9 H locs hpo hP hz hS => ?_) (fun x9 E9 cell9 H9 locs9 hE9 => hE9.elim)
      obtain ⟨rfl, hpi_44, holdhpi_44⟩ := hpo
      have x_45 : mw_ext M M9 := fun y9 e9 h => holdhpi_44 y9 e9 (fun z9 => by rw [z9, n_35] at h; cases h) (fun z9 => by rw [z9, hp0] at h; cases h) (x0 y9 e9 h)
      obtain ⟨M_46, hM_46⟩ : ∃ z9 : mw_M, z9 = M9 := ⟨_, rfl⟩
      rw [← hM_46] at hP hpi_44 x_45
      refine W.eq (g2 := F0 m 157 ls []) rfl ?_
      refine lv_aload_n hx hb dX3_putTogether_157 rfl (lv_at hl 2 rfl) ?_
      refine lv_aload hx hb dX3_putTogether_158 (lv_at hl 0 rfl) ?_
      refine lv_aload_n hx hb dX3_putTogether_160 rfl (lv_at hl 3 rfl) ?_
      refine mw_get (D := gD G) (ci := 1) (v := .int (sF S k).2.2.2.2) (C := RX1) (T := TX1) (N := 6) hx hb htb inX1 hown hK hP (x_45 _ _ hf1_k) rfl 5 (by decide) (htb _ wd41) (fun _ h9 => h9) rfl dX3_putTogether_161 ?_
      refine lv_iload hx hb dX3_putTogether_164 (lv_at hl 5 rfl) ?_
      refine mw_callV (C := RX3) (As := [.ref q_31, .int (sF S k).2.2.2.2, .int (nI N)]) (rest := []) hx hb hml hown hl (kX3_pileUp l htr G H.size M_46 f S M hR x_45 q_31 pl ((cu + cm + cl + 2 * N) * 3) n_35 hp0 (fs_puo S ([], 0, 0) (sF S k).2.2.2.1 1) hpi_44 (hAn _ hs_33) hAp (by omega) (sF S k).2.2.2.2 o6 N (by omega) (by simp only [fs_puo_len, if_neg hrep, List.length_nil, ← ecu, ← ecm, ← ecl]; omega)) (g_B (n := 3) htb wd358 wd1 wd355 (by decide +kernel) ⟨Nat.le_of_ble_eq_true rfl, Nat.le_of_ble_eq_true rfl⟩) (htb _ wd357) (htb _ ws9) hE hP hS (fs_R.this (fs_R.ext hR x_45)) rfl rfl rfl (Nat.le_of_ble_eq_true rfl) dX3_putTogether_166 ⟨Nat.le_of_ble_eq_true rfl, Nat.le_of_ble_eq_true rfl⟩ (fun v9 M9 H locs hpo hP hz hS => ?_) (fun x9 E9 cell9 H9 locs9 hE9 => hE9.elim)
      obtain ⟨rfl, hpi_47, holdhpi_47⟩ := hpo
      have x_48 : mw_ext M M9 := fun y9 e9 h => holdhpi_47 y9 e9 (fun z9 => by rw [z9, n_35] at h; cases h) (fun z9 => by rw [z9, hp0] at h; cases h) (x_45 y9 e9 h)
      obtain ⟨M_49, hM_49⟩ : ∃ z9 : mw_M, z9 = M9 := ⟨_, rfl⟩
      rw [← hM_49] at hP hpi_47 x_48
      refine W.eq (g2 := F0 m 169 ls []) rfl ?_
      refine lv_iload_n hx hb dX3_putTogether_169 rfl (lv_at hl 4 rfl) ?_
      refine lv_if_eq (tgt := 196) hx hb dX3_putTogether_170 (by decide) (fun c_50 => absurd c_50 (by decide)) (fun c_50 => ?_)
      refine lv_aload_n hx hb dX3_putTogether_173 rfl (lv_at hl 2 rfl) ?_
      refine lv_aload hx hb dX3_putTogether_174 (lv_at hl 0 rfl) ?_
      refine lv_aload_n hx hb dX3_putTogether_176 rfl (lv_at hl 3 rfl) ?_
      refine mw_get (D := gD G) (ci := 1) (v := .int (sF S k).2.2.1) (C := RX1) (T := TX1) (N := 6) hx hb htb inX1 hown hK hP (x_48 _ _ hf1_k) rfl 3 (by decide) (htb _ wd37) (fun _ h9 => h9) rfl dX3_putTogether_177 ?_
      refine lv_iconst (v := 1) hx hb dX3_putTogether_180 (by decide) ?_
      refine mw_callV (C := RX3) (As := [.ref q_31, .int (sF S k).2.2.1, .int 1]) (rest := []) hx hb hml hown hl (kX3_pileUp l htr G H.size M_49 f S M hR x_48 q_31 pl ((cu + cm + cl + 2 * N) * 3) n_35 hp0 (fs_puo S (fs_puo S ([], 0, 0) (sF S k).2.2.2.1 1) (sF S k).2.2.2.2 N) hpi_47 (hAn _ hs_33) hAp (by omega) (sF S k).2.2.1 o4 1 (by omega) (by simp only [fs_puo_len, if_neg hrep, List.length_nil, ← ecu, ← ecm, ← ecl]; omega)) (g_B (n := 3) htb wd358 wd1 wd355 (by decide +kernel) ⟨Nat.le_of_ble_eq_true rfl, Nat.le_of_ble_eq_true rfl⟩) (htb _ wd357) (htb _ ws9) hE hP hS (fs_R.this (fs_R.ext hR x_48)) rfl rfl rfl (Nat.le_of_ble_eq_true rfl) dX3_putTogether_181 ⟨Nat.le_of_ble_eq_true rfl, Nat.le_of_ble_eq_true rfl⟩ (fun v9 M9 H locs hpo hP hz hS => ?_) (fun x9 E9 cell9 H9 locs9 hE9 => hE9.elim)
      obtain ⟨rfl, hpi_51, holdhpi_51⟩ := hpo
      have x_52 : mw_ext M M9 := fun y9 e9 h => holdhpi_51 y9 e9 (fun z9 => by rw [z9, n_35] at h; cases h) (fun z9 => by rw [z9, hp0] at h; cases h) (x_48 y9 e9 h)
      obtain ⟨M_53, hM_53⟩ : ∃ z9 : mw_M, z9 = M9 := ⟨_, rfl⟩
      rw [← hM_53] at hP hpi_51 x_52
      refine W.eq (g2 := F0 m 184 ls []) rfl ?_
      refine lv_aload_n hx hb dX3_putTogether_184 rfl (lv_at hl 2 rfl) ?_
      refine lv_aload hx hb dX3_putTogether_185 (lv_at hl 0 rfl) ?_
      refine lv_aload_n hx hb dX3_putTogether_187 rfl (lv_at hl 3 rfl) ?_
      refine mw_get (D := gD G) (ci := 1) (v := .int (sF S k).2.2.2.2) (C := RX1) (T := TX1) (N := 6) hx hb htb inX1 hown hK hP (x_52 _ _ hf1_k) rfl 5 (by decide) (htb _ wd41) (fun _ h9 => h9) rfl dX3_putTogether_188 ?_
      refine lv_iload hx hb dX3_putTogether_191 (lv_at hl 5 rfl) ?_
      refine mw_callV (C := RX3) (As := [.ref q_31, .int (sF S k).2.2.2.2, .int (nI N)]) (rest := []) hx hb hml hown hl (kX3_pileUp l htr G H.size M_53 f S M hR x_52 q_31 pl ((cu + cm + cl + 2 * N) * 3) n_35 hp0 (fs_puo S (fs_puo S (fs_puo S ([], 0, 0) (sF S k).2.2.2.1 1) (sF S k).2.2.2.2 N) (sF S k).2.2.1 1) hpi_51 (hAn _ hs_33) hAp (by omega) (sF S k).2.2.2.2 o6 N (by omega) (by simp only [fs_puo_len, if_neg hrep, List.length_nil, ← ecu, ← ecm, ← ecl]; omega)) (g_B (n := 3) htb wd358 wd1 wd355 (by decide +kernel) ⟨Nat.le_of_ble_eq_true rfl, Nat.le_of_ble_eq_true rfl⟩) (htb _ wd357) (htb _ ws9) hE hP hS (fs_R.this (fs_R.ext hR x_52)) rfl rfl rfl (Nat.le_of_ble_eq_true rfl) dX3_putTogether_193 ⟨Nat.le_of_ble_eq_true rfl, Nat.le_of_ble_eq_true rfl⟩ (fun v9 M9 H locs hpo hP hz hS => ?_) (fun x9 E9 cell9 H9 locs9 hE9 => hE9.elim)
      obtain ⟨rfl, hpi_54, holdhpi_54⟩ := hpo
      have x_55 : mw_ext M M9 := fun y9 e9 h => holdhpi_54 y9 e9 (fun z9 => by rw [z9, n_35] at h; cases h) (fun z9 => by rw [z9, hp0] at h; cases h) (x_52 y9 e9 h)
      obtain ⟨M_56, hM_56⟩ : ∃ z9 : mw_M, z9 = M9 := ⟨_, rfl⟩
      rw [← hM_56] at hP hpi_54 x_55
      refine W.eq (g2 := F0 m 196 ls []) rfl ?_
      refine lv_aload_n hx hb dX3_putTogether_196 rfl (lv_at hl 2 rfl) ?_
      refine lv_aload hx hb dX3_putTogether_197 (lv_at hl 0 rfl) ?_
      refine lv_aload_n hx hb dX3_putTogether_199 rfl (lv_at hl 3 rfl) ?_
      refine mw_get (D := gD G) (ci := 1) (v := .int (sF S k).2.1) (C := RX1) (T := TX1) (N := 6) hx hb htb inX1 hown hK hP (x_55 _ _ hf1_k) rfl 2 (by decide) (htb _ wd35) (fun _ h9 => h9) rfl dX3_putTogether_200 ?_
      refine lv_iconst (v := 1) hx hb dX3_putTogether_203 (by decide) ?_
      refine mw_callV (C := RX3) (As := [.ref q_31, .int (sF S k).2.1, .int 1]) (rest := []) hx hb hml hown hl (kX3_pileUp l htr G H.size M_56 f S M hR x_55 q_31 pl ((cu + cm + cl + 2 * N) * 3) n_35 hp0 (fs_puo S (fs_puo S (fs_puo S (fs_puo S ([], 0, 0) (sF S k).2.2.2.1 1) (sF S k).2.2.2.2 N) (sF S k).2.2.1 1) (sF S k).2.2.2.2 N) hpi_54 (hAn _ hs_33) hAp (by omega) (sF S k).2.1 o3 1 (by omega) (by simp only [fs_puo_len, if_neg hrep, List.length_nil, ← ecu, ← ecm, ← ecl]; omega)) (g_B (n := 3) htb wd358 wd1 wd355 (by decide +kernel) ⟨Nat.le_of_ble_eq_true rfl, Nat.le_of_ble_eq_true rfl⟩) (htb _ wd357) (htb _ ws9) hE hP hS (fs_R.this (fs_R.ext hR x_55)) rfl rfl rfl (Nat.le_of_ble_eq_true rfl) dX3_putTogether_204 ⟨Nat.le_of_ble_eq_true rfl, Nat.le_of_ble_eq_true rfl⟩ (fun v9 M9 H locs hpo hP hz hS => ?_) (fun x9 E9 cell9 H9 locs9 hE9 => hE9.elim)
      obtain ⟨rfl, hpi_57, holdhpi_57⟩ := hpo
      have x_58 : mw_ext M M9 := fun y9 e9 h => holdhpi_57 y9 e9 (fun z9 => by rw [z9, n_35] at h; cases h) (fun z9 => by rw [z9, hp0] at h; cases h) (x_55 y9 e9 h)
      obtain ⟨M_59, hM_59⟩ : ∃ z9 : mw_M, z9 = M9 := ⟨_, rfl⟩
      rw [← hM_59] at hP hpi_57 x_58
      refine W.eq (g2 := F0 m 207 ls []) rfl ?_
      refine lv_aload hx hb dX3_putTogether_207 (lv_at hl 0 rfl) ?_
      obtain ⟨gg, hpq, hpg, hpe, -⟩ := id hpi_57
      refine mw_callV (C := RX2) (As := []) (rest := []) hx hb hml hown hl (kX2_asBox l htr G H.size M_59 (fun q h => hAn q (Nat.le_trans hS.1 h)) q_31 pl ((cu + cm + cl + 2 * N) * 3) (fs_puo S (fs_puo S (fs_puo S (fs_puo S (fs_puo S ([], 0, 0) (sF S k).2.2.2.1 1) (sF S k).2.2.2.2 N) (sF S k).2.2.1 1) (sF S k).2.2.2.2 N) (sF S k).2.1 1) hpi_57) (g_B (n := 0) htb wd369 wd12 wd366 (by decide +kernel) ⟨Nat.le_of_ble_eq_true rfl, Nat.le_of_ble_eq_true rfl⟩) (htb _ wd367) (htb _ wd368) hE hP hS hpq rfl rfl rfl (Nat.le_of_ble_eq_true rfl) dX3_putTogether_209 ⟨Nat.le_of_ble_eq_true rfl, Nat.le_of_ble_eq_true rfl⟩ (fun v9 M9 H locs hpo hP hz hS => ?_) (fun x9 E9 cell9 H9 locs9 hE9 => hE9.elim)
      obtain ⟨q, rfl, xq, hq0, hq1⟩ := hpo
      have xx : mw_ext M M9 := mw_ext.tr x_58 xq
      have hqM : M q = none := mw_ext.no x_58 hq0
      refine W.eq (g2 := F0 m 212 ls [.ref q]) rfl ?_
      have e_u : fs_tp S (sF S k) N = (fs_puo S (fs_puo S (fs_puo S (fs_puo S (fs_puo S ([], 0, 0) (sF S k).2.2.2.1 1) (sF S k).2.2.2.2 N) (sF S k).2.2.1 1) (sF S k).2.2.2.2 N) (sF S k).2.1 1) := by rw [fs_tp, if_neg c_1]
      have hbx9 : fs_bx G f M9 q (fs_tg S (sF S k) least) := by
        rw [fs_tg, ← hN, e_u]
        have hlen : (fs_puo S (fs_puo S (fs_puo S (fs_puo S (fs_puo S ([], 0, 0) (sF S k).2.2.2.1 1) (sF S k).2.2.2.2 N) (sF S k).2.2.1 1) (sF S k).2.2.2.2 N) (sF S k).2.1 1).1.length = (cu + cm + cl + 2 * N) * 3 := by
          have ecm2 : cm = 1 := by rw [ecm, if_neg c_1]
          simp only [fs_puo_len, if_neg hrep, List.length_nil, ← ecu, ← ecm, ← ecl]; omega
        exact fs_mk hq1 (xq _ _ hpg) hlen (fun j hj => hpe j (by rw [hlen]; exact hj)) (fun z9 => hX _ z9 hqM) (fun z9 => hX _ z9 hp0)
      exact mx_aret (q := q) (M' := M9) hx hb hr (Or.inl ⟨_, rfl⟩) hlocks hP hS ⟨q, rfl, xx, hbx9⟩ dX3_putTogether_212 (Nat.le_of_ble_eq_true rfl) (Nat.le_of_ble_eq_true rfl)
    have loop : ∀ (n j : Nat) (sm : Int32), j + n = 60 → N = j + fs_rn least (2 * (fEx S ((sF S k).2.2.2.2))) n sm → ∀ (H : Heap) (locs : List Loc) (ls : Array Slot), mw_P (gD G) gx_cl M H → va_S (gA G) s.heap H locs → lv_has ls 10 [(0, .ref (f0 f)), (1, .ref (fQ f k)), (2, .int least), (3, .int 1), (5, .int (2 * (fEx S ((sF S k).2.2.2.2)))), (6, .int sm), (7, .int (nI j))] → W p l e (headSpec (Cond.code yX3_putTogether cX3_putTogether 10 (some (.object "FormulaShapes$Box")) :: lw_big) ({ frames := 4, cells := 3, slots := 379, locals := 200 } : Room)).room s m ([.ref (f0 f), .ref (fQ f k), .int least] : List Value).toArray below meth c H locs 0 0 (mx_Q below (mw_Qx (gD G) gx_cl M (fun v M9 => ∃ q, v = some (.ref q) ∧ mw_ext M M9 ∧ fs_bx G f M9 q (fs_tg S (sF S k) least)) (fun _ => False) (gA G)) ([.ref (f0 f), .ref (fQ f k), .int least] : List Value).toArray s ({ frames := 4, cells := 3, slots := 379, locals := 200 } : Room).cells ({ frames := 4, cells := 3, slots := 379, locals := 200 } : Room).slots (gA G)) (F0 m 70 ls []) := by
      intro n
      induction n with
      | zero =>
        intro j sm hj hfi H locs ls hP hS hl
        have hK7 : (60 : Int32) ≤ nI j := nI_le (a := 60) (by omega) (by omega)
        refine lv_iload hx hb dX3_putTogether_70 (lv_at hl 6 rfl) ?_
        refine lv_bipush (v := 60) hx hb dX3_putTogether_72 (by decide) ?_
        refine lv_icmp_ge (tgt := 96) hx hb dX3_putTogether_74 (by decide) (fun c_60 => ?_) (fun c_60 => absurd hK7 c_60)
        obtain rfl : j = N := by rw [hfi]; rfl
        refine W.widen (k := 0) (n := 0) (Nat.le_of_ble_eq_true rfl) (Nat.le_of_ble_eq_true rfl) ?_
        exact tail H locs ls hP hS (lv_sub hl [0, 1, 3, 6] rfl)
      | succ n ih =>
        intro j sm hj hfi H locs ls hP hS hl
        have hK7 : ¬ (60 : Int32) ≤ nI j := nI_ge (a := j) (b := 60) (by omega) (by omega)
        refine lv_iload hx hb dX3_putTogether_70 (lv_at hl 6 rfl) ?_
        refine lv_bipush (v := 60) hx hb dX3_putTogether_72 (by decide) ?_
        refine lv_icmp_ge (tgt := 96) hx hb dX3_putTogether_74 (by decide) (fun c_61 => absurd c_61 hK7) (fun c_61 => ?_)
        refine lv_iload hx hb dX3_putTogether_77 (lv_at hl 5 rfl) ?_
        refine lv_iload_n hx hb dX3_putTogether_79 rfl (lv_at hl 2 rfl) ?_
        refine lv_icmp_ge (tgt := 96) hx hb dX3_putTogether_80 (by decide) (fun c_62 => ?_) (fun c_62 => ?_)
        · obtain rfl : j = N := by rw [hfi, fs_rn, if_neg (Int32.not_lt.mpr c_62)]; omega
          refine W.widen (k := 0) (n := 0) (Nat.le_of_ble_eq_true rfl) (Nat.le_of_ble_eq_true rfl) ?_
          exact tail H locs ls hP hS (lv_sub hl [0, 1, 3, 6] rfl)
        · refine lv_iload hx hb dX3_putTogether_83 (lv_at hl 5 rfl) ?_
          refine lv_iload hx hb dX3_putTogether_85 (lv_at hl 4 rfl) ?_
          refine lv_iadd hx hb dX3_putTogether_87 ?_
          refine lv_istore (lv' := [(6, .int (sm + (2 * (fEx S ((sF S k).2.2.2.2))))), (0, .ref (f0 f)), (1, .ref (fQ f k)), (2, .int least), (3, .int 1), (5, .int (2 * (fEx S ((sF S k).2.2.2.2)))), (7, .int (nI j))]) hx hb dX3_putTogether_88 hl (by decide) rfl (fun ls hl => ?_)
          obtain ⟨v_63, ev_63⟩ : ∃ y : Int32, y = (nI j) + 1 := ⟨_, rfl⟩
          refine lv_iinc (v := v_63) (lv' := [(7, .int v_63), (6, .int (sm + (2 * (fEx S ((sF S k).2.2.2.2))))), (0, .ref (f0 f)), (1, .ref (fQ f k)), (2, .int least), (3, .int 1), (5, .int (2 * (fEx S ((sF S k).2.2.2.2))))]) hx hb dX3_putTogether_90 hl (k := 6) rfl (by rw [ev_63]; rfl) (by decide) rfl (fun ls hl => ?_)
          refine lv_goto (tgt := 70) hx hb dX3_putTogether_93 (by decide) ?_
          obtain rfl : v_63 = nI (j + 1) := by rw [ev_63]; exact nI_1 j
          refine W.widen (k := 0) (n := 0) (Nat.le_of_ble_eq_true rfl) (Nat.le_of_ble_eq_true rfl) ?_
          exact ih (j + 1) (sm + (2 * (fEx S ((sF S k).2.2.2.2)))) (by omega) (by rw [hfi, fs_rn, if_pos (Int32.not_le.mp c_62)]; omega) H locs ls hP hS (lv_sub hl [2, 3, 4, 5, 6, 1, 0] rfl)
    exact loop 60 0 _ (by omega) (by rw [hN, fs_tn, e_stp, Nat.zero_add]; rfl) _ _ _ hP hS (lv_sub hl [5, 6, 7, 4, 2, 1, 0] rfl)
