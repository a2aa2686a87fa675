/-! printed by wip/whole/spec*.py -/
-- X3_enclosing
set_option maxHeartbeats 4000000 in
set_option maxRecDepth 100000 in
theorem kX3_enclosing (l : Launch) (htr : l.stackTraces = false) (G : gx_G) (sz : Nat) (M : mw_M) (f : fs_A) (S : fs_S) (hR : fs_R G f M S) (hX : ∀ a, fX f a → M a ≠ none) (hA : ∀ q : Nat, sz ≤ q → gA G q) (pl : Nat) (g : Nat → Int32) (w : Int32) (P : List Int32) (hpl : M pl = some (.inl (gI G, P.length, .inl g))) (hnx : ¬ fX f pl) (hgP : ∀ j, j < P.length → g j = P.getD j 0) (hP3 : P.length % 3 = 0) (hP9 : P.length ≤ 369) (hPin : ∀ j, 3 * j < P.length → ∃ i, i < sN S ∧ P.getD (3 * j) 0 = nI i) : g_Met l G yX3_enclosing (.code yX3_enclosing cX3_enclosing 10 (some (.object "FormulaShapes$Box"))) ({ frames := 3, cells := 1, slots := 6, locals := 140 } : Room) sz M [.ref (f0 f), .int w, .ref pl] (fun v M9 => ∃ q, v = some (.ref q) ∧ mw_ext M M9 ∧ fs_bx G f M9 q (fs_en S w P)) (fun _ => False) := by
  refine MetE.ofW (cc := cX3_enclosing) (maxL := 10) (ret := (some (.object "FormulaShapes$Box"))) (by decide) rfl ?_
  intro p e s m args below meth c s₁ B hml hv
  obtain ⟨rfl, hsz, hP, hE⟩ := hv
  have hx := B.exec
  have hb := B.bytes
  have hr := B.returns
  have hts := atoms_spec (ws := _ :: lw_big) B.pre
  have htb : ∀ w ∈ lw_big, w.before _ s = true := fun w h => hts w (List.mem_cons_of_mem _ h)
  have hno := B.noHandlers (hts _ List.mem_cons_self)
  have hown : s.vm.findClass RX3 = some m.cls := findClass_of_methodNamed B.named
  have hlocks := B.notSynchronized
  have hK := hE.1
  subst hsz
  have hAn : ∀ q : Nat, s.heap.size ≤ q → gA G q := hA
  have hS : va_S (gA G) s.heap s.heap [] := va_S.rf
  have hl := lv_entry ([.ref (f0 f), .int w, .ref pl]) (n := 10) (Nat.le_of_ble_eq_true rfl)
  rw [lg_entry_eq]
  generalize (lg_sl ([.ref (f0 f), .int w, .ref pl]) ++ List.replicate (10 - (lg_sl ([.ref (f0 f), .int w, .ref pl])).length) Slot.unset).toArray = ls at hl ⊢
  have hl : lv_has ls 10 [(0, .ref (f0 f)), (1, .int w), (2, .ref pl)] := hl
  refine lv_iconst (v := 0) hx hb dX3_enclosing_0 (by decide) ?_
  refine lv_istore_n (lv' := [(3, .int 0), (0, .ref (f0 f)), (1, .int w), (2, .ref pl)]) hx hb dX3_enclosing_1 rfl hl (by decide) rfl (fun ls hl => ?_)
  refine lv_iconst (v := 0) hx hb dX3_enclosing_2 (by decide) ?_
  refine lv_istore (lv' := [(4, .int 0), (3, .int 0), (0, .ref (f0 f)), (1, .int w), (2, .ref pl)]) hx hb dX3_enclosing_3 hl (by decide) rfl (fun ls hl => ?_)
  refine lv_iconst (v := 0) hx hb dX3_enclosing_5 (by decide) ?_
  refine lv_istore (lv' := [(5, .int 0), (4, .int 0), (3, .int 0), (0, .ref (f0 f)), (1, .int w), (2, .ref pl)]) hx hb dX3_enclosing_6 hl (by decide) rfl (fun ls hl => ?_)
  have loop : ∀ (n j : Nat), 3 * (j + n) = P.length → ∀ (H : Heap) (locs : List Loc) (ls : Array Slot), mw_P (gD G) gx_cl M H → va_S (gA G) s.heap H locs → lv_has ls 10 [(0, .ref (f0 f)), (1, .int w), (2, .ref pl), (3, .int (fs_eh S P j)), (4, .int (fs_ed S P j)), (5, .int (nI (3 * j)))] → W p l e (headSpec (Cond.code yX3_enclosing cX3_enclosing 10 (some (.object "FormulaShapes$Box")) :: lw_big) ({ frames := 3, cells := 1, slots := 6, locals := 140 } : Room)).room s m ([.ref (f0 f), .int w, .ref pl] : List Value).toArray below meth c H locs 0 0 (mx_Q below (mw_Qx (gD G) gx_cl M (fun v M9 => ∃ q, v = some (.ref q) ∧ mw_ext M M9 ∧ fs_bx G f M9 q (fs_en S w P)) (fun _ => False) (gA G)) ([.ref (f0 f), .int w, .ref pl] : List Value).toArray s ({ frames := 3, cells := 1, slots := 6, locals := 140 } : Room).cells ({ frames := 3, cells := 1, slots := 6, locals := 140 } : Room).slots (gA G)) (F0 m 8 ls []) := by
    intro n
    induction n with
    | zero =>
      intro j hj H locs ls hP hS hl
      have e33 : nI (3 * j) + 3 = nI (3 * j + 3) := by rw [show (3 : Int32) = nI 3 from rfl, nI_add]
      have hK14 : nI P.length < nI (3 * j) + 3 := by rw [e33]; exact nI_lt (by omega) (by omega)
      refine lv_iload hx hb dX3_enclosing_8 (lv_at hl 5 rfl) ?_
      refine lv_iconst (v := 3) hx hb dX3_enclosing_10 (by decide) ?_
      refine lv_iadd hx hb dX3_enclosing_11 ?_
      refine lv_aload_n hx hb dX3_enclosing_12 rfl (lv_at hl 2 rfl) ?_
      refine mw_alen (v := (nI P.length)) hx hb hK hP 0 hpl rfl rfl dX3_enclosing_13 ?_
      refine lv_icmp_gt (tgt := 95) hx hb dX3_enclosing_14 (by decide) (fun c_1 => ?_) (fun c_1 => absurd hK14 c_1)
      refine mw_new (ci := 0) (fs := [.int 0, .int 0, .int 0, .null, .int 0, .int 0]) (C := RX0) (T := TX0) (N := 6) hx hb htb inX0 tyX0 tyX0_ok hown (htb _ wd22) (htb _ wd215) (htb _ wd10) hK hP hS rfl (fun j hj => by rcases (show j = 0 ∨ j = 1 ∨ j = 2 ∨ j = 3 ∨ j = 4 ∨ j = 5 by omega) with rfl | rfl | rfl | rfl | rfl | rfl <;> rfl) (Nat.le_of_ble_eq_true rfl) (Nat.le_of_ble_eq_true rfl) dX3_enclosing_95 (fun q_2 H hq_3 hs_4 hP hS => ?_)
      obtain ⟨M_5, hM_5⟩ : ∃ z9 : mw_M, z9 = mw_up M q_2 (.inr (0, [.int 0, .int 0, .int 0, .null, .int 0, .int 0])) := ⟨_, rfl⟩
      have hP : mw_P (gD G) gx_cl M_5 H := by rw [hM_5]; exact hP
      have n_6 : M q_2 = none := mw_ext.no (mw_ext.rf M) hq_3
      have f_7 : M_5 pl = some (.inl (gI G, P.length, .inl g)) := by rw [hM_5, mw_ne _ _ (fun z => by have z1 := hpl; rw [z, hq_3] at z1; cases z1)]; exact hpl
      have ne_8 : pl ≠ q_2 := fun z => by have z1 := hpl; rw [z, hq_3] at z1; cases z1
      have f_9 : M_5 q_2 = some (.inr (0, [.int 0, .int 0, .int 0, .null, .int 0, .int 0])) := by rw [hM_5]; exact mw_self _ _ _
      have x_10 : mw_ext M M_5 := by rw [hM_5]; exact mw_ext.up (mw_ext.rf M) n_6 _
      refine lv_dup hx hb dX3_enclosing_98 rfl ?_
      refine lv_iload_n hx hb dX3_enclosing_99 rfl (lv_at hl 1 rfl) ?_
      refine lv_iload_n hx hb dX3_enclosing_100 rfl (lv_at hl 3 rfl) ?_
      refine lv_iload hx hb dX3_enclosing_101 (lv_at hl 4 rfl) ?_
      refine lv_aload_n hx hb dX3_enclosing_103 rfl (lv_at hl 2 rfl) ?_
      refine mw_callI (As := [.int w, .int (fs_eh S P j), .int (fs_ed S P j), .ref pl]) (rest := [.ref q_2]) hx hb hml hown hl (kX0_init_0 l htr G H.size M_5 q_2 (hAn _ hs_4) f_9 w (fs_eh S P j) (fs_ed S P j) pl) (g_B (n := 4) htb wd220 wd10 wd218 (by decide +kernel) ⟨Nat.le_of_ble_eq_true rfl, Nat.le_of_ble_eq_true rfl⟩) (htb _ wd219) (htb _ wd220) rfl hE hP hS rfl rfl (Nat.le_of_ble_eq_true rfl) dX3_enclosing_104 ⟨Nat.le_of_ble_eq_true rfl, Nat.le_of_ble_eq_true rfl⟩ (fun v9 M9 H locs hpo hP hz hS => ?_) (fun x9 E9 cell9 H9 locs9 hE9 => hE9.elim)
      obtain ⟨rfl, hM9⟩ := hpo
      obtain ⟨M_11, hM_11⟩ : ∃ z9 : mw_M, z9 = mw_up M_5 q_2 (.inr (0, [.int w, .int (fs_eh S P j), .int (fs_ed S P j), .ref pl, .int 0, .int 0])) := ⟨_, rfl⟩
      have hP : mw_P (gD G) gx_cl M_11 H := by rw [hM_11, hM9]; exact hP
      have f_12 : M_11 pl = some (.inl (gI G, P.length, .inl g)) := by rw [hM_11, mw_ne _ _ ne_8]; exact f_7
      have f_13 : M_11 q_2 = some (.inr (0, [.int w, .int (fs_eh S P j), .int (fs_ed S P j), .ref pl, .int 0, .int 0])) := by rw [hM_11]; exact mw_self _ _ _
      have x_14 : mw_ext M M_11 := by rw [hM_11]; exact mw_ext.up x_10 n_6 _
      refine W.eq (g2 := F0 m 107 ls [.ref q_2]) rfl ?_
      have hjn : j = P.length / 3 := by omega
      have hbx9 : fs_bx G f M_11 q_2 (fs_en S w P) := by
        rw [fs_en, ← hjn]
        exact fs_mk f_13 f_12 rfl hgP (fun z => hX _ z n_6) hnx
      exact mx_aret (q := q_2) (M' := M_11) hx hb hr (Or.inl ⟨_, rfl⟩) hlocks hP hS ⟨q_2, rfl, x_14, hbx9⟩ dX3_enclosing_107 (Nat.le_of_ble_eq_true rfl) (Nat.le_of_ble_eq_true rfl)
    | succ n ih =>
      intro j hj H locs ls hP hS hl
      have e33 : nI (3 * j) + 3 = nI (3 * j + 3) := by rw [show (3 : Int32) = nI 3 from rfl, nI_add]
      have hK14 : ¬ nI P.length < nI (3 * j) + 3 := by rw [e33]; exact nI_nlt (by omega) (by omega)
      obtain ⟨bi, h_bi, ebi⟩ := hPin j (by omega)
      refine lv_iload hx hb dX3_enclosing_8 (lv_at hl 5 rfl) ?_
      refine lv_iconst (v := 3) hx hb dX3_enclosing_10 (by decide) ?_
      refine lv_iadd hx hb dX3_enclosing_11 ?_
      refine lv_aload_n hx hb dX3_enclosing_12 rfl (lv_at hl 2 rfl) ?_
      refine mw_alen (v := (nI P.length)) hx hb hK hP 0 hpl rfl rfl dX3_enclosing_13 ?_
      refine lv_icmp_gt (tgt := 95) hx hb dX3_enclosing_14 (by decide) (fun c_15 => absurd c_15 hK14) (fun c_15 => ?_)
      refine lv_aload_n hx hb dX3_enclosing_17 rfl (lv_at hl 2 rfl) ?_
      refine lv_iload hx hb dX3_enclosing_18 (lv_at hl 5 rfl) ?_
      refine mw_iald hx hb hK hP 0 hpl rfl (vp_in_nI (show 3 * j < P.length by omega) (by omega)) dX3_enclosing_20 ?_
      refine W.eq (g2 := F0 m 21 ls [.int (nI bi)]) (by rw [nI_clamp (show 3 * j < 2 ^ 31 by omega), hgP _ (show 3 * j < P.length by omega), ebi]) ?_
      refine lv_istore (lv' := [(6, .int (nI bi)), (0, .ref (f0 f)), (1, .int w), (2, .ref pl), (3, .int (fs_eh S P j)), (4, .int (fs_ed S P j)), (5, .int (nI (3 * j)))]) hx hb dX3_enclosing_21 hl (by decide) rfl (fun ls hl => ?_)
      refine lv_aload_n hx hb dX3_enclosing_23 rfl (lv_at hl 3 rfl) ?_
      refine lv_iload hx hb dX3_enclosing_24 (lv_at hl 6 rfl) ?_
      refine lv_iconst (v := 2) hx hb dX3_enclosing_26 (by decide) ?_
      refine lv_iadd hx hb dX3_enclosing_27 ?_
      refine mw_iald hx hb hK hP 0 hpl rfl (by rw [(show nI (3 * j) + 2 = nI (3 * j + 2) by rw [show (2 : Int32) = nI 2 from rfl, nI_add])]; exact vp_in_nI (show 3 * j + 2 < P.length by omega) (by omega)) dX3_enclosing_28 ?_
      refine W.eq (g2 := F0 m 29 ls [.int (P.getD (3 * j + 2) 0)]) (by rw [(show nI (3 * j) + 2 = nI (3 * j + 2) by rw [show (2 : Int32) = nI 2 from rfl, nI_add]), nI_clamp (show 3 * j + 2 < 2 ^ 31 by omega), hgP _ (show 3 * j + 2 < P.length by omega)]) ?_
      refine lv_istore (lv' := [(7, .int (P.getD (3 * j + 2) 0)), (6, .int (nI bi)), (0, .ref (f0 f)), (1, .int w), (2, .ref pl), (3, .int (fs_eh S P j)), (4, .int (fs_ed S P j)), (5, .int (nI (3 * j)))]) hx hb dX3_enclosing_29 hl (by decide) rfl (fun ls hl => ?_)
      refine lv_iload hx hb dX3_enclosing_31 (lv_at hl 0 rfl) ?_
      refine lv_aload_n hx hb dX3_enclosing_33 rfl (lv_at hl 2 rfl) ?_
      refine lv_iload hx hb dX3_enclosing_34 (lv_at hl 1 rfl) ?_
      refine mw_callV (C := RX3) (As := [.int (nI bi)]) (rest := [.int (P.getD (3 * j + 2) 0)]) hx hb hml hown hl (kX3_heightOf l htr G H.size M f S hR bi h_bi) (g_B (n := 1) htb wd402 wd1 wd399 (by decide +kernel) ⟨Nat.le_of_ble_eq_true rfl, Nat.le_of_ble_eq_true rfl⟩) (htb _ wd401) (htb _ ws13) hE hP hS (fs_R.this hR) rfl rfl rfl (Nat.le_of_ble_eq_true rfl) dX3_enclosing_36 ⟨Nat.le_of_ble_eq_true rfl, Nat.le_of_ble_eq_true rfl⟩ (fun v9 M9 H locs hpo hP hz hS => ?_) (fun x9 E9 cell9 H9 locs9 hE9 => hE9.elim)
      obtain ⟨rfl, rfl⟩ := hpo
      refine W.eq (g2 := F0 m 39 ls [.int (bH S bi), .int (P.getD (3 * j + 2) 0)]) rfl ?_
      refine lv_iadd hx hb dX3_enclosing_39 ?_
      refine lv_istore (lv' := [(8, .int ((P.getD (3 * j + 2) 0) + (bH S bi))), (7, .int (P.getD (3 * j + 2) 0)), (6, .int (nI bi)), (0, .ref (f0 f)), (1, .int w), (2, .ref pl), (3, .int (fs_eh S P j)), (4, .int (fs_ed S P j)), (5, .int (nI (3 * j)))]) hx hb dX3_enclosing_40 hl (by decide) rfl (fun ls hl => ?_)
      refine lv_aload_n hx hb dX3_enclosing_42 rfl (lv_at hl 3 rfl) ?_
      refine lv_iload hx hb dX3_enclosing_43 (lv_at hl 2 rfl) ?_
      refine mw_callV (C := RX3) (As := [.int (nI bi)]) (rest := []) hx hb hml hown hl (kX3_depthOf l htr G H.size M f S hR bi h_bi) (g_B (n := 1) htb wd397 wd1 wd394 (by decide +kernel) ⟨Nat.le_of_ble_eq_true rfl, Nat.le_of_ble_eq_true rfl⟩) (htb _ wd396) (htb _ ws12) hE hP hS (fs_R.this hR) rfl rfl rfl (Nat.le_of_ble_eq_true rfl) dX3_enclosing_45 ⟨Nat.le_of_ble_eq_true rfl, Nat.le_of_ble_eq_true rfl⟩ (fun v9 M9 H locs hpo hP hz hS => ?_) (fun x9 E9 cell9 H9 locs9 hE9 => hE9.elim)
      obtain ⟨rfl, rfl⟩ := hpo
      refine W.eq (g2 := F0 m 48 ls [.int (bD S bi)]) rfl ?_
      refine lv_iload hx hb dX3_enclosing_48 (lv_at hl 1 rfl) ?_
      refine lv_isub hx hb dX3_enclosing_50 ?_
      refine lv_istore (lv' := [(9, .int ((bD S bi) - (P.getD (3 * j + 2) 0))), (8, .int ((P.getD (3 * j + 2) 0) + (bH S bi))), (7, .int (P.getD (3 * j + 2) 0)), (6, .int (nI bi)), (0, .ref (f0 f)), (1, .int w), (2, .ref pl), (3, .int (fs_eh S P j)), (4, .int (fs_ed S P j)), (5, .int (nI (3 * j)))]) hx hb dX3_enclosing_51 hl (by decide) rfl (fun ls hl => ?_)
      refine lv_iload hx hb dX3_enclosing_53 (lv_at hl 9 rfl) ?_
      refine lv_if_ne (tgt := 63) hx hb dX3_enclosing_55 (by decide) (fun c_16 => ?_) (fun c_16 => ?_)
      · refine lv_iload_n hx hb dX3_enclosing_63 rfl (lv_at hl 7 rfl) ?_
        refine lv_iload hx hb dX3_enclosing_64 (lv_at hl 1 rfl) ?_
        refine va_mmax hx hb (hml.trans hl.1.symm) hown (htb _ wd398) (htb _ wd364) (htb _ wd13) (htb _ wd365) (Nat.le_of_ble_eq_true rfl) (Nat.le_of_ble_eq_true rfl) (Nat.le_of_ble_eq_true rfl) (Nat.le_of_ble_eq_true rfl) dX3_enclosing_66 ?_
        refine W.eq (g2 := F0 m 69 ls [.int (fMx (fs_eh S P j) ((P.getD (3 * j + 2) 0) + (bH S bi)))]) rfl ?_
        refine lv_istore_n (lv' := [(3, .int (fMx (fs_eh S P j) ((P.getD (3 * j + 2) 0) + (bH S bi)))), (9, .int ((bD S bi) - (P.getD (3 * j + 2) 0))), (8, .int ((P.getD (3 * j + 2) 0) + (bH S bi))), (7, .int (P.getD (3 * j + 2) 0)), (6, .int (nI bi)), (0, .ref (f0 f)), (1, .int w), (2, .ref pl), (4, .int (fs_ed S P j)), (5, .int (nI (3 * j)))]) hx hb dX3_enclosing_69 rfl hl (by decide) rfl (fun ls hl => ?_)
        refine lv_iload hx hb dX3_enclosing_70 (lv_at hl 9 rfl) ?_
        refine lv_if_ne (tgt := 80) hx hb dX3_enclosing_72 (by decide) (fun c_17 => ?_) (fun c_17 => absurd c_17 c_16)
        refine lv_iload hx hb dX3_enclosing_80 (lv_at hl 8 rfl) ?_
        refine lv_iload hx hb dX3_enclosing_82 (lv_at hl 1 rfl) ?_
        refine va_mmax hx hb (hml.trans hl.1.symm) hown (htb _ wd398) (htb _ wd364) (htb _ wd13) (htb _ wd365) (Nat.le_of_ble_eq_true rfl) (Nat.le_of_ble_eq_true rfl) (Nat.le_of_ble_eq_true rfl) (Nat.le_of_ble_eq_true rfl) dX3_enclosing_84 ?_
        refine W.eq (g2 := F0 m 87 ls [.int (fMx (fs_ed S P j) ((bD S bi) - (P.getD (3 * j + 2) 0)))]) rfl ?_
        refine lv_istore (lv' := [(4, .int (fMx (fs_ed S P j) ((bD S bi) - (P.getD (3 * j + 2) 0)))), (3, .int (fMx (fs_eh S P j) ((P.getD (3 * j + 2) 0) + (bH S bi)))), (9, .int ((bD S bi) - (P.getD (3 * j + 2) 0))), (8, .int ((P.getD (3 * j + 2) 0) + (bH S bi))), (7, .int (P.getD (3 * j + 2) 0)), (6, .int (nI bi)), (0, .ref (f0 f)), (1, .int w), (2, .ref pl), (5, .int (nI (3 * j)))]) hx hb dX3_enclosing_87 hl (by decide) rfl (fun ls hl => ?_)
        obtain ⟨v_18, ev_18⟩ : ∃ y : Int32, y = (nI (3 * j)) + 3 := ⟨_, rfl⟩
        refine lv_iinc (v := v_18) (lv' := [(5, .int v_18), (4, .int (fMx (fs_ed S P j) ((bD S bi) - (P.getD (3 * j + 2) 0)))), (3, .int (fMx (fs_eh S P j) ((P.getD (3 * j + 2) 0) + (bH S bi)))), (9, .int ((bD S bi) - (P.getD (3 * j + 2) 0))), (8, .int ((P.getD (3 * j + 2) 0) + (bH S bi))), (7, .int (P.getD (3 * j + 2) 0)), (6, .int (nI bi)), (0, .ref (f0 f)), (1, .int w), (2, .ref pl)]) hx hb dX3_enclosing_89 hl (k := 9) rfl (by rw [ev_18]; rfl) (by decide) rfl (fun ls hl => ?_)
        refine lv_goto (tgt := 8) hx hb dX3_enclosing_92 (by decide) ?_
        obtain rfl : v_18 = nI (3 * (j + 1)) := by rw [ev_18, show (3 : Int32) = nI 3 from rfl, nI_add]; rfl
        have hbn : (P.getD (3 * j) 0).toNatClampNeg = bi := by rw [ebi]; exact nI_clamp (show bi < 2 ^ 31 by have := hR.ok.1; omega)
        have hj0 : ¬ j = 0 := fun q => c_16 (by rw [q]; rfl)
        have eh : (fMx (fs_eh S P j) ((P.getD (3 * j + 2) 0) + (bH S bi))) = fs_eh S P (j + 1) := by simp only [fs_eh, if_neg hj0]; rw [hbn]
        have ed : (fMx (fs_ed S P j) ((bD S bi) - (P.getD (3 * j + 2) 0))) = fs_ed S P (j + 1) := by simp only [fs_ed, if_neg hj0]; rw [hbn]
        rw [eh, ed] at hl
        refine W.widen (k := 0) (n := 0) (Nat.le_of_ble_eq_true rfl) (Nat.le_of_ble_eq_true rfl) ?_
        exact ih (j + 1) (by omega) H locs ls hP hS (lv_sub hl [7, 8, 9, 2, 1, 0] rfl)
      · refine lv_iload hx hb dX3_enclosing_58 (lv_at hl 1 rfl) ?_
        refine lv_goto (tgt := 69) hx hb dX3_enclosing_60 (by decide) ?_
        refine lv_istore_n (lv' := [(3, .int ((P.getD (3 * j + 2) 0) + (bH S bi))), (9, .int ((bD S bi) - (P.getD (3 * j + 2) 0))), (8, .int ((P.getD (3 * j + 2) 0) + (bH S bi))), (7, .int (P.getD (3 * j + 2) 0)), (6, .int (nI bi)), (0, .ref (f0 f)), (1, .int w), (2, .ref pl), (4, .int (fs_ed S P j)), (5, .int (nI (3 * j)))]) hx hb dX3_enclosing_69 rfl hl (by decide) rfl (fun ls hl => ?_)
        refine lv_iload hx hb dX3_enclosing_70 (lv_at hl 9 rfl) ?_
        refine lv_if_ne (tgt := 80) hx hb dX3_enclosing_72 (by decide) (fun c_19 => absurd c_16 c_19) (fun c_19 => ?_)
        refine lv_iload hx hb dX3_enclosing_75 (lv_at hl 1 rfl) ?_
        refine lv_goto (tgt := 87) hx hb dX3_enclosing_77 (by decide) ?_
        refine lv_istore (lv' := [(4, .int ((bD S bi) - (P.getD (3 * j + 2) 0))), (3, .int ((P.getD (3 * j + 2) 0) + (bH S bi))), (9, .int ((bD S bi) - (P.getD (3 * j + 2) 0))), (8, .int ((P.getD (3 * j + 2) 0) + (bH S bi))), (7, .int (P.getD (3 * j + 2) 0)), (6, .int (nI bi)), (0, .ref (f0 f)), (1, .int w), (2, .ref pl), (5, .int (nI (3 * j)))]) hx hb dX3_enclosing_87 hl (by decide) rfl (fun ls hl => ?_)
        obtain ⟨v_20, ev_20⟩ : ∃ y : Int32, y = (nI (3 * j)) + 3 := ⟨_, rfl⟩
        refine lv_iinc (v := v_20) (lv' := [(5, .int v_20), (4, .int ((bD S bi) - (P.getD (3 * j + 2) 0))), (3, .int ((P.getD (3 * j + 2) 0) + (bH S bi))), (9, .int ((bD S bi) - (P.getD (3 * j + 2) 0))), (8, .int ((P.getD (3 * j + 2) 0) + (bH S bi))), (7, .int (P.getD (3 * j + 2) 0)), (6, .int (nI bi)), (0, .ref (f0 f)), (1, .int w), (2, .ref pl)]) hx hb dX3_enclosing_89 hl (k := 9) rfl (by rw [ev_20]; rfl) (by decide) rfl (fun ls hl => ?_)
        refine lv_goto (tgt := 8) hx hb dX3_enclosing_92 (by decide) ?_
        obtain rfl : v_20 = nI (3 * (j + 1)) := by rw [ev_20, show (3 : Int32) = nI 3 from rfl, nI_add]; rfl
        have hbn : (P.getD (3 * j) 0).toNatClampNeg = bi := by rw [ebi]; exact nI_clamp (show bi < 2 ^ 31 by have := hR.ok.1; omega)
        have hj0 : j = 0 := by
          rcases Nat.eq_zero_or_pos j with q | q
          · exact q
          · exact absurd c_16 (nI_ne0 (by omega) (by omega))
        have e00 : P.getD 0 0 = P.getD (3 * j) 0 := by rw [hj0]
        have eh : ((P.getD (3 * j + 2) 0) + (bH S bi)) = fs_eh S P (j + 1) := by simp only [fs_eh, if_pos hj0]; rw [e00, hbn, hj0]
        have ed : ((bD S bi) - (P.getD (3 * j + 2) 0)) = fs_ed S P (j + 1) := by simp only [fs_ed, if_pos hj0]; rw [e00, hbn, hj0]
        rw [eh, ed] at hl
        refine W.widen (k := 0) (n := 0) (Nat.le_of_ble_eq_true rfl) (Nat.le_of_ble_eq_true rfl) ?_
        exact ih (j + 1) (by omega) H locs ls hP hS (lv_sub hl [7, 8, 9, 2, 1, 0] rfl)
  exact loop (P.length / 3) 0 (by omega) _ _ _ hP hS (lv_sub hl [3, 4, 5, 2, 1, 0] rfl)
