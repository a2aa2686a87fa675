/-! printed by wip/whole/spec*.py -/
-- keep
set_option maxHeartbeats 4000000 in
set_option maxRecDepth 100000 in
theorem kX3_keep (l : Launch) (htr : l.stackTraces = false) (G : gx_G) (sz : Nat) (M : mw_M) (f : fs_A) (S : fs_S) (hR : fs_R G f M S) (hn : sN S < 120) (q : Nat) (b : fs_B) (hbx : fs_bx G f M q b) (hpl : fs_pl S b.2.2.2.1) : g_Met l G yX3_keep (.code yX3_keep cX3_keep 3 (some .int)) ({ frames := 1, cells := 0, slots := 0, locals := 60 } : Room) sz M [.ref (f0 f), .ref q] (fun v M9 => v = some (.int (nI (sN S))) ∧ fs_R G f M9 (fs_push S b) ∧ fs_keeps f M M9) (fun _ => False) := by
  refine MetE.ofW (cc := cX3_keep) (maxL := 3) (ret := (some .int)) (by decide) rfl ?_
  intro p e s m args below meth c s₁ B hml hv
  obtain ⟨rfl, hsz, hP, hE⟩ := hv
  have hx := B.exec
  have hb := B.bytes
  have hr := B.returns
  have hts := atoms_spec (ws := _ :: lw_big) B.pre
  have htb : ∀ w ∈ lw_big, w.before _ s = true := fun w h => hts w (List.mem_cons_of_mem _ h)
  have hno := B.noHandlers (hts _ List.mem_cons_self)
  have hown : s.vm.findClass RX3 = some m.cls := findClass_of_methodNamed B.named
  have hlocks := B.notSynchronized
  have hK := hE.1
  subst hsz
  have hS : va_S (gA G) s.heap s.heap [] := va_S.rf
  have hl := lv_entry ([.ref (f0 f), .ref q]) (n := 3) (Nat.le_of_ble_eq_true rfl)
  rw [lg_entry_eq]
  generalize (lg_sl ([.ref (f0 f), .ref q]) ++ List.replicate (3 - (lg_sl ([.ref (f0 f), .ref q])).length) Slot.unset).toArray = ls at hl ⊢
  have hl : lv_has ls 3 [(0, .ref (f0 f)), (1, .ref q)] := hl
  obtain ⟨gm, gf, g, h1, h2, h3, h4, h5, h6, h7, h8, h9⟩ := id hR
  obtain ⟨pl, gp, hb1, hb2, hb3, hb4, hb5⟩ := id hbx
  refine lv_aload_n hx hb dX3_keep_0 rfl (lv_at hl 0 rfl) ?_
  refine mw_get (D := gD G) (ci := 3) (v := .int (nI (sN S))) (C := RX3) (T := TX3) (N := 6) hx hb htb inX3 hown hK hP h1 rfl 1 (by decide) (htb _ wd57) (fun _ h9 => h9) rfl dX3_keep_1 ?_
  refine lv_istore_n (lv' := [(2, .int (nI (sN S))), (0, .ref (f0 f)), (1, .ref q)]) hx hb dX3_keep_4 rfl hl (by decide) rfl (fun ls hl => ?_)
  refine lv_aload_n hx hb dX3_keep_5 rfl (lv_at hl 1 rfl) ?_
  refine mw_get (D := gD G) (ci := 3) (v := .ref (fM f)) (C := RX3) (T := TX3) (N := 6) hx hb htb inX3 hown hK hP h1 rfl 0 (by decide) (htb _ wd56) (fun _ h9 => h9) rfl dX3_keep_6 ?_
  refine lv_iload_n hx hb dX3_keep_9 rfl (lv_at hl 0 rfl) ?_
  refine lv_aload_n hx hb dX3_keep_10 rfl (lv_at hl 2 rfl) ?_
  refine mw_aast (r := (RX0, TX0, 6)) hx hb hK hP hS 1 0 h2 (h9.2.1 _ (Or.inr (Or.inl rfl))) rfl hb1 rfl (vp_in_nI hn (by decide)) dX3_keep_11 (fun H locs hP hS => ?_)
  rw [nI_clamp (show sN S < 2 ^ 31 by omega)] at hP
  obtain ⟨M_1, hM_1⟩ : ∃ z9 : mw_M, z9 = mw_up M (fM f) (.inl (gB G, 120, .inr (.inr (.inr (.inr (va_up gm (sN S) (some q))))))) := ⟨_, rfl⟩
  have hP : mw_P (gD G) gx_cl M_1 H := by rw [hM_1]; exact hP
  have f_2 : M_1 (f0 f) = some (.inr (3, [.ref (fM f), .int (nI (sN S)), .ref (fF f), .ref (fP f), .int (sSp S), .int (sSh S)])) := by rw [hM_1, mw_ne _ _ (fun z => by have z1 := h1; rw [z, h2] at z1; simp at z1)]; exact h1
  have f_3 : M_1 (fM f) = some (.inl (gB G, 120, .inr (.inr (.inr (.inr (va_up gm (sN S) (some q))))))) := by rw [hM_1]; exact mw_self _ _ _
  have f_4 : M_1 q = some (.inr (0, [.int b.1, .int b.2.1, .int b.2.2.1, .ref pl, .int b.2.2.2.2.1, .int b.2.2.2.2.2])) := by rw [hM_1, mw_ne _ _ (fun z => by have z1 := hb1; rw [z, h2] at z1; simp at z1)]; exact hb1
  refine lv_aload_n hx hb dX3_keep_12 rfl (lv_at hl 1 rfl) ?_
  refine lv_dup hx hb dX3_keep_13 rfl ?_
  refine mw_get (D := gD G) (ci := 3) (v := .int (nI (sN S))) (C := RX3) (T := TX3) (N := 6) hx hb htb inX3 hown hK hP f_2 rfl 1 (by decide) (htb _ wd57) (fun _ h9 => h9) rfl dX3_keep_14 ?_
  refine lv_iconst (v := 1) hx hb dX3_keep_17 (by decide) ?_
  refine lv_iadd hx hb dX3_keep_18 ?_
  refine mw_put (D := gD G) (ci := 3) (v := .int ((nI (sN S)) + 1)) (ty := .int) (C := RX3) (T := TX3) (N := 6) hx hb htb inX3 tyX3 tyX3_ok nmX3 hown hK hP hS f_2 (h9.2.1 _ (Or.inl rfl)) rfl 1 (by decide) (htb _ wd57) (fun _ h9 => h9) rfl (by decide +kernel) rfl rfl (Nat.le_of_ble_eq_true rfl) dX3_keep_19 (fun H locs hP hS => ?_)
  obtain ⟨M_5, hM_5⟩ : ∃ z9 : mw_M, z9 = mw_up M_1 (f0 f) (.inr (3, [.ref (fM f), .int ((nI (sN S)) + 1), .ref (fF f), .ref (fP f), .int (sSp S), .int (sSh S)])) := ⟨_, rfl⟩
  have hP : mw_P (gD G) gx_cl M_5 H := by rw [hM_5]; exact hP
  have f_6 : M_5 (f0 f) = some (.inr (3, [.ref (fM f), .int ((nI (sN S)) + 1), .ref (fF f), .ref (fP f), .int (sSp S), .int (sSh S)])) := by rw [hM_5]; exact mw_self _ _ _
  have f_7 : M_5 (fM f) = some (.inl (gB G, 120, .inr (.inr (.inr (.inr (va_up gm (sN S) (some q))))))) := by rw [hM_5, mw_ne _ _ (fun z => by have z1 := f_3; rw [z, f_2] at z1; simp at z1)]; exact f_3
  have f_8 : M_5 q = some (.inr (0, [.int b.1, .int b.2.1, .int b.2.2.1, .ref pl, .int b.2.2.2.2.1, .int b.2.2.2.2.2])) := by rw [hM_5, mw_ne _ _ (fun z => by have z1 := f_4; rw [z, f_2] at z1; simp at z1)]; exact f_4
  refine lv_iload_n hx hb dX3_keep_22 rfl (lv_at hl 0 rfl) ?_
  obtain ⟨hR9, hk9⟩ := fs_R.push hR hbx hn hpl h2 hM_1 hM_5
  exact mx_iret (v := (nI (sN S))) (M' := M_5) hx hb hr hlocks hP hS ⟨rfl, hR9, hk9⟩ dX3_keep_23 (Nat.le_of_ble_eq_true rfl) (Nat.le_of_ble_eq_true rfl)
