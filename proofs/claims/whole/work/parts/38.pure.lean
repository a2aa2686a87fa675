/-! printed by wip/whole/spec*.py -/
-- X3_rootClearance
set_option maxHeartbeats 4000000 in
set_option maxRecDepth 100000 in
theorem kX3_rootClearance (l : Launch) (htr : l.stackTraces = false) (G : gx_G) (sz : Nat) (M : mw_M) (f : fs_A) (S : fs_S) (hR : fs_R G f M S) (st : Nat) (h_st : st < 4) : g_Met l G yX3_rootClearance (.code yX3_rootClearance cX3_rootClearance 4 (some .int)) ({ frames := 2, cells := 0, slots := 0, locals := 100 } : Room) sz M [.ref (f0 f), .int (nI st)] (fun v M9 => v = some (.int (fs_rc S st)) ∧ M = M9) (fun _ => False) := by
  refine MetE.ofW (cc := cX3_rootClearance) (maxL := 4) (ret := (some .int)) (by decide) rfl ?_
  intro p e s m args below meth c s₁ B hml hv
  obtain ⟨rfl, hsz, hP, hE⟩ := hv
  have hx := B.exec
  have hb := B.bytes
  have hr := B.returns
  have hts := atoms_spec (ws := _ :: lw_big) B.pre
  have htb : ∀ w ∈ lw_big, w.before _ s = true := fun w h => hts w (List.mem_cons_of_mem _ h)
  have hno := B.noHandlers (hts _ List.mem_cons_self)
  have hown : s.vm.findClass RX3 = some m.cls := findClass_of_methodNamed B.named
  have hlocks := B.notSynchronized
  have hK := hE.1
  subst hsz
  have hS : va_S (gA G) s.heap s.heap [] := va_S.rf
  have hl := lv_entry ([.ref (f0 f), .int (nI st)]) (n := 4) (Nat.le_of_ble_eq_true rfl)
  rw [lg_entry_eq]
  generalize (lg_sl ([.ref (f0 f), .int (nI st)]) ++ List.replicate (4 - (lg_sl ([.ref (f0 f), .int (nI st)])).length) Slot.unset).toArray = ls at hl ⊢
  have hl : lv_has ls 4 [(0, .ref (f0 f)), (1, .int (nI st))] := hl
  refine lv_aload_n hx hb dX3_rootClearance_0 rfl (lv_at hl 0 rfl) ?_
  refine lv_iload_n hx hb dX3_rootClearance_1 rfl (lv_at hl 1 rfl) ?_
  refine lv_bipush (v := 13) hx hb dX3_rootClearance_2 (by decide) ?_
  refine mw_callV (C := RX3) (As := [.int (nI st), .int 13]) (rest := []) hx hb hml hown hl (kX3_valueOf l htr G s.heap.size M f S hR st 13 h_st (by decide)) (g_B (n := 2) htb wd390 wd1 wd387 (by decide +kernel) ⟨Nat.le_of_ble_eq_true rfl, Nat.le_of_ble_eq_true rfl⟩) (htb _ wd389) (htb _ ws11) hE hP hS (fs_R.this hR) rfl rfl rfl (Nat.le_of_ble_eq_true rfl) dX3_rootClearance_4 ⟨Nat.le_of_ble_eq_true rfl, Nat.le_of_ble_eq_true rfl⟩ (fun v9 M9 H locs hpo hP hz hS => ?_) (fun x9 E9 cell9 H9 locs9 hE9 => hE9.elim)
  obtain ⟨rfl, rfl⟩ := hpo
  refine W.eq (g2 := F0 m 7 ls [.int (pV S st 13)]) rfl ?_
  refine lv_istore_n (lv' := [(2, .int (pV S st 13)), (0, .ref (f0 f)), (1, .int (nI st))]) hx hb dX3_rootClearance_7 rfl hl (by decide) rfl (fun ls hl => ?_)
  refine lv_iload_n hx hb dX3_rootClearance_8 rfl (lv_at hl 2 rfl) ?_
  refine lv_if_ne (tgt := 22) hx hb dX3_rootClearance_9 (by decide) (fun c_1 => ?_) (fun c_1 => ?_)
  · refine lv_iload_n hx hb dX3_rootClearance_22 rfl (lv_at hl 0 rfl) ?_
    refine lv_istore_n (lv' := [(3, .int (pV S st 13)), (2, .int (pV S st 13)), (0, .ref (f0 f)), (1, .int (nI st))]) hx hb dX3_rootClearance_23 rfl hl (by decide) rfl (fun ls hl => ?_)
    refine lv_iload_n hx hb dX3_rootClearance_24 rfl (lv_at hl 1 rfl) ?_
    refine lv_iload_n hx hb dX3_rootClearance_25 rfl (lv_at hl 0 rfl) ?_
    refine va_mabs hx hb (hml.trans hl.1.symm) hown (htb _ wd423) (htb _ wd424) (htb _ wd13) (htb _ wd425) (Nat.le_of_ble_eq_true rfl) (Nat.le_of_ble_eq_true rfl) (Nat.le_of_ble_eq_true rfl) (Nat.le_of_ble_eq_true rfl) dX3_rootClearance_26 ?_
    refine W.eq (g2 := F0 m 29 ls [.int (fAb (pV S st 13)), .int (pV S st 13)]) rfl ?_
    refine lv_iconst (v := 4) hx hb dX3_rootClearance_29 (by decide) ?_
    refine lv_idiv hx hb dX3_rootClearance_30 (by decide) ?_
    refine lv_iadd hx hb dX3_rootClearance_31 ?_
    exact mx_iret (v := ((pV S st 13) + ((fAb (pV S st 13)) / 4))) (M' := M) hx hb hr hlocks hP hS ⟨by simp only [fs_rc, if_neg c_1], rfl⟩ dX3_rootClearance_32 (Nat.le_of_ble_eq_true rfl) (Nat.le_of_ble_eq_true rfl)
  · refine lv_aload_n hx hb dX3_rootClearance_12 rfl (lv_at hl 1 rfl) ?_
    refine lv_iload_n hx hb dX3_rootClearance_13 rfl (lv_at hl 2 rfl) ?_
    refine lv_bipush (v := 14) hx hb dX3_rootClearance_14 (by decide) ?_
    refine mw_callV (C := RX3) (As := [.int (nI st), .int 14]) (rest := []) hx hb hml hown hl (kX3_valueOf l htr G H.size M f S hR st 14 h_st (by decide)) (g_B (n := 2) htb wd390 wd1 wd387 (by decide +kernel) ⟨Nat.le_of_ble_eq_true rfl, Nat.le_of_ble_eq_true rfl⟩) (htb _ wd389) (htb _ ws11) hE hP hS (fs_R.this hR) rfl rfl rfl (Nat.le_of_ble_eq_true rfl) dX3_rootClearance_16 ⟨Nat.le_of_ble_eq_true rfl, Nat.le_of_ble_eq_true rfl⟩ (fun v9 M9 H locs hpo hP hz hS => ?_) (fun x9 E9 cell9 H9 locs9 hE9 => hE9.elim)
    obtain ⟨rfl, rfl⟩ := hpo
    refine W.eq (g2 := F0 m 19 ls [.int (pV S st 14)]) rfl ?_
    refine lv_goto (tgt := 23) hx hb dX3_rootClearance_19 (by decide) ?_
    refine lv_istore_n (lv' := [(3, .int (pV S st 14)), (2, .int (pV S st 13)), (0, .ref (f0 f)), (1, .int (nI st))]) hx hb dX3_rootClearance_23 rfl hl (by decide) rfl (fun ls hl => ?_)
    refine lv_iload_n hx hb dX3_rootClearance_24 rfl (lv_at hl 1 rfl) ?_
    refine lv_iload_n hx hb dX3_rootClearance_25 rfl (lv_at hl 0 rfl) ?_
    refine va_mabs hx hb (hml.trans hl.1.symm) hown (htb _ wd423) (htb _ wd424) (htb _ wd13) (htb _ wd425) (Nat.le_of_ble_eq_true rfl) (Nat.le_of_ble_eq_true rfl) (Nat.le_of_ble_eq_true rfl) (Nat.le_of_ble_eq_true rfl) dX3_rootClearance_26 ?_
    refine W.eq (g2 := F0 m 29 ls [.int (fAb (pV S st 14)), .int (pV S st 13)]) rfl ?_
    refine lv_iconst (v := 4) hx hb dX3_rootClearance_29 (by decide) ?_
    refine lv_idiv hx hb dX3_rootClearance_30 (by decide) ?_
    refine lv_iadd hx hb dX3_rootClearance_31 ?_
    exact mx_iret (v := ((pV S st 13) + ((fAb (pV S st 14)) / 4))) (M' := M) hx hb hr hlocks hP hS ⟨by simp only [fs_rc, if_pos c_1], rfl⟩ dX3_rootClearance_32 (Nat.le_of_ble_eq_true rfl) (Nat.le_of_ble_eq_true rfl)
-- X3_fourFifths
set_option maxHeartbeats 4000000 in
set_option maxRecDepth 100000 in
theorem kX3_fourFifths (l : Launch) (htr : l.stackTraces = false) (G : gx_G) (sz : Nat) (M : mw_M) (f : fs_A) (S : fs_S) (hR : fs_R G f M S) (st : Nat) (h_st : st < 4) : g_Met l G yX3_fourFifths (.code yX3_fourFifths cX3_fourFifths 2 (some .int)) ({ frames := 2, cells := 0, slots := 0, locals := 100 } : Room) sz M [.ref (f0 f), .int (nI st)] (fun v M9 => v = some (.int (fs_45 S st)) ∧ M = M9) (fun _ => False) := by
  refine MetE.ofW (cc := cX3_fourFifths) (maxL := 2) (ret := (some .int)) (by decide) rfl ?_
  intro p e s m args below meth c s₁ B hml hv
  obtain ⟨rfl, hsz, hP, hE⟩ := hv
  have hx := B.exec
  have hb := B.bytes
  have hr := B.returns
  have hts := atoms_spec (ws := _ :: lw_big) B.pre
  have htb : ∀ w ∈ lw_big, w.before _ s = true := fun w h => hts w (List.mem_cons_of_mem _ h)
  have hno := B.noHandlers (hts _ List.mem_cons_self)
  have hown : s.vm.findClass RX3 = some m.cls := findClass_of_methodNamed B.named
  have hlocks := B.notSynchronized
  have hK := hE.1
  subst hsz
  have hS : va_S (gA G) s.heap s.heap [] := va_S.rf
  have hl := lv_entry ([.ref (f0 f), .int (nI st)]) (n := 2) (Nat.le_of_ble_eq_true rfl)
  rw [lg_entry_eq]
  generalize (lg_sl ([.ref (f0 f), .int (nI st)]) ++ List.replicate (2 - (lg_sl ([.ref (f0 f), .int (nI st)])).length) Slot.unset).toArray = ls at hl ⊢
  have hl : lv_has ls 2 [(0, .ref (f0 f)), (1, .int (nI st))] := hl
  refine lv_iconst (v := 4) hx hb dX3_fourFifths_0 (by decide) ?_
  refine lv_aload_n hx hb dX3_fourFifths_1 rfl (lv_at hl 0 rfl) ?_
  refine lv_iload_n hx hb dX3_fourFifths_2 rfl (lv_at hl 1 rfl) ?_
  refine lv_bipush (v := 14) hx hb dX3_fourFifths_3 (by decide) ?_
  refine mw_callV (C := RX3) (As := [.int (nI st), .int 14]) (rest := [.int 4]) hx hb hml hown hl (kX3_valueOf l htr G s.heap.size M f S hR st 14 h_st (by decide)) (g_B (n := 2) htb wd390 wd1 wd387 (by decide +kernel) ⟨Nat.le_of_ble_eq_true rfl, Nat.le_of_ble_eq_true rfl⟩) (htb _ wd389) (htb _ ws11) hE hP hS (fs_R.this hR) rfl rfl rfl (Nat.le_of_ble_eq_true rfl) dX3_fourFifths_5 ⟨Nat.le_of_ble_eq_true rfl, Nat.le_of_ble_eq_true rfl⟩ (fun v9 M9 H locs hpo hP hz hS => ?_) (fun x9 E9 cell9 H9 locs9 hE9 => hE9.elim)
  obtain ⟨rfl, rfl⟩ := hpo
  refine W.eq (g2 := F0 m 8 ls [.int (pV S st 14), .int 4]) rfl ?_
  refine lv_imul hx hb dX3_fourFifths_8 ?_
  refine va_mabs hx hb (hml.trans hl.1.symm) hown (htb _ wd423) (htb _ wd424) (htb _ wd13) (htb _ wd425) (Nat.le_of_ble_eq_true rfl) (Nat.le_of_ble_eq_true rfl) (Nat.le_of_ble_eq_true rfl) (Nat.le_of_ble_eq_true rfl) dX3_fourFifths_9 ?_
  refine W.eq (g2 := F0 m 12 ls [.int (fAb (4 * (pV S st 14)))]) rfl ?_
  refine lv_iconst (v := 5) hx hb dX3_fourFifths_12 (by decide) ?_
  refine lv_idiv hx hb dX3_fourFifths_13 (by decide) ?_
  exact mx_iret (v := ((fAb (4 * (pV S st 14))) / 5)) (M' := M) hx hb hr hlocks hP hS ⟨by simp only [fs_45], rfl⟩ dX3_fourFifths_14 (Nat.le_of_ble_eq_true rfl) (Nat.le_of_ble_eq_true rfl)
-- X3_upShift
set_option maxHeartbeats 4000000 in
set_option maxRecDepth 100000 in
theorem kX3_upShift (l : Launch) (htr : l.stackTraces = false) (G : gx_G) (sz : Nat) (M : mw_M) (f : fs_A) (S : fs_S) (hR : fs_R G f M S) (st : Nat) (h_st : st < 4) (cr u : Int32) (a : Nat) (h_a : a < sN S) : g_Met l G yX3_upShift (.code yX3_upShift cX3_upShift 7 (some .int)) ({ frames := 2, cells := 0, slots := 0, locals := 100 } : Room) sz M [.ref (f0 f), .int (nI st), .int cr, .int u, .int (nI a)] (fun v M9 => v = some (.int (fs_us S st cr u a)) ∧ M = M9) (fun _ => False) := by
  refine MetE.ofW (cc := cX3_upShift) (maxL := 7) (ret := (some .int)) (by decide) rfl ?_
  intro p e s m args below meth c s₁ B hml hv
  obtain ⟨rfl, hsz, hP, hE⟩ := hv
  have hx := B.exec
  have hb := B.bytes
  have hr := B.returns
  have hts := atoms_spec (ws := _ :: lw_big) B.pre
  have htb : ∀ w ∈ lw_big, w.before _ s = true := fun w h => hts w (List.mem_cons_of_mem _ h)
  have hno := B.noHandlers (hts _ List.mem_cons_self)
  have hown : s.vm.findClass RX3 = some m.cls := findClass_of_methodNamed B.named
  have hlocks := B.notSynchronized
  have hK := hE.1
  subst hsz
  have hS : va_S (gA G) s.heap s.heap [] := va_S.rf
  have hl := lv_entry ([.ref (f0 f), .int (nI st), .int cr, .int u, .int (nI a)]) (n := 7) (Nat.le_of_ble_eq_true rfl)
  rw [lg_entry_eq]
  generalize (lg_sl ([.ref (f0 f), .int (nI st), .int cr, .int u, .int (nI a)]) ++ List.replicate (7 - (lg_sl ([.ref (f0 f), .int (nI st), .int cr, .int u, .int (nI a)])).length) Slot.unset).toArray = ls at hl ⊢
  have hl : lv_has ls 7 [(0, .ref (f0 f)), (1, .int (nI st)), (2, .int cr), (3, .int u), (4, .int (nI a))] := hl
  refine lv_iload_n hx hb dX3_upShift_0 rfl (lv_at hl 2 rfl) ?_
  refine lv_if_eq (tgt := 9) hx hb dX3_upShift_1 (by decide) (fun c_1 => ?_) (fun c_1 => ?_)
  · refine lv_iload_n hx hb dX3_upShift_9 rfl (lv_at hl 1 rfl) ?_
    refine lv_if_ne (tgt := 18) hx hb dX3_upShift_10 (by decide) (fun c_2 => ?_) (fun c_2 => ?_)
    · refine lv_bipush (v := 7) hx hb dX3_upShift_18 (by decide) ?_
      refine lv_istore (lv' := [(5, .int 7), (0, .ref (f0 f)), (1, .int (nI st)), (2, .int cr), (3, .int u), (4, .int (nI a))]) hx hb dX3_upShift_20 hl (by decide) rfl (fun ls hl => ?_)
      refine lv_iload_n hx hb dX3_upShift_22 rfl (lv_at hl 4 rfl) ?_
      refine lv_aload_n hx hb dX3_upShift_23 rfl (lv_at hl 1 rfl) ?_
      refine lv_iload_n hx hb dX3_upShift_24 rfl (lv_at hl 2 rfl) ?_
      refine lv_iload hx hb dX3_upShift_25 (lv_at hl 0 rfl) ?_
      refine mw_callV (C := RX3) (As := [.int (nI st), .int 7]) (rest := [.int u]) hx hb hml hown hl (kX3_valueOf l htr G s.heap.size M f S hR st 7 h_st (by decide)) (g_B (n := 2) htb wd390 wd1 wd387 (by decide +kernel) ⟨Nat.le_of_ble_eq_true rfl, Nat.le_of_ble_eq_true rfl⟩) (htb _ wd389) (htb _ ws11) hE hP hS (fs_R.this hR) rfl rfl rfl (Nat.le_of_ble_eq_true rfl) dX3_upShift_27 ⟨Nat.le_of_ble_eq_true rfl, Nat.le_of_ble_eq_true rfl⟩ (fun v9 M9 H locs hpo hP hz hS => ?_) (fun x9 E9 cell9 H9 locs9 hE9 => hE9.elim)
      obtain ⟨rfl, rfl⟩ := hpo
      refine W.eq (g2 := F0 m 30 ls [.int (pV S st 7), .int u]) rfl ?_
      refine va_mmax hx hb (hml.trans hl.1.symm) hown (htb _ wd398) (htb _ wd364) (htb _ wd13) (htb _ wd365) (Nat.le_of_ble_eq_true rfl) (Nat.le_of_ble_eq_true rfl) (Nat.le_of_ble_eq_true rfl) (Nat.le_of_ble_eq_true rfl) dX3_upShift_30 ?_
      refine W.eq (g2 := F0 m 33 ls [.int (fMx u (pV S st 7))]) rfl ?_
      refine lv_istore (lv' := [(6, .int (fMx u (pV S st 7))), (5, .int 7), (0, .ref (f0 f)), (1, .int (nI st)), (2, .int cr), (3, .int u), (4, .int (nI a))]) hx hb dX3_upShift_33 hl (by decide) rfl (fun ls hl => ?_)
      refine lv_iload hx hb dX3_upShift_35 (lv_at hl 0 rfl) ?_
      refine lv_aload_n hx hb dX3_upShift_37 rfl (lv_at hl 2 rfl) ?_
      refine lv_iload hx hb dX3_upShift_38 (lv_at hl 6 rfl) ?_
      refine mw_callV (C := RX3) (As := [.int (nI a)]) (rest := [.int (fMx u (pV S st 7))]) hx hb hml hown hl (kX3_depthOf l htr G H.size M f S hR a h_a) (g_B (n := 1) htb wd397 wd1 wd394 (by decide +kernel) ⟨Nat.le_of_ble_eq_true rfl, Nat.le_of_ble_eq_true rfl⟩) (htb _ wd396) (htb _ ws12) hE hP hS (fs_R.this hR) rfl rfl rfl (Nat.le_of_ble_eq_true rfl) dX3_upShift_40 ⟨Nat.le_of_ble_eq_true rfl, Nat.le_of_ble_eq_true rfl⟩ (fun v9 M9 H locs hpo hP hz hS => ?_) (fun x9 E9 cell9 H9 locs9 hE9 => hE9.elim)
      obtain ⟨rfl, rfl⟩ := hpo
      refine W.eq (g2 := F0 m 43 ls [.int (bD S a), .int (fMx u (pV S st 7))]) rfl ?_
      refine lv_aload_n hx hb dX3_upShift_43 rfl (lv_at hl 2 rfl) ?_
      refine lv_iload_n hx hb dX3_upShift_44 rfl (lv_at hl 3 rfl) ?_
      refine lv_bipush (v := 14) hx hb dX3_upShift_45 (by decide) ?_
      refine mw_callV (C := RX3) (As := [.int (nI st), .int 14]) (rest := [.int (bD S a), .int (fMx u (pV S st 7))]) hx hb hml hown hl (kX3_valueOf l htr G H.size M f S hR st 14 h_st (by decide)) (g_B (n := 2) htb wd390 wd1 wd387 (by decide +kernel) ⟨Nat.le_of_ble_eq_true rfl, Nat.le_of_ble_eq_true rfl⟩) (htb _ wd389) (htb _ ws11) hE hP hS (fs_R.this hR) rfl rfl rfl (Nat.le_of_ble_eq_true rfl) dX3_upShift_47 ⟨Nat.le_of_ble_eq_true rfl, Nat.le_of_ble_eq_true rfl⟩ (fun v9 M9 H locs hpo hP hz hS => ?_) (fun x9 E9 cell9 H9 locs9 hE9 => hE9.elim)
      obtain ⟨rfl, rfl⟩ := hpo
      refine W.eq (g2 := F0 m 50 ls [.int (pV S st 14), .int (bD S a), .int (fMx u (pV S st 7))]) rfl ?_
      refine va_mabs hx hb (hml.trans hl.1.symm) hown (htb _ wd423) (htb _ wd424) (htb _ wd13) (htb _ wd425) (Nat.le_of_ble_eq_true rfl) (Nat.le_of_ble_eq_true rfl) (Nat.le_of_ble_eq_true rfl) (Nat.le_of_ble_eq_true rfl) dX3_upShift_50 ?_
      refine W.eq (g2 := F0 m 53 ls [.int (fAb (pV S st 14)), .int (bD S a), .int (fMx u (pV S st 7))]) rfl ?_
      refine lv_iconst (v := 4) hx hb dX3_upShift_53 (by decide) ?_
      refine lv_idiv hx hb dX3_upShift_54 (by decide) ?_
      refine lv_iadd hx hb dX3_upShift_55 ?_
      refine va_mmax hx hb (hml.trans hl.1.symm) hown (htb _ wd398) (htb _ wd364) (htb _ wd13) (htb _ wd365) (Nat.le_of_ble_eq_true rfl) (Nat.le_of_ble_eq_true rfl) (Nat.le_of_ble_eq_true rfl) (Nat.le_of_ble_eq_true rfl) dX3_upShift_56 ?_
      refine W.eq (g2 := F0 m 59 ls [.int (fMx (fMx u (pV S st 7)) ((bD S a) + ((fAb (pV S st 14)) / 4)))]) rfl ?_
      exact mx_iret (v := (fMx (fMx u (pV S st 7)) ((bD S a) + ((fAb (pV S st 14)) / 4)))) (M' := M) hx hb hr hlocks hP hS ⟨by simp only [fs_us, if_pos c_1 , if_neg c_2], rfl⟩ dX3_upShift_59 (Nat.le_of_ble_eq_true rfl) (Nat.le_of_ble_eq_true rfl)
    · refine lv_bipush (v := 6) hx hb dX3_upShift_13 (by decide) ?_
      refine lv_goto (tgt := 20) hx hb dX3_upShift_15 (by decide) ?_
      refine lv_istore (lv' := [(5, .int 6), (0, .ref (f0 f)), (1, .int (nI st)), (2, .int cr), (3, .int u), (4, .int (nI a))]) hx hb dX3_upShift_20 hl (by decide) rfl (fun ls hl => ?_)
      refine lv_iload_n hx hb dX3_upShift_22 rfl (lv_at hl 4 rfl) ?_
      refine lv_aload_n hx hb dX3_upShift_23 rfl (lv_at hl 1 rfl) ?_
      refine lv_iload_n hx hb dX3_upShift_24 rfl (lv_at hl 2 rfl) ?_
      refine lv_iload hx hb dX3_upShift_25 (lv_at hl 0 rfl) ?_
      refine mw_callV (C := RX3) (As := [.int (nI st), .int 6]) (rest := [.int u]) hx hb hml hown hl (kX3_valueOf l htr G s.heap.size M f S hR st 6 h_st (by decide)) (g_B (n := 2) htb wd390 wd1 wd387 (by decide +kernel) ⟨Nat.le_of_ble_eq_true rfl, Nat.le_of_ble_eq_true rfl⟩) (htb _ wd389) (htb _ ws11) hE hP hS (fs_R.this hR) rfl rfl rfl (Nat.le_of_ble_eq_true rfl) dX3_upShift_27 ⟨Nat.le_of_ble_eq_true rfl, Nat.le_of_ble_eq_true rfl⟩ (fun v9 M9 H locs hpo hP hz hS => ?_) (fun x9 E9 cell9 H9 locs9 hE9 => hE9.elim)
      obtain ⟨rfl, rfl⟩ := hpo
      refine W.eq (g2 := F0 m 30 ls [.int (pV S st 6), .int u]) rfl ?_
      refine va_mmax hx hb (hml.trans hl.1.symm) hown (htb _ wd398) (htb _ wd364) (htb _ wd13) (htb _ wd365) (Nat.le_of_ble_eq_true rfl) (Nat.le_of_ble_eq_true rfl) (Nat.le_of_ble_eq_true rfl) (Nat.le_of_ble_eq_true rfl) dX3_upShift_30 ?_
      refine W.eq (g2 := F0 m 33 ls [.int (fMx u (pV S st 6))]) rfl ?_
      refine lv_istore (lv' := [(6, .int (fMx u (pV S st 6))), (5, .int 6), (0, .ref (f0 f)), (1, .int (nI st)), (2, .int cr), (3, .int u), (4, .int (nI a))]) hx hb dX3_upShift_33 hl (by decide) rfl (fun ls hl => ?_)
      refine lv_iload hx hb dX3_upShift_35 (lv_at hl 0 rfl) ?_
      refine lv_aload_n hx hb dX3_upShift_37 rfl (lv_at hl 2 rfl) ?_
      refine lv_iload hx hb dX3_upShift_38 (lv_at hl 6 rfl) ?_
      refine mw_callV (C := RX3) (As := [.int (nI a)]) (rest := [.int (fMx u (pV S st 6))]) hx hb hml hown hl (kX3_depthOf l htr G H.size M f S hR a h_a) (g_B (n := 1) htb wd397 wd1 wd394 (by decide +kernel) ⟨Nat.le_of_ble_eq_true rfl, Nat.le_of_ble_eq_true rfl⟩) (htb _ wd396) (htb _ ws12) hE hP hS (fs_R.this hR) rfl rfl rfl (Nat.le_of_ble_eq_true rfl) dX3_upShift_40 ⟨Nat.le_of_ble_eq_true rfl, Nat.le_of_ble_eq_true rfl⟩ (fun v9 M9 H locs hpo hP hz hS => ?_) (fun x9 E9 cell9 H9 locs9 hE9 => hE9.elim)
      obtain ⟨rfl, rfl⟩ := hpo
      refine W.eq (g2 := F0 m 43 ls [.int (bD S a), .int (fMx u (pV S st 6))]) rfl ?_
      refine lv_aload_n hx hb dX3_upShift_43 rfl (lv_at hl 2 rfl) ?_
      refine lv_iload_n hx hb dX3_upShift_44 rfl (lv_at hl 3 rfl) ?_
      refine lv_bipush (v := 14) hx hb dX3_upShift_45 (by decide) ?_
      refine mw_callV (C := RX3) (As := [.int (nI st), .int 14]) (rest := [.int (bD S a), .int (fMx u (pV S st 6))]) hx hb hml hown hl (kX3_valueOf l htr G H.size M f S hR st 14 h_st (by decide)) (g_B (n := 2) htb wd390 wd1 wd387 (by decide +kernel) ⟨Nat.le_of_ble_eq_true rfl, Nat.le_of_ble_eq_true rfl⟩) (htb _ wd389) (htb _ ws11) hE hP hS (fs_R.this hR) rfl rfl rfl (Nat.le_of_ble_eq_true rfl) dX3_upShift_47 ⟨Nat.le_of_ble_eq_true rfl, Nat.le_of_ble_eq_true rfl⟩ (fun v9 M9 H locs hpo hP hz hS => ?_) (fun x9 E9 cell9 H9 locs9 hE9 => hE9.elim)
      obtain ⟨rfl, rfl⟩ := hpo
      refine W.eq (g2 := F0 m 50 ls [.int (pV S st 14), .int (bD S a), .int (fMx u (pV S st 6))]) rfl ?_
      refine va_mabs hx hb (hml.trans hl.1.symm) hown (htb _ wd423) (htb _ wd424) (htb _ wd13) (htb _ wd425) (Nat.le_of_ble_eq_true rfl) (Nat.le_of_ble_eq_true rfl) (Nat.le_of_ble_eq_true rfl) (Nat.le_of_ble_eq_true rfl) dX3_upShift_50 ?_
      refine W.eq (g2 := F0 m 53 ls [.int (fAb (pV S st 14)), .int (bD S a), .int (fMx u (pV S st 6))]) rfl ?_
      refine lv_iconst (v := 4) hx hb dX3_upShift_53 (by decide) ?_
      refine lv_idiv hx hb dX3_upShift_54 (by decide) ?_
      refine lv_iadd hx hb dX3_upShift_55 ?_
      refine va_mmax hx hb (hml.trans hl.1.symm) hown (htb _ wd398) (htb _ wd364) (htb _ wd13) (htb _ wd365) (Nat.le_of_ble_eq_true rfl) (Nat.le_of_ble_eq_true rfl) (Nat.le_of_ble_eq_true rfl) (Nat.le_of_ble_eq_true rfl) dX3_upShift_56 ?_
      refine W.eq (g2 := F0 m 59 ls [.int (fMx (fMx u (pV S st 6)) ((bD S a) + ((fAb (pV S st 14)) / 4)))]) rfl ?_
      exact mx_iret (v := (fMx (fMx u (pV S st 6)) ((bD S a) + ((fAb (pV S st 14)) / 4)))) (M' := M) hx hb hr hlocks hP hS ⟨by simp only [fs_us, if_pos c_1 , if_pos c_2], rfl⟩ dX3_upShift_59 (Nat.le_of_ble_eq_true rfl) (Nat.le_of_ble_eq_true rfl)
  · refine lv_bipush (v := 8) hx hb dX3_upShift_4 (by decide) ?_
    refine lv_goto (tgt := 20) hx hb dX3_upShift_6 (by decide) ?_
    refine lv_istore (lv' := [(5, .int 8), (0, .ref (f0 f)), (1, .int (nI st)), (2, .int cr), (3, .int u), (4, .int (nI a))]) hx hb dX3_upShift_20 hl (by decide) rfl (fun ls hl => ?_)
    refine lv_iload_n hx hb dX3_upShift_22 rfl (lv_at hl 4 rfl) ?_
    refine lv_aload_n hx hb dX3_upShift_23 rfl (lv_at hl 1 rfl) ?_
    refine lv_iload_n hx hb dX3_upShift_24 rfl (lv_at hl 2 rfl) ?_
    refine lv_iload hx hb dX3_upShift_25 (lv_at hl 0 rfl) ?_
    refine mw_callV (C := RX3) (As := [.int (nI st), .int 8]) (rest := [.int u]) hx hb hml hown hl (kX3_valueOf l htr G s.heap.size M f S hR st 8 h_st (by decide)) (g_B (n := 2) htb wd390 wd1 wd387 (by decide +kernel) ⟨Nat.le_of_ble_eq_true rfl, Nat.le_of_ble_eq_true rfl⟩) (htb _ wd389) (htb _ ws11) hE hP hS (fs_R.this hR) rfl rfl rfl (Nat.le_of_ble_eq_true rfl) dX3_upShift_27 ⟨Nat.le_of_ble_eq_true rfl, Nat.le_of_ble_eq_true rfl⟩ (fun v9 M9 H locs hpo hP hz hS => ?_) (fun x9 E9 cell9 H9 locs9 hE9 => hE9.elim)
    obtain ⟨rfl, rfl⟩ := hpo
    refine W.eq (g2 := F0 m 30 ls [.int (pV S st 8), .int u]) rfl ?_
    refine va_mmax hx hb (hml.trans hl.1.symm) hown (htb _ wd398) (htb _ wd364) (htb _ wd13) (htb _ wd365) (Nat.le_of_ble_eq_true rfl) (Nat.le_of_ble_eq_true rfl) (Nat.le_of_ble_eq_true rfl) (Nat.le_of_ble_eq_true rfl) dX3_upShift_30 ?_
    refine W.eq (g2 := F0 m 33 ls [.int (fMx u (pV S st 8))]) rfl ?_
    refine lv_istore (lv' := [(6, .int (fMx u (pV S st 8))), (5, .int 8), (0, .ref (f0 f)), (1, .int (nI st)), (2, .int cr), (3, .int u), (4, .int (nI a))]) hx hb dX3_upShift_33 hl (by decide) rfl (fun ls hl => ?_)
    refine lv_iload hx hb dX3_upShift_35 (lv_at hl 0 rfl) ?_
    refine lv_aload_n hx hb dX3_upShift_37 rfl (lv_at hl 2 rfl) ?_
    refine lv_iload hx hb dX3_upShift_38 (lv_at hl 6 rfl) ?_
    refine mw_callV (C := RX3) (As := [.int (nI a)]) (rest := [.int (fMx u (pV S st 8))]) hx hb hml hown hl (kX3_depthOf l htr G H.size M f S hR a h_a) (g_B (n := 1) htb wd397 wd1 wd394 (by decide +kernel) ⟨Nat.le_of_ble_eq_true rfl, Nat.le_of_ble_eq_true rfl⟩) (htb _ wd396) (htb _ ws12) hE hP hS (fs_R.this hR) rfl rfl rfl (Nat.le_of_ble_eq_true rfl) dX3_upShift_40 ⟨Nat.le_of_ble_eq_true rfl, Nat.le_of_ble_eq_true rfl⟩ (fun v9 M9 H locs hpo hP hz hS => ?_) (fun x9 E9 cell9 H9 locs9 hE9 => hE9.elim)
    obtain ⟨rfl, rfl⟩ := hpo
    refine W.eq (g2 := F0 m 43 ls [.int (bD S a), .int (fMx u (pV S st 8))]) rfl ?_
    refine lv_aload_n hx hb dX3_upShift_43 rfl (lv_at hl 2 rfl) ?_
    refine lv_iload_n hx hb dX3_upShift_44 rfl (lv_at hl 3 rfl) ?_
    refine lv_bipush (v := 14) hx hb dX3_upShift_45 (by decide) ?_
    refine mw_callV (C := RX3) (As := [.int (nI st), .int 14]) (rest := [.int (bD S a), .int (fMx u (pV S st 8))]) hx hb hml hown hl (kX3_valueOf l htr G H.size M f S hR st 14 h_st (by decide)) (g_B (n := 2) htb wd390 wd1 wd387 (by decide +kernel) ⟨Nat.le_of_ble_eq_true rfl, Nat.le_of_ble_eq_true rfl⟩) (htb _ wd389) (htb _ ws11) hE hP hS (fs_R.this hR) rfl rfl rfl (Nat.le_of_ble_eq_true rfl) dX3_upShift_47 ⟨Nat.le_of_ble_eq_true rfl, Nat.le_of_ble_eq_true rfl⟩ (fun v9 M9 H locs hpo hP hz hS => ?_) (fun x9 E9 cell9 H9 locs9 hE9 => hE9.elim)
    obtain ⟨rfl, rfl⟩ := hpo
    refine W.eq (g2 := F0 m 50 ls [.int (pV S st 14), .int (bD S a), .int (fMx u (pV S st 8))]) rfl ?_
    refine va_mabs hx hb (hml.trans hl.1.symm) hown (htb _ wd423) (htb _ wd424) (htb _ wd13) (htb _ wd425) (Nat.le_of_ble_eq_true rfl) (Nat.le_of_ble_eq_true rfl) (Nat.le_of_ble_eq_true rfl) (Nat.le_of_ble_eq_true rfl) dX3_upShift_50 ?_
    refine W.eq (g2 := F0 m 53 ls [.int (fAb (pV S st 14)), .int (bD S a), .int (fMx u (pV S st 8))]) rfl ?_
    refine lv_iconst (v := 4) hx hb dX3_upShift_53 (by decide) ?_
    refine lv_idiv hx hb dX3_upShift_54 (by decide) ?_
    refine lv_iadd hx hb dX3_upShift_55 ?_
    refine va_mmax hx hb (hml.trans hl.1.symm) hown (htb _ wd398) (htb _ wd364) (htb _ wd13) (htb _ wd365) (Nat.le_of_ble_eq_true rfl) (Nat.le_of_ble_eq_true rfl) (Nat.le_of_ble_eq_true rfl) (Nat.le_of_ble_eq_true rfl) dX3_upShift_56 ?_
    refine W.eq (g2 := F0 m 59 ls [.int (fMx (fMx u (pV S st 8)) ((bD S a) + ((fAb (pV S st 14)) / 4)))]) rfl ?_
    exact mx_iret (v := (fMx (fMx u (pV S st 8)) ((bD S a) + ((fAb (pV S st 14)) / 4)))) (M' := M) hx hb hr hlocks hP hS ⟨by simp only [fs_us, if_neg c_1], rfl⟩ dX3_upShift_59 (Nat.le_of_ble_eq_true rfl) (Nat.le_of_ble_eq_true rfl)
-- X3_downAlone
set_option maxHeartbeats 4000000 in
set_option maxRecDepth 100000 in
theorem kX3_downAlone (l : Launch) (htr : l.stackTraces = false) (G : gx_G) (sz : Nat) (M : mw_M) (f : fs_A) (S : fs_S) (hR : fs_R G f M S) (st : Nat) (h_st : st < 4) (dn : Int32) (z : Nat) (h_z : z < sN S) : g_Met l G yX3_downAlone (.code yX3_downAlone cX3_downAlone 5 (some .int)) ({ frames := 3, cells := 0, slots := 0, locals := 140 } : Room) sz M [.ref (f0 f), .int (nI st), .int dn, .int (nI z)] (fun v M9 => v = some (.int (fs_da S st dn z)) ∧ M = M9) (fun _ => False) := by
  refine MetE.ofW (cc := cX3_downAlone) (maxL := 5) (ret := (some .int)) (by decide) rfl ?_
  intro p e s m args below meth c s₁ B hml hv
  obtain ⟨rfl, hsz, hP, hE⟩ := hv
  have hx := B.exec
  have hb := B.bytes
  have hr := B.returns
  have hts := atoms_spec (ws := _ :: lw_big) B.pre
  have htb : ∀ w ∈ lw_big, w.before _ s = true := fun w h => hts w (List.mem_cons_of_mem _ h)
  have hno := B.noHandlers (hts _ List.mem_cons_self)
  have hown : s.vm.findClass RX3 = some m.cls := findClass_of_methodNamed B.named
  have hlocks := B.notSynchronized
  have hK := hE.1
  subst hsz
  have hS : va_S (gA G) s.heap s.heap [] := va_S.rf
  have hl := lv_entry ([.ref (f0 f), .int (nI st), .int dn, .int (nI z)]) (n := 5) (Nat.le_of_ble_eq_true rfl)
  rw [lg_entry_eq]
  generalize (lg_sl ([.ref (f0 f), .int (nI st), .int dn, .int (nI z)]) ++ List.replicate (5 - (lg_sl ([.ref (f0 f), .int (nI st), .int dn, .int (nI z)])).length) Slot.unset).toArray = ls at hl ⊢
  have hl : lv_has ls 5 [(0, .ref (f0 f)), (1, .int (nI st)), (2, .int dn), (3, .int (nI z))] := hl
  refine lv_iload_n hx hb dX3_downAlone_0 rfl (lv_at hl 2 rfl) ?_
  refine lv_aload_n hx hb dX3_downAlone_1 rfl (lv_at hl 0 rfl) ?_
  refine lv_iload_n hx hb dX3_downAlone_2 rfl (lv_at hl 1 rfl) ?_
  refine lv_bipush (v := 9) hx hb dX3_downAlone_3 (by decide) ?_
  refine mw_callV (C := RX3) (As := [.int (nI st), .int 9]) (rest := [.int dn]) hx hb hml hown hl (kX3_valueOf l htr G s.heap.size M f S hR st 9 h_st (by decide)) (g_B (n := 2) htb wd390 wd1 wd387 (by decide +kernel) ⟨Nat.le_of_ble_eq_true rfl, Nat.le_of_ble_eq_true rfl⟩) (htb _ wd389) (htb _ ws11) hE hP hS (fs_R.this hR) rfl rfl rfl (Nat.le_of_ble_eq_true rfl) dX3_downAlone_5 ⟨Nat.le_of_ble_eq_true rfl, Nat.le_of_ble_eq_true rfl⟩ (fun v9 M9 H locs hpo hP hz hS => ?_) (fun x9 E9 cell9 H9 locs9 hE9 => hE9.elim)
  obtain ⟨rfl, rfl⟩ := hpo
  refine W.eq (g2 := F0 m 8 ls [.int (pV S st 9), .int dn]) rfl ?_
  refine va_mmax hx hb (hml.trans hl.1.symm) hown (htb _ wd398) (htb _ wd364) (htb _ wd13) (htb _ wd365) (Nat.le_of_ble_eq_true rfl) (Nat.le_of_ble_eq_true rfl) (Nat.le_of_ble_eq_true rfl) (Nat.le_of_ble_eq_true rfl) dX3_downAlone_8 ?_
  refine W.eq (g2 := F0 m 11 ls [.int (fMx dn (pV S st 9))]) rfl ?_
  refine lv_istore (lv' := [(4, .int (fMx dn (pV S st 9))), (0, .ref (f0 f)), (1, .int (nI st)), (2, .int dn), (3, .int (nI z))]) hx hb dX3_downAlone_11 hl (by decide) rfl (fun ls hl => ?_)
  refine lv_iload hx hb dX3_downAlone_13 (lv_at hl 0 rfl) ?_
  refine lv_aload_n hx hb dX3_downAlone_15 rfl (lv_at hl 1 rfl) ?_
  refine lv_iload_n hx hb dX3_downAlone_16 rfl (lv_at hl 4 rfl) ?_
  refine mw_callV (C := RX3) (As := [.int (nI z)]) (rest := [.int (fMx dn (pV S st 9))]) hx hb hml hown hl (kX3_heightOf l htr G H.size M f S hR z h_z) (g_B (n := 1) htb wd402 wd1 wd399 (by decide +kernel) ⟨Nat.le_of_ble_eq_true rfl, Nat.le_of_ble_eq_true rfl⟩) (htb _ wd401) (htb _ ws13) hE hP hS (fs_R.this hR) rfl rfl rfl (Nat.le_of_ble_eq_true rfl) dX3_downAlone_17 ⟨Nat.le_of_ble_eq_true rfl, Nat.le_of_ble_eq_true rfl⟩ (fun v9 M9 H locs hpo hP hz hS => ?_) (fun x9 E9 cell9 H9 locs9 hE9 => hE9.elim)
  obtain ⟨rfl, rfl⟩ := hpo
  refine W.eq (g2 := F0 m 20 ls [.int (bH S z), .int (fMx dn (pV S st 9))]) rfl ?_
  refine lv_aload_n hx hb dX3_downAlone_20 rfl (lv_at hl 1 rfl) ?_
  refine lv_iload_n hx hb dX3_downAlone_21 rfl (lv_at hl 2 rfl) ?_
  refine mw_callV (C := RX3) (As := [.int (nI st)]) (rest := [.int (bH S z), .int (fMx dn (pV S st 9))]) hx hb hml hown hl (kX3_fourFifths l htr G H.size M f S hR st h_st) (g_B (n := 1) htb wd448 wd1 wd445 (by decide +kernel) ⟨Nat.le_of_ble_eq_true rfl, Nat.le_of_ble_eq_true rfl⟩) (htb _ wd447) (htb _ ws19) hE hP hS (fs_R.this hR) rfl rfl rfl (Nat.le_of_ble_eq_true rfl) dX3_downAlone_22 ⟨Nat.le_of_ble_eq_true rfl, Nat.le_of_ble_eq_true rfl⟩ (fun v9 M9 H locs hpo hP hz hS => ?_) (fun x9 E9 cell9 H9 locs9 hE9 => hE9.elim)
  obtain ⟨rfl, rfl⟩ := hpo
  refine W.eq (g2 := F0 m 25 ls [.int (fs_45 S st), .int (bH S z), .int (fMx dn (pV S st 9))]) rfl ?_
  refine lv_isub hx hb dX3_downAlone_25 ?_
  refine va_mmax hx hb (hml.trans hl.1.symm) hown (htb _ wd398) (htb _ wd364) (htb _ wd13) (htb _ wd365) (Nat.le_of_ble_eq_true rfl) (Nat.le_of_ble_eq_true rfl) (Nat.le_of_ble_eq_true rfl) (Nat.le_of_ble_eq_true rfl) dX3_downAlone_26 ?_
  refine W.eq (g2 := F0 m 29 ls [.int (fMx (fMx dn (pV S st 9)) ((bH S z) - (fs_45 S st)))]) rfl ?_
  exact mx_iret (v := (fMx (fMx dn (pV S st 9)) ((bH S z) - (fs_45 S st)))) (M' := M) hx hb hr hlocks hP hS ⟨by simp only [fs_da], rfl⟩ dX3_downAlone_29 (Nat.le_of_ble_eq_true rfl) (Nat.le_of_ble_eq_true rfl)
-- X3_bracketsLeast
set_option maxHeartbeats 4000000 in
set_option maxRecDepth 100000 in
theorem kX3_bracketsLeast (l : Launch) (htr : l.stackTraces = false) (G : gx_G) (sz : Nat) (M : mw_M) (f : fs_A) (S : fs_S) (hR : fs_R G f M S) (st : Nat) (h_st : st < 4) (x : Nat) (h_x : x < sN S) : g_Met l G yX3_bracketsLeast (.code yX3_bracketsLeast cX3_bracketsLeast 5 (some .int)) ({ frames := 2, cells := 0, slots := 0, locals := 100 } : Room) sz M [.ref (f0 f), .int (nI st), .int (nI x)] (fun v M9 => v = some (.int (fs_bl S st x)) ∧ M = M9) (fun _ => False) := by
  refine MetE.ofW (cc := cX3_bracketsLeast) (maxL := 5) (ret := (some .int)) (by decide) rfl ?_
  intro p e s m args below meth c s₁ B hml hv
  obtain ⟨rfl, hsz, hP, hE⟩ := hv
  have hx := B.exec
  have hb := B.bytes
  have hr := B.returns
  have hts := atoms_spec (ws := _ :: lw_big) B.pre
  have htb : ∀ w ∈ lw_big, w.before _ s = true := fun w h => hts w (List.mem_cons_of_mem _ h)
  have hno := B.noHandlers (hts _ List.mem_cons_self)
  have hown : s.vm.findClass RX3 = some m.cls := findClass_of_methodNamed B.named
  have hlocks := B.notSynchronized
  have hK := hE.1
  subst hsz
  have hS : va_S (gA G) s.heap s.heap [] := va_S.rf
  have hl := lv_entry ([.ref (f0 f), .int (nI st), .int (nI x)]) (n := 5) (Nat.le_of_ble_eq_true rfl)
  rw [lg_entry_eq]
  generalize (lg_sl ([.ref (f0 f), .int (nI st), .int (nI x)]) ++ List.replicate (5 - (lg_sl ([.ref (f0 f), .int (nI st), .int (nI x)])).length) Slot.unset).toArray = ls at hl ⊢
  have hl : lv_has ls 5 [(0, .ref (f0 f)), (1, .int (nI st)), (2, .int (nI x))] := hl
  refine lv_aload_n hx hb dX3_bracketsLeast_0 rfl (lv_at hl 0 rfl) ?_
  refine lv_iload_n hx hb dX3_bracketsLeast_1 rfl (lv_at hl 1 rfl) ?_
  refine lv_iconst (v := 0) hx hb dX3_bracketsLeast_2 (by decide) ?_
  refine mw_callV (C := RX3) (As := [.int (nI st), .int 0]) (rest := []) hx hb hml hown hl (kX3_valueOf l htr G s.heap.size M f S hR st 0 h_st (by decide)) (g_B (n := 2) htb wd390 wd1 wd387 (by decide +kernel) ⟨Nat.le_of_ble_eq_true rfl, Nat.le_of_ble_eq_true rfl⟩) (htb _ wd389) (htb _ ws11) hE hP hS (fs_R.this hR) rfl rfl rfl (Nat.le_of_ble_eq_true rfl) dX3_bracketsLeast_3 ⟨Nat.le_of_ble_eq_true rfl, Nat.le_of_ble_eq_true rfl⟩ (fun v9 M9 H locs hpo hP hz hS => ?_) (fun x9 E9 cell9 H9 locs9 hE9 => hE9.elim)
  obtain ⟨rfl, rfl⟩ := hpo
  refine W.eq (g2 := F0 m 6 ls [.int (pV S st 0)]) rfl ?_
  refine lv_istore_n (lv' := [(3, .int (pV S st 0)), (0, .ref (f0 f)), (1, .int (nI st)), (2, .int (nI x))]) hx hb dX3_bracketsLeast_6 rfl hl (by decide) rfl (fun ls hl => ?_)
  refine lv_aload_n hx hb dX3_bracketsLeast_7 rfl (lv_at hl 1 rfl) ?_
  refine lv_iload_n hx hb dX3_bracketsLeast_8 rfl (lv_at hl 3 rfl) ?_
  refine mw_callV (C := RX3) (As := [.int (nI x)]) (rest := []) hx hb hml hown hl (kX3_heightOf l htr G H.size M f S hR x h_x) (g_B (n := 1) htb wd402 wd1 wd399 (by decide +kernel) ⟨Nat.le_of_ble_eq_true rfl, Nat.le_of_ble_eq_true rfl⟩) (htb _ wd401) (htb _ ws13) hE hP hS (fs_R.this hR) rfl rfl rfl (Nat.le_of_ble_eq_true rfl) dX3_bracketsLeast_9 ⟨Nat.le_of_ble_eq_true rfl, Nat.le_of_ble_eq_true rfl⟩ (fun v9 M9 H locs hpo hP hz hS => ?_) (fun x9 E9 cell9 H9 locs9 hE9 => hE9.elim)
  obtain ⟨rfl, rfl⟩ := hpo
  refine W.eq (g2 := F0 m 12 ls [.int (bH S x)]) rfl ?_
  refine lv_iload_n hx hb dX3_bracketsLeast_12 rfl (lv_at hl 0 rfl) ?_
  refine lv_isub hx hb dX3_bracketsLeast_13 ?_
  refine lv_aload_n hx hb dX3_bracketsLeast_14 rfl (lv_at hl 1 rfl) ?_
  refine lv_iload_n hx hb dX3_bracketsLeast_15 rfl (lv_at hl 3 rfl) ?_
  refine mw_callV (C := RX3) (As := [.int (nI x)]) (rest := [.int ((bH S x) - (pV S st 0))]) hx hb hml hown hl (kX3_depthOf l htr G H.size M f S hR x h_x) (g_B (n := 1) htb wd397 wd1 wd394 (by decide +kernel) ⟨Nat.le_of_ble_eq_true rfl, Nat.le_of_ble_eq_true rfl⟩) (htb _ wd396) (htb _ ws12) hE hP hS (fs_R.this hR) rfl rfl rfl (Nat.le_of_ble_eq_true rfl) dX3_bracketsLeast_16 ⟨Nat.le_of_ble_eq_true rfl, Nat.le_of_ble_eq_true rfl⟩ (fun v9 M9 H locs hpo hP hz hS => ?_) (fun x9 E9 cell9 H9 locs9 hE9 => hE9.elim)
  obtain ⟨rfl, rfl⟩ := hpo
  refine W.eq (g2 := F0 m 19 ls [.int (bD S x), .int ((bH S x) - (pV S st 0))]) rfl ?_
  refine lv_iload_n hx hb dX3_bracketsLeast_19 rfl (lv_at hl 0 rfl) ?_
  refine lv_iadd hx hb dX3_bracketsLeast_20 ?_
  refine va_mmax hx hb (hml.trans hl.1.symm) hown (htb _ wd398) (htb _ wd364) (htb _ wd13) (htb _ wd365) (Nat.le_of_ble_eq_true rfl) (Nat.le_of_ble_eq_true rfl) (Nat.le_of_ble_eq_true rfl) (Nat.le_of_ble_eq_true rfl) dX3_bracketsLeast_21 ?_
  refine W.eq (g2 := F0 m 24 ls [.int (fMx ((bH S x) - (pV S st 0)) ((bD S x) + (pV S st 0)))]) rfl ?_
  refine lv_istore (lv' := [(4, .int (fMx ((bH S x) - (pV S st 0)) ((bD S x) + (pV S st 0)))), (3, .int (pV S st 0)), (0, .ref (f0 f)), (1, .int (nI st)), (2, .int (nI x))]) hx hb dX3_bracketsLeast_24 hl (by decide) rfl (fun ls hl => ?_)
  refine lv_iconst (v := 0) hx hb dX3_bracketsLeast_26 (by decide) ?_
  refine lv_iload hx hb dX3_bracketsLeast_27 (lv_at hl 0 rfl) ?_
  refine lv_sipush (v := 500) hx hb dX3_bracketsLeast_29 (by decide) ?_
  refine lv_idiv hx hb dX3_bracketsLeast_32 (by decide) ?_
  refine lv_sipush (v := 901) hx hb dX3_bracketsLeast_33 (by decide) ?_
  refine lv_imul hx hb dX3_bracketsLeast_36 ?_
  refine lv_iconst (v := 2) hx hb dX3_bracketsLeast_37 (by decide) ?_
  refine lv_iload hx hb dX3_bracketsLeast_38 (lv_at hl 0 rfl) ?_
  refine lv_imul hx hb dX3_bracketsLeast_40 ?_
  refine lv_aload_n hx hb dX3_bracketsLeast_41 rfl (lv_at hl 2 rfl) ?_
  refine mw_get (D := gD G) (ci := 3) (v := .int (sSh S)) (C := RX3) (T := TX3) (N := 6) hx hb htb inX3 hown hK hP (hR.this) rfl 5 (by decide) (htb _ wd61) (fun _ h9 => h9) rfl dX3_bracketsLeast_42 ?_
  refine lv_isub hx hb dX3_bracketsLeast_45 ?_
  refine va_mmax hx hb (hml.trans hl.1.symm) hown (htb _ wd398) (htb _ wd364) (htb _ wd13) (htb _ wd365) (Nat.le_of_ble_eq_true rfl) (Nat.le_of_ble_eq_true rfl) (Nat.le_of_ble_eq_true rfl) (Nat.le_of_ble_eq_true rfl) dX3_bracketsLeast_46 ?_
  refine W.eq (g2 := F0 m 49 ls [.int (fMx (((fMx ((bH S x) - (pV S st 0)) ((bD S x) + (pV S st 0))) / 500) * 901) ((2 * (fMx ((bH S x) - (pV S st 0)) ((bD S x) + (pV S st 0)))) - (sSh S))), .int 0]) rfl ?_
  refine va_mmax hx hb (hml.trans hl.1.symm) hown (htb _ wd398) (htb _ wd364) (htb _ wd13) (htb _ wd365) (Nat.le_of_ble_eq_true rfl) (Nat.le_of_ble_eq_true rfl) (Nat.le_of_ble_eq_true rfl) (Nat.le_of_ble_eq_true rfl) dX3_bracketsLeast_49 ?_
  refine W.eq (g2 := F0 m 52 ls [.int (fMx 0 (fMx (((fMx ((bH S x) - (pV S st 0)) ((bD S x) + (pV S st 0))) / 500) * 901) ((2 * (fMx ((bH S x) - (pV S st 0)) ((bD S x) + (pV S st 0)))) - (sSh S))))]) rfl ?_
  exact mx_iret (v := (fMx 0 (fMx (((fMx ((bH S x) - (pV S st 0)) ((bD S x) + (pV S st 0))) / 500) * 901) ((2 * (fMx ((bH S x) - (pV S st 0)) ((bD S x) + (pV S st 0)))) - (sSh S))))) (M' := M) hx hb hr hlocks hP hS ⟨by simp only [fs_bl, fs_bm], rfl⟩ dX3_bracketsLeast_52 (Nat.le_of_ble_eq_true rfl) (Nat.le_of_ble_eq_true rfl)
