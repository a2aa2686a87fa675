/-! printed by wip/whole/spec*.py -/
-- X4_use
set_option maxHeartbeats 4000000 in
set_option maxRecDepth 100000 in
theorem kX4_use (l : Launch) (htr : l.stackTraces = false) (G : gx_G) (sz : Nat) (M : mw_M) (o : Nat) (A : Nat → Nat) (th z : Int32) (S : fs_S) (hR : md_R G o A M th z S) (st : Nat) (h_st : st < 4) : g_Met l G yX4_use (.code yX4_use cX4_use 2 none) ({ frames := 1, cells := 0, slots := 0, locals := 60 } : Room) sz M [.ref o, .int (nI st)] (fun v M9 => v = none ∧ md_R G o A M9 th (nI (fSz st)) S ∧ md_keeps o A M M9) (fun _ => False) := by
  refine MetE.ofW (cc := cX4_use) (maxL := 2) (ret := none) (by decide) rfl ?_
  intro p e s m args below meth c s₁ B hml hv
  obtain ⟨rfl, hsz, hP, hE⟩ := hv
  have hx := B.exec
  have hb := B.bytes
  have hr := B.returns
  have hts := atoms_spec (ws := _ :: lw_big) B.pre
  have htb : ∀ w ∈ lw_big, w.before _ s = true := fun w h => hts w (List.mem_cons_of_mem _ h)
  have hno := B.noHandlers (hts _ List.mem_cons_self)
  have hown : s.vm.findClass RX4 = some m.cls := findClass_of_methodNamed B.named
  have hlocks := B.notSynchronized
  have hK := hE.1
  subst hsz
  have hS : va_S (gA G) s.heap s.heap [] := va_S.rf
  have hl := lv_entry ([.ref o, .int (nI st)]) (n := 2) (Nat.le_of_ble_eq_true rfl)
  rw [lg_entry_eq]
  generalize (lg_sl ([.ref o, .int (nI st)]) ++ List.replicate (2 - (lg_sl ([.ref o, .int (nI st)])).length) Slot.unset).toArray = ls at hl ⊢
  have hl : lv_has ls 2 [(0, .ref o), (1, .int (nI st))] := hl
  obtain ⟨np, bg, g, hT, hB⟩ := id hR
  have hk : md_keeps o A M M := md_keeps.rf o A M
  have hle : sN S ≤ 120 := hB.1
  refine lv_aload_n hx hb dX4_use_0 rfl (lv_at hl 0 rfl) ?_
  refine lv_iload_n hx hb dX4_use_1 rfl (lv_at hl 1 rfl) ?_
  refine lv_iconst (v := 2) hx hb dX4_use_2 (by decide) ?_
  refine lv_icmp_ge (tgt := 10) hx hb dX4_use_3 (by decide) (fun c_1 => ?_) (fun c_1 => ?_)
  · refine lv_iload_n hx hb dX4_use_10 rfl (lv_at hl 1 rfl) ?_
    refine lv_iconst (v := 1) hx hb dX4_use_11 (by decide) ?_
    refine lv_isub hx hb dX4_use_12 ?_
    refine mw_put (D := gD G) (ci := 4) (v := .int ((nI st) - 1)) (ty := .int) (C := RX4) (T := TX4) (N := 21) hx hb htb inX4 tyX4 tyX4_ok nmX4 hown hK hP hS hT.1 hT.2.2.2.1 rfl 20 (by decide) (htb _ wd544) (fun _ h9 => h9) rfl (by decide +kernel) rfl rfl (Nat.le_of_ble_eq_true rfl) dX4_use_13 (fun H locs hP hS => ?_)
    obtain ⟨M_2, hM_2⟩ : ∃ z9 : mw_M, z9 = mw_up M o (.inr (4, [.int th, .ref (A 0), .int (sSp S), .int (sSh S), .int (nI (sN S)), .ref (A 1), .ref (A 2), .ref (A 3), .ref (A 4), .ref (A 5), .ref (A 6), .ref (A 7), .int (nI np), .ref (A 8), .ref (A 9), .ref (A 10), .ref (A 11), .ref (A 12), .ref (A 13), .ref (A 14), .int ((nI st) - 1)])) := ⟨_, rfl⟩
    have hP : mw_P (gD G) gx_cl M_2 H := by rw [hM_2]; exact hP
    have hT : md_at G o A M_2 th (sSp S) (sSh S) (nI (sN S)) (nI np) ((nI st) - 1) g := md_at.fld hT hM_2
    have hk : md_keeps o A M M_2 := md_keeps.fld hk hM_2
    have ez := us_hi h_st c_1
    rw [ez] at hT
    exact mx_vret (M' := M_2) hx hb hr hlocks hP hS ⟨rfl, ⟨np, bg, g, hT, hB⟩, hk⟩ dX4_use_16 (Nat.le_of_ble_eq_true rfl) (Nat.le_of_ble_eq_true rfl)
  · refine lv_iconst (v := 0) hx hb dX4_use_6 (by decide) ?_
    refine lv_goto (tgt := 13) hx hb dX4_use_7 (by decide) ?_
    refine mw_put (D := gD G) (ci := 4) (v := .int 0) (ty := .int) (C := RX4) (T := TX4) (N := 21) hx hb htb inX4 tyX4 tyX4_ok nmX4 hown hK hP hS hT.1 hT.2.2.2.1 rfl 20 (by decide) (htb _ wd544) (fun _ h9 => h9) rfl (by decide +kernel) rfl rfl (Nat.le_of_ble_eq_true rfl) dX4_use_13 (fun H locs hP hS => ?_)
    obtain ⟨M_3, hM_3⟩ : ∃ z9 : mw_M, z9 = mw_up M o (.inr (4, [.int th, .ref (A 0), .int (sSp S), .int (sSh S), .int (nI (sN S)), .ref (A 1), .ref (A 2), .ref (A 3), .ref (A 4), .ref (A 5), .ref (A 6), .ref (A 7), .int (nI np), .ref (A 8), .ref (A 9), .ref (A 10), .ref (A 11), .ref (A 12), .ref (A 13), .ref (A 14), .int 0])) := ⟨_, rfl⟩
    have hP : mw_P (gD G) gx_cl M_3 H := by rw [hM_3]; exact hP
    have hT : md_at G o A M_3 th (sSp S) (sSh S) (nI (sN S)) (nI np) 0 g := md_at.fld hT hM_3
    have hk : md_keeps o A M M_3 := md_keeps.fld hk hM_3
    have ez := us_lo h_st c_1
    rw [ez] at hT
    exact mx_vret (M' := M_3) hx hb hr hlocks hP hS ⟨rfl, ⟨np, bg, g, hT, hB⟩, hk⟩ dX4_use_16 (Nat.le_of_ble_eq_true rfl) (Nat.le_of_ble_eq_true rfl)
-- X4_make
set_option maxHeartbeats 4000000 in
set_option maxRecDepth 100000 in
theorem kX4_make (l : Launch) (htr : l.stackTraces = false) (G : gx_G) (sz : Nat) (M : mw_M) (o : Nat) (A : Nat → Nat) (th z : Int32) (S : fs_S) (hR : md_R G o A M th z S) (hn : sN S < 120) (w h d : Int32) : g_Met l G yX4_make (.code yX4_make cX4_make 4 (some .int)) ({ frames := 1, cells := 0, slots := 0, locals := 60 } : Room) sz M [.ref o, .int w, .int h, .int d] (fun v M9 => v = some (.int (nI (sN S))) ∧ md_R G o A M9 th z (fs_push S (w, h, d, [], 0, 0)) ∧ md_keeps o A M M9) (fun _ => False) := by
  refine MetE.ofW (cc := cX4_make) (maxL := 4) (ret := (some .int)) (by decide) rfl ?_
  intro p e s m args below meth c s₁ B hml hv
  obtain ⟨rfl, hsz, hP, hE⟩ := hv
  have hx := B.exec
  have hb := B.bytes
  have hr := B.returns
  have hts := atoms_spec (ws := _ :: lw_big) B.pre
  have htb : ∀ w ∈ lw_big, w.before _ s = true := fun w h => hts w (List.mem_cons_of_mem _ h)
  have hno := B.noHandlers (hts _ List.mem_cons_self)
  have hown : s.vm.findClass RX4 = some m.cls := findClass_of_methodNamed B.named
  have hlocks := B.notSynchronized
  have hK := hE.1
  subst hsz
  have hS : va_S (gA G) s.heap s.heap [] := va_S.rf
  have hl := lv_entry ([.ref o, .int w, .int h, .int d]) (n := 4) (Nat.le_of_ble_eq_true rfl)
  rw [lg_entry_eq]
  generalize (lg_sl ([.ref o, .int w, .int h, .int d]) ++ List.replicate (4 - (lg_sl ([.ref o, .int w, .int h, .int d])).length) Slot.unset).toArray = ls at hl ⊢
  have hl : lv_has ls 4 [(0, .ref o), (1, .int w), (2, .int h), (3, .int d)] := hl
  obtain ⟨np, bg, g, hT, hB⟩ := id hR
  have hk : md_keeps o A M M := md_keeps.rf o A M
  have hle : sN S ≤ 120 := hB.1
  refine lv_aload_n hx hb dX4_make_0 rfl (lv_at hl 0 rfl) ?_
  refine mw_get (D := gD G) (ci := 4) (v := .ref (A 1)) (C := RX4) (T := TX4) (N := 21) hx hb htb inX4 hown hK hP hT.1 rfl 5 (by decide) (htb _ wd529) (fun _ h9 => h9) rfl dX4_make_1 ?_
  refine lv_aload_n hx hb dX4_make_4 rfl (lv_at hl 0 rfl) ?_
  refine mw_get (D := gD G) (ci := 4) (v := .int (nI (sN S))) (C := RX4) (T := TX4) (N := 21) hx hb htb inX4 hown hK hP hT.1 rfl 4 (by decide) (htb _ wd528) (fun _ h9 => h9) rfl dX4_make_5 ?_
  refine lv_iload_n hx hb dX4_make_8 rfl (lv_at hl 1 rfl) ?_
  refine mw_iast hx hb hK hP hS 0 (show M (A 1) = some (.inl (gI G, 120, .inl (g 1))) from hT.2.1 1 (by decide)) (hT.2.2.2.2 1 (by decide)) rfl (by exact vp_in_nI (show (sN S) < 120 by have := hn; omega) (by decide)) dX4_make_9 (fun H locs hP hS => ?_)
  rw [nI_clamp (show (sN S) < 2 ^ 31 by have := hn; omega)] at hP
  obtain ⟨M_1, hM_1⟩ : ∃ z9 : mw_M, z9 = mw_up M (A 1) (.inl (gI G, 120, .inl (upd (g 1) (sN S) w))) := ⟨_, rfl⟩
  have hP : mw_P (gD G) gx_cl M_1 H := by rw [hM_1]; exact hP
  obtain ⟨g_2, hg_2⟩ : ∃ z9, z9 = ug g 1 (sN S) w := ⟨_, rfl⟩
  have hT : md_at G o A M_1 th (sSp S) (sSh S) (nI (sN S)) (nI np) z g_2 := by rw [hg_2]; exact md_at.put hT (by decide) rfl rfl hM_1
  have hk : md_keeps o A M M_1 := md_keeps.arr (j := 1) hk (by decide) hM_1
  refine lv_aload_n hx hb dX4_make_10 rfl (lv_at hl 0 rfl) ?_
  refine mw_get (D := gD G) (ci := 4) (v := .ref (A 2)) (C := RX4) (T := TX4) (N := 21) hx hb htb inX4 hown hK hP hT.1 rfl 6 (by decide) (htb _ wd530) (fun _ h9 => h9) rfl dX4_make_11 ?_
  refine lv_aload_n hx hb dX4_make_14 rfl (lv_at hl 0 rfl) ?_
  refine mw_get (D := gD G) (ci := 4) (v := .int (nI (sN S))) (C := RX4) (T := TX4) (N := 21) hx hb htb inX4 hown hK hP hT.1 rfl 4 (by decide) (htb _ wd528) (fun _ h9 => h9) rfl dX4_make_15 ?_
  refine lv_iload_n hx hb dX4_make_18 rfl (lv_at hl 2 rfl) ?_
  refine mw_iast hx hb hK hP hS 0 (show M_1 (A 2) = some (.inl (gI G, 120, .inl (g_2 2))) from hT.2.1 2 (by decide)) (hT.2.2.2.2 2 (by decide)) rfl (by exact vp_in_nI (show (sN S) < 120 by have := hn; omega) (by decide)) dX4_make_19 (fun H locs hP hS => ?_)
  rw [nI_clamp (show (sN S) < 2 ^ 31 by have := hn; omega)] at hP
  obtain ⟨M_3, hM_3⟩ : ∃ z9 : mw_M, z9 = mw_up M_1 (A 2) (.inl (gI G, 120, .inl (upd (g_2 2) (sN S) h))) := ⟨_, rfl⟩
  have hP : mw_P (gD G) gx_cl M_3 H := by rw [hM_3]; exact hP
  obtain ⟨g_4, hg_4⟩ : ∃ z9, z9 = ug g_2 2 (sN S) h := ⟨_, rfl⟩
  have hT : md_at G o A M_3 th (sSp S) (sSh S) (nI (sN S)) (nI np) z g_4 := by rw [hg_4]; exact md_at.put hT (by decide) rfl rfl hM_3
  have hk : md_keeps o A M M_3 := md_keeps.arr (j := 2) hk (by decide) hM_3
  refine lv_aload_n hx hb dX4_make_20 rfl (lv_at hl 0 rfl) ?_
  refine mw_get (D := gD G) (ci := 4) (v := .ref (A 3)) (C := RX4) (T := TX4) (N := 21) hx hb htb inX4 hown hK hP hT.1 rfl 7 (by decide) (htb _ wd531) (fun _ h9 => h9) rfl dX4_make_21 ?_
  refine lv_aload_n hx hb dX4_make_24 rfl (lv_at hl 0 rfl) ?_
  refine mw_get (D := gD G) (ci := 4) (v := .int (nI (sN S))) (C := RX4) (T := TX4) (N := 21) hx hb htb inX4 hown hK hP hT.1 rfl 4 (by decide) (htb _ wd528) (fun _ h9 => h9) rfl dX4_make_25 ?_
  refine lv_iload_n hx hb dX4_make_28 rfl (lv_at hl 3 rfl) ?_
  refine mw_iast hx hb hK hP hS 0 (show M_3 (A 3) = some (.inl (gI G, 120, .inl (g_4 3))) from hT.2.1 3 (by decide)) (hT.2.2.2.2 3 (by decide)) rfl (by exact vp_in_nI (show (sN S) < 120 by have := hn; omega) (by decide)) dX4_make_29 (fun H locs hP hS => ?_)
  rw [nI_clamp (show (sN S) < 2 ^ 31 by have := hn; omega)] at hP
  obtain ⟨M_5, hM_5⟩ : ∃ z9 : mw_M, z9 = mw_up M_3 (A 3) (.inl (gI G, 120, .inl (upd (g_4 3) (sN S) d))) := ⟨_, rfl⟩
  have hP : mw_P (gD G) gx_cl M_5 H := by rw [hM_5]; exact hP
  obtain ⟨g_6, hg_6⟩ : ∃ z9, z9 = ug g_4 3 (sN S) d := ⟨_, rfl⟩
  have hT : md_at G o A M_5 th (sSp S) (sSh S) (nI (sN S)) (nI np) z g_6 := by rw [hg_6]; exact md_at.put hT (by decide) rfl rfl hM_5
  have hk : md_keeps o A M M_5 := md_keeps.arr (j := 3) hk (by decide) hM_5
  refine lv_aload_n hx hb dX4_make_30 rfl (lv_at hl 0 rfl) ?_
  refine mw_get (D := gD G) (ci := 4) (v := .ref (A 4)) (C := RX4) (T := TX4) (N := 21) hx hb htb inX4 hown hK hP hT.1 rfl 8 (by decide) (htb _ wd532) (fun _ h9 => h9) rfl dX4_make_31 ?_
  refine lv_aload_n hx hb dX4_make_34 rfl (lv_at hl 0 rfl) ?_
  refine mw_get (D := gD G) (ci := 4) (v := .int (nI (sN S))) (C := RX4) (T := TX4) (N := 21) hx hb htb inX4 hown hK hP hT.1 rfl 4 (by decide) (htb _ wd528) (fun _ h9 => h9) rfl dX4_make_35 ?_
  refine lv_aload_n hx hb dX4_make_38 rfl (lv_at hl 0 rfl) ?_
  refine mw_get (D := gD G) (ci := 4) (v := .int (nI np)) (C := RX4) (T := TX4) (N := 21) hx hb htb inX4 hown hK hP hT.1 rfl 12 (by decide) (htb _ wd536) (fun _ h9 => h9) rfl dX4_make_39 ?_
  refine mw_iast hx hb hK hP hS 0 (show M_5 (A 4) = some (.inl (gI G, 120, .inl (g_6 4))) from hT.2.1 4 (by decide)) (hT.2.2.2.2 4 (by decide)) rfl (by exact vp_in_nI (show (sN S) < 120 by have := hn; omega) (by decide)) dX4_make_42 (fun H locs hP hS => ?_)
  rw [nI_clamp (show (sN S) < 2 ^ 31 by have := hn; omega)] at hP
  obtain ⟨M_7, hM_7⟩ : ∃ z9 : mw_M, z9 = mw_up M_5 (A 4) (.inl (gI G, 120, .inl (upd (g_6 4) (sN S) (nI np)))) := ⟨_, rfl⟩
  have hP : mw_P (gD G) gx_cl M_7 H := by rw [hM_7]; exact hP
  obtain ⟨g_8, hg_8⟩ : ∃ z9, z9 = ug g_6 4 (sN S) (nI np) := ⟨_, rfl⟩
  have hT : md_at G o A M_7 th (sSp S) (sSh S) (nI (sN S)) (nI np) z g_8 := by rw [hg_8]; exact md_at.put hT (by decide) rfl rfl hM_7
  have hk : md_keeps o A M M_7 := md_keeps.arr (j := 4) hk (by decide) hM_7
  refine lv_aload_n hx hb dX4_make_43 rfl (lv_at hl 0 rfl) ?_
  refine mw_get (D := gD G) (ci := 4) (v := .ref (A 5)) (C := RX4) (T := TX4) (N := 21) hx hb htb inX4 hown hK hP hT.1 rfl 9 (by decide) (htb _ wd533) (fun _ h9 => h9) rfl dX4_make_44 ?_
  refine lv_aload_n hx hb dX4_make_47 rfl (lv_at hl 0 rfl) ?_
  refine mw_get (D := gD G) (ci := 4) (v := .int (nI (sN S))) (C := RX4) (T := TX4) (N := 21) hx hb htb inX4 hown hK hP hT.1 rfl 4 (by decide) (htb _ wd528) (fun _ h9 => h9) rfl dX4_make_48 ?_
  refine lv_iconst (v := 0) hx hb dX4_make_51 (by decide) ?_
  refine mw_iast hx hb hK hP hS 0 (show M_7 (A 5) = some (.inl (gI G, 120, .inl (g_8 5))) from hT.2.1 5 (by decide)) (hT.2.2.2.2 5 (by decide)) rfl (by exact vp_in_nI (show (sN S) < 120 by have := hn; omega) (by decide)) dX4_make_52 (fun H locs hP hS => ?_)
  rw [nI_clamp (show (sN S) < 2 ^ 31 by have := hn; omega)] at hP
  obtain ⟨M_9, hM_9⟩ : ∃ z9 : mw_M, z9 = mw_up M_7 (A 5) (.inl (gI G, 120, .inl (upd (g_8 5) (sN S) 0))) := ⟨_, rfl⟩
  have hP : mw_P (gD G) gx_cl M_9 H := by rw [hM_9]; exact hP
  obtain ⟨g_10, hg_10⟩ : ∃ z9, z9 = ug g_8 5 (sN S) 0 := ⟨_, rfl⟩
  have hT : md_at G o A M_9 th (sSp S) (sSh S) (nI (sN S)) (nI np) z g_10 := by rw [hg_10]; exact md_at.put hT (by decide) rfl rfl hM_9
  have hk : md_keeps o A M M_9 := md_keeps.arr (j := 5) hk (by decide) hM_9
  refine lv_aload_n hx hb dX4_make_53 rfl (lv_at hl 0 rfl) ?_
  refine lv_dup hx hb dX4_make_54 rfl ?_
  refine mw_get (D := gD G) (ci := 4) (v := .int (nI (sN S))) (C := RX4) (T := TX4) (N := 21) hx hb htb inX4 hown hK hP hT.1 rfl 4 (by decide) (htb _ wd528) (fun _ h9 => h9) rfl dX4_make_55 ?_
  refine lv_iconst (v := 1) hx hb dX4_make_58 (by decide) ?_
  refine lv_iadd hx hb dX4_make_59 ?_
  refine mw_put (D := gD G) (ci := 4) (v := .int ((nI (sN S)) + 1)) (ty := .int) (C := RX4) (T := TX4) (N := 21) hx hb htb inX4 tyX4 tyX4_ok nmX4 hown hK hP hS hT.1 hT.2.2.2.1 rfl 4 (by decide) (htb _ wd528) (fun _ h9 => h9) rfl (by decide +kernel) rfl rfl (Nat.le_of_ble_eq_true rfl) dX4_make_60 (fun H locs hP hS => ?_)
  obtain ⟨M_11, hM_11⟩ : ∃ z9 : mw_M, z9 = mw_up M_9 o (.inr (4, [.int th, .ref (A 0), .int (sSp S), .int (sSh S), .int ((nI (sN S)) + 1), .ref (A 1), .ref (A 2), .ref (A 3), .ref (A 4), .ref (A 5), .ref (A 6), .ref (A 7), .int (nI np), .ref (A 8), .ref (A 9), .ref (A 10), .ref (A 11), .ref (A 12), .ref (A 13), .ref (A 14), .int z])) := ⟨_, rfl⟩
  have hP : mw_P (gD G) gx_cl M_11 H := by rw [hM_11]; exact hP
  have hT : md_at G o A M_11 th (sSp S) (sSh S) ((nI (sN S)) + 1) (nI np) z g_10 := md_at.fld hT hM_11
  have hk : md_keeps o A M M_11 := md_keeps.fld hk hM_11
  refine lv_aload_n hx hb dX4_make_63 rfl (lv_at hl 0 rfl) ?_
  refine mw_get (D := gD G) (ci := 4) (v := .int ((nI (sN S)) + 1)) (C := RX4) (T := TX4) (N := 21) hx hb htb inX4 hown hK hP hT.1 rfl 4 (by decide) (htb _ wd528) (fun _ h9 => h9) rfl dX4_make_64 ?_
  refine lv_iconst (v := 1) hx hb dX4_make_67 (by decide) ?_
  refine lv_isub hx hb dX4_make_68 ?_
  have hB9 := md_ab.make hB hn w h d
  rw [← hg_2, ← hg_4, ← hg_6, ← hg_8, ← hg_10] at hB9
  have en : nI (sN S) + 1 = nI (sN S + 1) := nI_1 _
  have ev : nI (sN S) + 1 - 1 = nI (sN S) := by rw [en]; exact top_1 _
  rw [en] at hT
  exact mx_iret (v := (((nI (sN S)) + 1) - 1)) (M' := M_11) hx hb hr hlocks hP hS ⟨by rw [ev], md_R.of hT hB9, hk⟩ dX4_make_69 (Nat.le_of_ble_eq_true rfl) (Nat.le_of_ble_eq_true rfl)
-- X4_lay
set_option maxHeartbeats 4000000 in
set_option maxRecDepth 100000 in
theorem kX4_lay (l : Launch) (htr : l.stackTraces = false) (G : gx_G) (sz : Nat) (M : mw_M) (o : Nat) (A : Nat → Nat) (th z : Int32) (S : fs_S) (w h d : Int32) (P : List Int32) (rw rh : Int32) (hR : md_R G o A M th z (fs_push S (w, h, d, P, rw, rh))) (hP3 : P.length + 3 ≤ 369) (x1 x2 x3 : Int32) : g_Met l G yX4_lay (.code yX4_lay cX4_lay 4 none) ({ frames := 1, cells := 0, slots := 0, locals := 60 } : Room) sz M [.ref o, .int x1, .int x2, .int x3] (fun v M9 => v = none ∧ md_R G o A M9 th z (fs_push S (w, h, d, P ++ [x1, x2, x3], rw, rh)) ∧ md_keeps o A M M9) (fun _ => False) := by
  refine MetE.ofW (cc := cX4_lay) (maxL := 4) (ret := none) (by decide) rfl ?_
  intro p e s m args below meth c s₁ B hml hv
  obtain ⟨rfl, hsz, hP, hE⟩ := hv
  have hx := B.exec
  have hb := B.bytes
  have hr := B.returns
  have hts := atoms_spec (ws := _ :: lw_big) B.pre
  have htb : ∀ w ∈ lw_big, w.before _ s = true := fun w h => hts w (List.mem_cons_of_mem _ h)
  have hno := B.noHandlers (hts _ List.mem_cons_self)
  have hown : s.vm.findClass RX4 = some m.cls := findClass_of_methodNamed B.named
  have hlocks := B.notSynchronized
  have hK := hE.1
  subst hsz
  have hS : va_S (gA G) s.heap s.heap [] := va_S.rf
  have hl := lv_entry ([.ref o, .int x1, .int x2, .int x3]) (n := 4) (Nat.le_of_ble_eq_true rfl)
  rw [lg_entry_eq]
  generalize (lg_sl ([.ref o, .int x1, .int x2, .int x3]) ++ List.replicate (4 - (lg_sl ([.ref o, .int x1, .int x2, .int x3])).length) Slot.unset).toArray = ls at hl ⊢
  have hl : lv_has ls 4 [(0, .ref o), (1, .int x1), (2, .int x2), (3, .int x3)] := hl
  obtain ⟨np, bg, g, hT, hB⟩ := id hR
  rw [sN_push] at hT
  have hT : md_at G o A M th (sSp S) (sSh S) (nI (sN S + 1)) (nI np) z g := hT
  have hk : md_keeps o A M M := md_keeps.rf o A M
  have hle : sN S + 1 ≤ 120 := by have := hB.1; rw [sN_push] at this; exact this
  have e_top : nI (sN S + 1) - 1 = nI (sN S) := top_1 _
  refine lv_aload_n hx hb dX4_lay_0 rfl (lv_at hl 0 rfl) ?_
  refine mw_get (D := gD G) (ci := 4) (v := .ref (A 8)) (C := RX4) (T := TX4) (N := 21) hx hb htb inX4 hown hK hP hT.1 rfl 13 (by decide) (htb _ wd537) (fun _ h9 => h9) rfl dX4_lay_1 ?_
  refine lv_aload_n hx hb dX4_lay_4 rfl (lv_at hl 0 rfl) ?_
  refine mw_get (D := gD G) (ci := 4) (v := .int (nI np)) (C := RX4) (T := TX4) (N := 21) hx hb htb inX4 hown hK hP hT.1 rfl 12 (by decide) (htb _ wd536) (fun _ h9 => h9) rfl dX4_lay_5 ?_
  refine lv_iload_n hx hb dX4_lay_8 rfl (lv_at hl 1 rfl) ?_
  refine mw_iast hx hb hK hP hS 0 (show M (A 8) = some (.inl (gI G, 14800, .inl (g 8))) from hT.2.1 8 (by decide)) (hT.2.2.2.2 8 (by decide)) rfl (by exact vp_in_nI (show np < 14800 by have h9 := hB.2.1; rw [sN_push] at h9; omega) (by decide)) dX4_lay_9 (fun H locs hP hS => ?_)
  rw [nI_clamp (show np < 2 ^ 31 by have h9 := hB.2.1; rw [sN_push] at h9; omega)] at hP
  obtain ⟨M_1, hM_1⟩ : ∃ z9 : mw_M, z9 = mw_up M (A 8) (.inl (gI G, 14800, .inl (upd (g 8) np x1))) := ⟨_, rfl⟩
  have hP : mw_P (gD G) gx_cl M_1 H := by rw [hM_1]; exact hP
  obtain ⟨g_2, hg_2⟩ : ∃ z9, z9 = ug g 8 np x1 := ⟨_, rfl⟩
  have hT : md_at G o A M_1 th (sSp S) (sSh S) (nI (sN S + 1)) (nI np) z g_2 := by rw [hg_2]; exact md_at.put hT (by decide) rfl rfl hM_1
  have hk : md_keeps o A M M_1 := md_keeps.arr (j := 8) hk (by decide) hM_1
  refine lv_aload_n hx hb dX4_lay_10 rfl (lv_at hl 0 rfl) ?_
  refine mw_get (D := gD G) (ci := 4) (v := .ref (A 9)) (C := RX4) (T := TX4) (N := 21) hx hb htb inX4 hown hK hP hT.1 rfl 14 (by decide) (htb _ wd538) (fun _ h9 => h9) rfl dX4_lay_11 ?_
  refine lv_aload_n hx hb dX4_lay_14 rfl (lv_at hl 0 rfl) ?_
  refine mw_get (D := gD G) (ci := 4) (v := .int (nI np)) (C := RX4) (T := TX4) (N := 21) hx hb htb inX4 hown hK hP hT.1 rfl 12 (by decide) (htb _ wd536) (fun _ h9 => h9) rfl dX4_lay_15 ?_
  refine lv_iload_n hx hb dX4_lay_18 rfl (lv_at hl 2 rfl) ?_
  refine mw_iast hx hb hK hP hS 0 (show M_1 (A 9) = some (.inl (gI G, 14800, .inl (g_2 9))) from hT.2.1 9 (by decide)) (hT.2.2.2.2 9 (by decide)) rfl (by exact vp_in_nI (show np < 14800 by have h9 := hB.2.1; rw [sN_push] at h9; omega) (by decide)) dX4_lay_19 (fun H locs hP hS => ?_)
  rw [nI_clamp (show np < 2 ^ 31 by have h9 := hB.2.1; rw [sN_push] at h9; omega)] at hP
  obtain ⟨M_3, hM_3⟩ : ∃ z9 : mw_M, z9 = mw_up M_1 (A 9) (.inl (gI G, 14800, .inl (upd (g_2 9) np x2))) := ⟨_, rfl⟩
  have hP : mw_P (gD G) gx_cl M_3 H := by rw [hM_3]; exact hP
  obtain ⟨g_4, hg_4⟩ : ∃ z9, z9 = ug g_2 9 np x2 := ⟨_, rfl⟩
  have hT : md_at G o A M_3 th (sSp S) (sSh S) (nI (sN S + 1)) (nI np) z g_4 := by rw [hg_4]; exact md_at.put hT (by decide) rfl rfl hM_3
  have hk : md_keeps o A M M_3 := md_keeps.arr (j := 9) hk (by decide) hM_3
  refine lv_aload_n hx hb dX4_lay_20 rfl (lv_at hl 0 rfl) ?_
  refine mw_get (D := gD G) (ci := 4) (v := .ref (A 10)) (C := RX4) (T := TX4) (N := 21) hx hb htb inX4 hown hK hP hT.1 rfl 15 (by decide) (htb _ wd539) (fun _ h9 => h9) rfl dX4_lay_21 ?_
  refine lv_aload_n hx hb dX4_lay_24 rfl (lv_at hl 0 rfl) ?_
  refine mw_get (D := gD G) (ci := 4) (v := .int (nI np)) (C := RX4) (T := TX4) (N := 21) hx hb htb inX4 hown hK hP hT.1 rfl 12 (by decide) (htb _ wd536) (fun _ h9 => h9) rfl dX4_lay_25 ?_
  refine lv_iload_n hx hb dX4_lay_28 rfl (lv_at hl 3 rfl) ?_
  refine mw_iast hx hb hK hP hS 0 (show M_3 (A 10) = some (.inl (gI G, 14800, .inl (g_4 10))) from hT.2.1 10 (by decide)) (hT.2.2.2.2 10 (by decide)) rfl (by exact vp_in_nI (show np < 14800 by have h9 := hB.2.1; rw [sN_push] at h9; omega) (by decide)) dX4_lay_29 (fun H locs hP hS => ?_)
  rw [nI_clamp (show np < 2 ^ 31 by have h9 := hB.2.1; rw [sN_push] at h9; omega)] at hP
  obtain ⟨M_5, hM_5⟩ : ∃ z9 : mw_M, z9 = mw_up M_3 (A 10) (.inl (gI G, 14800, .inl (upd (g_4 10) np x3))) := ⟨_, rfl⟩
  have hP : mw_P (gD G) gx_cl M_5 H := by rw [hM_5]; exact hP
  obtain ⟨g_6, hg_6⟩ : ∃ z9, z9 = ug g_4 10 np x3 := ⟨_, rfl⟩
  have hT : md_at G o A M_5 th (sSp S) (sSh S) (nI (sN S + 1)) (nI np) z g_6 := by rw [hg_6]; exact md_at.put hT (by decide) rfl rfl hM_5
  have hk : md_keeps o A M M_5 := md_keeps.arr (j := 10) hk (by decide) hM_5
  refine lv_aload_n hx hb dX4_lay_30 rfl (lv_at hl 0 rfl) ?_
  refine lv_dup hx hb dX4_lay_31 rfl ?_
  refine mw_get (D := gD G) (ci := 4) (v := .int (nI np)) (C := RX4) (T := TX4) (N := 21) hx hb htb inX4 hown hK hP hT.1 rfl 12 (by decide) (htb _ wd536) (fun _ h9 => h9) rfl dX4_lay_32 ?_
  refine lv_iconst (v := 1) hx hb dX4_lay_35 (by decide) ?_
  refine lv_iadd hx hb dX4_lay_36 ?_
  refine mw_put (D := gD G) (ci := 4) (v := .int ((nI np) + 1)) (ty := .int) (C := RX4) (T := TX4) (N := 21) hx hb htb inX4 tyX4 tyX4_ok nmX4 hown hK hP hS hT.1 hT.2.2.2.1 rfl 12 (by decide) (htb _ wd536) (fun _ h9 => h9) rfl (by decide +kernel) rfl rfl (Nat.le_of_ble_eq_true rfl) dX4_lay_37 (fun H locs hP hS => ?_)
  obtain ⟨M_7, hM_7⟩ : ∃ z9 : mw_M, z9 = mw_up M_5 o (.inr (4, [.int th, .ref (A 0), .int (sSp S), .int (sSh S), .int (nI (sN S + 1)), .ref (A 1), .ref (A 2), .ref (A 3), .ref (A 4), .ref (A 5), .ref (A 6), .ref (A 7), .int ((nI np) + 1), .ref (A 8), .ref (A 9), .ref (A 10), .ref (A 11), .ref (A 12), .ref (A 13), .ref (A 14), .int z])) := ⟨_, rfl⟩
  have hP : mw_P (gD G) gx_cl M_7 H := by rw [hM_7]; exact hP
  have hT : md_at G o A M_7 th (sSp S) (sSh S) (nI (sN S + 1)) ((nI np) + 1) z g_6 := md_at.fld hT hM_7
  have hk : md_keeps o A M M_7 := md_keeps.fld hk hM_7
  refine lv_aload_n hx hb dX4_lay_40 rfl (lv_at hl 0 rfl) ?_
  refine mw_get (D := gD G) (ci := 4) (v := .ref (A 5)) (C := RX4) (T := TX4) (N := 21) hx hb htb inX4 hown hK hP hT.1 rfl 9 (by decide) (htb _ wd533) (fun _ h9 => h9) rfl dX4_lay_41 ?_
  refine lv_aload_n hx hb dX4_lay_44 rfl (lv_at hl 0 rfl) ?_
  refine mw_get (D := gD G) (ci := 4) (v := .int (nI (sN S + 1))) (C := RX4) (T := TX4) (N := 21) hx hb htb inX4 hown hK hP hT.1 rfl 4 (by decide) (htb _ wd528) (fun _ h9 => h9) rfl dX4_lay_45 ?_
  refine lv_iconst (v := 1) hx hb dX4_lay_48 (by decide) ?_
  refine lv_isub hx hb dX4_lay_49 ?_
  refine lv_dup2_11 hx hb dX4_lay_50 rfl rfl ?_
  refine mw_iald hx hb hK hP 0 (show M_7 (A 5) = some (.inl (gI G, 120, .inl (g_6 5))) from hT.2.1 5 (by decide)) rfl (by rw [e_top]; exact vp_in_nI (show (sN S) < 120 by omega) (by decide)) dX4_lay_51 ?_
  refine W.eq (g2 := F0 m 52 ls [.int (g_6 5 (sN S)), .int ((nI (sN S + 1)) - 1), .ref (A 5)]) (by rw [e_top, nI_clamp (show (sN S) < 2 ^ 31 by omega)]) ?_
  refine lv_iconst (v := 1) hx hb dX4_lay_52 (by decide) ?_
  refine lv_iadd hx hb dX4_lay_53 ?_
  refine mw_iast hx hb hK hP hS 0 (show M_7 (A 5) = some (.inl (gI G, 120, .inl (g_6 5))) from hT.2.1 5 (by decide)) (hT.2.2.2.2 5 (by decide)) rfl (by rw [e_top]; exact vp_in_nI (show (sN S) < 120 by omega) (by decide)) dX4_lay_54 (fun H locs hP hS => ?_)
  rw [e_top, nI_clamp (show (sN S) < 2 ^ 31 by omega)] at hP
  obtain ⟨M_8, hM_8⟩ : ∃ z9 : mw_M, z9 = mw_up M_7 (A 5) (.inl (gI G, 120, .inl (upd (g_6 5) (sN S) ((g_6 5 (sN S)) + 1)))) := ⟨_, rfl⟩
  have hP : mw_P (gD G) gx_cl M_8 H := by rw [hM_8]; exact hP
  obtain ⟨g_9, hg_9⟩ : ∃ z9, z9 = ug g_6 5 (sN S) ((g_6 5 (sN S)) + 1) := ⟨_, rfl⟩
  have hT : md_at G o A M_8 th (sSp S) (sSh S) (nI (sN S + 1)) ((nI np) + 1) z g_9 := by rw [hg_9]; exact md_at.put hT (by decide) rfl rfl hM_8
  have hk : md_keeps o A M M_8 := md_keeps.arr (j := 5) hk (by decide) hM_8
  have e5 : g_6 5 (sN S) = g 5 (sN S) := by rw [hg_6, hg_4, hg_2]; simp [ug_app]
  have hB9 := md_ab.lay hB hP3 x1 x2 x3
  rw [← hg_2, ← hg_4, ← hg_6, ← e5, ← hg_9] at hB9
  rw [nI_1] at hT
  exact mx_vret (M' := M_8) hx hb hr hlocks hP hS ⟨rfl, md_R.of (np := np + 1) hT hB9, hk⟩ dX4_lay_55 (Nat.le_of_ble_eq_true rfl) (Nat.le_of_ble_eq_true rfl)
def fs_pb (u : fs_Pi) : fs_B := (u.2.2, u.2.1, 0, u.1, 0, 0)
-- X4_pile
set_option maxHeartbeats 4000000 in
set_option maxRecDepth 100000 in
theorem kX4_pile (l : Launch) (htr : l.stackTraces = false) (G : gx_G) (sz : Nat) (M : mw_M) (o : Nat) (A : Nat → Nat) (th z : Int32) (S : fs_S) (u : fs_Pi) (hR : md_R G o A M th z (fs_push S (fs_pb u))) (hu : u.1.length + 3 ≤ 369) (x : Int32) (hxo : fs_on S x) : g_Met l G yX4_pile (.code yX4_pile cX4_pile 3 none) ({ frames := 2, cells := 0, slots := 0, locals := 100 } : Room) sz M [.ref o, .int x] (fun v M9 => v = none ∧ md_R G o A M9 th z (fs_push S (fs_pb (fs_puo S u x 1))) ∧ md_keeps o A M M9) (fun _ => False) := by
  refine MetE.ofW (cc := cX4_pile) (maxL := 3) (ret := none) (by decide) rfl ?_
  intro p e s m args below meth c s₁ B hml hv
  obtain ⟨rfl, hsz, hP, hE⟩ := hv
  have hx := B.exec
  have hb := B.bytes
  have hr := B.returns
  have hts := atoms_spec (ws := _ :: lw_big) B.pre
  have htb : ∀ w ∈ lw_big, w.before _ s = true := fun w h => hts w (List.mem_cons_of_mem _ h)
  have hno := B.noHandlers (hts _ List.mem_cons_self)
  have hown : s.vm.findClass RX4 = some m.cls := findClass_of_methodNamed B.named
  have hlocks := B.notSynchronized
  have hK := hE.1
  subst hsz
  have hS : va_S (gA G) s.heap s.heap [] := va_S.rf
  have hl := lv_entry ([.ref o, .int x]) (n := 3) (Nat.le_of_ble_eq_true rfl)
  rw [lg_entry_eq]
  generalize (lg_sl ([.ref o, .int x]) ++ List.replicate (3 - (lg_sl ([.ref o, .int x])).length) Slot.unset).toArray = ls at hl ⊢
  have hl : lv_has ls 3 [(0, .ref o), (1, .int x)] := hl
  obtain ⟨np, bg, g, hT, hB⟩ := id hR
  rw [sN_push] at hT
  have hT : md_at G o A M th (sSp S) (sSh S) (nI (sN S + 1)) (nI np) z g := hT
  have hk : md_keeps o A M M := md_keeps.rf o A M
  have hle : sN S + 1 ≤ 120 := by have := hB.1; rw [sN_push] at this; exact this
  have e_top : nI (sN S + 1) - 1 = nI (sN S) := top_1 _
  have hu3 : u.1.length % 3 = 0 := hB.topb.2.1
  refine lv_iload_n hx hb dX4_pile_0 rfl (lv_at hl 1 rfl) ?_
  refine lv_iconst (v := (-1)) hx hb dX4_pile_1 (by decide) ?_
  refine lv_icmp_ne (tgt := 6) hx hb dX4_pile_2 (by decide) (fun c_1 => ?_) (fun c_1 => ?_)
  · obtain ⟨i, hi, exi⟩ := hxo.resolve_left c_1
    rw [exi] at hl
    refine lv_aload_n hx hb dX4_pile_6 rfl (lv_at hl 0 rfl) ?_
    refine mw_get (D := gD G) (ci := 4) (v := .int (nI (sN S + 1))) (C := RX4) (T := TX4) (N := 21) hx hb htb inX4 hown hK hP hT.1 rfl 4 (by decide) (htb _ wd528) (fun _ h9 => h9) rfl dX4_pile_7 ?_
    refine lv_iconst (v := 1) hx hb dX4_pile_10 (by decide) ?_
    refine lv_isub hx hb dX4_pile_11 ?_
    refine lv_istore_n (lv' := [(2, .int ((nI (sN S + 1)) - 1)), (0, .ref o), (1, .int (nI i))]) hx hb dX4_pile_12 rfl hl (by decide) rfl (fun ls hl => ?_)
    refine lv_aload_n hx hb dX4_pile_13 rfl (lv_at hl 1 rfl) ?_
    refine lv_iload_n hx hb dX4_pile_14 rfl (lv_at hl 2 rfl) ?_
    refine lv_iconst (v := 0) hx hb dX4_pile_15 (by decide) ?_
    refine lv_aload_n hx hb dX4_pile_16 rfl (lv_at hl 1 rfl) ?_
    refine mw_get (D := gD G) (ci := 4) (v := .ref (A 2)) (C := RX4) (T := TX4) (N := 21) hx hb htb inX4 hown hK hP hT.1 rfl 6 (by decide) (htb _ wd530) (fun _ h9 => h9) rfl dX4_pile_17 ?_
    refine lv_iload_n hx hb dX4_pile_20 rfl (lv_at hl 0 rfl) ?_
    refine mw_iald hx hb hK hP 0 (show M (A 2) = some (.inl (gI G, 120, .inl (g 2))) from hT.2.1 2 (by decide)) rfl (by rw [e_top]; exact vp_in_nI (show (sN S) < 120 by omega) (by decide)) dX4_pile_21 ?_
    refine W.eq (g2 := F0 m 22 ls [.int u.2.1, .int 0, .int (nI i), .ref o]) (by rw [e_top, nI_clamp (show (sN S) < 2 ^ 31 by omega), hB.topH]) ?_
    refine lv_aload_n hx hb dX4_pile_22 rfl (lv_at hl 1 rfl) ?_
    refine mw_get (D := gD G) (ci := 4) (v := .ref (A 3)) (C := RX4) (T := TX4) (N := 21) hx hb htb inX4 hown hK hP hT.1 rfl 7 (by decide) (htb _ wd531) (fun _ h9 => h9) rfl dX4_pile_23 ?_
    refine lv_iload_n hx hb dX4_pile_26 rfl (lv_at hl 2 rfl) ?_
    refine mw_iald hx hb hK hP 0 (show M (A 3) = some (.inl (gI G, 120, .inl (g 3))) from hT.2.1 3 (by decide)) rfl (by exact vp_in_nI (show i < 120 by have := hle; omega) (by decide)) dX4_pile_27 ?_
    refine W.eq (g2 := F0 m 28 ls [.int (bD S i), .int u.2.1, .int 0, .int (nI i), .ref o]) (by rw [nI_clamp (show i < 2 ^ 31 by have := hle; omega), hB.D (show i < sN (fs_push S (u.2.2, u.2.1, 0, u.1, 0, 0)) by rw [sN_push]; omega), bD_push _ hi]) ?_
    refine lv_iadd hx hb dX4_pile_28 ?_
    refine mw_callV (C := RX4) (As := [.int (nI i), .int 0, .int (u.2.1 + (bD S i))]) (rest := []) hx hb hml hown hl (kX4_lay l htr G s.heap.size M o A th z S u.2.2 u.2.1 0 u.1 0 0 (md_R.of (np := np) hT hB : md_R G o A M th z (fs_push S (u.2.2, u.2.1, 0, u.1, 0, 0))) hu (nI i) 0 (u.2.1 + (bD S i))) (g_B (n := 3) htb wd661 wd3 wd658 (by decide +kernel) ⟨Nat.le_of_ble_eq_true rfl, Nat.le_of_ble_eq_true rfl⟩) (htb _ wd660) (htb _ ws34) hE hP hS hT.1 rfl rfl rfl (Nat.le_of_ble_eq_true rfl) dX4_pile_29 ⟨Nat.le_of_ble_eq_true rfl, Nat.le_of_ble_eq_true rfl⟩ (fun v9 M9 H locs hpo hP hz hS => ?_) (fun x9 E9 cell9 H9 locs9 hE9 => hE9.elim)
    obtain ⟨rfl, hRn, hkn⟩ := hpo
    obtain ⟨M_2, hM_2⟩ : ∃ z9 : mw_M, z9 = M9 := ⟨_, rfl⟩
    rw [← hM_2] at hP hRn hkn
    have hk := md_keeps.tr hk hkn
    have hRn : md_R G o A M_2 th z (fs_push S (u.2.2, u.2.1, 0, (u.1 ++ [(nI i), 0, (u.2.1 + (bD S i))]), 0, 0)) := hRn
    obtain ⟨np3, bg3, g3, hT, hB⟩ := id hRn
    rw [sN_push] at hT
    have hT : md_at G o A M_2 th (sSp S) (sSh S) (nI (sN S + 1)) (nI np3) z g3 := hT
    refine W.eq (g2 := F0 m 32 ls []) rfl ?_
    refine lv_aload_n hx hb dX4_pile_32 rfl (lv_at hl 1 rfl) ?_
    refine mw_get (D := gD G) (ci := 4) (v := .ref (A 2)) (C := RX4) (T := TX4) (N := 21) hx hb htb inX4 hown hK hP hT.1 rfl 6 (by decide) (htb _ wd530) (fun _ h9 => h9) rfl dX4_pile_33 ?_
    refine lv_iload_n hx hb dX4_pile_36 rfl (lv_at hl 0 rfl) ?_
    refine lv_aload_n hx hb dX4_pile_37 rfl (lv_at hl 1 rfl) ?_
    refine mw_get (D := gD G) (ci := 4) (v := .ref (A 2)) (C := RX4) (T := TX4) (N := 21) hx hb htb inX4 hown hK hP hT.1 rfl 6 (by decide) (htb _ wd530) (fun _ h9 => h9) rfl dX4_pile_38 ?_
    refine lv_iload_n hx hb dX4_pile_41 rfl (lv_at hl 0 rfl) ?_
    refine mw_iald hx hb hK hP 0 (show M_2 (A 2) = some (.inl (gI G, 120, .inl (g3 2))) from hT.2.1 2 (by decide)) rfl (by rw [e_top]; exact vp_in_nI (show (sN S) < 120 by omega) (by decide)) dX4_pile_42 ?_
    refine W.eq (g2 := F0 m 43 ls [.int u.2.1, .int ((nI (sN S + 1)) - 1), .ref (A 2)]) (by rw [e_top, nI_clamp (show (sN S) < 2 ^ 31 by omega), hB.topH]) ?_
    refine lv_aload_n hx hb dX4_pile_43 rfl (lv_at hl 1 rfl) ?_
    refine lv_iload_n hx hb dX4_pile_44 rfl (lv_at hl 2 rfl) ?_
    refine mw_callV (C := RX4) (As := [.int (nI i)]) (rest := [.int u.2.1, .int ((nI (sN S + 1)) - 1), .ref (A 2)]) hx hb hml hown hl (kX4_tall l htr G H.size M_2 o A th z (fs_push S (u.2.2, u.2.1, 0, (u.1 ++ [(nI i), 0, (u.2.1 + (bD S i))]), 0, 0)) (md_R.of (np := np3) hT hB : md_R G o A M_2 th z (fs_push S (u.2.2, u.2.1, 0, (u.1 ++ [(nI i), 0, (u.2.1 + (bD S i))]), 0, 0))) (nI i) (fs_on.push _ (Or.inr ⟨i, hi, rfl⟩))) (g_B (n := 1) htb wd645 wd3 wd642 (by decide +kernel) ⟨Nat.le_of_ble_eq_true rfl, Nat.le_of_ble_eq_true rfl⟩) (htb _ wd644) (htb _ ws30) hE hP hS hT.1 rfl rfl rfl (Nat.le_of_ble_eq_true rfl) dX4_pile_45 ⟨Nat.le_of_ble_eq_true rfl, Nat.le_of_ble_eq_true rfl⟩ (fun v9 M9 H locs hpo hP hz hS => ?_) (fun x9 E9 cell9 H9 locs9 hE9 => hE9.elim)
    obtain ⟨rfl, rfl⟩ := hpo
    refine W.eq (g2 := F0 m 48 ls [.int (fEx S (nI i)), .int u.2.1, .int ((nI (sN S + 1)) - 1), .ref (A 2)]) (show F0 m 48 ls [.int (fEx (fs_push S (u.2.2, u.2.1, 0, (u.1 ++ [(nI i), 0, (u.2.1 + (bD S i))]), 0, 0)) (nI i)), .int u.2.1, .int ((nI (sN S + 1)) - 1), .ref (A 2)] = F0 m 48 ls [.int (fEx S (nI i)), .int u.2.1, .int ((nI (sN S + 1)) - 1), .ref (A 2)] from by rw [fEx_push _ hle (Or.inr ⟨i, hi, rfl⟩)]) ?_
    refine lv_iadd hx hb dX4_pile_48 ?_
    refine mw_iast hx hb hK hP hS 0 (show M_2 (A 2) = some (.inl (gI G, 120, .inl (g3 2))) from hT.2.1 2 (by decide)) (hT.2.2.2.2 2 (by decide)) rfl (by rw [e_top]; exact vp_in_nI (show (sN S) < 120 by omega) (by decide)) dX4_pile_49 (fun H locs hP hS => ?_)
    rw [e_top, nI_clamp (show (sN S) < 2 ^ 31 by omega)] at hP
    obtain ⟨M_4, hM_4⟩ : ∃ z9 : mw_M, z9 = mw_up M_2 (A 2) (.inl (gI G, 120, .inl (upd (g3 2) (sN S) (u.2.1 + (fEx S (nI i)))))) := ⟨_, rfl⟩
    have hP : mw_P (gD G) gx_cl M_4 H := by rw [hM_4]; exact hP
    obtain ⟨g_5, hg_5⟩ : ∃ z9, z9 = ug g3 2 (sN S) (u.2.1 + (fEx S (nI i))) := ⟨_, rfl⟩
    have hT : md_at G o A M_4 th (sSp S) (sSh S) (nI (sN S + 1)) (nI np3) z g_5 := by rw [hg_5]; exact md_at.put hT (by decide) rfl rfl hM_4
    have hk : md_keeps o A M M_4 := md_keeps.arr (j := 2) hk (by decide) hM_4
    have hB : md_ab np3 bg3 g_5 (fs_push S (u.2.2, (u.2.1 + (fEx S (nI i))), 0, (u.1 ++ [(nI i), 0, (u.2.1 + (bD S i))]), 0, 0)) := by rw [hg_5]; exact md_ab.set2 hB _
    refine lv_aload_n hx hb dX4_pile_50 rfl (lv_at hl 1 rfl) ?_
    refine mw_get (D := gD G) (ci := 4) (v := .ref (A 1)) (C := RX4) (T := TX4) (N := 21) hx hb htb inX4 hown hK hP hT.1 rfl 5 (by decide) (htb _ wd529) (fun _ h9 => h9) rfl dX4_pile_51 ?_
    refine lv_iload_n hx hb dX4_pile_54 rfl (lv_at hl 0 rfl) ?_
    refine lv_aload_n hx hb dX4_pile_55 rfl (lv_at hl 1 rfl) ?_
    refine mw_get (D := gD G) (ci := 4) (v := .ref (A 5)) (C := RX4) (T := TX4) (N := 21) hx hb htb inX4 hown hK hP hT.1 rfl 9 (by decide) (htb _ wd533) (fun _ h9 => h9) rfl dX4_pile_56 ?_
    refine lv_iload_n hx hb dX4_pile_59 rfl (lv_at hl 0 rfl) ?_
    refine mw_iald hx hb hK hP 0 (show M_4 (A 5) = some (.inl (gI G, 120, .inl (g_5 5))) from hT.2.1 5 (by decide)) rfl (by rw [e_top]; exact vp_in_nI (show (sN S) < 120 by omega) (by decide)) dX4_pile_60 ?_
    refine W.eq (g2 := F0 m 61 ls [.int (nI ((u.1 ++ [(nI i), 0, (u.2.1 + (bD S i))]).length / 3)), .int ((nI (sN S + 1)) - 1), .ref (A 1)]) (by rw [e_top, nI_clamp (show (sN S) < 2 ^ 31 by omega), hB.topM]) ?_
    refine lv_iconst (v := 1) hx hb dX4_pile_61 (by decide) ?_
    refine lv_icmp_ne (tgt := 74) hx hb dX4_pile_62 (by decide) (fun c_6 => ?_) (fun c_6 => ?_)
    · refine lv_aload_n hx hb dX4_pile_74 rfl (lv_at hl 1 rfl) ?_
      refine mw_get (D := gD G) (ci := 4) (v := .ref (A 1)) (C := RX4) (T := TX4) (N := 21) hx hb htb inX4 hown hK hP hT.1 rfl 5 (by decide) (htb _ wd529) (fun _ h9 => h9) rfl dX4_pile_75 ?_
      refine lv_iload_n hx hb dX4_pile_78 rfl (lv_at hl 0 rfl) ?_
      refine mw_iald hx hb hK hP 0 (show M_4 (A 1) = some (.inl (gI G, 120, .inl (g_5 1))) from hT.2.1 1 (by decide)) rfl (by rw [e_top]; exact vp_in_nI (show (sN S) < 120 by omega) (by decide)) dX4_pile_79 ?_
      refine W.eq (g2 := F0 m 80 ls [.int u.2.2, .int ((nI (sN S + 1)) - 1), .ref (A 1)]) (by rw [e_top, nI_clamp (show (sN S) < 2 ^ 31 by omega), hB.topW]) ?_
      refine lv_aload_n hx hb dX4_pile_80 rfl (lv_at hl 1 rfl) ?_
      refine mw_get (D := gD G) (ci := 4) (v := .ref (A 1)) (C := RX4) (T := TX4) (N := 21) hx hb htb inX4 hown hK hP hT.1 rfl 5 (by decide) (htb _ wd529) (fun _ h9 => h9) rfl dX4_pile_81 ?_
      refine lv_iload_n hx hb dX4_pile_84 rfl (lv_at hl 2 rfl) ?_
      refine mw_iald hx hb hK hP 0 (show M_4 (A 1) = some (.inl (gI G, 120, .inl (g_5 1))) from hT.2.1 1 (by decide)) rfl (by exact vp_in_nI (show i < 120 by have := hle; omega) (by decide)) dX4_pile_85 ?_
      refine W.eq (g2 := F0 m 86 ls [.int (bW S i), .int u.2.2, .int ((nI (sN S + 1)) - 1), .ref (A 1)]) (by rw [nI_clamp (show i < 2 ^ 31 by have := hle; omega), hB.W (show i < sN (fs_push S (u.2.2, (u.2.1 + (fEx S (nI i))), 0, (u.1 ++ [(nI i), 0, (u.2.1 + (bD S i))]), 0, 0)) by rw [sN_push]; omega), bW_push _ hi]) ?_
      refine mw_callS (As := [.int u.2.2, .int (bW S i)]) (rest := [.int ((nI (sN S + 1)) - 1), .ref (A 1)]) hx hb hml hown hl (kX4_greater l htr G H.size M_4 u.2.2 (bW S i)) (g_B (n := 2) htb wd664 wd3 wd662 (by decide +kernel) ⟨Nat.le_of_ble_eq_true rfl, Nat.le_of_ble_eq_true rfl⟩) (htb _ wd663) hE hP hS rfl rfl (Nat.le_of_ble_eq_true rfl) dX4_pile_86 ⟨Nat.le_of_ble_eq_true rfl, Nat.le_of_ble_eq_true rfl⟩ (fun v9 M9 H locs hpo hP hz hS => ?_) (fun x9 E9 cell9 H9 locs9 hE9 => hE9.elim)
      obtain ⟨rfl, rfl⟩ := hpo
      refine W.eq (g2 := F0 m 89 ls [.int (fMx u.2.2 (bW S i)), .int ((nI (sN S + 1)) - 1), .ref (A 1)]) rfl ?_
      refine mw_iast hx hb hK hP hS 0 (show M_4 (A 1) = some (.inl (gI G, 120, .inl (g_5 1))) from hT.2.1 1 (by decide)) (hT.2.2.2.2 1 (by decide)) rfl (by rw [e_top]; exact vp_in_nI (show (sN S) < 120 by omega) (by decide)) dX4_pile_89 (fun H locs hP hS => ?_)
      rw [e_top, nI_clamp (show (sN S) < 2 ^ 31 by omega)] at hP
      obtain ⟨M_7, hM_7⟩ : ∃ z9 : mw_M, z9 = mw_up M_4 (A 1) (.inl (gI G, 120, .inl (upd (g_5 1) (sN S) (fMx u.2.2 (bW S i))))) := ⟨_, rfl⟩
      have hP : mw_P (gD G) gx_cl M_7 H := by rw [hM_7]; exact hP
      obtain ⟨g_8, hg_8⟩ : ∃ z9, z9 = ug g_5 1 (sN S) (fMx u.2.2 (bW S i)) := ⟨_, rfl⟩
      have hT : md_at G o A M_7 th (sSp S) (sSh S) (nI (sN S + 1)) (nI np3) z g_8 := by rw [hg_8]; exact md_at.put hT (by decide) rfl rfl hM_7
      have hk : md_keeps o A M M_7 := md_keeps.arr (j := 1) hk (by decide) hM_7
      have hB : md_ab np3 bg3 g_8 (fs_push S ((fMx u.2.2 (bW S i)), (u.2.1 + (fEx S (nI i))), 0, (u.1 ++ [(nI i), 0, (u.2.1 + (bD S i))]), 0, 0)) := by rw [hg_8]; exact md_ab.set1 hB _
      have hc9 := many1 (a := nI i) (b := 0) (c := u.2.1 + bD S i) hu3 (by omega)
      have e9 : fs_puo S u x 1 = fs_pu S u i := by rw [fs_puo, if_neg c_1, exi, fIx_nI (show i < 2 ^ 31 by omega)]; rfl
      have e8 : fs_pb (fs_pu S u i) = ((fMx u.2.2 (bW S i)), (u.2.1 + (fEx S (nI i))), 0, (u.1 ++ [(nI i), 0, (u.2.1 + (bD S i))]), 0, 0) := by
        have e7 : fEx S (nI i) = bH S i + bD S i := by rw [fEx, if_neg (exi ▸ c_1), nI_clamp (show i < 2 ^ 31 by omega)]
        rw [e7, fs_pb, fs_pu]; simp only; rw [if_neg (fun z9 => c_6 (hc9.mpr z9))]
      exact mx_vret (M' := M_7) hx hb hr hlocks hP hS ⟨rfl, by rw [e9, e8]; exact (md_R.of (np := np3) hT hB : md_R G o A M_7 th z (fs_push S ((fMx u.2.2 (bW S i)), (u.2.1 + (fEx S (nI i))), 0, (u.1 ++ [(nI i), 0, (u.2.1 + (bD S i))]), 0, 0))), hk⟩ dX4_pile_90 (Nat.le_of_ble_eq_true rfl) (Nat.le_of_ble_eq_true rfl)
    · refine lv_aload_n hx hb dX4_pile_65 rfl (lv_at hl 1 rfl) ?_
      refine mw_get (D := gD G) (ci := 4) (v := .ref (A 1)) (C := RX4) (T := TX4) (N := 21) hx hb htb inX4 hown hK hP hT.1 rfl 5 (by decide) (htb _ wd529) (fun _ h9 => h9) rfl dX4_pile_66 ?_
      refine lv_iload_n hx hb dX4_pile_69 rfl (lv_at hl 2 rfl) ?_
      refine mw_iald hx hb hK hP 0 (show M_4 (A 1) = some (.inl (gI G, 120, .inl (g_5 1))) from hT.2.1 1 (by decide)) rfl (by exact vp_in_nI (show i < 120 by have := hle; omega) (by decide)) dX4_pile_70 ?_
      refine W.eq (g2 := F0 m 71 ls [.int (bW S i), .int ((nI (sN S + 1)) - 1), .ref (A 1)]) (by rw [nI_clamp (show i < 2 ^ 31 by have := hle; omega), hB.W (show i < sN (fs_push S (u.2.2, (u.2.1 + (fEx S (nI i))), 0, (u.1 ++ [(nI i), 0, (u.2.1 + (bD S i))]), 0, 0)) by rw [sN_push]; omega), bW_push _ hi]) ?_
      refine lv_goto (tgt := 89) hx hb dX4_pile_71 (by decide) ?_
      refine mw_iast hx hb hK hP hS 0 (show M_4 (A 1) = some (.inl (gI G, 120, .inl (g_5 1))) from hT.2.1 1 (by decide)) (hT.2.2.2.2 1 (by decide)) rfl (by rw [e_top]; exact vp_in_nI (show (sN S) < 120 by omega) (by decide)) dX4_pile_89 (fun H locs hP hS => ?_)
      rw [e_top, nI_clamp (show (sN S) < 2 ^ 31 by omega)] at hP
      obtain ⟨M_9, hM_9⟩ : ∃ z9 : mw_M, z9 = mw_up M_4 (A 1) (.inl (gI G, 120, .inl (upd (g_5 1) (sN S) (bW S i)))) := ⟨_, rfl⟩
      have hP : mw_P (gD G) gx_cl M_9 H := by rw [hM_9]; exact hP
      obtain ⟨g_10, hg_10⟩ : ∃ z9, z9 = ug g_5 1 (sN S) (bW S i) := ⟨_, rfl⟩
      have hT : md_at G o A M_9 th (sSp S) (sSh S) (nI (sN S + 1)) (nI np3) z g_10 := by rw [hg_10]; exact md_at.put hT (by decide) rfl rfl hM_9
      have hk : md_keeps o A M M_9 := md_keeps.arr (j := 1) hk (by decide) hM_9
      have hB : md_ab np3 bg3 g_10 (fs_push S ((bW S i), (u.2.1 + (fEx S (nI i))), 0, (u.1 ++ [(nI i), 0, (u.2.1 + (bD S i))]), 0, 0)) := by rw [hg_10]; exact md_ab.set1 hB _
      have hc9 := many1 (a := nI i) (b := 0) (c := u.2.1 + bD S i) hu3 (by omega)
      have e9 : fs_puo S u x 1 = fs_pu S u i := by rw [fs_puo, if_neg c_1, exi, fIx_nI (show i < 2 ^ 31 by omega)]; rfl
      have e8 : fs_pb (fs_pu S u i) = ((bW S i), (u.2.1 + (fEx S (nI i))), 0, (u.1 ++ [(nI i), 0, (u.2.1 + (bD S i))]), 0, 0) := by
        have e7 : fEx S (nI i) = bH S i + bD S i := by rw [fEx, if_neg (exi ▸ c_1), nI_clamp (show i < 2 ^ 31 by omega)]
        rw [e7, fs_pb, fs_pu]; simp only; rw [if_pos (hc9.mp c_6)]
      exact mx_vret (M' := M_9) hx hb hr hlocks hP hS ⟨rfl, by rw [e9, e8]; exact (md_R.of (np := np3) hT hB : md_R G o A M_9 th z (fs_push S ((bW S i), (u.2.1 + (fEx S (nI i))), 0, (u.1 ++ [(nI i), 0, (u.2.1 + (bD S i))]), 0, 0))), hk⟩ dX4_pile_90 (Nat.le_of_ble_eq_true rfl) (Nat.le_of_ble_eq_true rfl)
  · have e9 : fs_puo S u x 1 = u := by rw [fs_puo, if_pos c_1]
    exact mx_vret (M' := M) hx hb hr hlocks hP hS ⟨rfl, by rw [e9]; exact hR, hk⟩ dX4_pile_5 (Nat.le_of_ble_eq_true rfl) (Nat.le_of_ble_eq_true rfl)
