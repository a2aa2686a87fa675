/-! printed by wip/whole/spec*.py -/
-- X4_boxes
set_option maxHeartbeats 4000000 in
set_option maxRecDepth 100000 in
theorem kX4_boxes (l : Launch) (htr : l.stackTraces = false) (G : gx_G) (sz : Nat) (M : mw_M) (o : Nat) (A : Nat → Nat) (th z : Int32) (S : fs_S) (hR : md_R G o A M th z S) : g_Met l G yX4_boxes (.code yX4_boxes cX4_boxes 1 (some .int)) ({ frames := 1, cells := 0, slots := 0, locals := 60 } : Room) sz M [.ref o] (md_Mk G o A M S 0 S (some (.int (nI (sN S))))) (fun _ => False) := by
  refine MetE.ofW (cc := cX4_boxes) (maxL := 1) (ret := (some .int)) (by decide) rfl ?_
  intro p e s m args below meth c s₁ B hml hv
  obtain ⟨rfl, hsz, hP, hE⟩ := hv
  have hx := B.exec
  have hb := B.bytes
  have hr := B.returns
  have hts := atoms_spec (ws := _ :: lw_big) B.pre
  have htb : ∀ w ∈ lw_big, w.before _ s = true := fun w h => hts w (List.mem_cons_of_mem _ h)
  have hno := B.noHandlers (hts _ List.mem_cons_self)
  have hown : s.vm.findClass RX4 = some m.cls := findClass_of_methodNamed B.named
  have hlocks := B.notSynchronized
  have hK := hE.1
  subst hsz
  have hS : va_S (gA G) s.heap s.heap [] := va_S.rf
  have hl := lv_entry ([.ref o]) (n := 1) (Nat.le_of_ble_eq_true rfl)
  rw [lg_entry_eq]
  generalize (lg_sl ([.ref o]) ++ List.replicate (1 - (lg_sl ([.ref o])).length) Slot.unset).toArray = ls at hl ⊢
  have hl : lv_has ls 1 [(0, .ref o)] := hl
  obtain ⟨np, bg, g, hT, hB⟩ := id hR
  have hk : md_keeps o A M M := md_keeps.rf o A M
  have hle : sN S ≤ 120 := hB.1
  refine lv_aload_n hx hb dX4_boxes_0 rfl (lv_at hl 0 rfl) ?_
  refine lv_iconst (v := 0) hx hb dX4_boxes_1 (by decide) ?_
  refine mw_put (D := gD G) (ci := 4) (v := .int 0) (ty := .int) (C := RX4) (T := TX4) (N := 21) hx hb htb inX4 tyX4 tyX4_ok nmX4 hown hK hP hS hT.1 hT.2.2.2.1 rfl 0 (by decide) (htb _ wd524) (fun _ h9 => h9) rfl (by decide +kernel) rfl rfl (Nat.le_of_ble_eq_true rfl) dX4_boxes_2 (fun H locs hP hS => ?_)
  obtain ⟨M_1, hM_1⟩ : ∃ z9 : mw_M, z9 = mw_up M o (.inr (4, [.int 0, .ref (A 0), .int (sSp S), .int (sSh S), .int (nI (sN S)), .ref (A 1), .ref (A 2), .ref (A 3), .ref (A 4), .ref (A 5), .ref (A 6), .ref (A 7), .int (nI np), .ref (A 8), .ref (A 9), .ref (A 10), .ref (A 11), .ref (A 12), .ref (A 13), .ref (A 14), .int z])) := ⟨_, rfl⟩
  have hP : mw_P (gD G) gx_cl M_1 H := by rw [hM_1]; exact hP
  have hT : md_at G o A M_1 0 (sSp S) (sSh S) (nI (sN S)) (nI np) z g := md_at.fld hT hM_1
  have hk : md_keeps o A M M_1 := md_keeps.fld hk hM_1
  refine lv_aload_n hx hb dX4_boxes_5 rfl (lv_at hl 0 rfl) ?_
  refine mw_get (D := gD G) (ci := 4) (v := .int (nI (sN S))) (C := RX4) (T := TX4) (N := 21) hx hb htb inX4 hown hK hP hT.1 rfl 4 (by decide) (htb _ wd528) (fun _ h9 => h9) rfl dX4_boxes_6 ?_
  exact mx_iret (v := (nI (sN S))) (M' := M_1) hx hb hr hlocks hP hS ⟨rfl, ⟨_, (⟨np, bg, g, hT, hB⟩ : md_R G o A M_1 0 z S)⟩, hk⟩ dX4_boxes_9 (Nat.le_of_ble_eq_true rfl) (Nat.le_of_ble_eq_true rfl)
-- X4_set
set_option maxHeartbeats 4000000 in
set_option maxRecDepth 100000 in
theorem kX4_set (l : Launch) (htr : l.stackTraces = false) (G : gx_G) (sz : Nat) (M : mw_M) (o : Nat) (A : Nat → Nat) (th z : Int32) (S : fs_S) (hR : md_R G o A M th z S) (hok : fs_ok S) (x y : Int32) : g_Met l G yX4_set (.code yX4_set cX4_set 4 (some .int)) ({ frames := 5, cells := 0, slots := 0, locals := 200 } : Room) sz M [.ref o, .int x, .int y] (md_Mk G o A M S (ex_set x y) (if x = 0 then fs_sp S y else fs_sh S y) (some (.int (if ex_set x y = 0 then (if x = 0 then sSp S else sSh S) else 0)))) (fun _ => False) := by
  refine MetE.ofW (cc := cX4_set) (maxL := 4) (ret := (some .int)) (by decide) rfl ?_
  intro p e s m args below meth c s₁ B hml hv
  obtain ⟨rfl, hsz, hP, hE⟩ := hv
  have hx := B.exec
  have hb := B.bytes
  have hr := B.returns
  have hts := atoms_spec (ws := _ :: lw_big) B.pre
  have htb : ∀ w ∈ lw_big, w.before _ s = true := fun w h => hts w (List.mem_cons_of_mem _ h)
  have hno := B.noHandlers (hts _ List.mem_cons_self)
  have hown : s.vm.findClass RX4 = some m.cls := findClass_of_methodNamed B.named
  have hlocks := B.notSynchronized
  have hK := hE.1
  subst hsz
  have hS : va_S (gA G) s.heap s.heap [] := va_S.rf
  have hl := lv_entry ([.ref o, .int x, .int y]) (n := 4) (Nat.le_of_ble_eq_true rfl)
  rw [lg_entry_eq]
  generalize (lg_sl ([.ref o, .int x, .int y]) ++ List.replicate (4 - (lg_sl ([.ref o, .int x, .int y])).length) Slot.unset).toArray = ls at hl ⊢
  have hl : lv_has ls 4 [(0, .ref o), (1, .int x), (2, .int y)] := hl
  obtain ⟨np, bg, g, hT, hB⟩ := id hR
  have hk : md_keeps o A M M := md_keeps.rf o A M
  have hle : sN S ≤ 120 := hB.1
  refine lv_aload_n hx hb dX4_set_0 rfl (lv_at hl 0 rfl) ?_
  refine lv_iload_n hx hb dX4_set_1 rfl (lv_at hl 1 rfl) ?_
  refine lv_iconst (v := 0) hx hb dX4_set_2 (by decide) ?_
  refine lv_iconst (v := 1) hx hb dX4_set_3 (by decide) ?_
  refine mw_callS (As := [.int x, .int 0, .int 1]) (rest := [.ref o]) hx hb hml hown hl (kX4_in l htr G s.heap.size M x 0 1) (g_B (n := 3) htb wd599 wd3 wd597 (by decide +kernel) ⟨Nat.le_of_ble_eq_true rfl, Nat.le_of_ble_eq_true rfl⟩) (htb _ wd598) hE hP hS rfl rfl (Nat.le_of_ble_eq_true rfl) dX4_set_4 ⟨Nat.le_of_ble_eq_true rfl, Nat.le_of_ble_eq_true rfl⟩ (fun v9 M9 H locs hpo hP hz hS => ?_) (fun x9 E9 cell9 H9 locs9 hE9 => hE9.elim)
  obtain ⟨rfl, rfl⟩ := hpo
  refine W.eq (g2 := F0 m 7 ls [.int (bI (wi x 0 1)), .ref o]) rfl ?_
  refine lv_if_ne (tgt := 14) hx hb dX4_set_7 (by decide) (fun c_1 => ?_) (fun c_1 => ?_)
  · have kb_2 : wi x 0 1 := bI_t c_1
    have kb_3 : (x = 0 ∨ x = 1) := (wi01 x).mp kb_2
    refine lv_iload_n hx hb dX4_set_14 rfl (lv_at hl 2 rfl) ?_
    refine lv_iconst (v := 0) hx hb dX4_set_15 (by decide) ?_
    refine lv_ldc (v := 1000000) hx hb hown (htb _ wd601) dX4_set_16 ?_
    refine mw_callS (As := [.int y, .int 0, .int 1000000]) (rest := [.ref o]) hx hb hml hown hl (kX4_in l htr G H.size M y 0 1000000) (g_B (n := 3) htb wd599 wd3 wd597 (by decide +kernel) ⟨Nat.le_of_ble_eq_true rfl, Nat.le_of_ble_eq_true rfl⟩) (htb _ wd598) hE hP hS rfl rfl (Nat.le_of_ble_eq_true rfl) dX4_set_18 ⟨Nat.le_of_ble_eq_true rfl, Nat.le_of_ble_eq_true rfl⟩ (fun v9 M9 H locs hpo hP hz hS => ?_) (fun x9 E9 cell9 H9 locs9 hE9 => hE9.elim)
    obtain ⟨rfl, rfl⟩ := hpo
    refine W.eq (g2 := F0 m 21 ls [.int (bI (wi y 0 1000000)), .ref o]) rfl ?_
    refine lv_if_ne (tgt := 28) hx hb dX4_set_21 (by decide) (fun c_4 => ?_) (fun c_4 => ?_)
    · have kb_5 : wi y 0 1000000 := bI_t c_4
      refine lv_iconst (v := 0) hx hb dX4_set_28 (by decide) ?_
      refine mw_put (D := gD G) (ci := 4) (v := .int 0) (ty := .int) (C := RX4) (T := TX4) (N := 21) hx hb htb inX4 tyX4 tyX4_ok nmX4 hown hK hP hS hT.1 hT.2.2.2.1 rfl 0 (by decide) (htb _ wd524) (fun _ h9 => h9) rfl (by decide +kernel) rfl rfl (Nat.le_of_ble_eq_true rfl) dX4_set_29 (fun H locs hP hS => ?_)
      obtain ⟨M_6, hM_6⟩ : ∃ z9 : mw_M, z9 = mw_up M o (.inr (4, [.int 0, .ref (A 0), .int (sSp S), .int (sSh S), .int (nI (sN S)), .ref (A 1), .ref (A 2), .ref (A 3), .ref (A 4), .ref (A 5), .ref (A 6), .ref (A 7), .int (nI np), .ref (A 8), .ref (A 9), .ref (A 10), .ref (A 11), .ref (A 12), .ref (A 13), .ref (A 14), .int z])) := ⟨_, rfl⟩
      have hP : mw_P (gD G) gx_cl M_6 H := by rw [hM_6]; exact hP
      have hT : md_at G o A M_6 0 (sSp S) (sSh S) (nI (sN S)) (nI np) z g := md_at.fld hT hM_6
      have hk : md_keeps o A M M_6 := md_keeps.fld hk hM_6
      refine lv_aload_n hx hb dX4_set_32 rfl (lv_at hl 0 rfl) ?_
      refine mw_get (D := gD G) (ci := 4) (v := .int 0) (C := RX4) (T := TX4) (N := 21) hx hb htb inX4 hown hK hP hT.1 rfl 0 (by decide) (htb _ wd524) (fun _ h9 => h9) rfl dX4_set_33 ?_
      refine lv_if_le (tgt := 41) hx hb dX4_set_36 (by decide) (fun c_7 => ?_) (fun c_7 => absurd (by decide) c_7)
      refine lv_iload_n hx hb dX4_set_41 rfl (lv_at hl 1 rfl) ?_
      refine lv_if_ne (tgt := 52) hx hb dX4_set_42 (by decide) (fun c_8 => ?_) (fun c_8 => ?_)
      · have x1_9 : x = 1 := kb_3.resolve_left c_8
        refine lv_aload_n hx hb dX4_set_52 rfl (lv_at hl 0 rfl) ?_
        refine mw_get (D := gD G) (ci := 4) (v := .int (sSh S)) (C := RX4) (T := TX4) (N := 21) hx hb htb inX4 hown hK hP hT.1 rfl 3 (by decide) (htb _ wd527) (fun _ h9 => h9) rfl dX4_set_53 ?_
        refine lv_istore_n (lv' := [(3, .int (sSh S)), (0, .ref o), (1, .int x), (2, .int y)]) hx hb dX4_set_56 rfl hl (by decide) rfl (fun ls hl => ?_)
        refine lv_aload_n hx hb dX4_set_57 rfl (lv_at hl 1 rfl) ?_
        refine lv_iload_n hx hb dX4_set_58 rfl (lv_at hl 2 rfl) ?_
        refine lv_if_ne (tgt := 66) hx hb dX4_set_59 (by decide) (fun c_10 => ?_) (fun c_10 => absurd c_10 c_8)
        refine lv_aload_n hx hb dX4_set_66 rfl (lv_at hl 1 rfl) ?_
        refine mw_get (D := gD G) (ci := 4) (v := .int (sSp S)) (C := RX4) (T := TX4) (N := 21) hx hb htb inX4 hown hK hP hT.1 rfl 2 (by decide) (htb _ wd526) (fun _ h9 => h9) rfl dX4_set_67 ?_
        refine mw_put (D := gD G) (ci := 4) (v := .int (sSp S)) (ty := .int) (C := RX4) (T := TX4) (N := 21) hx hb htb inX4 tyX4 tyX4_ok nmX4 hown hK hP hS hT.1 hT.2.2.2.1 rfl 2 (by decide) (htb _ wd526) (fun _ h9 => h9) rfl (by decide +kernel) rfl rfl (Nat.le_of_ble_eq_true rfl) dX4_set_70 (fun H locs hP hS => ?_)
        obtain ⟨M_11, hM_11⟩ : ∃ z9 : mw_M, z9 = mw_up M_6 o (.inr (4, [.int 0, .ref (A 0), .int (sSp S), .int (sSh S), .int (nI (sN S)), .ref (A 1), .ref (A 2), .ref (A 3), .ref (A 4), .ref (A 5), .ref (A 6), .ref (A 7), .int (nI np), .ref (A 8), .ref (A 9), .ref (A 10), .ref (A 11), .ref (A 12), .ref (A 13), .ref (A 14), .int z])) := ⟨_, rfl⟩
        have hP : mw_P (gD G) gx_cl M_11 H := by rw [hM_11]; exact hP
        have hT : md_at G o A M_11 0 (sSp S) (sSh S) (nI (sN S)) (nI np) z g := md_at.fld hT hM_11
        have hk : md_keeps o A M M_11 := md_keeps.fld hk hM_11
        refine lv_aload_n hx hb dX4_set_73 rfl (lv_at hl 1 rfl) ?_
        refine lv_iload_n hx hb dX4_set_74 rfl (lv_at hl 2 rfl) ?_
        refine lv_iconst (v := 1) hx hb dX4_set_75 (by decide) ?_
        refine lv_icmp_ne (tgt := 83) hx hb dX4_set_76 (by decide) (fun c_12 => absurd x1_9 c_12) (fun c_12 => ?_)
        refine lv_iload_n hx hb dX4_set_79 rfl (lv_at hl 3 rfl) ?_
        refine lv_goto (tgt := 87) hx hb dX4_set_80 (by decide) ?_
        refine mw_put (D := gD G) (ci := 4) (v := .int y) (ty := .int) (C := RX4) (T := TX4) (N := 21) hx hb htb inX4 tyX4 tyX4_ok nmX4 hown hK hP hS hT.1 hT.2.2.2.1 rfl 3 (by decide) (htb _ wd527) (fun _ h9 => h9) rfl (by decide +kernel) rfl rfl (Nat.le_of_ble_eq_true rfl) dX4_set_87 (fun H locs hP hS => ?_)
        obtain ⟨M_13, hM_13⟩ : ∃ z9 : mw_M, z9 = mw_up M_11 o (.inr (4, [.int 0, .ref (A 0), .int (sSp S), .int y, .int (nI (sN S)), .ref (A 1), .ref (A 2), .ref (A 3), .ref (A 4), .ref (A 5), .ref (A 6), .ref (A 7), .int (nI np), .ref (A 8), .ref (A 9), .ref (A 10), .ref (A 11), .ref (A 12), .ref (A 13), .ref (A 14), .int z])) := ⟨_, rfl⟩
        have hP : mw_P (gD G) gx_cl M_13 H := by rw [hM_13]; exact hP
        have hT : md_at G o A M_13 0 (sSp S) y (nI (sN S)) (nI np) z g := md_at.fld hT hM_13
        have hk : md_keeps o A M M_13 := md_keeps.fld hk hM_13
        refine lv_iload_n hx hb dX4_set_90 rfl (lv_at hl 0 rfl) ?_
        have hex : ex_set x y = 0 := by rw [ex_set, if_neg (fun z9 => z9 kb_3), if_neg (fun z9 => z9 kb_5)]
        exact mx_iret (v := (sSh S)) (M' := M_13) hx hb hr hlocks hP hS ⟨by rw [hex, if_pos rfl, if_neg c_8], ⟨_, by rw [hex, if_pos rfl, if_neg c_8]; exact ⟨np, bg, g, hT, hB.sp _ _⟩⟩, hk⟩ dX4_set_91 (Nat.le_of_ble_eq_true rfl) (Nat.le_of_ble_eq_true rfl)
      · have x1_14 : ¬ x = 1 := fun z9 => absurd (c_8.symm.trans z9) (by decide)
        refine lv_aload_n hx hb dX4_set_45 rfl (lv_at hl 0 rfl) ?_
        refine mw_get (D := gD G) (ci := 4) (v := .int (sSp S)) (C := RX4) (T := TX4) (N := 21) hx hb htb inX4 hown hK hP hT.1 rfl 2 (by decide) (htb _ wd526) (fun _ h9 => h9) rfl dX4_set_46 ?_
        refine lv_goto (tgt := 56) hx hb dX4_set_49 (by decide) ?_
        refine lv_istore_n (lv' := [(3, .int (sSp S)), (0, .ref o), (1, .int x), (2, .int y)]) hx hb dX4_set_56 rfl hl (by decide) rfl (fun ls hl => ?_)
        refine lv_aload_n hx hb dX4_set_57 rfl (lv_at hl 1 rfl) ?_
        refine lv_iload_n hx hb dX4_set_58 rfl (lv_at hl 2 rfl) ?_
        refine lv_if_ne (tgt := 66) hx hb dX4_set_59 (by decide) (fun c_15 => absurd c_8 c_15) (fun c_15 => ?_)
        refine lv_iload_n hx hb dX4_set_62 rfl (lv_at hl 3 rfl) ?_
        refine lv_goto (tgt := 70) hx hb dX4_set_63 (by decide) ?_
        refine mw_put (D := gD G) (ci := 4) (v := .int y) (ty := .int) (C := RX4) (T := TX4) (N := 21) hx hb htb inX4 tyX4 tyX4_ok nmX4 hown hK hP hS hT.1 hT.2.2.2.1 rfl 2 (by decide) (htb _ wd526) (fun _ h9 => h9) rfl (by decide +kernel) rfl rfl (Nat.le_of_ble_eq_true rfl) dX4_set_70 (fun H locs hP hS => ?_)
        obtain ⟨M_16, hM_16⟩ : ∃ z9 : mw_M, z9 = mw_up M_6 o (.inr (4, [.int 0, .ref (A 0), .int y, .int (sSh S), .int (nI (sN S)), .ref (A 1), .ref (A 2), .ref (A 3), .ref (A 4), .ref (A 5), .ref (A 6), .ref (A 7), .int (nI np), .ref (A 8), .ref (A 9), .ref (A 10), .ref (A 11), .ref (A 12), .ref (A 13), .ref (A 14), .int z])) := ⟨_, rfl⟩
        have hP : mw_P (gD G) gx_cl M_16 H := by rw [hM_16]; exact hP
        have hT : md_at G o A M_16 0 y (sSh S) (nI (sN S)) (nI np) z g := md_at.fld hT hM_16
        have hk : md_keeps o A M M_16 := md_keeps.fld hk hM_16
        refine lv_aload_n hx hb dX4_set_73 rfl (lv_at hl 1 rfl) ?_
        refine lv_iload_n hx hb dX4_set_74 rfl (lv_at hl 2 rfl) ?_
        refine lv_iconst (v := 1) hx hb dX4_set_75 (by decide) ?_
        refine lv_icmp_ne (tgt := 83) hx hb dX4_set_76 (by decide) (fun c_17 => ?_) (fun c_17 => absurd c_17 x1_14)
        refine lv_aload_n hx hb dX4_set_83 rfl (lv_at hl 1 rfl) ?_
        refine mw_get (D := gD G) (ci := 4) (v := .int (sSh S)) (C := RX4) (T := TX4) (N := 21) hx hb htb inX4 hown hK hP hT.1 rfl 3 (by decide) (htb _ wd527) (fun _ h9 => h9) rfl dX4_set_84 ?_
        refine mw_put (D := gD G) (ci := 4) (v := .int (sSh S)) (ty := .int) (C := RX4) (T := TX4) (N := 21) hx hb htb inX4 tyX4 tyX4_ok nmX4 hown hK hP hS hT.1 hT.2.2.2.1 rfl 3 (by decide) (htb _ wd527) (fun _ h9 => h9) rfl (by decide +kernel) rfl rfl (Nat.le_of_ble_eq_true rfl) dX4_set_87 (fun H locs hP hS => ?_)
        obtain ⟨M_18, hM_18⟩ : ∃ z9 : mw_M, z9 = mw_up M_16 o (.inr (4, [.int 0, .ref (A 0), .int y, .int (sSh S), .int (nI (sN S)), .ref (A 1), .ref (A 2), .ref (A 3), .ref (A 4), .ref (A 5), .ref (A 6), .ref (A 7), .int (nI np), .ref (A 8), .ref (A 9), .ref (A 10), .ref (A 11), .ref (A 12), .ref (A 13), .ref (A 14), .int z])) := ⟨_, rfl⟩
        have hP : mw_P (gD G) gx_cl M_18 H := by rw [hM_18]; exact hP
        have hT : md_at G o A M_18 0 y (sSh S) (nI (sN S)) (nI np) z g := md_at.fld hT hM_18
        have hk : md_keeps o A M M_18 := md_keeps.fld hk hM_18
        refine lv_iload_n hx hb dX4_set_90 rfl (lv_at hl 0 rfl) ?_
        have hex : ex_set x y = 0 := by rw [ex_set, if_neg (fun z9 => z9 kb_3), if_neg (fun z9 => z9 kb_5)]
        exact mx_iret (v := (sSp S)) (M' := M_18) hx hb hr hlocks hP hS ⟨by rw [hex, if_pos rfl, if_pos c_8], ⟨_, by rw [hex, if_pos rfl, if_pos c_8]; exact ⟨np, bg, g, hT, hB.sp _ _⟩⟩, hk⟩ dX4_set_91 (Nat.le_of_ble_eq_true rfl) (Nat.le_of_ble_eq_true rfl)
    · have kb_19 : ¬ (wi y 0 1000000) := bI_f c_4
      refine lv_iconst (v := 2) hx hb dX4_set_24 (by decide) ?_
      refine lv_goto (tgt := 29) hx hb dX4_set_25 (by decide) ?_
      refine mw_put (D := gD G) (ci := 4) (v := .int 2) (ty := .int) (C := RX4) (T := TX4) (N := 21) hx hb htb inX4 tyX4 tyX4_ok nmX4 hown hK hP hS hT.1 hT.2.2.2.1 rfl 0 (by decide) (htb _ wd524) (fun _ h9 => h9) rfl (by decide +kernel) rfl rfl (Nat.le_of_ble_eq_true rfl) dX4_set_29 (fun H locs hP hS => ?_)
      obtain ⟨M_20, hM_20⟩ : ∃ z9 : mw_M, z9 = mw_up M o (.inr (4, [.int 2, .ref (A 0), .int (sSp S), .int (sSh S), .int (nI (sN S)), .ref (A 1), .ref (A 2), .ref (A 3), .ref (A 4), .ref (A 5), .ref (A 6), .ref (A 7), .int (nI np), .ref (A 8), .ref (A 9), .ref (A 10), .ref (A 11), .ref (A 12), .ref (A 13), .ref (A 14), .int z])) := ⟨_, rfl⟩
      have hP : mw_P (gD G) gx_cl M_20 H := by rw [hM_20]; exact hP
      have hT : md_at G o A M_20 2 (sSp S) (sSh S) (nI (sN S)) (nI np) z g := md_at.fld hT hM_20
      have hk : md_keeps o A M M_20 := md_keeps.fld hk hM_20
      refine lv_aload_n hx hb dX4_set_32 rfl (lv_at hl 0 rfl) ?_
      refine mw_get (D := gD G) (ci := 4) (v := .int 2) (C := RX4) (T := TX4) (N := 21) hx hb htb inX4 hown hK hP hT.1 rfl 0 (by decide) (htb _ wd524) (fun _ h9 => h9) rfl dX4_set_33 ?_
      refine lv_if_le (tgt := 41) hx hb dX4_set_36 (by decide) (fun c_21 => absurd c_21 (by decide)) (fun c_21 => ?_)
      refine lv_iconst (v := 0) hx hb dX4_set_39 (by decide) ?_
      have hex : ex_set x y = 2 := by rw [ex_set, if_neg (fun z9 => z9 kb_3), if_pos (fun z9 => kb_19 z9)]
      exact mx_iret (v := 0) (M' := M_20) hx hb hr hlocks hP hS ⟨by rw [hex]; rfl, ⟨_, by rw [hex]; exact (⟨np, bg, g, hT, hB⟩ : md_R G o A M_20 2 z S)⟩, hk⟩ dX4_set_40 (Nat.le_of_ble_eq_true rfl) (Nat.le_of_ble_eq_true rfl)
  · have kb_22 : ¬ (wi x 0 1) := bI_f c_1
    have kb_23 : ¬ (x = 0 ∨ x = 1) := fun z9 => kb_22 ((wi01 x).mpr z9)
    refine lv_iconst (v := 1) hx hb dX4_set_10 (by decide) ?_
    refine lv_goto (tgt := 29) hx hb dX4_set_11 (by decide) ?_
    refine mw_put (D := gD G) (ci := 4) (v := .int 1) (ty := .int) (C := RX4) (T := TX4) (N := 21) hx hb htb inX4 tyX4 tyX4_ok nmX4 hown hK hP hS hT.1 hT.2.2.2.1 rfl 0 (by decide) (htb _ wd524) (fun _ h9 => h9) rfl (by decide +kernel) rfl rfl (Nat.le_of_ble_eq_true rfl) dX4_set_29 (fun H locs hP hS => ?_)
    obtain ⟨M_24, hM_24⟩ : ∃ z9 : mw_M, z9 = mw_up M o (.inr (4, [.int 1, .ref (A 0), .int (sSp S), .int (sSh S), .int (nI (sN S)), .ref (A 1), .ref (A 2), .ref (A 3), .ref (A 4), .ref (A 5), .ref (A 6), .ref (A 7), .int (nI np), .ref (A 8), .ref (A 9), .ref (A 10), .ref (A 11), .ref (A 12), .ref (A 13), .ref (A 14), .int z])) := ⟨_, rfl⟩
    have hP : mw_P (gD G) gx_cl M_24 H := by rw [hM_24]; exact hP
    have hT : md_at G o A M_24 1 (sSp S) (sSh S) (nI (sN S)) (nI np) z g := md_at.fld hT hM_24
    have hk : md_keeps o A M M_24 := md_keeps.fld hk hM_24
    refine lv_aload_n hx hb dX4_set_32 rfl (lv_at hl 0 rfl) ?_
    refine mw_get (D := gD G) (ci := 4) (v := .int 1) (C := RX4) (T := TX4) (N := 21) hx hb htb inX4 hown hK hP hT.1 rfl 0 (by decide) (htb _ wd524) (fun _ h9 => h9) rfl dX4_set_33 ?_
    refine lv_if_le (tgt := 41) hx hb dX4_set_36 (by decide) (fun c_25 => absurd c_25 (by decide)) (fun c_25 => ?_)
    refine lv_iconst (v := 0) hx hb dX4_set_39 (by decide) ?_
    have hex : ex_set x y = 1 := by rw [ex_set, if_pos (fun z9 => kb_23 z9)]
    exact mx_iret (v := 0) (M' := M_24) hx hb hr hlocks hP hS ⟨by rw [hex]; rfl, ⟨_, by rw [hex]; exact (⟨np, bg, g, hT, hB⟩ : md_R G o A M_24 1 z S)⟩, hk⟩ dX4_set_40 (Nat.le_of_ble_eq_true rfl) (Nat.le_of_ble_eq_true rfl)
-- X4_parameter
set_option maxHeartbeats 4000000 in
set_option maxRecDepth 100000 in
theorem kX4_parameter (l : Launch) (htr : l.stackTraces = false) (G : gx_G) (sz : Nat) (M : mw_M) (o : Nat) (A : Nat → Nat) (th z : Int32) (S : fs_S) (hR : md_R G o A M th z S) (hok : fs_ok S) (zz k x : Int32) : g_Met l G yX4_parameter (.code yX4_parameter cX4_parameter 5 (some .int)) ({ frames := 5, cells := 0, slots := 0, locals := 200 } : Room) sz M [.ref o, .int zz, .int k, .int x] (md_Mk G o A M S (ex_par zz k x) (fs_pa S (fIx zz * 21 + fIx k) x) (some (.int (if ex_par zz k x = 0 then sP S (fIx zz * 21 + fIx k) else 0)))) (fun _ => False) := by
  refine MetE.ofW (cc := cX4_parameter) (maxL := 5) (ret := (some .int)) (by decide) rfl ?_
  intro p e s m args below meth c s₁ B hml hv
  obtain ⟨rfl, hsz, hP, hE⟩ := hv
  have hx := B.exec
  have hb := B.bytes
  have hr := B.returns
  have hts := atoms_spec (ws := _ :: lw_big) B.pre
  have htb : ∀ w ∈ lw_big, w.before _ s = true := fun w h => hts w (List.mem_cons_of_mem _ h)
  have hno := B.noHandlers (hts _ List.mem_cons_self)
  have hown : s.vm.findClass RX4 = some m.cls := findClass_of_methodNamed B.named
  have hlocks := B.notSynchronized
  have hK := hE.1
  subst hsz
  have hS : va_S (gA G) s.heap s.heap [] := va_S.rf
  have hl := lv_entry ([.ref o, .int zz, .int k, .int x]) (n := 5) (Nat.le_of_ble_eq_true rfl)
  rw [lg_entry_eq]
  generalize (lg_sl ([.ref o, .int zz, .int k, .int x]) ++ List.replicate (5 - (lg_sl ([.ref o, .int zz, .int k, .int x])).length) Slot.unset).toArray = ls at hl ⊢
  have hl : lv_has ls 5 [(0, .ref o), (1, .int zz), (2, .int k), (3, .int x)] := hl
  obtain ⟨np, bg, g, hT, hB⟩ := id hR
  have hk : md_keeps o A M M := md_keeps.rf o A M
  have hle : sN S ≤ 120 := hB.1
  refine lv_aload_n hx hb dX4_parameter_0 rfl (lv_at hl 0 rfl) ?_
  refine lv_iload_n hx hb dX4_parameter_1 rfl (lv_at hl 1 rfl) ?_
  refine lv_iconst (v := 0) hx hb dX4_parameter_2 (by decide) ?_
  refine lv_iconst (v := 2) hx hb dX4_parameter_3 (by decide) ?_
  refine mw_callS (As := [.int zz, .int 0, .int 2]) (rest := [.ref o]) hx hb hml hown hl (kX4_in l htr G s.heap.size M zz 0 2) (g_B (n := 3) htb wd599 wd3 wd597 (by decide +kernel) ⟨Nat.le_of_ble_eq_true rfl, Nat.le_of_ble_eq_true rfl⟩) (htb _ wd598) hE hP hS rfl rfl (Nat.le_of_ble_eq_true rfl) dX4_parameter_4 ⟨Nat.le_of_ble_eq_true rfl, Nat.le_of_ble_eq_true rfl⟩ (fun v9 M9 H locs hpo hP hz hS => ?_) (fun x9 E9 cell9 H9 locs9 hE9 => hE9.elim)
  obtain ⟨rfl, rfl⟩ := hpo
  refine W.eq (g2 := F0 m 7 ls [.int (bI (wi zz 0 2)), .ref o]) rfl ?_
  refine lv_if_eq (tgt := 20) hx hb dX4_parameter_7 (by decide) (fun c_1 => ?_) (fun c_1 => ?_)
  · have kb_2 : ¬ (wi zz 0 2) := bI_f c_1
    have kb_3 : ¬ (¬ zz < 0 ∧ zz < 3) := fun z9 => kb_2 ((wiLt zz 2 (by decide)).mpr z9)
    refine lv_iconst (v := 1) hx hb dX4_parameter_20 (by decide) ?_
    refine lv_goto (tgt := 40) hx hb dX4_parameter_21 (by decide) ?_
    refine mw_put (D := gD G) (ci := 4) (v := .int 1) (ty := .int) (C := RX4) (T := TX4) (N := 21) hx hb htb inX4 tyX4 tyX4_ok nmX4 hown hK hP hS hT.1 hT.2.2.2.1 rfl 0 (by decide) (htb _ wd524) (fun _ h9 => h9) rfl (by decide +kernel) rfl rfl (Nat.le_of_ble_eq_true rfl) dX4_parameter_40 (fun H locs hP hS => ?_)
    obtain ⟨M_4, hM_4⟩ : ∃ z9 : mw_M, z9 = mw_up M o (.inr (4, [.int 1, .ref (A 0), .int (sSp S), .int (sSh S), .int (nI (sN S)), .ref (A 1), .ref (A 2), .ref (A 3), .ref (A 4), .ref (A 5), .ref (A 6), .ref (A 7), .int (nI np), .ref (A 8), .ref (A 9), .ref (A 10), .ref (A 11), .ref (A 12), .ref (A 13), .ref (A 14), .int z])) := ⟨_, rfl⟩
    have hP : mw_P (gD G) gx_cl M_4 H := by rw [hM_4]; exact hP
    have hT : md_at G o A M_4 1 (sSp S) (sSh S) (nI (sN S)) (nI np) z g := md_at.fld hT hM_4
    have hk : md_keeps o A M M_4 := md_keeps.fld hk hM_4
    refine lv_aload_n hx hb dX4_parameter_43 rfl (lv_at hl 0 rfl) ?_
    refine mw_get (D := gD G) (ci := 4) (v := .int 1) (C := RX4) (T := TX4) (N := 21) hx hb htb inX4 hown hK hP hT.1 rfl 0 (by decide) (htb _ wd524) (fun _ h9 => h9) rfl dX4_parameter_44 ?_
    refine lv_if_le (tgt := 52) hx hb dX4_parameter_47 (by decide) (fun c_5 => absurd c_5 (by decide)) (fun c_5 => ?_)
    refine lv_iconst (v := 0) hx hb dX4_parameter_50 (by decide) ?_
    have hex : ex_par zz k x = 1 := by rw [ex_par, if_pos (fun z9 => kb_3 z9.1)]
    exact mx_iret (v := 0) (M' := M_4) hx hb hr hlocks hP hS ⟨by rw [hex]; rfl, ⟨_, by rw [hex]; exact (⟨np, bg, g, hT, hB⟩ : md_R G o A M_4 1 z S)⟩, hk⟩ dX4_parameter_51 (Nat.le_of_ble_eq_true rfl) (Nat.le_of_ble_eq_true rfl)
  · have kb_6 : wi zz 0 2 := bI_t c_1
    have kb_7 : (¬ zz < 0 ∧ zz < 3) := (wiLt zz 2 (by decide)).mp kb_6
    have h_zz : fIx zz < 3 := ix_lt (by decide) kb_7.1 kb_7.2
    have e_zz := fIx_of kb_7.1
    rw [e_zz] at hl
    refine lv_iload_n hx hb dX4_parameter_10 rfl (lv_at hl 2 rfl) ?_
    refine lv_iconst (v := 0) hx hb dX4_parameter_11 (by decide) ?_
    refine lv_bipush (v := 20) hx hb dX4_parameter_12 (by decide) ?_
    refine mw_callS (As := [.int k, .int 0, .int 20]) (rest := [.ref o]) hx hb hml hown hl (kX4_in l htr G H.size M k 0 20) (g_B (n := 3) htb wd599 wd3 wd597 (by decide +kernel) ⟨Nat.le_of_ble_eq_true rfl, Nat.le_of_ble_eq_true rfl⟩) (htb _ wd598) hE hP hS rfl rfl (Nat.le_of_ble_eq_true rfl) dX4_parameter_14 ⟨Nat.le_of_ble_eq_true rfl, Nat.le_of_ble_eq_true rfl⟩ (fun v9 M9 H locs hpo hP hz hS => ?_) (fun x9 E9 cell9 H9 locs9 hE9 => hE9.elim)
    obtain ⟨rfl, rfl⟩ := hpo
    refine W.eq (g2 := F0 m 17 ls [.int (bI (wi k 0 20)), .ref o]) rfl ?_
    refine lv_if_ne (tgt := 24) hx hb dX4_parameter_17 (by decide) (fun c_8 => ?_) (fun c_8 => ?_)
    · have kb_9 : wi k 0 20 := bI_t c_8
      have kb_10 : (¬ k < 0 ∧ k < 21) := (wiLt k 20 (by decide)).mp kb_9
      have h_k : fIx k < 21 := ix_lt (by decide) kb_10.1 kb_10.2
      have e_k := fIx_of kb_10.1
      rw [e_k] at hl
      have e_i : 21 * nI (fIx zz) + nI (fIx k) = nI (fIx zz * 21 + fIx k) := by rw [show (21 : Int32) = nI 21 from rfl, pk_mul, nI_add, Nat.mul_comm]
      refine lv_iload_n hx hb dX4_parameter_24 rfl (lv_at hl 3 rfl) ?_
      refine lv_ldc (v := (-1000000)) hx hb hown (htb _ wd600) dX4_parameter_25 ?_
      refine lv_ldc (v := 1000000) hx hb hown (htb _ wd601) dX4_parameter_27 ?_
      refine mw_callS (As := [.int x, .int (-1000000), .int 1000000]) (rest := [.ref o]) hx hb hml hown hl (kX4_in l htr G H.size M x (-1000000) 1000000) (g_B (n := 3) htb wd599 wd3 wd597 (by decide +kernel) ⟨Nat.le_of_ble_eq_true rfl, Nat.le_of_ble_eq_true rfl⟩) (htb _ wd598) hE hP hS rfl rfl (Nat.le_of_ble_eq_true rfl) dX4_parameter_29 ⟨Nat.le_of_ble_eq_true rfl, Nat.le_of_ble_eq_true rfl⟩ (fun v9 M9 H locs hpo hP hz hS => ?_) (fun x9 E9 cell9 H9 locs9 hE9 => hE9.elim)
      obtain ⟨rfl, rfl⟩ := hpo
      refine W.eq (g2 := F0 m 32 ls [.int (bI (wi x (-1000000) 1000000)), .ref o]) rfl ?_
      refine lv_if_ne (tgt := 39) hx hb dX4_parameter_32 (by decide) (fun c_11 => ?_) (fun c_11 => ?_)
      · have kb_12 : wi x (-1000000) 1000000 := bI_t c_11
        refine lv_iconst (v := 0) hx hb dX4_parameter_39 (by decide) ?_
        refine mw_put (D := gD G) (ci := 4) (v := .int 0) (ty := .int) (C := RX4) (T := TX4) (N := 21) hx hb htb inX4 tyX4 tyX4_ok nmX4 hown hK hP hS hT.1 hT.2.2.2.1 rfl 0 (by decide) (htb _ wd524) (fun _ h9 => h9) rfl (by decide +kernel) rfl rfl (Nat.le_of_ble_eq_true rfl) dX4_parameter_40 (fun H locs hP hS => ?_)
        obtain ⟨M_13, hM_13⟩ : ∃ z9 : mw_M, z9 = mw_up M o (.inr (4, [.int 0, .ref (A 0), .int (sSp S), .int (sSh S), .int (nI (sN S)), .ref (A 1), .ref (A 2), .ref (A 3), .ref (A 4), .ref (A 5), .ref (A 6), .ref (A 7), .int (nI np), .ref (A 8), .ref (A 9), .ref (A 10), .ref (A 11), .ref (A 12), .ref (A 13), .ref (A 14), .int z])) := ⟨_, rfl⟩
        have hP : mw_P (gD G) gx_cl M_13 H := by rw [hM_13]; exact hP
        have hT : md_at G o A M_13 0 (sSp S) (sSh S) (nI (sN S)) (nI np) z g := md_at.fld hT hM_13
        have hk : md_keeps o A M M_13 := md_keeps.fld hk hM_13
        refine lv_aload_n hx hb dX4_parameter_43 rfl (lv_at hl 0 rfl) ?_
        refine mw_get (D := gD G) (ci := 4) (v := .int 0) (C := RX4) (T := TX4) (N := 21) hx hb htb inX4 hown hK hP hT.1 rfl 0 (by decide) (htb _ wd524) (fun _ h9 => h9) rfl dX4_parameter_44 ?_
        refine lv_if_le (tgt := 52) hx hb dX4_parameter_47 (by decide) (fun c_14 => ?_) (fun c_14 => absurd (by decide) c_14)
        refine lv_aload_n hx hb dX4_parameter_52 rfl (lv_at hl 0 rfl) ?_
        refine mw_get (D := gD G) (ci := 4) (v := .ref (A 0)) (C := RX4) (T := TX4) (N := 21) hx hb htb inX4 hown hK hP hT.1 rfl 1 (by decide) (htb _ wd525) (fun _ h9 => h9) rfl dX4_parameter_53 ?_
        refine lv_bipush (v := 21) hx hb dX4_parameter_56 (by decide) ?_
        refine lv_iload_n hx hb dX4_parameter_58 rfl (lv_at hl 1 rfl) ?_
        refine lv_imul hx hb dX4_parameter_59 ?_
        refine lv_iload_n hx hb dX4_parameter_60 rfl (lv_at hl 2 rfl) ?_
        refine lv_iadd hx hb dX4_parameter_61 ?_
        refine mw_iald hx hb hK hP 0 (show M_13 (A 0) = some (.inl (gI G, 63, .inl (g 0))) from hT.2.1 0 (by decide)) rfl (by rw [e_i]; exact vp_in_nI (show (fIx zz * 21 + fIx k) < 63 by omega) (by decide)) dX4_parameter_62 ?_
        refine W.eq (g2 := F0 m 63 ls [.int (sP S (fIx zz * 21 + fIx k))]) (by rw [e_i, nI_clamp (show (fIx zz * 21 + fIx k) < 2 ^ 31 by omega), hB.2.2.2.2.1 _ (show (fIx zz * 21 + fIx k) < 63 by omega)]) ?_
        refine lv_istore (lv' := [(4, .int (sP S (fIx zz * 21 + fIx k))), (0, .ref o), (1, .int (nI (fIx zz))), (2, .int (nI (fIx k))), (3, .int x)]) hx hb dX4_parameter_63 hl (by decide) rfl (fun ls hl => ?_)
        refine lv_aload_n hx hb dX4_parameter_65 rfl (lv_at hl 1 rfl) ?_
        refine mw_get (D := gD G) (ci := 4) (v := .ref (A 0)) (C := RX4) (T := TX4) (N := 21) hx hb htb inX4 hown hK hP hT.1 rfl 1 (by decide) (htb _ wd525) (fun _ h9 => h9) rfl dX4_parameter_66 ?_
        refine lv_bipush (v := 21) hx hb dX4_parameter_69 (by decide) ?_
        refine lv_iload_n hx hb dX4_parameter_71 rfl (lv_at hl 2 rfl) ?_
        refine lv_imul hx hb dX4_parameter_72 ?_
        refine lv_iload_n hx hb dX4_parameter_73 rfl (lv_at hl 3 rfl) ?_
        refine lv_iadd hx hb dX4_parameter_74 ?_
        refine lv_iload_n hx hb dX4_parameter_75 rfl (lv_at hl 4 rfl) ?_
        refine mw_iast hx hb hK hP hS 0 (show M_13 (A 0) = some (.inl (gI G, 63, .inl (g 0))) from hT.2.1 0 (by decide)) (hT.2.2.2.2 0 (by decide)) rfl (by rw [e_i]; exact vp_in_nI (show (fIx zz * 21 + fIx k) < 63 by omega) (by decide)) dX4_parameter_76 (fun H locs hP hS => ?_)
        rw [e_i, nI_clamp (show (fIx zz * 21 + fIx k) < 2 ^ 31 by omega)] at hP
        obtain ⟨M_15, hM_15⟩ : ∃ z9 : mw_M, z9 = mw_up M_13 (A 0) (.inl (gI G, 63, .inl (upd (g 0) (fIx zz * 21 + fIx k) x))) := ⟨_, rfl⟩
        have hP : mw_P (gD G) gx_cl M_15 H := by rw [hM_15]; exact hP
        obtain ⟨g_16, hg_16⟩ : ∃ z9, z9 = ug g 0 (fIx zz * 21 + fIx k) x := ⟨_, rfl⟩
        have hT : md_at G o A M_15 0 (sSp S) (sSh S) (nI (sN S)) (nI np) z g_16 := by rw [hg_16]; exact md_at.put hT (by decide) rfl rfl hM_15
        have hk : md_keeps o A M M_15 := md_keeps.arr (j := 0) hk (by decide) hM_15
        refine lv_iload hx hb dX4_parameter_77 (lv_at hl 0 rfl) ?_
        have hex : ex_par zz k x = 0 := by rw [ex_par, if_neg (fun z9 => z9 ⟨kb_7, kb_10⟩), if_neg (fun z9 => z9 kb_12)]
        have hB9 := md_ab.par hB (fIx zz * 21 + fIx k) x
        rw [← hg_16] at hB9
        exact mx_iret (v := (sP S (fIx zz * 21 + fIx k))) (M' := M_15) hx hb hr hlocks hP hS ⟨by rw [hex, if_pos rfl], ⟨_, by rw [hex, if_pos rfl]; exact ⟨np, bg, g_16, hT, hB9⟩⟩, hk⟩ dX4_parameter_79 (Nat.le_of_ble_eq_true rfl) (Nat.le_of_ble_eq_true rfl)
      · have kb_17 : ¬ (wi x (-1000000) 1000000) := bI_f c_11
        refine lv_iconst (v := 2) hx hb dX4_parameter_35 (by decide) ?_
        refine lv_goto (tgt := 40) hx hb dX4_parameter_36 (by decide) ?_
        refine mw_put (D := gD G) (ci := 4) (v := .int 2) (ty := .int) (C := RX4) (T := TX4) (N := 21) hx hb htb inX4 tyX4 tyX4_ok nmX4 hown hK hP hS hT.1 hT.2.2.2.1 rfl 0 (by decide) (htb _ wd524) (fun _ h9 => h9) rfl (by decide +kernel) rfl rfl (Nat.le_of_ble_eq_true rfl) dX4_parameter_40 (fun H locs hP hS => ?_)
        obtain ⟨M_18, hM_18⟩ : ∃ z9 : mw_M, z9 = mw_up M o (.inr (4, [.int 2, .ref (A 0), .int (sSp S), .int (sSh S), .int (nI (sN S)), .ref (A 1), .ref (A 2), .ref (A 3), .ref (A 4), .ref (A 5), .ref (A 6), .ref (A 7), .int (nI np), .ref (A 8), .ref (A 9), .ref (A 10), .ref (A 11), .ref (A 12), .ref (A 13), .ref (A 14), .int z])) := ⟨_, rfl⟩
        have hP : mw_P (gD G) gx_cl M_18 H := by rw [hM_18]; exact hP
        have hT : md_at G o A M_18 2 (sSp S) (sSh S) (nI (sN S)) (nI np) z g := md_at.fld hT hM_18
        have hk : md_keeps o A M M_18 := md_keeps.fld hk hM_18
        refine lv_aload_n hx hb dX4_parameter_43 rfl (lv_at hl 0 rfl) ?_
        refine mw_get (D := gD G) (ci := 4) (v := .int 2) (C := RX4) (T := TX4) (N := 21) hx hb htb inX4 hown hK hP hT.1 rfl 0 (by decide) (htb _ wd524) (fun _ h9 => h9) rfl dX4_parameter_44 ?_
        refine lv_if_le (tgt := 52) hx hb dX4_parameter_47 (by decide) (fun c_19 => absurd c_19 (by decide)) (fun c_19 => ?_)
        refine lv_iconst (v := 0) hx hb dX4_parameter_50 (by decide) ?_
        have hex : ex_par zz k x = 2 := by rw [ex_par, if_neg (fun z9 => z9 ⟨kb_7, kb_10⟩), if_pos (fun z9 => kb_17 z9)]
        exact mx_iret (v := 0) (M' := M_18) hx hb hr hlocks hP hS ⟨by rw [hex]; rfl, ⟨_, by rw [hex]; exact (⟨np, bg, g, hT, hB⟩ : md_R G o A M_18 2 z S)⟩, hk⟩ dX4_parameter_51 (Nat.le_of_ble_eq_true rfl) (Nat.le_of_ble_eq_true rfl)
    · have kb_20 : ¬ (wi k 0 20) := bI_f c_8
      have kb_21 : ¬ (¬ k < 0 ∧ k < 21) := fun z9 => kb_20 ((wiLt k 20 (by decide)).mpr z9)
      refine lv_iconst (v := 1) hx hb dX4_parameter_20 (by decide) ?_
      refine lv_goto (tgt := 40) hx hb dX4_parameter_21 (by decide) ?_
      refine mw_put (D := gD G) (ci := 4) (v := .int 1) (ty := .int) (C := RX4) (T := TX4) (N := 21) hx hb htb inX4 tyX4 tyX4_ok nmX4 hown hK hP hS hT.1 hT.2.2.2.1 rfl 0 (by decide) (htb _ wd524) (fun _ h9 => h9) rfl (by decide +kernel) rfl rfl (Nat.le_of_ble_eq_true rfl) dX4_parameter_40 (fun H locs hP hS => ?_)
      obtain ⟨M_22, hM_22⟩ : ∃ z9 : mw_M, z9 = mw_up M o (.inr (4, [.int 1, .ref (A 0), .int (sSp S), .int (sSh S), .int (nI (sN S)), .ref (A 1), .ref (A 2), .ref (A 3), .ref (A 4), .ref (A 5), .ref (A 6), .ref (A 7), .int (nI np), .ref (A 8), .ref (A 9), .ref (A 10), .ref (A 11), .ref (A 12), .ref (A 13), .ref (A 14), .int z])) := ⟨_, rfl⟩
      have hP : mw_P (gD G) gx_cl M_22 H := by rw [hM_22]; exact hP
      have hT : md_at G o A M_22 1 (sSp S) (sSh S) (nI (sN S)) (nI np) z g := md_at.fld hT hM_22
      have hk : md_keeps o A M M_22 := md_keeps.fld hk hM_22
      refine lv_aload_n hx hb dX4_parameter_43 rfl (lv_at hl 0 rfl) ?_
      refine mw_get (D := gD G) (ci := 4) (v := .int 1) (C := RX4) (T := TX4) (N := 21) hx hb htb inX4 hown hK hP hT.1 rfl 0 (by decide) (htb _ wd524) (fun _ h9 => h9) rfl dX4_parameter_44 ?_
      refine lv_if_le (tgt := 52) hx hb dX4_parameter_47 (by decide) (fun c_23 => absurd c_23 (by decide)) (fun c_23 => ?_)
      refine lv_iconst (v := 0) hx hb dX4_parameter_50 (by decide) ?_
      have hex : ex_par zz k x = 1 := by rw [ex_par, if_pos (fun z9 => kb_21 z9.2)]
      exact mx_iret (v := 0) (M' := M_22) hx hb hr hlocks hP hS ⟨by rw [hex]; rfl, ⟨_, by rw [hex]; exact (⟨np, bg, g, hT, hB⟩ : md_R G o A M_22 1 z S)⟩, hk⟩ dX4_parameter_51 (Nat.le_of_ble_eq_true rfl) (Nat.le_of_ble_eq_true rfl)
