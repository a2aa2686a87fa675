/-! printed by wip/whole/spec*.py -/
-- X4_box
set_option maxHeartbeats 4000000 in
set_option maxRecDepth 100000 in
theorem kX4_box (l : Launch) (htr : l.stackTraces = false) (G : gx_G) (sz : Nat) (M : mw_M) (o : Nat) (A : Nat → Nat) (th z : Int32) (S : fs_S) (hR : md_R G o A M th z S) (hok : fs_ok S) (w h d : Int32) : g_Met l G yX4_box (.code yX4_box cX4_box 4 (some .int)) ({ frames := 5, cells := 0, slots := 0, locals := 200 } : Room) sz M [.ref o, .int w, .int h, .int d] (md_Mk G o A M S (ex_box S w h d) (fs_push S (w, h, d, [], 0, 0)) (some (.int (if ex_box S w h d = 0 then nI (sN S) else 0)))) (fun _ => False) := by
  refine MetE.ofW (cc := cX4_box) (maxL := 4) (ret := (some .int)) (by decide) rfl ?_
  intro p e s m args below meth c s₁ B hml hv
  obtain ⟨rfl, hsz, hP, hE⟩ := hv
  have hx := B.exec
  have hb := B.bytes
  have hr := B.returns
  have hts := atoms_spec (ws := _ :: lw_big) B.pre
  have htb : ∀ w ∈ lw_big, w.before _ s = true := fun w h => hts w (List.mem_cons_of_mem _ h)
  have hno := B.noHandlers (hts _ List.mem_cons_self)
  have hown : s.vm.findClass RX4 = some m.cls := findClass_of_methodNamed B.named
  have hlocks := B.notSynchronized
  have hK := hE.1
  subst hsz
  have hS : va_S (gA G) s.heap s.heap [] := va_S.rf
  have hl := lv_entry ([.ref o, .int w, .int h, .int d]) (n := 4) (Nat.le_of_ble_eq_true rfl)
  rw [lg_entry_eq]
  generalize (lg_sl ([.ref o, .int w, .int h, .int d]) ++ List.replicate (4 - (lg_sl ([.ref o, .int w, .int h, .int d])).length) Slot.unset).toArray = ls at hl ⊢
  have hl : lv_has ls 4 [(0, .ref o), (1, .int w), (2, .int h), (3, .int d)] := hl
  obtain ⟨np, bg, g, hT, hB⟩ := id hR
  have hk : md_keeps o A M M := md_keeps.rf o A M
  have hle : sN S ≤ 120 := hB.1
  refine lv_aload_n hx hb dX4_box_0 rfl (lv_at hl 0 rfl) ?_
  refine lv_iload_n hx hb dX4_box_1 rfl (lv_at hl 1 rfl) ?_
  refine lv_iconst (v := 0) hx hb dX4_box_2 (by decide) ?_
  refine lv_ldc (v := 1000000) hx hb hown (htb _ wd601) dX4_box_3 ?_
  refine mw_callS (As := [.int w, .int 0, .int 1000000]) (rest := [.ref o]) hx hb hml hown hl (kX4_in l htr G s.heap.size M w 0 1000000) (g_B (n := 3) htb wd599 wd3 wd597 (by decide +kernel) ⟨Nat.le_of_ble_eq_true rfl, Nat.le_of_ble_eq_true rfl⟩) (htb _ wd598) hE hP hS rfl rfl (Nat.le_of_ble_eq_true rfl) dX4_box_5 ⟨Nat.le_of_ble_eq_true rfl, Nat.le_of_ble_eq_true rfl⟩ (fun v9 M9 H locs hpo hP hz hS => ?_) (fun x9 E9 cell9 H9 locs9 hE9 => hE9.elim)
  obtain ⟨rfl, rfl⟩ := hpo
  refine W.eq (g2 := F0 m 8 ls [.int (bI (wi w 0 1000000)), .ref o]) rfl ?_
  refine lv_if_eq (tgt := 33) hx hb dX4_box_8 (by decide) (fun c_1 => ?_) (fun c_1 => ?_)
  · have kb_2 : ¬ (wi w 0 1000000) := bI_f c_1
    refine lv_iconst (v := 1) hx hb dX4_box_33 (by decide) ?_
    refine lv_goto (tgt := 51) hx hb dX4_box_34 (by decide) ?_
    refine mw_put (D := gD G) (ci := 4) (v := .int 1) (ty := .int) (C := RX4) (T := TX4) (N := 21) hx hb htb inX4 tyX4 tyX4_ok nmX4 hown hK hP hS hT.1 hT.2.2.2.1 rfl 0 (by decide) (htb _ wd524) (fun _ h9 => h9) rfl (by decide +kernel) rfl rfl (Nat.le_of_ble_eq_true rfl) dX4_box_51 (fun H locs hP hS => ?_)
    obtain ⟨M_3, hM_3⟩ : ∃ z9 : mw_M, z9 = mw_up M o (.inr (4, [.int 1, .ref (A 0), .int (sSp S), .int (sSh S), .int (nI (sN S)), .ref (A 1), .ref (A 2), .ref (A 3), .ref (A 4), .ref (A 5), .ref (A 6), .ref (A 7), .int (nI np), .ref (A 8), .ref (A 9), .ref (A 10), .ref (A 11), .ref (A 12), .ref (A 13), .ref (A 14), .int z])) := ⟨_, rfl⟩
    have hP : mw_P (gD G) gx_cl M_3 H := by rw [hM_3]; exact hP
    have hT : md_at G o A M_3 1 (sSp S) (sSh S) (nI (sN S)) (nI np) z g := md_at.fld hT hM_3
    have hk : md_keeps o A M M_3 := md_keeps.fld hk hM_3
    refine lv_aload_n hx hb dX4_box_54 rfl (lv_at hl 0 rfl) ?_
    refine mw_get (D := gD G) (ci := 4) (v := .int 1) (C := RX4) (T := TX4) (N := 21) hx hb htb inX4 hown hK hP hT.1 rfl 0 (by decide) (htb _ wd524) (fun _ h9 => h9) rfl dX4_box_55 ?_
    refine lv_if_le (tgt := 65) hx hb dX4_box_58 (by decide) (fun c_4 => absurd c_4 (by decide)) (fun c_4 => ?_)
    refine lv_iconst (v := 0) hx hb dX4_box_61 (by decide) ?_
    refine lv_goto (tgt := 72) hx hb dX4_box_62 (by decide) ?_
    have hex : ex_box S w h d = 1 := by rw [ex_box, if_pos (fun z9 => kb_2 z9.1)]
    exact mx_iret (v := 0) (M' := M_3) hx hb hr hlocks hP hS ⟨by rw [hex]; rfl, ⟨_, by rw [hex]; exact (⟨np, bg, g, hT, hB⟩ : md_R G o A M_3 1 z S)⟩, hk⟩ dX4_box_72 (Nat.le_of_ble_eq_true rfl) (Nat.le_of_ble_eq_true rfl)
  · have kb_5 : wi w 0 1000000 := bI_t c_1
    refine lv_iload_n hx hb dX4_box_11 rfl (lv_at hl 2 rfl) ?_
    refine lv_ldc (v := (-1000000)) hx hb hown (htb _ wd600) dX4_box_12 ?_
    refine lv_ldc (v := 1000000) hx hb hown (htb _ wd601) dX4_box_14 ?_
    refine mw_callS (As := [.int h, .int (-1000000), .int 1000000]) (rest := [.ref o]) hx hb hml hown hl (kX4_in l htr G H.size M h (-1000000) 1000000) (g_B (n := 3) htb wd599 wd3 wd597 (by decide +kernel) ⟨Nat.le_of_ble_eq_true rfl, Nat.le_of_ble_eq_true rfl⟩) (htb _ wd598) hE hP hS rfl rfl (Nat.le_of_ble_eq_true rfl) dX4_box_16 ⟨Nat.le_of_ble_eq_true rfl, Nat.le_of_ble_eq_true rfl⟩ (fun v9 M9 H locs hpo hP hz hS => ?_) (fun x9 E9 cell9 H9 locs9 hE9 => hE9.elim)
    obtain ⟨rfl, rfl⟩ := hpo
    refine W.eq (g2 := F0 m 19 ls [.int (bI (wi h (-1000000) 1000000)), .ref o]) rfl ?_
    refine lv_if_eq (tgt := 33) hx hb dX4_box_19 (by decide) (fun c_6 => ?_) (fun c_6 => ?_)
    · have kb_7 : ¬ (wi h (-1000000) 1000000) := bI_f c_6
      refine lv_iconst (v := 1) hx hb dX4_box_33 (by decide) ?_
      refine lv_goto (tgt := 51) hx hb dX4_box_34 (by decide) ?_
      refine mw_put (D := gD G) (ci := 4) (v := .int 1) (ty := .int) (C := RX4) (T := TX4) (N := 21) hx hb htb inX4 tyX4 tyX4_ok nmX4 hown hK hP hS hT.1 hT.2.2.2.1 rfl 0 (by decide) (htb _ wd524) (fun _ h9 => h9) rfl (by decide +kernel) rfl rfl (Nat.le_of_ble_eq_true rfl) dX4_box_51 (fun H locs hP hS => ?_)
      obtain ⟨M_8, hM_8⟩ : ∃ z9 : mw_M, z9 = mw_up M o (.inr (4, [.int 1, .ref (A 0), .int (sSp S), .int (sSh S), .int (nI (sN S)), .ref (A 1), .ref (A 2), .ref (A 3), .ref (A 4), .ref (A 5), .ref (A 6), .ref (A 7), .int (nI np), .ref (A 8), .ref (A 9), .ref (A 10), .ref (A 11), .ref (A 12), .ref (A 13), .ref (A 14), .int z])) := ⟨_, rfl⟩
      have hP : mw_P (gD G) gx_cl M_8 H := by rw [hM_8]; exact hP
      have hT : md_at G o A M_8 1 (sSp S) (sSh S) (nI (sN S)) (nI np) z g := md_at.fld hT hM_8
      have hk : md_keeps o A M M_8 := md_keeps.fld hk hM_8
      refine lv_aload_n hx hb dX4_box_54 rfl (lv_at hl 0 rfl) ?_
      refine mw_get (D := gD G) (ci := 4) (v := .int 1) (C := RX4) (T := TX4) (N := 21) hx hb htb inX4 hown hK hP hT.1 rfl 0 (by decide) (htb _ wd524) (fun _ h9 => h9) rfl dX4_box_55 ?_
      refine lv_if_le (tgt := 65) hx hb dX4_box_58 (by decide) (fun c_9 => absurd c_9 (by decide)) (fun c_9 => ?_)
      refine lv_iconst (v := 0) hx hb dX4_box_61 (by decide) ?_
      refine lv_goto (tgt := 72) hx hb dX4_box_62 (by decide) ?_
      have hex : ex_box S w h d = 1 := by rw [ex_box, if_pos (fun z9 => kb_7 z9.2.1)]
      exact mx_iret (v := 0) (M' := M_8) hx hb hr hlocks hP hS ⟨by rw [hex]; rfl, ⟨_, by rw [hex]; exact (⟨np, bg, g, hT, hB⟩ : md_R G o A M_8 1 z S)⟩, hk⟩ dX4_box_72 (Nat.le_of_ble_eq_true rfl) (Nat.le_of_ble_eq_true rfl)
    · have kb_10 : wi h (-1000000) 1000000 := bI_t c_6
      refine lv_iload_n hx hb dX4_box_22 rfl (lv_at hl 3 rfl) ?_
      refine lv_ldc (v := (-1000000)) hx hb hown (htb _ wd600) dX4_box_23 ?_
      refine lv_ldc (v := 1000000) hx hb hown (htb _ wd601) dX4_box_25 ?_
      refine mw_callS (As := [.int d, .int (-1000000), .int 1000000]) (rest := [.ref o]) hx hb hml hown hl (kX4_in l htr G H.size M d (-1000000) 1000000) (g_B (n := 3) htb wd599 wd3 wd597 (by decide +kernel) ⟨Nat.le_of_ble_eq_true rfl, Nat.le_of_ble_eq_true rfl⟩) (htb _ wd598) hE hP hS rfl rfl (Nat.le_of_ble_eq_true rfl) dX4_box_27 ⟨Nat.le_of_ble_eq_true rfl, Nat.le_of_ble_eq_true rfl⟩ (fun v9 M9 H locs hpo hP hz hS => ?_) (fun x9 E9 cell9 H9 locs9 hE9 => hE9.elim)
      obtain ⟨rfl, rfl⟩ := hpo
      refine W.eq (g2 := F0 m 30 ls [.int (bI (wi d (-1000000) 1000000)), .ref o]) rfl ?_
      refine lv_if_ne (tgt := 37) hx hb dX4_box_30 (by decide) (fun c_11 => ?_) (fun c_11 => ?_)
      · have kb_12 : wi d (-1000000) 1000000 := bI_t c_11
        refine lv_aload_n hx hb dX4_box_37 rfl (lv_at hl 0 rfl) ?_
        refine mw_get (D := gD G) (ci := 4) (v := .int (nI (sN S))) (C := RX4) (T := TX4) (N := 21) hx hb htb inX4 hown hK hP hT.1 rfl 4 (by decide) (htb _ wd528) (fun _ h9 => h9) rfl dX4_box_38 ?_
        refine lv_bipush (v := 120) hx hb dX4_box_41 (by decide) ?_
        refine lv_icmp_ne (tgt := 50) hx hb dX4_box_43 (by decide) (fun c_13 => ?_) (fun c_13 => ?_)
        · have kb_14 : rmk S 1 := Decidable.byContradiction (fun z9 => c_13 ((rmk_eq hle).mpr z9))
          refine lv_iconst (v := 0) hx hb dX4_box_50 (by decide) ?_
          refine mw_put (D := gD G) (ci := 4) (v := .int 0) (ty := .int) (C := RX4) (T := TX4) (N := 21) hx hb htb inX4 tyX4 tyX4_ok nmX4 hown hK hP hS hT.1 hT.2.2.2.1 rfl 0 (by decide) (htb _ wd524) (fun _ h9 => h9) rfl (by decide +kernel) rfl rfl (Nat.le_of_ble_eq_true rfl) dX4_box_51 (fun H locs hP hS => ?_)
          obtain ⟨M_15, hM_15⟩ : ∃ z9 : mw_M, z9 = mw_up M o (.inr (4, [.int 0, .ref (A 0), .int (sSp S), .int (sSh S), .int (nI (sN S)), .ref (A 1), .ref (A 2), .ref (A 3), .ref (A 4), .ref (A 5), .ref (A 6), .ref (A 7), .int (nI np), .ref (A 8), .ref (A 9), .ref (A 10), .ref (A 11), .ref (A 12), .ref (A 13), .ref (A 14), .int z])) := ⟨_, rfl⟩
          have hP : mw_P (gD G) gx_cl M_15 H := by rw [hM_15]; exact hP
          have hT : md_at G o A M_15 0 (sSp S) (sSh S) (nI (sN S)) (nI np) z g := md_at.fld hT hM_15
          have hk : md_keeps o A M M_15 := md_keeps.fld hk hM_15
          refine lv_aload_n hx hb dX4_box_54 rfl (lv_at hl 0 rfl) ?_
          refine mw_get (D := gD G) (ci := 4) (v := .int 0) (C := RX4) (T := TX4) (N := 21) hx hb htb inX4 hown hK hP hT.1 rfl 0 (by decide) (htb _ wd524) (fun _ h9 => h9) rfl dX4_box_55 ?_
          refine lv_if_le (tgt := 65) hx hb dX4_box_58 (by decide) (fun c_16 => ?_) (fun c_16 => absurd (by decide) c_16)
          refine lv_aload_n hx hb dX4_box_65 rfl (lv_at hl 0 rfl) ?_
          refine lv_iload_n hx hb dX4_box_66 rfl (lv_at hl 1 rfl) ?_
          refine lv_iload_n hx hb dX4_box_67 rfl (lv_at hl 2 rfl) ?_
          refine lv_iload_n hx hb dX4_box_68 rfl (lv_at hl 3 rfl) ?_
          refine mw_callV (C := RX4) (As := [.int w, .int h, .int d]) (rest := []) hx hb hml hown hl (kX4_make l htr G H.size M_15 o A 0 z S (⟨np, bg, g, hT, hB⟩ : md_R G o A M_15 0 z S) (rmk_lt kb_14 hle) w h d) (g_B (n := 3) htb wd613 wd3 wd610 (by decide +kernel) ⟨Nat.le_of_ble_eq_true rfl, Nat.le_of_ble_eq_true rfl⟩) (htb _ wd612) (htb _ ws26) hE hP hS hT.1 rfl rfl rfl (Nat.le_of_ble_eq_true rfl) dX4_box_69 ⟨Nat.le_of_ble_eq_true rfl, Nat.le_of_ble_eq_true rfl⟩ (fun v9 M9 H locs hpo hP hz hS => ?_) (fun x9 E9 cell9 H9 locs9 hE9 => hE9.elim)
          have hle0 := hle
          obtain ⟨rfl, hRn, hkn⟩ := hpo
          obtain ⟨M_17, hM_17⟩ : ∃ z9 : mw_M, z9 = M9 := ⟨_, rfl⟩
          rw [← hM_17] at hP hRn hkn
          have hk := md_keeps.tr hk hkn
          have hRn : md_R G o A M_17 0 z (fs_push S (w, h, d, [], 0, 0)) := hRn
          obtain ⟨np18, bg18, g18, hT, hB⟩ := id hRn
          rw [sN_push] at hT
          have hT : md_at G o A M_17 0 (sSp S) (sSh S) (nI (sN S + 1)) (nI np18) z g18 := hT
          have hle : sN S + 1 ≤ 120 := by have := hB.1; rw [sN_push] at this; exact this
          refine W.eq (g2 := F0 m 72 ls [.int (nI (sN S))]) rfl ?_
          have hex : ex_box S w h d = 0 := by rw [ex_box, if_neg (fun z9 => z9 ⟨kb_5, kb_10, kb_12⟩), if_neg (fun z9 => z9 kb_14)]
          have hre : ((w, h, d, [], 0, 0) : fs_B) = (w, h, d, [], 0, 0) := rfl
          exact mx_iret (v := (nI (sN S))) (M' := M_17) hx hb hr hlocks hP hS ⟨by rw [hex]; rfl, ⟨_, by rw [hex, if_pos rfl, hre]; exact (md_R.of (np := np18) hT hB : md_R G o A M_17 0 z (fs_push S (w, h, d, [], 0, 0)))⟩, hk⟩ dX4_box_72 (Nat.le_of_ble_eq_true rfl) (Nat.le_of_ble_eq_true rfl)
        · have kb_19 : ¬ rmk S 1 := (rmk_eq hle).mp c_13
          refine lv_iconst (v := 2) hx hb dX4_box_46 (by decide) ?_
          refine lv_goto (tgt := 51) hx hb dX4_box_47 (by decide) ?_
          refine mw_put (D := gD G) (ci := 4) (v := .int 2) (ty := .int) (C := RX4) (T := TX4) (N := 21) hx hb htb inX4 tyX4 tyX4_ok nmX4 hown hK hP hS hT.1 hT.2.2.2.1 rfl 0 (by decide) (htb _ wd524) (fun _ h9 => h9) rfl (by decide +kernel) rfl rfl (Nat.le_of_ble_eq_true rfl) dX4_box_51 (fun H locs hP hS => ?_)
          obtain ⟨M_20, hM_20⟩ : ∃ z9 : mw_M, z9 = mw_up M o (.inr (4, [.int 2, .ref (A 0), .int (sSp S), .int (sSh S), .int (nI (sN S)), .ref (A 1), .ref (A 2), .ref (A 3), .ref (A 4), .ref (A 5), .ref (A 6), .ref (A 7), .int (nI np), .ref (A 8), .ref (A 9), .ref (A 10), .ref (A 11), .ref (A 12), .ref (A 13), .ref (A 14), .int z])) := ⟨_, rfl⟩
          have hP : mw_P (gD G) gx_cl M_20 H := by rw [hM_20]; exact hP
          have hT : md_at G o A M_20 2 (sSp S) (sSh S) (nI (sN S)) (nI np) z g := md_at.fld hT hM_20
          have hk : md_keeps o A M M_20 := md_keeps.fld hk hM_20
          refine lv_aload_n hx hb dX4_box_54 rfl (lv_at hl 0 rfl) ?_
          refine mw_get (D := gD G) (ci := 4) (v := .int 2) (C := RX4) (T := TX4) (N := 21) hx hb htb inX4 hown hK hP hT.1 rfl 0 (by decide) (htb _ wd524) (fun _ h9 => h9) rfl dX4_box_55 ?_
          refine lv_if_le (tgt := 65) hx hb dX4_box_58 (by decide) (fun c_21 => absurd c_21 (by decide)) (fun c_21 => ?_)
          refine lv_iconst (v := 0) hx hb dX4_box_61 (by decide) ?_
          refine lv_goto (tgt := 72) hx hb dX4_box_62 (by decide) ?_
          have hex : ex_box S w h d = 2 := by rw [ex_box, if_neg (fun z9 => z9 ⟨kb_5, kb_10, kb_12⟩), if_pos (fun z9 => kb_19 z9)]
          exact mx_iret (v := 0) (M' := M_20) hx hb hr hlocks hP hS ⟨by rw [hex]; rfl, ⟨_, by rw [hex]; exact (⟨np, bg, g, hT, hB⟩ : md_R G o A M_20 2 z S)⟩, hk⟩ dX4_box_72 (Nat.le_of_ble_eq_true rfl) (Nat.le_of_ble_eq_true rfl)
      · have kb_22 : ¬ (wi d (-1000000) 1000000) := bI_f c_11
        refine lv_iconst (v := 1) hx hb dX4_box_33 (by decide) ?_
        refine lv_goto (tgt := 51) hx hb dX4_box_34 (by decide) ?_
        refine mw_put (D := gD G) (ci := 4) (v := .int 1) (ty := .int) (C := RX4) (T := TX4) (N := 21) hx hb htb inX4 tyX4 tyX4_ok nmX4 hown hK hP hS hT.1 hT.2.2.2.1 rfl 0 (by decide) (htb _ wd524) (fun _ h9 => h9) rfl (by decide +kernel) rfl rfl (Nat.le_of_ble_eq_true rfl) dX4_box_51 (fun H locs hP hS => ?_)
        obtain ⟨M_23, hM_23⟩ : ∃ z9 : mw_M, z9 = mw_up M o (.inr (4, [.int 1, .ref (A 0), .int (sSp S), .int (sSh S), .int (nI (sN S)), .ref (A 1), .ref (A 2), .ref (A 3), .ref (A 4), .ref (A 5), .ref (A 6), .ref (A 7), .int (nI np), .ref (A 8), .ref (A 9), .ref (A 10), .ref (A 11), .ref (A 12), .ref (A 13), .ref (A 14), .int z])) := ⟨_, rfl⟩
        have hP : mw_P (gD G) gx_cl M_23 H := by rw [hM_23]; exact hP
        have hT : md_at G o A M_23 1 (sSp S) (sSh S) (nI (sN S)) (nI np) z g := md_at.fld hT hM_23
        have hk : md_keeps o A M M_23 := md_keeps.fld hk hM_23
        refine lv_aload_n hx hb dX4_box_54 rfl (lv_at hl 0 rfl) ?_
        refine mw_get (D := gD G) (ci := 4) (v := .int 1) (C := RX4) (T := TX4) (N := 21) hx hb htb inX4 hown hK hP hT.1 rfl 0 (by decide) (htb _ wd524) (fun _ h9 => h9) rfl dX4_box_55 ?_
        refine lv_if_le (tgt := 65) hx hb dX4_box_58 (by decide) (fun c_24 => absurd c_24 (by decide)) (fun c_24 => ?_)
        refine lv_iconst (v := 0) hx hb dX4_box_61 (by decide) ?_
        refine lv_goto (tgt := 72) hx hb dX4_box_62 (by decide) ?_
        have hex : ex_box S w h d = 1 := by rw [ex_box, if_pos (fun z9 => kb_22 z9.2.2)]
        exact mx_iret (v := 0) (M' := M_23) hx hb hr hlocks hP hS ⟨by rw [hex]; rfl, ⟨_, by rw [hex]; exact (⟨np, bg, g, hT, hB⟩ : md_R G o A M_23 1 z S)⟩, hk⟩ dX4_box_72 (Nat.le_of_ble_eq_true rfl) (Nat.le_of_ble_eq_true rfl)
-- X4_row
set_option maxHeartbeats 4000000 in
set_option maxRecDepth 100000 in
theorem kX4_row (l : Launch) (htr : l.stackTraces = false) (G : gx_G) (sz : Nat) (M : mw_M) (o : Nat) (A : Nat → Nat) (th z : Int32) (S : fs_S) (hR : md_R G o A M th z S) (hok : fs_ok S) (a gp b : Int32) : g_Met l G yX4_row (.code yX4_row cX4_row 5 (some .int)) ({ frames := 5, cells := 0, slots := 0, locals := 200 } : Room) sz M [.ref o, .int a, .int gp, .int b] (md_Mk G o A M S (ex_row S a gp b) (fs_push S (re_row S a gp b)) (some (.int (if ex_row S a gp b = 0 then nI (sN S) else 0)))) (fun _ => False) := by
  refine MetE.ofW (cc := cX4_row) (maxL := 5) (ret := (some .int)) (by decide) rfl ?_
  intro p e s m args below meth c s₁ B hml hv
  obtain ⟨rfl, hsz, hP, hE⟩ := hv
  have hx := B.exec
  have hb := B.bytes
  have hr := B.returns
  have hts := atoms_spec (ws := _ :: lw_big) B.pre
  have htb : ∀ w ∈ lw_big, w.before _ s = true := fun w h => hts w (List.mem_cons_of_mem _ h)
  have hno := B.noHandlers (hts _ List.mem_cons_self)
  have hown : s.vm.findClass RX4 = some m.cls := findClass_of_methodNamed B.named
  have hlocks := B.notSynchronized
  have hK := hE.1
  subst hsz
  have hS : va_S (gA G) s.heap s.heap [] := va_S.rf
  have hl := lv_entry ([.ref o, .int a, .int gp, .int b]) (n := 5) (Nat.le_of_ble_eq_true rfl)
  rw [lg_entry_eq]
  generalize (lg_sl ([.ref o, .int a, .int gp, .int b]) ++ List.replicate (5 - (lg_sl ([.ref o, .int a, .int gp, .int b])).length) Slot.unset).toArray = ls at hl ⊢
  have hl : lv_has ls 5 [(0, .ref o), (1, .int a), (2, .int gp), (3, .int b)] := hl
  obtain ⟨np, bg, g, hT, hB⟩ := id hR
  have hk : md_keeps o A M M := md_keeps.rf o A M
  have hle : sN S ≤ 120 := hB.1
  refine lv_aload_n hx hb dX4_row_0 rfl (lv_at hl 0 rfl) ?_
  refine lv_aload_n hx hb dX4_row_1 rfl (lv_at hl 0 rfl) ?_
  refine lv_iload_n hx hb dX4_row_2 rfl (lv_at hl 1 rfl) ?_
  refine mw_callV (C := RX4) (As := [.int a]) (rest := [.ref o]) hx hb hml hown hl (kX4_isBox l htr G s.heap.size M o A th z S (⟨np, bg, g, hT, hB⟩ : md_R G o A M th z S) a) (g_B (n := 1) htb wd624 wd3 wd621 (by decide +kernel) ⟨Nat.le_of_ble_eq_true rfl, Nat.le_of_ble_eq_true rfl⟩) (htb _ wd623) (htb _ ws27) hE hP hS hT.1 rfl rfl rfl (Nat.le_of_ble_eq_true rfl) dX4_row_3 ⟨Nat.le_of_ble_eq_true rfl, Nat.le_of_ble_eq_true rfl⟩ (fun v9 M9 H locs hpo hP hz hS => ?_) (fun x9 E9 cell9 H9 locs9 hE9 => hE9.elim)
  obtain ⟨rfl, rfl⟩ := hpo
  refine W.eq (g2 := F0 m 6 ls [.int (bI (isB S a)), .ref o]) rfl ?_
  refine lv_if_eq (tgt := 17) hx hb dX4_row_6 (by decide) (fun c_1 => ?_) (fun c_1 => ?_)
  · have kb_2 : ¬ (isB S a) := bI_f c_1
    refine lv_iconst (v := 1) hx hb dX4_row_17 (by decide) ?_
    refine lv_goto (tgt := 50) hx hb dX4_row_18 (by decide) ?_
    refine mw_put (D := gD G) (ci := 4) (v := .int 1) (ty := .int) (C := RX4) (T := TX4) (N := 21) hx hb htb inX4 tyX4 tyX4_ok nmX4 hown hK hP hS hT.1 hT.2.2.2.1 rfl 0 (by decide) (htb _ wd524) (fun _ h9 => h9) rfl (by decide +kernel) rfl rfl (Nat.le_of_ble_eq_true rfl) dX4_row_50 (fun H locs hP hS => ?_)
    obtain ⟨M_3, hM_3⟩ : ∃ z9 : mw_M, z9 = mw_up M o (.inr (4, [.int 1, .ref (A 0), .int (sSp S), .int (sSh S), .int (nI (sN S)), .ref (A 1), .ref (A 2), .ref (A 3), .ref (A 4), .ref (A 5), .ref (A 6), .ref (A 7), .int (nI np), .ref (A 8), .ref (A 9), .ref (A 10), .ref (A 11), .ref (A 12), .ref (A 13), .ref (A 14), .int z])) := ⟨_, rfl⟩
    have hP : mw_P (gD G) gx_cl M_3 H := by rw [hM_3]; exact hP
    have hT : md_at G o A M_3 1 (sSp S) (sSh S) (nI (sN S)) (nI np) z g := md_at.fld hT hM_3
    have hk : md_keeps o A M M_3 := md_keeps.fld hk hM_3
    refine lv_aload_n hx hb dX4_row_53 rfl (lv_at hl 0 rfl) ?_
    refine mw_get (D := gD G) (ci := 4) (v := .int 1) (C := RX4) (T := TX4) (N := 21) hx hb htb inX4 hown hK hP hT.1 rfl 0 (by decide) (htb _ wd524) (fun _ h9 => h9) rfl dX4_row_54 ?_
    refine lv_if_le (tgt := 62) hx hb dX4_row_57 (by decide) (fun c_4 => absurd c_4 (by decide)) (fun c_4 => ?_)
    refine lv_iconst (v := 0) hx hb dX4_row_60 (by decide) ?_
    have hex : ex_row S a gp b = 1 := by rw [ex_row, if_pos (fun z9 => kb_2 z9.1)]
    exact mx_iret (v := 0) (M' := M_3) hx hb hr hlocks hP hS ⟨by rw [hex]; rfl, ⟨_, by rw [hex]; exact (⟨np, bg, g, hT, hB⟩ : md_R G o A M_3 1 z S)⟩, hk⟩ dX4_row_61 (Nat.le_of_ble_eq_true rfl) (Nat.le_of_ble_eq_true rfl)
  · have kb_5 : isB S a := bI_t c_1
    have h_a := isB_lt kb_5 hle
    have e_a := fIx_of kb_5.1
    rw [e_a] at hl
    refine lv_aload_n hx hb dX4_row_9 rfl (lv_at hl 0 rfl) ?_
    refine lv_iload_n hx hb dX4_row_10 rfl (lv_at hl 3 rfl) ?_
    refine mw_callV (C := RX4) (As := [.int b]) (rest := [.ref o]) hx hb hml hown hl (kX4_isBox l htr G H.size M o A th z S (⟨np, bg, g, hT, hB⟩ : md_R G o A M th z S) b) (g_B (n := 1) htb wd624 wd3 wd621 (by decide +kernel) ⟨Nat.le_of_ble_eq_true rfl, Nat.le_of_ble_eq_true rfl⟩) (htb _ wd623) (htb _ ws27) hE hP hS hT.1 rfl rfl rfl (Nat.le_of_ble_eq_true rfl) dX4_row_11 ⟨Nat.le_of_ble_eq_true rfl, Nat.le_of_ble_eq_true rfl⟩ (fun v9 M9 H locs hpo hP hz hS => ?_) (fun x9 E9 cell9 H9 locs9 hE9 => hE9.elim)
    obtain ⟨rfl, rfl⟩ := hpo
    refine W.eq (g2 := F0 m 14 ls [.int (bI (isB S b)), .ref o]) rfl ?_
    refine lv_if_ne (tgt := 21) hx hb dX4_row_14 (by decide) (fun c_6 => ?_) (fun c_6 => ?_)
    · have kb_7 : isB S b := bI_t c_6
      have h_b := isB_lt kb_7 hle
      have e_b := fIx_of kb_7.1
      rw [e_b] at hl
      refine lv_iload_n hx hb dX4_row_21 rfl (lv_at hl 2 rfl) ?_
      refine lv_ldc (v := (-1000000)) hx hb hown (htb _ wd600) dX4_row_22 ?_
      refine lv_ldc (v := 1000000) hx hb hown (htb _ wd601) dX4_row_24 ?_
      refine mw_callS (As := [.int gp, .int (-1000000), .int 1000000]) (rest := [.ref o]) hx hb hml hown hl (kX4_in l htr G H.size M gp (-1000000) 1000000) (g_B (n := 3) htb wd599 wd3 wd597 (by decide +kernel) ⟨Nat.le_of_ble_eq_true rfl, Nat.le_of_ble_eq_true rfl⟩) (htb _ wd598) hE hP hS rfl rfl (Nat.le_of_ble_eq_true rfl) dX4_row_26 ⟨Nat.le_of_ble_eq_true rfl, Nat.le_of_ble_eq_true rfl⟩ (fun v9 M9 H locs hpo hP hz hS => ?_) (fun x9 E9 cell9 H9 locs9 hE9 => hE9.elim)
      obtain ⟨rfl, rfl⟩ := hpo
      refine W.eq (g2 := F0 m 29 ls [.int (bI (wi gp (-1000000) 1000000)), .ref o]) rfl ?_
      refine lv_if_ne (tgt := 36) hx hb dX4_row_29 (by decide) (fun c_8 => ?_) (fun c_8 => ?_)
      · have kb_9 : wi gp (-1000000) 1000000 := bI_t c_8
        refine lv_aload_n hx hb dX4_row_36 rfl (lv_at hl 0 rfl) ?_
        refine mw_get (D := gD G) (ci := 4) (v := .int (nI (sN S))) (C := RX4) (T := TX4) (N := 21) hx hb htb inX4 hown hK hP hT.1 rfl 4 (by decide) (htb _ wd528) (fun _ h9 => h9) rfl dX4_row_37 ?_
        refine lv_bipush (v := 120) hx hb dX4_row_40 (by decide) ?_
        refine lv_icmp_ne (tgt := 49) hx hb dX4_row_42 (by decide) (fun c_10 => ?_) (fun c_10 => ?_)
        · have kb_11 : rmk S 1 := Decidable.byContradiction (fun z9 => c_10 ((rmk_eq hle).mpr z9))
          refine lv_iconst (v := 0) hx hb dX4_row_49 (by decide) ?_
          refine mw_put (D := gD G) (ci := 4) (v := .int 0) (ty := .int) (C := RX4) (T := TX4) (N := 21) hx hb htb inX4 tyX4 tyX4_ok nmX4 hown hK hP hS hT.1 hT.2.2.2.1 rfl 0 (by decide) (htb _ wd524) (fun _ h9 => h9) rfl (by decide +kernel) rfl rfl (Nat.le_of_ble_eq_true rfl) dX4_row_50 (fun H locs hP hS => ?_)
          obtain ⟨M_12, hM_12⟩ : ∃ z9 : mw_M, z9 = mw_up M o (.inr (4, [.int 0, .ref (A 0), .int (sSp S), .int (sSh S), .int (nI (sN S)), .ref (A 1), .ref (A 2), .ref (A 3), .ref (A 4), .ref (A 5), .ref (A 6), .ref (A 7), .int (nI np), .ref (A 8), .ref (A 9), .ref (A 10), .ref (A 11), .ref (A 12), .ref (A 13), .ref (A 14), .int z])) := ⟨_, rfl⟩
          have hP : mw_P (gD G) gx_cl M_12 H := by rw [hM_12]; exact hP
          have hT : md_at G o A M_12 0 (sSp S) (sSh S) (nI (sN S)) (nI np) z g := md_at.fld hT hM_12
          have hk : md_keeps o A M M_12 := md_keeps.fld hk hM_12
          refine lv_aload_n hx hb dX4_row_53 rfl (lv_at hl 0 rfl) ?_
          refine mw_get (D := gD G) (ci := 4) (v := .int 0) (C := RX4) (T := TX4) (N := 21) hx hb htb inX4 hown hK hP hT.1 rfl 0 (by decide) (htb _ wd524) (fun _ h9 => h9) rfl dX4_row_54 ?_
          refine lv_if_le (tgt := 62) hx hb dX4_row_57 (by decide) (fun c_13 => ?_) (fun c_13 => absurd (by decide) c_13)
          refine lv_aload_n hx hb dX4_row_62 rfl (lv_at hl 0 rfl) ?_
          refine lv_aload_n hx hb dX4_row_63 rfl (lv_at hl 0 rfl) ?_
          refine mw_get (D := gD G) (ci := 4) (v := .ref (A 1)) (C := RX4) (T := TX4) (N := 21) hx hb htb inX4 hown hK hP hT.1 rfl 5 (by decide) (htb _ wd529) (fun _ h9 => h9) rfl dX4_row_64 ?_
          refine lv_iload_n hx hb dX4_row_67 rfl (lv_at hl 1 rfl) ?_
          refine mw_iald hx hb hK hP 0 (show M_12 (A 1) = some (.inl (gI G, 120, .inl (g 1))) from hT.2.1 1 (by decide)) rfl (by exact vp_in_nI (show (fIx a) < 120 by have := hle; omega) (by decide)) dX4_row_68 ?_
          refine W.eq (g2 := F0 m 69 ls [.int (bW S (fIx a)), .ref o]) (by rw [nI_clamp (show (fIx a) < 2 ^ 31 by have := hle; omega), hB.W h_a]) ?_
          refine lv_iload_n hx hb dX4_row_69 rfl (lv_at hl 2 rfl) ?_
          refine lv_iadd hx hb dX4_row_70 ?_
          refine lv_aload_n hx hb dX4_row_71 rfl (lv_at hl 0 rfl) ?_
          refine mw_get (D := gD G) (ci := 4) (v := .ref (A 1)) (C := RX4) (T := TX4) (N := 21) hx hb htb inX4 hown hK hP hT.1 rfl 5 (by decide) (htb _ wd529) (fun _ h9 => h9) rfl dX4_row_72 ?_
          refine lv_iload_n hx hb dX4_row_75 rfl (lv_at hl 3 rfl) ?_
          refine mw_iald hx hb hK hP 0 (show M_12 (A 1) = some (.inl (gI G, 120, .inl (g 1))) from hT.2.1 1 (by decide)) rfl (by exact vp_in_nI (show (fIx b) < 120 by have := hle; omega) (by decide)) dX4_row_76 ?_
          refine W.eq (g2 := F0 m 77 ls [.int (bW S (fIx b)), .int ((bW S (fIx a)) + gp), .ref o]) (by rw [nI_clamp (show (fIx b) < 2 ^ 31 by have := hle; omega), hB.W h_b]) ?_
          refine lv_iadd hx hb dX4_row_77 ?_
          refine lv_iconst (v := 0) hx hb dX4_row_78 (by decide) ?_
          refine lv_iconst (v := 0) hx hb dX4_row_79 (by decide) ?_
          refine mw_callV (C := RX4) (As := [.int (((bW S (fIx a)) + gp) + (bW S (fIx b))), .int 0, .int 0]) (rest := []) hx hb hml hown hl (kX4_make l htr G H.size M_12 o A 0 z S (⟨np, bg, g, hT, hB⟩ : md_R G o A M_12 0 z S) (rmk_lt kb_11 hle) (((bW S (fIx a)) + gp) + (bW S (fIx b))) 0 0) (g_B (n := 3) htb wd613 wd3 wd610 (by decide +kernel) ⟨Nat.le_of_ble_eq_true rfl, Nat.le_of_ble_eq_true rfl⟩) (htb _ wd612) (htb _ ws26) hE hP hS hT.1 rfl rfl rfl (Nat.le_of_ble_eq_true rfl) dX4_row_80 ⟨Nat.le_of_ble_eq_true rfl, Nat.le_of_ble_eq_true rfl⟩ (fun v9 M9 H locs hpo hP hz hS => ?_) (fun x9 E9 cell9 H9 locs9 hE9 => hE9.elim)
          have hle0 := hle
          obtain ⟨rfl, hRn, hkn⟩ := hpo
          obtain ⟨M_14, hM_14⟩ : ∃ z9 : mw_M, z9 = M9 := ⟨_, rfl⟩
          rw [← hM_14] at hP hRn hkn
          have hk := md_keeps.tr hk hkn
          have hRn : md_R G o A M_14 0 z (fs_push S ((((bW S (fIx a)) + gp) + (bW S (fIx b))), 0, 0, [], 0, 0)) := hRn
          obtain ⟨np15, bg15, g15, hT, hB⟩ := id hRn
          rw [sN_push] at hT
          have hT : md_at G o A M_14 0 (sSp S) (sSh S) (nI (sN S + 1)) (nI np15) z g15 := hT
          have hle : sN S + 1 ≤ 120 := by have := hB.1; rw [sN_push] at this; exact this
          refine W.eq (g2 := F0 m 83 ls [.int (nI (sN S))]) rfl ?_
          refine lv_istore (lv' := [(4, .int (nI (sN S))), (0, .ref o), (1, .int (nI (fIx a))), (2, .int gp), (3, .int (nI (fIx b)))]) hx hb dX4_row_83 hl (by decide) rfl (fun ls hl => ?_)
          refine lv_aload_n hx hb dX4_row_85 rfl (lv_at hl 1 rfl) ?_
          refine lv_iload_n hx hb dX4_row_86 rfl (lv_at hl 2 rfl) ?_
          refine lv_iconst (v := 0) hx hb dX4_row_87 (by decide) ?_
          refine lv_iconst (v := 0) hx hb dX4_row_88 (by decide) ?_
          refine mw_callV (C := RX4) (As := [.int (nI (fIx a)), .int 0, .int 0]) (rest := []) hx hb hml hown hl (kX4_lay l htr G H.size M_14 o A 0 z S (((bW S (fIx a)) + gp) + (bW S (fIx b))) 0 0 ([]) 0 0 (md_R.of (np := np15) hT hB : md_R G o A M_14 0 z (fs_push S ((((bW S (fIx a)) + gp) + (bW S (fIx b))), 0, 0, [], 0, 0))) (by simp) (nI (fIx a)) 0 0) (g_B (n := 3) htb wd661 wd3 wd658 (by decide +kernel) ⟨Nat.le_of_ble_eq_true rfl, Nat.le_of_ble_eq_true rfl⟩) (htb _ wd660) (htb _ ws34) hE hP hS hT.1 rfl rfl rfl (Nat.le_of_ble_eq_true rfl) dX4_row_89 ⟨Nat.le_of_ble_eq_true rfl, Nat.le_of_ble_eq_true rfl⟩ (fun v9 M9 H locs hpo hP hz hS => ?_) (fun x9 E9 cell9 H9 locs9 hE9 => hE9.elim)
          obtain ⟨rfl, hRn, hkn⟩ := hpo
          obtain ⟨M_16, hM_16⟩ : ∃ z9 : mw_M, z9 = M9 := ⟨_, rfl⟩
          rw [← hM_16] at hP hRn hkn
          have hk := md_keeps.tr hk hkn
          have hRn : md_R G o A M_16 0 z (fs_push S ((((bW S (fIx a)) + gp) + (bW S (fIx b))), 0, 0, [(nI (fIx a)), 0, 0], 0, 0)) := hRn
          obtain ⟨np17, bg17, g17, hT, hB⟩ := id hRn
          rw [sN_push] at hT
          have hT : md_at G o A M_16 0 (sSp S) (sSh S) (nI (sN S + 1)) (nI np17) z g17 := hT
          refine W.eq (g2 := F0 m 92 ls []) rfl ?_
          refine lv_aload_n hx hb dX4_row_92 rfl (lv_at hl 1 rfl) ?_
          refine lv_iload_n hx hb dX4_row_93 rfl (lv_at hl 4 rfl) ?_
          refine lv_aload_n hx hb dX4_row_94 rfl (lv_at hl 1 rfl) ?_
          refine mw_get (D := gD G) (ci := 4) (v := .ref (A 1)) (C := RX4) (T := TX4) (N := 21) hx hb htb inX4 hown hK hP hT.1 rfl 5 (by decide) (htb _ wd529) (fun _ h9 => h9) rfl dX4_row_95 ?_
          refine lv_iload_n hx hb dX4_row_98 rfl (lv_at hl 2 rfl) ?_
          refine mw_iald hx hb hK hP 0 (show M_16 (A 1) = some (.inl (gI G, 120, .inl (g17 1))) from hT.2.1 1 (by decide)) rfl (by exact vp_in_nI (show (fIx a) < 120 by have := hle; omega) (by decide)) dX4_row_99 ?_
          refine W.eq (g2 := F0 m 100 ls [.int (bW S (fIx a)), .int (nI (fIx b)), .ref o]) (by rw [nI_clamp (show (fIx a) < 2 ^ 31 by have := hle; omega), hB.W (show (fIx a) < sN (fs_push S ((((bW S (fIx a)) + gp) + (bW S (fIx b))), 0, 0, [(nI (fIx a)), 0, 0], 0, 0)) by rw [sN_push]; omega), bW_push _ h_a]) ?_
          refine lv_iload_n hx hb dX4_row_100 rfl (lv_at hl 3 rfl) ?_
          refine lv_iadd hx hb dX4_row_101 ?_
          refine lv_iconst (v := 0) hx hb dX4_row_102 (by decide) ?_
          refine mw_callV (C := RX4) (As := [.int (nI (fIx b)), .int ((bW S (fIx a)) + gp), .int 0]) (rest := []) hx hb hml hown hl (kX4_lay l htr G H.size M_16 o A 0 z S (((bW S (fIx a)) + gp) + (bW S (fIx b))) 0 0 ([(nI (fIx a)), 0, 0]) 0 0 (md_R.of (np := np17) hT hB : md_R G o A M_16 0 z (fs_push S ((((bW S (fIx a)) + gp) + (bW S (fIx b))), 0, 0, [(nI (fIx a)), 0, 0], 0, 0))) (by simp) (nI (fIx b)) ((bW S (fIx a)) + gp) 0) (g_B (n := 3) htb wd661 wd3 wd658 (by decide +kernel) ⟨Nat.le_of_ble_eq_true rfl, Nat.le_of_ble_eq_true rfl⟩) (htb _ wd660) (htb _ ws34) hE hP hS hT.1 rfl rfl rfl (Nat.le_of_ble_eq_true rfl) dX4_row_103 ⟨Nat.le_of_ble_eq_true rfl, Nat.le_of_ble_eq_true rfl⟩ (fun v9 M9 H locs hpo hP hz hS => ?_) (fun x9 E9 cell9 H9 locs9 hE9 => hE9.elim)
          obtain ⟨rfl, hRn, hkn⟩ := hpo
          obtain ⟨M_18, hM_18⟩ : ∃ z9 : mw_M, z9 = M9 := ⟨_, rfl⟩
          rw [← hM_18] at hP hRn hkn
          have hk := md_keeps.tr hk hkn
          have hRn : md_R G o A M_18 0 z (fs_push S ((((bW S (fIx a)) + gp) + (bW S (fIx b))), 0, 0, [(nI (fIx a)), 0, 0, (nI (fIx b)), ((bW S (fIx a)) + gp), 0], 0, 0)) := hRn
          obtain ⟨np19, bg19, g19, hT, hB⟩ := id hRn
          rw [sN_push] at hT
          have hT : md_at G o A M_18 0 (sSp S) (sSh S) (nI (sN S + 1)) (nI np19) z g19 := hT
          refine W.eq (g2 := F0 m 106 ls []) rfl ?_
          refine lv_aload_n hx hb dX4_row_106 rfl (lv_at hl 1 rfl) ?_
          refine mw_callV (C := RX4) (As := []) (rest := []) hx hb hml hown hl (kX4_reach l htr G H.size M_18 o A 0 z S (((bW S (fIx a)) + gp) + (bW S (fIx b))) [(nI (fIx a)), 0, 0, (nI (fIx b)), ((bW S (fIx a)) + gp), 0] (md_R.of (np := np19) hT hB : md_R G o A M_18 0 z (fs_push S ((((bW S (fIx a)) + gp) + (bW S (fIx b))), 0, 0, [(nI (fIx a)), 0, 0, (nI (fIx b)), ((bW S (fIx a)) + gp), 0], 0, 0))) (fun j hj => by
              rcases (show j = 0 ∨ j = 1 by simp at hj; omega) with rfl | rfl
              · exact ⟨(fIx a), h_a, rfl⟩
              · exact ⟨(fIx b), h_b, rfl⟩)) (g_B (n := 0) htb wd705 wd3 wd702 (by decide +kernel) ⟨Nat.le_of_ble_eq_true rfl, Nat.le_of_ble_eq_true rfl⟩) (htb _ wd704) (htb _ ws37) hE hP hS hT.1 rfl rfl rfl (Nat.le_of_ble_eq_true rfl) dX4_row_107 ⟨Nat.le_of_ble_eq_true rfl, Nat.le_of_ble_eq_true rfl⟩ (fun v9 M9 H locs hpo hP hz hS => ?_) (fun x9 E9 cell9 H9 locs9 hE9 => hE9.elim)
          obtain ⟨rfl, hRn, hkn⟩ := hpo
          obtain ⟨M_20, hM_20⟩ : ∃ z9 : mw_M, z9 = M9 := ⟨_, rfl⟩
          rw [← hM_20] at hP hRn hkn
          have hk := md_keeps.tr hk hkn
          refine W.eq (g2 := F0 m 110 ls []) rfl ?_
          refine lv_iload hx hb dX4_row_110 (lv_at hl 0 rfl) ?_
          have hex : ex_row S a gp b = 0 := by rw [ex_row, if_neg (fun z9 => z9 ⟨kb_5, kb_7⟩), if_neg (fun z9 => z9 kb_9), if_neg (fun z9 => z9 kb_11)]
          have hre : re_row S a gp b = (fs_en S (((bW S (fIx a)) + gp) + (bW S (fIx b))) [(nI (fIx a)), 0, 0, (nI (fIx b)), ((bW S (fIx a)) + gp), 0]) := rfl
          exact mx_iret (v := (nI (sN S))) (M' := M_20) hx hb hr hlocks hP hS ⟨by rw [hex]; rfl, ⟨_, by rw [hex, if_pos rfl, hre]; exact hRn⟩, hk⟩ dX4_row_112 (Nat.le_of_ble_eq_true rfl) (Nat.le_of_ble_eq_true rfl)
        · have kb_21 : ¬ rmk S 1 := (rmk_eq hle).mp c_10
          refine lv_iconst (v := 3) hx hb dX4_row_45 (by decide) ?_
          refine lv_goto (tgt := 50) hx hb dX4_row_46 (by decide) ?_
          refine mw_put (D := gD G) (ci := 4) (v := .int 3) (ty := .int) (C := RX4) (T := TX4) (N := 21) hx hb htb inX4 tyX4 tyX4_ok nmX4 hown hK hP hS hT.1 hT.2.2.2.1 rfl 0 (by decide) (htb _ wd524) (fun _ h9 => h9) rfl (by decide +kernel) rfl rfl (Nat.le_of_ble_eq_true rfl) dX4_row_50 (fun H locs hP hS => ?_)
          obtain ⟨M_22, hM_22⟩ : ∃ z9 : mw_M, z9 = mw_up M o (.inr (4, [.int 3, .ref (A 0), .int (sSp S), .int (sSh S), .int (nI (sN S)), .ref (A 1), .ref (A 2), .ref (A 3), .ref (A 4), .ref (A 5), .ref (A 6), .ref (A 7), .int (nI np), .ref (A 8), .ref (A 9), .ref (A 10), .ref (A 11), .ref (A 12), .ref (A 13), .ref (A 14), .int z])) := ⟨_, rfl⟩
          have hP : mw_P (gD G) gx_cl M_22 H := by rw [hM_22]; exact hP
          have hT : md_at G o A M_22 3 (sSp S) (sSh S) (nI (sN S)) (nI np) z g := md_at.fld hT hM_22
          have hk : md_keeps o A M M_22 := md_keeps.fld hk hM_22
          refine lv_aload_n hx hb dX4_row_53 rfl (lv_at hl 0 rfl) ?_
          refine mw_get (D := gD G) (ci := 4) (v := .int 3) (C := RX4) (T := TX4) (N := 21) hx hb htb inX4 hown hK hP hT.1 rfl 0 (by decide) (htb _ wd524) (fun _ h9 => h9) rfl dX4_row_54 ?_
          refine lv_if_le (tgt := 62) hx hb dX4_row_57 (by decide) (fun c_23 => absurd c_23 (by decide)) (fun c_23 => ?_)
          refine lv_iconst (v := 0) hx hb dX4_row_60 (by decide) ?_
          have hex : ex_row S a gp b = 3 := by rw [ex_row, if_neg (fun z9 => z9 ⟨kb_5, kb_7⟩), if_neg (fun z9 => z9 kb_9), if_pos (fun z9 => kb_21 z9)]
          exact mx_iret (v := 0) (M' := M_22) hx hb hr hlocks hP hS ⟨by rw [hex]; rfl, ⟨_, by rw [hex]; exact (⟨np, bg, g, hT, hB⟩ : md_R G o A M_22 3 z S)⟩, hk⟩ dX4_row_61 (Nat.le_of_ble_eq_true rfl) (Nat.le_of_ble_eq_true rfl)
      · have kb_24 : ¬ (wi gp (-1000000) 1000000) := bI_f c_8
        refine lv_iconst (v := 2) hx hb dX4_row_32 (by decide) ?_
        refine lv_goto (tgt := 50) hx hb dX4_row_33 (by decide) ?_
        refine mw_put (D := gD G) (ci := 4) (v := .int 2) (ty := .int) (C := RX4) (T := TX4) (N := 21) hx hb htb inX4 tyX4 tyX4_ok nmX4 hown hK hP hS hT.1 hT.2.2.2.1 rfl 0 (by decide) (htb _ wd524) (fun _ h9 => h9) rfl (by decide +kernel) rfl rfl (Nat.le_of_ble_eq_true rfl) dX4_row_50 (fun H locs hP hS => ?_)
        obtain ⟨M_25, hM_25⟩ : ∃ z9 : mw_M, z9 = mw_up M o (.inr (4, [.int 2, .ref (A 0), .int (sSp S), .int (sSh S), .int (nI (sN S)), .ref (A 1), .ref (A 2), .ref (A 3), .ref (A 4), .ref (A 5), .ref (A 6), .ref (A 7), .int (nI np), .ref (A 8), .ref (A 9), .ref (A 10), .ref (A 11), .ref (A 12), .ref (A 13), .ref (A 14), .int z])) := ⟨_, rfl⟩
        have hP : mw_P (gD G) gx_cl M_25 H := by rw [hM_25]; exact hP
        have hT : md_at G o A M_25 2 (sSp S) (sSh S) (nI (sN S)) (nI np) z g := md_at.fld hT hM_25
        have hk : md_keeps o A M M_25 := md_keeps.fld hk hM_25
        refine lv_aload_n hx hb dX4_row_53 rfl (lv_at hl 0 rfl) ?_
        refine mw_get (D := gD G) (ci := 4) (v := .int 2) (C := RX4) (T := TX4) (N := 21) hx hb htb inX4 hown hK hP hT.1 rfl 0 (by decide) (htb _ wd524) (fun _ h9 => h9) rfl dX4_row_54 ?_
        refine lv_if_le (tgt := 62) hx hb dX4_row_57 (by decide) (fun c_26 => absurd c_26 (by decide)) (fun c_26 => ?_)
        refine lv_iconst (v := 0) hx hb dX4_row_60 (by decide) ?_
        have hex : ex_row S a gp b = 2 := by rw [ex_row, if_neg (fun z9 => z9 ⟨kb_5, kb_7⟩), if_pos (fun z9 => kb_24 z9)]
        exact mx_iret (v := 0) (M' := M_25) hx hb hr hlocks hP hS ⟨by rw [hex]; rfl, ⟨_, by rw [hex]; exact (⟨np, bg, g, hT, hB⟩ : md_R G o A M_25 2 z S)⟩, hk⟩ dX4_row_61 (Nat.le_of_ble_eq_true rfl) (Nat.le_of_ble_eq_true rfl)
    · have kb_27 : ¬ (isB S b) := bI_f c_6
      refine lv_iconst (v := 1) hx hb dX4_row_17 (by decide) ?_
      refine lv_goto (tgt := 50) hx hb dX4_row_18 (by decide) ?_
      refine mw_put (D := gD G) (ci := 4) (v := .int 1) (ty := .int) (C := RX4) (T := TX4) (N := 21) hx hb htb inX4 tyX4 tyX4_ok nmX4 hown hK hP hS hT.1 hT.2.2.2.1 rfl 0 (by decide) (htb _ wd524) (fun _ h9 => h9) rfl (by decide +kernel) rfl rfl (Nat.le_of_ble_eq_true rfl) dX4_row_50 (fun H locs hP hS => ?_)
      obtain ⟨M_28, hM_28⟩ : ∃ z9 : mw_M, z9 = mw_up M o (.inr (4, [.int 1, .ref (A 0), .int (sSp S), .int (sSh S), .int (nI (sN S)), .ref (A 1), .ref (A 2), .ref (A 3), .ref (A 4), .ref (A 5), .ref (A 6), .ref (A 7), .int (nI np), .ref (A 8), .ref (A 9), .ref (A 10), .ref (A 11), .ref (A 12), .ref (A 13), .ref (A 14), .int z])) := ⟨_, rfl⟩
      have hP : mw_P (gD G) gx_cl M_28 H := by rw [hM_28]; exact hP
      have hT : md_at G o A M_28 1 (sSp S) (sSh S) (nI (sN S)) (nI np) z g := md_at.fld hT hM_28
      have hk : md_keeps o A M M_28 := md_keeps.fld hk hM_28
      refine lv_aload_n hx hb dX4_row_53 rfl (lv_at hl 0 rfl) ?_
      refine mw_get (D := gD G) (ci := 4) (v := .int 1) (C := RX4) (T := TX4) (N := 21) hx hb htb inX4 hown hK hP hT.1 rfl 0 (by decide) (htb _ wd524) (fun _ h9 => h9) rfl dX4_row_54 ?_
      refine lv_if_le (tgt := 62) hx hb dX4_row_57 (by decide) (fun c_29 => absurd c_29 (by decide)) (fun c_29 => ?_)
      refine lv_iconst (v := 0) hx hb dX4_row_60 (by decide) ?_
      have hex : ex_row S a gp b = 1 := by rw [ex_row, if_pos (fun z9 => kb_27 z9.2)]
      exact mx_iret (v := 0) (M' := M_28) hx hb hr hlocks hP hS ⟨by rw [hex]; rfl, ⟨_, by rw [hex]; exact (⟨np, bg, g, hT, hB⟩ : md_R G o A M_28 1 z S)⟩, hk⟩ dX4_row_61 (Nat.le_of_ble_eq_true rfl) (Nat.le_of_ble_eq_true rfl)
-- X4_centre
set_option maxHeartbeats 4000000 in
set_option maxRecDepth 100000 in
theorem kX4_centre (l : Launch) (htr : l.stackTraces = false) (G : gx_G) (sz : Nat) (M : mw_M) (o : Nat) (A : Nat → Nat) (th z : Int32) (S : fs_S) (hR : md_R G o A M th z S) (hok : fs_ok S) (st x : Int32) : g_Met l G yX4_centre (.code yX4_centre cX4_centre 4 (some .int)) ({ frames := 5, cells := 0, slots := 0, locals := 200 } : Room) sz M [.ref o, .int st, .int x] (md_Mk G o A M S (ex_centre S st x) (fs_push S (re_centre S st x)) (some (.int (if ex_centre S st x = 0 then nI (sN S) else 0)))) (fun _ => False) := by
  refine MetE.ofW (cc := cX4_centre) (maxL := 4) (ret := (some .int)) (by decide) rfl ?_
  intro p e s m args below meth c s₁ B hml hv
  obtain ⟨rfl, hsz, hP, hE⟩ := hv
  have hx := B.exec
  have hb := B.bytes
  have hr := B.returns
  have hts := atoms_spec (ws := _ :: lw_big) B.pre
  have htb : ∀ w ∈ lw_big, w.before _ s = true := fun w h => hts w (List.mem_cons_of_mem _ h)
  have hno := B.noHandlers (hts _ List.mem_cons_self)
  have hown : s.vm.findClass RX4 = some m.cls := findClass_of_methodNamed B.named
  have hlocks := B.notSynchronized
  have hK := hE.1
  subst hsz
  have hS : va_S (gA G) s.heap s.heap [] := va_S.rf
  have hl := lv_entry ([.ref o, .int st, .int x]) (n := 4) (Nat.le_of_ble_eq_true rfl)
  rw [lg_entry_eq]
  generalize (lg_sl ([.ref o, .int st, .int x]) ++ List.replicate (4 - (lg_sl ([.ref o, .int st, .int x])).length) Slot.unset).toArray = ls at hl ⊢
  have hl : lv_has ls 4 [(0, .ref o), (1, .int st), (2, .int x)] := hl
  obtain ⟨np, bg, g, hT, hB⟩ := id hR
  have hk : md_keeps o A M M := md_keeps.rf o A M
  have hle : sN S ≤ 120 := hB.1
  refine lv_aload_n hx hb dX4_centre_0 rfl (lv_at hl 0 rfl) ?_
  refine lv_aload_n hx hb dX4_centre_1 rfl (lv_at hl 0 rfl) ?_
  refine lv_iload_n hx hb dX4_centre_2 rfl (lv_at hl 2 rfl) ?_
  refine mw_callV (C := RX4) (As := [.int x]) (rest := [.ref o]) hx hb hml hown hl (kX4_isBox l htr G s.heap.size M o A th z S (⟨np, bg, g, hT, hB⟩ : md_R G o A M th z S) x) (g_B (n := 1) htb wd624 wd3 wd621 (by decide +kernel) ⟨Nat.le_of_ble_eq_true rfl, Nat.le_of_ble_eq_true rfl⟩) (htb _ wd623) (htb _ ws27) hE hP hS hT.1 rfl rfl rfl (Nat.le_of_ble_eq_true rfl) dX4_centre_3 ⟨Nat.le_of_ble_eq_true rfl, Nat.le_of_ble_eq_true rfl⟩ (fun v9 M9 H locs hpo hP hz hS => ?_) (fun x9 E9 cell9 H9 locs9 hE9 => hE9.elim)
  obtain ⟨rfl, rfl⟩ := hpo
  refine W.eq (g2 := F0 m 6 ls [.int (bI (isB S x)), .ref o]) rfl ?_
  refine lv_if_ne (tgt := 13) hx hb dX4_centre_6 (by decide) (fun c_1 => ?_) (fun c_1 => ?_)
  · have kb_2 : isB S x := bI_t c_1
    have h_x := isB_lt kb_2 hle
    have e_x := fIx_of kb_2.1
    rw [e_x] at hl
    refine lv_iload_n hx hb dX4_centre_13 rfl (lv_at hl 1 rfl) ?_
    refine mw_callS (As := [.int st]) (rest := [.ref o]) hx hb hml hown hl (kX4_isStyle l htr G H.size M st) (g_B (n := 1) htb wd671 wd3 wd669 (by decide +kernel) ⟨Nat.le_of_ble_eq_true rfl, Nat.le_of_ble_eq_true rfl⟩) (htb _ wd670) hE hP hS rfl rfl (Nat.le_of_ble_eq_true rfl) dX4_centre_14 ⟨Nat.le_of_ble_eq_true rfl, Nat.le_of_ble_eq_true rfl⟩ (fun v9 M9 H locs hpo hP hz hS => ?_) (fun x9 E9 cell9 H9 locs9 hE9 => hE9.elim)
    obtain ⟨rfl, rfl⟩ := hpo
    refine W.eq (g2 := F0 m 17 ls [.int (bI (isT st)), .ref o]) rfl ?_
    refine lv_if_ne (tgt := 24) hx hb dX4_centre_17 (by decide) (fun c_3 => ?_) (fun c_3 => ?_)
    · have kb_4 : isT st := bI_t c_3
      have h_st := isT_lt kb_4
      have e_st := fIx_of kb_4.1
      rw [e_st] at hl
      refine lv_aload_n hx hb dX4_centre_24 rfl (lv_at hl 0 rfl) ?_
      refine mw_get (D := gD G) (ci := 4) (v := .int (nI (sN S))) (C := RX4) (T := TX4) (N := 21) hx hb htb inX4 hown hK hP hT.1 rfl 4 (by decide) (htb _ wd528) (fun _ h9 => h9) rfl dX4_centre_25 ?_
      refine lv_bipush (v := 120) hx hb dX4_centre_28 (by decide) ?_
      refine lv_icmp_ne (tgt := 37) hx hb dX4_centre_30 (by decide) (fun c_5 => ?_) (fun c_5 => ?_)
      · have kb_6 : rmk S 1 := Decidable.byContradiction (fun z9 => c_5 ((rmk_eq hle).mpr z9))
        refine lv_iconst (v := 0) hx hb dX4_centre_37 (by decide) ?_
        refine mw_put (D := gD G) (ci := 4) (v := .int 0) (ty := .int) (C := RX4) (T := TX4) (N := 21) hx hb htb inX4 tyX4 tyX4_ok nmX4 hown hK hP hS hT.1 hT.2.2.2.1 rfl 0 (by decide) (htb _ wd524) (fun _ h9 => h9) rfl (by decide +kernel) rfl rfl (Nat.le_of_ble_eq_true rfl) dX4_centre_38 (fun H locs hP hS => ?_)
        obtain ⟨M_7, hM_7⟩ : ∃ z9 : mw_M, z9 = mw_up M o (.inr (4, [.int 0, .ref (A 0), .int (sSp S), .int (sSh S), .int (nI (sN S)), .ref (A 1), .ref (A 2), .ref (A 3), .ref (A 4), .ref (A 5), .ref (A 6), .ref (A 7), .int (nI np), .ref (A 8), .ref (A 9), .ref (A 10), .ref (A 11), .ref (A 12), .ref (A 13), .ref (A 14), .int z])) := ⟨_, rfl⟩
        have hP : mw_P (gD G) gx_cl M_7 H := by rw [hM_7]; exact hP
        have hT : md_at G o A M_7 0 (sSp S) (sSh S) (nI (sN S)) (nI np) z g := md_at.fld hT hM_7
        have hk : md_keeps o A M M_7 := md_keeps.fld hk hM_7
        refine lv_aload_n hx hb dX4_centre_41 rfl (lv_at hl 0 rfl) ?_
        refine mw_get (D := gD G) (ci := 4) (v := .int 0) (C := RX4) (T := TX4) (N := 21) hx hb htb inX4 hown hK hP hT.1 rfl 0 (by decide) (htb _ wd524) (fun _ h9 => h9) rfl dX4_centre_42 ?_
        refine lv_if_le (tgt := 50) hx hb dX4_centre_45 (by decide) (fun c_8 => ?_) (fun c_8 => absurd (by decide) c_8)
        refine lv_aload_n hx hb dX4_centre_50 rfl (lv_at hl 0 rfl) ?_
        refine lv_iload_n hx hb dX4_centre_51 rfl (lv_at hl 1 rfl) ?_
        refine mw_callV (C := RX4) (As := [.int (nI (fIx st))]) (rest := []) hx hb hml hown hl (kX4_use l htr G H.size M_7 o A 0 z S (⟨np, bg, g, hT, hB⟩ : md_R G o A M_7 0 z S) (fIx st) h_st) (g_B (n := 1) htb wd675 wd3 wd672 (by decide +kernel) ⟨Nat.le_of_ble_eq_true rfl, Nat.le_of_ble_eq_true rfl⟩) (htb _ wd674) (htb _ ws35) hE hP hS hT.1 rfl rfl rfl (Nat.le_of_ble_eq_true rfl) dX4_centre_52 ⟨Nat.le_of_ble_eq_true rfl, Nat.le_of_ble_eq_true rfl⟩ (fun v9 M9 H locs hpo hP hz hS => ?_) (fun x9 E9 cell9 H9 locs9 hE9 => hE9.elim)
        obtain ⟨rfl, hRn, hkn⟩ := hpo
        obtain ⟨M_9, hM_9⟩ : ∃ z9 : mw_M, z9 = M9 := ⟨_, rfl⟩
        rw [← hM_9] at hP hRn hkn
        have hk := md_keeps.tr hk hkn
        obtain ⟨np10, bg10, g10, hT, hB⟩ := id hRn
        refine W.eq (g2 := F0 m 55 ls []) rfl ?_
        refine lv_aload_n hx hb dX4_centre_55 rfl (lv_at hl 0 rfl) ?_
        refine lv_aload_n hx hb dX4_centre_56 rfl (lv_at hl 0 rfl) ?_
        refine mw_get (D := gD G) (ci := 4) (v := .ref (A 1)) (C := RX4) (T := TX4) (N := 21) hx hb htb inX4 hown hK hP hT.1 rfl 5 (by decide) (htb _ wd529) (fun _ h9 => h9) rfl dX4_centre_57 ?_
        refine lv_iload_n hx hb dX4_centre_60 rfl (lv_at hl 2 rfl) ?_
        refine mw_iald hx hb hK hP 0 (show M_9 (A 1) = some (.inl (gI G, 120, .inl (g10 1))) from hT.2.1 1 (by decide)) rfl (by exact vp_in_nI (show (fIx x) < 120 by have := hle; omega) (by decide)) dX4_centre_61 ?_
        refine W.eq (g2 := F0 m 62 ls [.int (bW S (fIx x)), .ref o]) (by rw [nI_clamp (show (fIx x) < 2 ^ 31 by have := hle; omega), hB.W h_x]) ?_
        refine lv_iconst (v := 0) hx hb dX4_centre_62 (by decide) ?_
        refine lv_iconst (v := 0) hx hb dX4_centre_63 (by decide) ?_
        refine mw_callV (C := RX4) (As := [.int (bW S (fIx x)), .int 0, .int 0]) (rest := []) hx hb hml hown hl (kX4_make l htr G H.size M_9 o A 0 (nI (fSz (fIx st))) S (⟨np10, bg10, g10, hT, hB⟩ : md_R G o A M_9 0 (nI (fSz (fIx st))) S) (rmk_lt kb_6 hle) (bW S (fIx x)) 0 0) (g_B (n := 3) htb wd613 wd3 wd610 (by decide +kernel) ⟨Nat.le_of_ble_eq_true rfl, Nat.le_of_ble_eq_true rfl⟩) (htb _ wd612) (htb _ ws26) hE hP hS hT.1 rfl rfl rfl (Nat.le_of_ble_eq_true rfl) dX4_centre_64 ⟨Nat.le_of_ble_eq_true rfl, Nat.le_of_ble_eq_true rfl⟩ (fun v9 M9 H locs hpo hP hz hS => ?_) (fun x9 E9 cell9 H9 locs9 hE9 => hE9.elim)
        have hle0 := hle
        obtain ⟨rfl, hRn, hkn⟩ := hpo
        obtain ⟨M_11, hM_11⟩ : ∃ z9 : mw_M, z9 = M9 := ⟨_, rfl⟩
        rw [← hM_11] at hP hRn hkn
        have hk := md_keeps.tr hk hkn
        have hRn : md_R G o A M_11 0 (nI (fSz (fIx st))) (fs_push S ((bW S (fIx x)), 0, 0, [], 0, 0)) := hRn
        obtain ⟨np12, bg12, g12, hT, hB⟩ := id hRn
        rw [sN_push] at hT
        have hT : md_at G o A M_11 0 (sSp S) (sSh S) (nI (sN S + 1)) (nI np12) (nI (fSz (fIx st))) g12 := hT
        have hle : sN S + 1 ≤ 120 := by have := hB.1; rw [sN_push] at this; exact this
        refine W.eq (g2 := F0 m 67 ls [.int (nI (sN S))]) rfl ?_
        refine lv_istore_n (lv' := [(3, .int (nI (sN S))), (0, .ref o), (1, .int (nI (fIx st))), (2, .int (nI (fIx x)))]) hx hb dX4_centre_67 rfl hl (by decide) rfl (fun ls hl => ?_)
        refine lv_aload_n hx hb dX4_centre_68 rfl (lv_at hl 1 rfl) ?_
        refine lv_iload_n hx hb dX4_centre_69 rfl (lv_at hl 3 rfl) ?_
        refine lv_iconst (v := 0) hx hb dX4_centre_70 (by decide) ?_
        refine lv_aload_n hx hb dX4_centre_71 rfl (lv_at hl 1 rfl) ?_
        refine lv_iconst (v := 0) hx hb dX4_centre_72 (by decide) ?_
        refine mw_callV (C := RX4) (As := [.int 0]) (rest := [.int 0, .int (nI (fIx x)), .ref o]) hx hb hml hown hl (kX4_p l htr G H.size M_11 o A 0 (fs_push S ((bW S (fIx x)), 0, 0, [], 0, 0)) (fIx st) 0 h_st (by decide) (md_R.of (np := np12) hT hB : md_R G o A M_11 0 (nI (fSz (fIx st))) (fs_push S ((bW S (fIx x)), 0, 0, [], 0, 0)))) (g_B (n := 1) htb wd679 wd3 wd676 (by decide +kernel) ⟨Nat.le_of_ble_eq_true rfl, Nat.le_of_ble_eq_true rfl⟩) (htb _ wd678) (htb _ ws36) hE hP hS hT.1 rfl rfl rfl (Nat.le_of_ble_eq_true rfl) dX4_centre_73 ⟨Nat.le_of_ble_eq_true rfl, Nat.le_of_ble_eq_true rfl⟩ (fun v9 M9 H locs hpo hP hz hS => ?_) (fun x9 E9 cell9 H9 locs9 hE9 => hE9.elim)
        obtain ⟨rfl, rfl⟩ := hpo
        refine W.eq (g2 := F0 m 76 ls [.int (pV S (fIx st) 0), .int 0, .int (nI (fIx x)), .ref o]) rfl ?_
        refine lv_aload_n hx hb dX4_centre_76 rfl (lv_at hl 1 rfl) ?_
        refine mw_get (D := gD G) (ci := 4) (v := .ref (A 2)) (C := RX4) (T := TX4) (N := 21) hx hb htb inX4 hown hK hP hT.1 rfl 6 (by decide) (htb _ wd530) (fun _ h9 => h9) rfl dX4_centre_77 ?_
        refine lv_iload_n hx hb dX4_centre_80 rfl (lv_at hl 3 rfl) ?_
        refine mw_iald hx hb hK hP 0 (show M_11 (A 2) = some (.inl (gI G, 120, .inl (g12 2))) from hT.2.1 2 (by decide)) rfl (by exact vp_in_nI (show (fIx x) < 120 by have := hle; omega) (by decide)) dX4_centre_81 ?_
        refine W.eq (g2 := F0 m 82 ls [.int (bH S (fIx x)), .int (pV S (fIx st) 0), .int 0, .int (nI (fIx x)), .ref o]) (by rw [nI_clamp (show (fIx x) < 2 ^ 31 by have := hle; omega), hB.H (show (fIx x) < sN (fs_push S ((bW S (fIx x)), 0, 0, [], 0, 0)) by rw [sN_push]; omega), bH_push _ h_x]) ?_
        refine lv_aload_n hx hb dX4_centre_82 rfl (lv_at hl 1 rfl) ?_
        refine mw_get (D := gD G) (ci := 4) (v := .ref (A 3)) (C := RX4) (T := TX4) (N := 21) hx hb htb inX4 hown hK hP hT.1 rfl 7 (by decide) (htb _ wd531) (fun _ h9 => h9) rfl dX4_centre_83 ?_
        refine lv_iload_n hx hb dX4_centre_86 rfl (lv_at hl 3 rfl) ?_
        refine mw_iald hx hb hK hP 0 (show M_11 (A 3) = some (.inl (gI G, 120, .inl (g12 3))) from hT.2.1 3 (by decide)) rfl (by exact vp_in_nI (show (fIx x) < 120 by have := hle; omega) (by decide)) dX4_centre_87 ?_
        refine W.eq (g2 := F0 m 88 ls [.int (bD S (fIx x)), .int (bH S (fIx x)), .int (pV S (fIx st) 0), .int 0, .int (nI (fIx x)), .ref o]) (by rw [nI_clamp (show (fIx x) < 2 ^ 31 by have := hle; omega), hB.D (show (fIx x) < sN (fs_push S ((bW S (fIx x)), 0, 0, [], 0, 0)) by rw [sN_push]; omega), bD_push _ h_x]) ?_
        refine lv_isub hx hb dX4_centre_88 ?_
        refine mw_callS (As := [.int ((bH S (fIx x)) - (bD S (fIx x)))]) (rest := [.int (pV S (fIx st) 0), .int 0, .int (nI (fIx x)), .ref o]) hx hb hml hown hl (kX4_half l htr G H.size M_11 ((bH S (fIx x)) - (bD S (fIx x)))) (g_B (n := 1) htb wd682 wd3 wd680 (by decide +kernel) ⟨Nat.le_of_ble_eq_true rfl, Nat.le_of_ble_eq_true rfl⟩) (htb _ wd681) hE hP hS rfl rfl (Nat.le_of_ble_eq_true rfl) dX4_centre_89 ⟨Nat.le_of_ble_eq_true rfl, Nat.le_of_ble_eq_true rfl⟩ (fun v9 M9 H locs hpo hP hz hS => ?_) (fun x9 E9 cell9 H9 locs9 hE9 => hE9.elim)
        obtain ⟨rfl, rfl⟩ := hpo
        refine W.eq (g2 := F0 m 92 ls [.int (fHf ((bH S (fIx x)) - (bD S (fIx x)))), .int (pV S (fIx st) 0), .int 0, .int (nI (fIx x)), .ref o]) rfl ?_
        refine lv_isub hx hb dX4_centre_92 ?_
        refine mw_callV (C := RX4) (As := [.int (nI (fIx x)), .int 0, .int ((pV S (fIx st) 0) - (fHf ((bH S (fIx x)) - (bD S (fIx x)))))]) (rest := []) hx hb hml hown hl (kX4_lay l htr G H.size M_11 o A 0 (nI (fSz (fIx st))) S (bW S (fIx x)) 0 0 ([]) 0 0 (md_R.of (np := np12) hT hB : md_R G o A M_11 0 (nI (fSz (fIx st))) (fs_push S ((bW S (fIx x)), 0, 0, [], 0, 0))) (by simp) (nI (fIx x)) 0 ((pV S (fIx st) 0) - (fHf ((bH S (fIx x)) - (bD S (fIx x)))))) (g_B (n := 3) htb wd661 wd3 wd658 (by decide +kernel) ⟨Nat.le_of_ble_eq_true rfl, Nat.le_of_ble_eq_true rfl⟩) (htb _ wd660) (htb _ ws34) hE hP hS hT.1 rfl rfl rfl (Nat.le_of_ble_eq_true rfl) dX4_centre_93 ⟨Nat.le_of_ble_eq_true rfl, Nat.le_of_ble_eq_true rfl⟩ (fun v9 M9 H locs hpo hP hz hS => ?_) (fun x9 E9 cell9 H9 locs9 hE9 => hE9.elim)
        obtain ⟨rfl, hRn, hkn⟩ := hpo
        obtain ⟨M_13, hM_13⟩ : ∃ z9 : mw_M, z9 = M9 := ⟨_, rfl⟩
        rw [← hM_13] at hP hRn hkn
        have hk := md_keeps.tr hk hkn
        have hRn : md_R G o A M_13 0 (nI (fSz (fIx st))) (fs_push S ((bW S (fIx x)), 0, 0, [(nI (fIx x)), 0, ((pV S (fIx st) 0) - (fHf ((bH S (fIx x)) - (bD S (fIx x)))))], 0, 0)) := hRn
        obtain ⟨np14, bg14, g14, hT, hB⟩ := id hRn
        rw [sN_push] at hT
        have hT : md_at G o A M_13 0 (sSp S) (sSh S) (nI (sN S + 1)) (nI np14) (nI (fSz (fIx st))) g14 := hT
        refine W.eq (g2 := F0 m 96 ls []) rfl ?_
        refine lv_aload_n hx hb dX4_centre_96 rfl (lv_at hl 1 rfl) ?_
        refine mw_callV (C := RX4) (As := []) (rest := []) hx hb hml hown hl (kX4_reach l htr G H.size M_13 o A 0 (nI (fSz (fIx st))) S (bW S (fIx x)) [(nI (fIx x)), 0, ((pV S (fIx st) 0) - (fHf ((bH S (fIx x)) - (bD S (fIx x)))))] (md_R.of (np := np14) hT hB : md_R G o A M_13 0 (nI (fSz (fIx st))) (fs_push S ((bW S (fIx x)), 0, 0, [(nI (fIx x)), 0, ((pV S (fIx st) 0) - (fHf ((bH S (fIx x)) - (bD S (fIx x)))))], 0, 0))) (fun j hj => by
            rcases (show j = 0 by simp at hj; omega) with rfl
            · exact ⟨(fIx x), h_x, rfl⟩)) (g_B (n := 0) htb wd705 wd3 wd702 (by decide +kernel) ⟨Nat.le_of_ble_eq_true rfl, Nat.le_of_ble_eq_true rfl⟩) (htb _ wd704) (htb _ ws37) hE hP hS hT.1 rfl rfl rfl (Nat.le_of_ble_eq_true rfl) dX4_centre_97 ⟨Nat.le_of_ble_eq_true rfl, Nat.le_of_ble_eq_true rfl⟩ (fun v9 M9 H locs hpo hP hz hS => ?_) (fun x9 E9 cell9 H9 locs9 hE9 => hE9.elim)
        obtain ⟨rfl, hRn, hkn⟩ := hpo
        obtain ⟨M_15, hM_15⟩ : ∃ z9 : mw_M, z9 = M9 := ⟨_, rfl⟩
        rw [← hM_15] at hP hRn hkn
        have hk := md_keeps.tr hk hkn
        refine W.eq (g2 := F0 m 100 ls []) rfl ?_
        refine lv_iload_n hx hb dX4_centre_100 rfl (lv_at hl 0 rfl) ?_
        have hex : ex_centre S st x = 0 := by rw [ex_centre, if_neg (fun z9 => z9 kb_2), if_neg (fun z9 => z9 kb_4), if_neg (fun z9 => z9 kb_6)]
        have hre : re_centre S st x = (fs_en S (bW S (fIx x)) [(nI (fIx x)), 0, ((pV S (fIx st) 0) - (fHf ((bH S (fIx x)) - (bD S (fIx x)))))]) := rfl
        exact mx_iret (v := (nI (sN S))) (M' := M_15) hx hb hr hlocks hP hS ⟨by rw [hex]; rfl, ⟨_, by rw [hex, if_pos rfl, hre]; exact hRn⟩, hk⟩ dX4_centre_101 (Nat.le_of_ble_eq_true rfl) (Nat.le_of_ble_eq_true rfl)
      · have kb_16 : ¬ rmk S 1 := (rmk_eq hle).mp c_5
        refine lv_iconst (v := 3) hx hb dX4_centre_33 (by decide) ?_
        refine lv_goto (tgt := 38) hx hb dX4_centre_34 (by decide) ?_
        refine mw_put (D := gD G) (ci := 4) (v := .int 3) (ty := .int) (C := RX4) (T := TX4) (N := 21) hx hb htb inX4 tyX4 tyX4_ok nmX4 hown hK hP hS hT.1 hT.2.2.2.1 rfl 0 (by decide) (htb _ wd524) (fun _ h9 => h9) rfl (by decide +kernel) rfl rfl (Nat.le_of_ble_eq_true rfl) dX4_centre_38 (fun H locs hP hS => ?_)
        obtain ⟨M_17, hM_17⟩ : ∃ z9 : mw_M, z9 = mw_up M o (.inr (4, [.int 3, .ref (A 0), .int (sSp S), .int (sSh S), .int (nI (sN S)), .ref (A 1), .ref (A 2), .ref (A 3), .ref (A 4), .ref (A 5), .ref (A 6), .ref (A 7), .int (nI np), .ref (A 8), .ref (A 9), .ref (A 10), .ref (A 11), .ref (A 12), .ref (A 13), .ref (A 14), .int z])) := ⟨_, rfl⟩
        have hP : mw_P (gD G) gx_cl M_17 H := by rw [hM_17]; exact hP
        have hT : md_at G o A M_17 3 (sSp S) (sSh S) (nI (sN S)) (nI np) z g := md_at.fld hT hM_17
        have hk : md_keeps o A M M_17 := md_keeps.fld hk hM_17
        refine lv_aload_n hx hb dX4_centre_41 rfl (lv_at hl 0 rfl) ?_
        refine mw_get (D := gD G) (ci := 4) (v := .int 3) (C := RX4) (T := TX4) (N := 21) hx hb htb inX4 hown hK hP hT.1 rfl 0 (by decide) (htb _ wd524) (fun _ h9 => h9) rfl dX4_centre_42 ?_
        refine lv_if_le (tgt := 50) hx hb dX4_centre_45 (by decide) (fun c_18 => absurd c_18 (by decide)) (fun c_18 => ?_)
        refine lv_iconst (v := 0) hx hb dX4_centre_48 (by decide) ?_
        have hex : ex_centre S st x = 3 := by rw [ex_centre, if_neg (fun z9 => z9 kb_2), if_neg (fun z9 => z9 kb_4), if_pos (fun z9 => kb_16 z9)]
        exact mx_iret (v := 0) (M' := M_17) hx hb hr hlocks hP hS ⟨by rw [hex]; rfl, ⟨_, by rw [hex]; exact (⟨np, bg, g, hT, hB⟩ : md_R G o A M_17 3 z S)⟩, hk⟩ dX4_centre_49 (Nat.le_of_ble_eq_true rfl) (Nat.le_of_ble_eq_true rfl)
    · have kb_19 : ¬ (isT st) := bI_f c_3
      refine lv_iconst (v := 2) hx hb dX4_centre_20 (by decide) ?_
      refine lv_goto (tgt := 38) hx hb dX4_centre_21 (by decide) ?_
      refine mw_put (D := gD G) (ci := 4) (v := .int 2) (ty := .int) (C := RX4) (T := TX4) (N := 21) hx hb htb inX4 tyX4 tyX4_ok nmX4 hown hK hP hS hT.1 hT.2.2.2.1 rfl 0 (by decide) (htb _ wd524) (fun _ h9 => h9) rfl (by decide +kernel) rfl rfl (Nat.le_of_ble_eq_true rfl) dX4_centre_38 (fun H locs hP hS => ?_)
      obtain ⟨M_20, hM_20⟩ : ∃ z9 : mw_M, z9 = mw_up M o (.inr (4, [.int 2, .ref (A 0), .int (sSp S), .int (sSh S), .int (nI (sN S)), .ref (A 1), .ref (A 2), .ref (A 3), .ref (A 4), .ref (A 5), .ref (A 6), .ref (A 7), .int (nI np), .ref (A 8), .ref (A 9), .ref (A 10), .ref (A 11), .ref (A 12), .ref (A 13), .ref (A 14), .int z])) := ⟨_, rfl⟩
      have hP : mw_P (gD G) gx_cl M_20 H := by rw [hM_20]; exact hP
      have hT : md_at G o A M_20 2 (sSp S) (sSh S) (nI (sN S)) (nI np) z g := md_at.fld hT hM_20
      have hk : md_keeps o A M M_20 := md_keeps.fld hk hM_20
      refine lv_aload_n hx hb dX4_centre_41 rfl (lv_at hl 0 rfl) ?_
      refine mw_get (D := gD G) (ci := 4) (v := .int 2) (C := RX4) (T := TX4) (N := 21) hx hb htb inX4 hown hK hP hT.1 rfl 0 (by decide) (htb _ wd524) (fun _ h9 => h9) rfl dX4_centre_42 ?_
      refine lv_if_le (tgt := 50) hx hb dX4_centre_45 (by decide) (fun c_21 => absurd c_21 (by decide)) (fun c_21 => ?_)
      refine lv_iconst (v := 0) hx hb dX4_centre_48 (by decide) ?_
      have hex : ex_centre S st x = 2 := by rw [ex_centre, if_neg (fun z9 => z9 kb_2), if_pos (fun z9 => kb_19 z9)]
      exact mx_iret (v := 0) (M' := M_20) hx hb hr hlocks hP hS ⟨by rw [hex]; rfl, ⟨_, by rw [hex]; exact (⟨np, bg, g, hT, hB⟩ : md_R G o A M_20 2 z S)⟩, hk⟩ dX4_centre_49 (Nat.le_of_ble_eq_true rfl) (Nat.le_of_ble_eq_true rfl)
  · have kb_22 : ¬ (isB S x) := bI_f c_1
    refine lv_iconst (v := 1) hx hb dX4_centre_9 (by decide) ?_
    refine lv_goto (tgt := 38) hx hb dX4_centre_10 (by decide) ?_
    refine mw_put (D := gD G) (ci := 4) (v := .int 1) (ty := .int) (C := RX4) (T := TX4) (N := 21) hx hb htb inX4 tyX4 tyX4_ok nmX4 hown hK hP hS hT.1 hT.2.2.2.1 rfl 0 (by decide) (htb _ wd524) (fun _ h9 => h9) rfl (by decide +kernel) rfl rfl (Nat.le_of_ble_eq_true rfl) dX4_centre_38 (fun H locs hP hS => ?_)
    obtain ⟨M_23, hM_23⟩ : ∃ z9 : mw_M, z9 = mw_up M o (.inr (4, [.int 1, .ref (A 0), .int (sSp S), .int (sSh S), .int (nI (sN S)), .ref (A 1), .ref (A 2), .ref (A 3), .ref (A 4), .ref (A 5), .ref (A 6), .ref (A 7), .int (nI np), .ref (A 8), .ref (A 9), .ref (A 10), .ref (A 11), .ref (A 12), .ref (A 13), .ref (A 14), .int z])) := ⟨_, rfl⟩
    have hP : mw_P (gD G) gx_cl M_23 H := by rw [hM_23]; exact hP
    have hT : md_at G o A M_23 1 (sSp S) (sSh S) (nI (sN S)) (nI np) z g := md_at.fld hT hM_23
    have hk : md_keeps o A M M_23 := md_keeps.fld hk hM_23
    refine lv_aload_n hx hb dX4_centre_41 rfl (lv_at hl 0 rfl) ?_
    refine mw_get (D := gD G) (ci := 4) (v := .int 1) (C := RX4) (T := TX4) (N := 21) hx hb htb inX4 hown hK hP hT.1 rfl 0 (by decide) (htb _ wd524) (fun _ h9 => h9) rfl dX4_centre_42 ?_
    refine lv_if_le (tgt := 50) hx hb dX4_centre_45 (by decide) (fun c_24 => absurd c_24 (by decide)) (fun c_24 => ?_)
    refine lv_iconst (v := 0) hx hb dX4_centre_48 (by decide) ?_
    have hex : ex_centre S st x = 1 := by rw [ex_centre, if_pos (fun z9 => kb_22 z9)]
    exact mx_iret (v := 0) (M' := M_23) hx hb hr hlocks hP hS ⟨by rw [hex]; rfl, ⟨_, by rw [hex]; exact (⟨np, bg, g, hT, hB⟩ : md_R G o A M_23 1 z S)⟩, hk⟩ dX4_centre_49 (Nat.le_of_ble_eq_true rfl) (Nat.le_of_ble_eq_true rfl)
