/-! printed by wip/whole/spec*.py -/
-- X4_told
set_option maxHeartbeats 4000000 in
set_option maxRecDepth 100000 in
theorem kX4_told (l : Launch) (htr : l.stackTraces = false) (G : gx_G) (sz : Nat) (M : mw_M) (o : Nat) (A : Nat → Nat) (th z : Int32) (S : fs_S) (hR : md_R G o A M th z S) (hok : fs_ok S) (b x : Int32) : g_Met l G yX4_told (.code yX4_told cX4_told 3 (some .int)) ({ frames := 5, cells := 0, slots := 0, locals := 200 } : Room) sz M [.ref o, .int b, .int x] (md_Mk G o A M S (ex_told S b x) (S) (some (.int (if ex_told S b x = 0 then re_told S b x else 0)))) (fun _ => False) := by
  refine MetE.ofW (cc := cX4_told) (maxL := 3) (ret := (some .int)) (by decide) rfl ?_
  intro p e s m args below meth c s₁ B hml hv
  obtain ⟨rfl, hsz, hP, hE⟩ := hv
  have hx := B.exec
  have hb := B.bytes
  have hr := B.returns
  have hts := atoms_spec (ws := _ :: lw_big) B.pre
  have htb : ∀ w ∈ lw_big, w.before _ s = true := fun w h => hts w (List.mem_cons_of_mem _ h)
  have hno := B.noHandlers (hts _ List.mem_cons_self)
  have hown : s.vm.findClass RX4 = some m.cls := findClass_of_methodNamed B.named
  have hlocks := B.notSynchronized
  have hK := hE.1
  subst hsz
  have hS : va_S (gA G) s.heap s.heap [] := va_S.rf
  have hl := lv_entry ([.ref o, .int b, .int x]) (n := 3) (Nat.le_of_ble_eq_true rfl)
  rw [lg_entry_eq]
  generalize (lg_sl ([.ref o, .int b, .int x]) ++ List.replicate (3 - (lg_sl ([.ref o, .int b, .int x])).length) Slot.unset).toArray = ls at hl ⊢
  have hl : lv_has ls 3 [(0, .ref o), (1, .int b), (2, .int x)] := hl
  obtain ⟨np, bg, g, hT, hB⟩ := id hR
  have hk : md_keeps o A M M := md_keeps.rf o A M
  have hle : sN S ≤ 120 := hB.1
  refine lv_aload_n hx hb dX4_told_0 rfl (lv_at hl 0 rfl) ?_
  refine lv_aload_n hx hb dX4_told_1 rfl (lv_at hl 0 rfl) ?_
  refine lv_iload_n hx hb dX4_told_2 rfl (lv_at hl 1 rfl) ?_
  refine mw_callV (C := RX4) (As := [.int b]) (rest := [.ref o]) hx hb hml hown hl (kX4_isBox l htr G s.heap.size M o A th z S (⟨np, bg, g, hT, hB⟩ : md_R G o A M th z S) b) (g_B (n := 1) htb wd624 wd3 wd621 (by decide +kernel) ⟨Nat.le_of_ble_eq_true rfl, Nat.le_of_ble_eq_true rfl⟩) (htb _ wd623) (htb _ ws27) hE hP hS hT.1 rfl rfl rfl (Nat.le_of_ble_eq_true rfl) dX4_told_3 ⟨Nat.le_of_ble_eq_true rfl, Nat.le_of_ble_eq_true rfl⟩ (fun v9 M9 H locs hpo hP hz hS => ?_) (fun x9 E9 cell9 H9 locs9 hE9 => hE9.elim)
  obtain ⟨rfl, rfl⟩ := hpo
  refine W.eq (g2 := F0 m 6 ls [.int (bI (isB S b)), .ref o]) rfl ?_
  refine lv_if_eq (tgt := 22) hx hb dX4_told_6 (by decide) (fun c_1 => ?_) (fun c_1 => ?_)
  · have kb_2 : ¬ (isB S b) := bI_f c_1
    refine lv_iconst (v := 1) hx hb dX4_told_22 (by decide) ?_
    refine mw_put (D := gD G) (ci := 4) (v := .int 1) (ty := .int) (C := RX4) (T := TX4) (N := 21) hx hb htb inX4 tyX4 tyX4_ok nmX4 hown hK hP hS hT.1 hT.2.2.2.1 rfl 0 (by decide) (htb _ wd524) (fun _ h9 => h9) rfl (by decide +kernel) rfl rfl (Nat.le_of_ble_eq_true rfl) dX4_told_23 (fun H locs hP hS => ?_)
    obtain ⟨M_3, hM_3⟩ : ∃ z9 : mw_M, z9 = mw_up M o (.inr (4, [.int 1, .ref (A 0), .int (sSp S), .int (sSh S), .int (nI (sN S)), .ref (A 1), .ref (A 2), .ref (A 3), .ref (A 4), .ref (A 5), .ref (A 6), .ref (A 7), .int (nI np), .ref (A 8), .ref (A 9), .ref (A 10), .ref (A 11), .ref (A 12), .ref (A 13), .ref (A 14), .int z])) := ⟨_, rfl⟩
    have hP : mw_P (gD G) gx_cl M_3 H := by rw [hM_3]; exact hP
    have hT : md_at G o A M_3 1 (sSp S) (sSh S) (nI (sN S)) (nI np) z g := md_at.fld hT hM_3
    have hk : md_keeps o A M M_3 := md_keeps.fld hk hM_3
    refine lv_aload_n hx hb dX4_told_26 rfl (lv_at hl 0 rfl) ?_
    refine mw_get (D := gD G) (ci := 4) (v := .int 1) (C := RX4) (T := TX4) (N := 21) hx hb htb inX4 hown hK hP hT.1 rfl 0 (by decide) (htb _ wd524) (fun _ h9 => h9) rfl dX4_told_27 ?_
    refine lv_if_le (tgt := 35) hx hb dX4_told_30 (by decide) (fun c_4 => absurd c_4 (by decide)) (fun c_4 => ?_)
    refine lv_iconst (v := 0) hx hb dX4_told_33 (by decide) ?_
    have hex : ex_told S b x = 1 := by rw [ex_told, if_pos (fun z9 => kb_2 z9.1)]
    exact mx_iret (v := 0) (M' := M_3) hx hb hr hlocks hP hS ⟨by rw [hex]; rfl, ⟨_, by rw [hex]; exact (⟨np, bg, g, hT, hB⟩ : md_R G o A M_3 1 z S)⟩, hk⟩ dX4_told_34 (Nat.le_of_ble_eq_true rfl) (Nat.le_of_ble_eq_true rfl)
  · have kb_5 : isB S b := bI_t c_1
    have h_b := isB_lt kb_5 hle
    have e_b := fIx_of kb_5.1
    rw [e_b] at hl
    refine lv_iload_n hx hb dX4_told_9 rfl (lv_at hl 2 rfl) ?_
    refine lv_iconst (v := 0) hx hb dX4_told_10 (by decide) ?_
    refine lv_iconst (v := 3) hx hb dX4_told_11 (by decide) ?_
    refine mw_callS (As := [.int x, .int 0, .int 3]) (rest := [.ref o]) hx hb hml hown hl (kX4_in l htr G H.size M x 0 3) (g_B (n := 3) htb wd599 wd3 wd597 (by decide +kernel) ⟨Nat.le_of_ble_eq_true rfl, Nat.le_of_ble_eq_true rfl⟩) (htb _ wd598) hE hP hS rfl rfl (Nat.le_of_ble_eq_true rfl) dX4_told_12 ⟨Nat.le_of_ble_eq_true rfl, Nat.le_of_ble_eq_true rfl⟩ (fun v9 M9 H locs hpo hP hz hS => ?_) (fun x9 E9 cell9 H9 locs9 hE9 => hE9.elim)
    obtain ⟨rfl, rfl⟩ := hpo
    refine W.eq (g2 := F0 m 15 ls [.int (bI (wi x 0 3)), .ref o]) rfl ?_
    refine lv_if_eq (tgt := 22) hx hb dX4_told_15 (by decide) (fun c_6 => ?_) (fun c_6 => ?_)
    · have kb_7 : ¬ (wi x 0 3) := bI_f c_6
      have kb_8 : ¬ (x = 0 ∨ x = 1 ∨ x = 2 ∨ x = 3) := fun z9 => kb_7 ((wi03 x).mpr z9)
      refine lv_iconst (v := 1) hx hb dX4_told_22 (by decide) ?_
      refine mw_put (D := gD G) (ci := 4) (v := .int 1) (ty := .int) (C := RX4) (T := TX4) (N := 21) hx hb htb inX4 tyX4 tyX4_ok nmX4 hown hK hP hS hT.1 hT.2.2.2.1 rfl 0 (by decide) (htb _ wd524) (fun _ h9 => h9) rfl (by decide +kernel) rfl rfl (Nat.le_of_ble_eq_true rfl) dX4_told_23 (fun H locs hP hS => ?_)
      obtain ⟨M_9, hM_9⟩ : ∃ z9 : mw_M, z9 = mw_up M o (.inr (4, [.int 1, .ref (A 0), .int (sSp S), .int (sSh S), .int (nI (sN S)), .ref (A 1), .ref (A 2), .ref (A 3), .ref (A 4), .ref (A 5), .ref (A 6), .ref (A 7), .int (nI np), .ref (A 8), .ref (A 9), .ref (A 10), .ref (A 11), .ref (A 12), .ref (A 13), .ref (A 14), .int z])) := ⟨_, rfl⟩
      have hP : mw_P (gD G) gx_cl M_9 H := by rw [hM_9]; exact hP
      have hT : md_at G o A M_9 1 (sSp S) (sSh S) (nI (sN S)) (nI np) z g := md_at.fld hT hM_9
      have hk : md_keeps o A M M_9 := md_keeps.fld hk hM_9
      refine lv_aload_n hx hb dX4_told_26 rfl (lv_at hl 0 rfl) ?_
      refine mw_get (D := gD G) (ci := 4) (v := .int 1) (C := RX4) (T := TX4) (N := 21) hx hb htb inX4 hown hK hP hT.1 rfl 0 (by decide) (htb _ wd524) (fun _ h9 => h9) rfl dX4_told_27 ?_
      refine lv_if_le (tgt := 35) hx hb dX4_told_30 (by decide) (fun c_10 => absurd c_10 (by decide)) (fun c_10 => ?_)
      refine lv_iconst (v := 0) hx hb dX4_told_33 (by decide) ?_
      have hex : ex_told S b x = 1 := by rw [ex_told, if_pos (fun z9 => kb_8 z9.2)]
      exact mx_iret (v := 0) (M' := M_9) hx hb hr hlocks hP hS ⟨by rw [hex]; rfl, ⟨_, by rw [hex]; exact (⟨np, bg, g, hT, hB⟩ : md_R G o A M_9 1 z S)⟩, hk⟩ dX4_told_34 (Nat.le_of_ble_eq_true rfl) (Nat.le_of_ble_eq_true rfl)
    · have kb_11 : wi x 0 3 := bI_t c_6
      have kb_12 : (x = 0 ∨ x = 1 ∨ x = 2 ∨ x = 3) := (wi03 x).mp kb_11
      refine lv_iconst (v := 0) hx hb dX4_told_18 (by decide) ?_
      refine lv_goto (tgt := 23) hx hb dX4_told_19 (by decide) ?_
      refine mw_put (D := gD G) (ci := 4) (v := .int 0) (ty := .int) (C := RX4) (T := TX4) (N := 21) hx hb htb inX4 tyX4 tyX4_ok nmX4 hown hK hP hS hT.1 hT.2.2.2.1 rfl 0 (by decide) (htb _ wd524) (fun _ h9 => h9) rfl (by decide +kernel) rfl rfl (Nat.le_of_ble_eq_true rfl) dX4_told_23 (fun H locs hP hS => ?_)
      obtain ⟨M_13, hM_13⟩ : ∃ z9 : mw_M, z9 = mw_up M o (.inr (4, [.int 0, .ref (A 0), .int (sSp S), .int (sSh S), .int (nI (sN S)), .ref (A 1), .ref (A 2), .ref (A 3), .ref (A 4), .ref (A 5), .ref (A 6), .ref (A 7), .int (nI np), .ref (A 8), .ref (A 9), .ref (A 10), .ref (A 11), .ref (A 12), .ref (A 13), .ref (A 14), .int z])) := ⟨_, rfl⟩
      have hP : mw_P (gD G) gx_cl M_13 H := by rw [hM_13]; exact hP
      have hT : md_at G o A M_13 0 (sSp S) (sSh S) (nI (sN S)) (nI np) z g := md_at.fld hT hM_13
      have hk : md_keeps o A M M_13 := md_keeps.fld hk hM_13
      refine lv_aload_n hx hb dX4_told_26 rfl (lv_at hl 0 rfl) ?_
      refine mw_get (D := gD G) (ci := 4) (v := .int 0) (C := RX4) (T := TX4) (N := 21) hx hb htb inX4 hown hK hP hT.1 rfl 0 (by decide) (htb _ wd524) (fun _ h9 => h9) rfl dX4_told_27 ?_
      refine lv_if_le (tgt := 35) hx hb dX4_told_30 (by decide) (fun c_14 => ?_) (fun c_14 => absurd (by decide) c_14)
      refine lv_iload_n hx hb dX4_told_35 rfl (lv_at hl 2 rfl) ?_
      refine lv_if_ne (tgt := 48) hx hb dX4_told_36 (by decide) (fun c_15 => ?_) (fun c_15 => ?_)
      · refine lv_iload_n hx hb dX4_told_48 rfl (lv_at hl 2 rfl) ?_
        refine lv_iconst (v := 1) hx hb dX4_told_49 (by decide) ?_
        refine lv_icmp_ne (tgt := 62) hx hb dX4_told_50 (by decide) (fun c_16 => ?_) (fun c_16 => ?_)
        · refine lv_iload_n hx hb dX4_told_62 rfl (lv_at hl 2 rfl) ?_
          refine lv_iconst (v := 2) hx hb dX4_told_63 (by decide) ?_
          refine lv_icmp_ne (tgt := 76) hx hb dX4_told_64 (by decide) (fun c_17 => ?_) (fun c_17 => ?_)
          · refine lv_aload_n hx hb dX4_told_76 rfl (lv_at hl 0 rfl) ?_
            refine mw_get (D := gD G) (ci := 4) (v := .ref (A 5)) (C := RX4) (T := TX4) (N := 21) hx hb htb inX4 hown hK hP hT.1 rfl 9 (by decide) (htb _ wd533) (fun _ h9 => h9) rfl dX4_told_77 ?_
            refine lv_iload_n hx hb dX4_told_80 rfl (lv_at hl 1 rfl) ?_
            refine mw_iald hx hb hK hP 0 (show M_13 (A 5) = some (.inl (gI G, 120, .inl (g 5))) from hT.2.1 5 (by decide)) rfl (by exact vp_in_nI (show (fIx b) < 120 by have := hle; omega) (by decide)) dX4_told_81 ?_
            refine W.eq (g2 := F0 m 82 ls [.int (g 5 (fIx b))]) (by rw [nI_clamp (show (fIx b) < 2 ^ 31 by have := hle; omega)]) ?_
            have hex : ex_told S b x = 0 := by rw [ex_told, if_neg (fun z9 => z9 ⟨kb_5, kb_12⟩)]
            have e_m : g 5 (fIx b) = nI (bP S (fIx b)).length / 3 := by rw [(hB.2.2.1 (fIx b) h_b).1.2.2.2.2.1]; exact (pk_div (d := 3) (by have h9 : (sB S (fIx b)).2.2.2.1.length ≤ 369 := (hok.2.1 (fIx b) h_b).2.1; omega) (by decide) (by decide)).symm
            exact mx_iret (v := (g 5 (fIx b))) (M' := M_13) hx hb hr hlocks hP hS ⟨by rw [hex, if_pos rfl, re_told, if_neg c_15, if_neg c_16, if_neg c_17, e_m], ⟨_, by rw [hex, if_pos rfl]; exact (⟨np, bg, g, hT, hB⟩ : md_R G o A M_13 0 z S)⟩, hk⟩ dX4_told_82 (Nat.le_of_ble_eq_true rfl) (Nat.le_of_ble_eq_true rfl)
          · refine lv_aload_n hx hb dX4_told_67 rfl (lv_at hl 0 rfl) ?_
            refine mw_get (D := gD G) (ci := 4) (v := .ref (A 3)) (C := RX4) (T := TX4) (N := 21) hx hb htb inX4 hown hK hP hT.1 rfl 7 (by decide) (htb _ wd531) (fun _ h9 => h9) rfl dX4_told_68 ?_
            refine lv_iload_n hx hb dX4_told_71 rfl (lv_at hl 1 rfl) ?_
            refine mw_iald hx hb hK hP 0 (show M_13 (A 3) = some (.inl (gI G, 120, .inl (g 3))) from hT.2.1 3 (by decide)) rfl (by exact vp_in_nI (show (fIx b) < 120 by have := hle; omega) (by decide)) dX4_told_72 ?_
            refine W.eq (g2 := F0 m 73 ls [.int (bD S (fIx b))]) (by rw [nI_clamp (show (fIx b) < 2 ^ 31 by have := hle; omega), hB.D h_b]) ?_
            refine lv_goto (tgt := 82) hx hb dX4_told_73 (by decide) ?_
            have hex : ex_told S b x = 0 := by rw [ex_told, if_neg (fun z9 => z9 ⟨kb_5, kb_12⟩)]
            exact mx_iret (v := (bD S (fIx b))) (M' := M_13) hx hb hr hlocks hP hS ⟨by rw [hex, if_pos rfl, re_told, if_neg c_15, if_neg c_16, if_pos c_17], ⟨_, by rw [hex, if_pos rfl]; exact (⟨np, bg, g, hT, hB⟩ : md_R G o A M_13 0 z S)⟩, hk⟩ dX4_told_82 (Nat.le_of_ble_eq_true rfl) (Nat.le_of_ble_eq_true rfl)
        · refine lv_aload_n hx hb dX4_told_53 rfl (lv_at hl 0 rfl) ?_
          refine mw_get (D := gD G) (ci := 4) (v := .ref (A 2)) (C := RX4) (T := TX4) (N := 21) hx hb htb inX4 hown hK hP hT.1 rfl 6 (by decide) (htb _ wd530) (fun _ h9 => h9) rfl dX4_told_54 ?_
          refine lv_iload_n hx hb dX4_told_57 rfl (lv_at hl 1 rfl) ?_
          refine mw_iald hx hb hK hP 0 (show M_13 (A 2) = some (.inl (gI G, 120, .inl (g 2))) from hT.2.1 2 (by decide)) rfl (by exact vp_in_nI (show (fIx b) < 120 by have := hle; omega) (by decide)) dX4_told_58 ?_
          refine W.eq (g2 := F0 m 59 ls [.int (bH S (fIx b))]) (by rw [nI_clamp (show (fIx b) < 2 ^ 31 by have := hle; omega), hB.H h_b]) ?_
          refine lv_goto (tgt := 82) hx hb dX4_told_59 (by decide) ?_
          have hex : ex_told S b x = 0 := by rw [ex_told, if_neg (fun z9 => z9 ⟨kb_5, kb_12⟩)]
          exact mx_iret (v := (bH S (fIx b))) (M' := M_13) hx hb hr hlocks hP hS ⟨by rw [hex, if_pos rfl, re_told, if_neg c_15, if_pos c_16], ⟨_, by rw [hex, if_pos rfl]; exact (⟨np, bg, g, hT, hB⟩ : md_R G o A M_13 0 z S)⟩, hk⟩ dX4_told_82 (Nat.le_of_ble_eq_true rfl) (Nat.le_of_ble_eq_true rfl)
      · refine lv_aload_n hx hb dX4_told_39 rfl (lv_at hl 0 rfl) ?_
        refine mw_get (D := gD G) (ci := 4) (v := .ref (A 1)) (C := RX4) (T := TX4) (N := 21) hx hb htb inX4 hown hK hP hT.1 rfl 5 (by decide) (htb _ wd529) (fun _ h9 => h9) rfl dX4_told_40 ?_
        refine lv_iload_n hx hb dX4_told_43 rfl (lv_at hl 1 rfl) ?_
        refine mw_iald hx hb hK hP 0 (show M_13 (A 1) = some (.inl (gI G, 120, .inl (g 1))) from hT.2.1 1 (by decide)) rfl (by exact vp_in_nI (show (fIx b) < 120 by have := hle; omega) (by decide)) dX4_told_44 ?_
        refine W.eq (g2 := F0 m 45 ls [.int (bW S (fIx b))]) (by rw [nI_clamp (show (fIx b) < 2 ^ 31 by have := hle; omega), hB.W h_b]) ?_
        refine lv_goto (tgt := 82) hx hb dX4_told_45 (by decide) ?_
        have hex : ex_told S b x = 0 := by rw [ex_told, if_neg (fun z9 => z9 ⟨kb_5, kb_12⟩)]
        exact mx_iret (v := (bW S (fIx b))) (M' := M_13) hx hb hr hlocks hP hS ⟨by rw [hex, if_pos rfl, re_told, if_pos c_15], ⟨_, by rw [hex, if_pos rfl]; exact (⟨np, bg, g, hT, hB⟩ : md_R G o A M_13 0 z S)⟩, hk⟩ dX4_told_82 (Nat.le_of_ble_eq_true rfl) (Nat.le_of_ble_eq_true rfl)
