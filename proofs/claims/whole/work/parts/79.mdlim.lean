/-! printed by wip/whole/spec*.py -/
-- X4_limits
set_option maxHeartbeats 4000000 in
set_option maxRecDepth 100000 in
theorem kX4_limits (l : Launch) (htr : l.stackTraces = false) (G : gx_G) (sz : Nat) (M : mw_M) (o : Nat) (A : Nat → Nat) (th z : Int32) (S : fs_S) (hR : md_R G o A M th z S) (hok : fs_ok S) (st b a sg : Int32) : g_Met l G yX4_limits (.code yX4_limits cX4_limits 11 (some .int)) ({ frames := 5, cells := 0, slots := 0, locals := 200 } : Room) sz M [.ref o, .int st, .int b, .int a, .int sg] (md_Mk G o A M S (ex_lim S st b a sg) (fs_push S (fs_lm S (fIx st) (fIx b) a sg)) (some (.int (if ex_lim S st b a sg = 0 then nI (sN S) else 0)))) (fun _ => False) := by
  refine MetE.ofW (cc := cX4_limits) (maxL := 11) (ret := (some .int)) (by decide) rfl ?_
  intro p e s m args below meth c s₁ B hml hv
  obtain ⟨rfl, hsz, hP, hE⟩ := hv
  have hx := B.exec
  have hb := B.bytes
  have hr := B.returns
  have hts := atoms_spec (ws := _ :: lw_big) B.pre
  have htb : ∀ w ∈ lw_big, w.before _ s = true := fun w h => hts w (List.mem_cons_of_mem _ h)
  have hno := B.noHandlers (hts _ List.mem_cons_self)
  have hown : s.vm.findClass RX4 = some m.cls := findClass_of_methodNamed B.named
  have hlocks := B.notSynchronized
  have hK := hE.1
  subst hsz
  have hS : va_S (gA G) s.heap s.heap [] := va_S.rf
  have hl := lv_entry ([.ref o, .int st, .int b, .int a, .int sg]) (n := 11) (Nat.le_of_ble_eq_true rfl)
  rw [lg_entry_eq]
  generalize (lg_sl ([.ref o, .int st, .int b, .int a, .int sg]) ++ List.replicate (11 - (lg_sl ([.ref o, .int st, .int b, .int a, .int sg])).length) Slot.unset).toArray = ls at hl ⊢
  have hl : lv_has ls 11 [(0, .ref o), (1, .int st), (2, .int b), (3, .int a), (4, .int sg)] := hl
  obtain ⟨np, bg, g, hT, hB⟩ := id hR
  have hk : md_keeps o A M M := md_keeps.rf o A M
  have hle : sN S ≤ 120 := hB.1
  refine lv_aload_n hx hb dX4_limits_0 rfl (lv_at hl 0 rfl) ?_
  refine lv_aload_n hx hb dX4_limits_1 rfl (lv_at hl 0 rfl) ?_
  refine lv_iload_n hx hb dX4_limits_2 rfl (lv_at hl 2 rfl) ?_
  refine mw_callV (C := RX4) (As := [.int b]) (rest := [.ref o]) hx hb hml hown hl (kX4_isBox l htr G s.heap.size M o A th z S (⟨np, bg, g, hT, hB⟩ : md_R G o A M th z S) b) (g_B (n := 1) htb wd624 wd3 wd621 (by decide +kernel) ⟨Nat.le_of_ble_eq_true rfl, Nat.le_of_ble_eq_true rfl⟩) (htb _ wd623) (htb _ ws27) hE hP hS hT.1 rfl rfl rfl (Nat.le_of_ble_eq_true rfl) dX4_limits_3 ⟨Nat.le_of_ble_eq_true rfl, Nat.le_of_ble_eq_true rfl⟩ (fun v9 M9 H locs hpo hP hz hS => ?_) (fun x9 E9 cell9 H9 locs9 hE9 => hE9.elim)
  obtain ⟨rfl, rfl⟩ := hpo
  refine W.eq (g2 := F0 m 6 ls [.int (bI (isB S b)), .ref o]) rfl ?_
  refine lv_if_eq (tgt := 26) hx hb dX4_limits_6 (by decide) (fun c_1 => ?_) (fun c_1 => ?_)
  · have kb_2 : ¬ (isB S b) := bI_f c_1
    refine lv_iconst (v := 1) hx hb dX4_limits_26 (by decide) ?_
    refine lv_goto (tgt := 66) hx hb dX4_limits_27 (by decide) ?_
    refine mw_put (D := gD G) (ci := 4) (v := .int 1) (ty := .int) (C := RX4) (T := TX4) (N := 21) hx hb htb inX4 tyX4 tyX4_ok nmX4 hown hK hP hS hT.1 hT.2.2.2.1 rfl 0 (by decide) (htb _ wd524) (fun _ h9 => h9) rfl (by decide +kernel) rfl rfl (Nat.le_of_ble_eq_true rfl) dX4_limits_66 (fun H locs hP hS => ?_)
    obtain ⟨M_3, hM_3⟩ : ∃ z9 : mw_M, z9 = mw_up M o (.inr (4, [.int 1, .ref (A 0), .int (sSp S), .int (sSh S), .int (nI (sN S)), .ref (A 1), .ref (A 2), .ref (A 3), .ref (A 4), .ref (A 5), .ref (A 6), .ref (A 7), .int (nI np), .ref (A 8), .ref (A 9), .ref (A 10), .ref (A 11), .ref (A 12), .ref (A 13), .ref (A 14), .int z])) := ⟨_, rfl⟩
    have hP : mw_P (gD G) gx_cl M_3 H := by rw [hM_3]; exact hP
    have hT : md_at G o A M_3 1 (sSp S) (sSh S) (nI (sN S)) (nI np) z g := md_at.fld hT hM_3
    have hk : md_keeps o A M M_3 := md_keeps.fld hk hM_3
    refine lv_aload_n hx hb dX4_limits_69 rfl (lv_at hl 0 rfl) ?_
    refine mw_get (D := gD G) (ci := 4) (v := .int 1) (C := RX4) (T := TX4) (N := 21) hx hb htb inX4 hown hK hP hT.1 rfl 0 (by decide) (htb _ wd524) (fun _ h9 => h9) rfl dX4_limits_70 ?_
    refine lv_if_le (tgt := 78) hx hb dX4_limits_73 (by decide) (fun c_4 => absurd c_4 (by decide)) (fun c_4 => ?_)
    refine lv_iconst (v := 0) hx hb dX4_limits_76 (by decide) ?_
    have hex : ex_lim S st b a sg = 1 := by rw [ex_lim, if_pos (fun z9 => kb_2 z9.1)]
    exact mx_iret (v := 0) (M' := M_3) hx hb hr hlocks hP hS ⟨by rw [hex]; rfl, ⟨_, by rw [hex]; exact (⟨np, bg, g, hT, hB⟩ : md_R G o A M_3 1 z S)⟩, hk⟩ dX4_limits_77 (Nat.le_of_ble_eq_true rfl) (Nat.le_of_ble_eq_true rfl)
  · have kb_5 : isB S b := bI_t c_1
    have h_b := isB_lt kb_5 hle
    have e_b := fIx_of kb_5.1
    rw [e_b] at hl
    refine lv_aload_n hx hb dX4_limits_9 rfl (lv_at hl 0 rfl) ?_
    refine lv_iload_n hx hb dX4_limits_10 rfl (lv_at hl 3 rfl) ?_
    refine mw_callV (C := RX4) (As := [.int a]) (rest := [.ref o]) hx hb hml hown hl (kX4_isBoxOrNone l htr G H.size M o A th z S (⟨np, bg, g, hT, hB⟩ : md_R G o A M th z S) a) (g_B (n := 1) htb wd632 wd3 wd629 (by decide +kernel) ⟨Nat.le_of_ble_eq_true rfl, Nat.le_of_ble_eq_true rfl⟩) (htb _ wd631) (htb _ ws28) hE hP hS hT.1 rfl rfl rfl (Nat.le_of_ble_eq_true rfl) dX4_limits_11 ⟨Nat.le_of_ble_eq_true rfl, Nat.le_of_ble_eq_true rfl⟩ (fun v9 M9 H locs hpo hP hz hS => ?_) (fun x9 E9 cell9 H9 locs9 hE9 => hE9.elim)
    obtain ⟨rfl, rfl⟩ := hpo
    refine W.eq (g2 := F0 m 14 ls [.int (bI (isO S a)), .ref o]) rfl ?_
    refine lv_if_eq (tgt := 26) hx hb dX4_limits_14 (by decide) (fun c_6 => ?_) (fun c_6 => ?_)
    · have kb_7 : ¬ (isO S a) := bI_f c_6
      refine lv_iconst (v := 1) hx hb dX4_limits_26 (by decide) ?_
      refine lv_goto (tgt := 66) hx hb dX4_limits_27 (by decide) ?_
      refine mw_put (D := gD G) (ci := 4) (v := .int 1) (ty := .int) (C := RX4) (T := TX4) (N := 21) hx hb htb inX4 tyX4 tyX4_ok nmX4 hown hK hP hS hT.1 hT.2.2.2.1 rfl 0 (by decide) (htb _ wd524) (fun _ h9 => h9) rfl (by decide +kernel) rfl rfl (Nat.le_of_ble_eq_true rfl) dX4_limits_66 (fun H locs hP hS => ?_)
      obtain ⟨M_8, hM_8⟩ : ∃ z9 : mw_M, z9 = mw_up M o (.inr (4, [.int 1, .ref (A 0), .int (sSp S), .int (sSh S), .int (nI (sN S)), .ref (A 1), .ref (A 2), .ref (A 3), .ref (A 4), .ref (A 5), .ref (A 6), .ref (A 7), .int (nI np), .ref (A 8), .ref (A 9), .ref (A 10), .ref (A 11), .ref (A 12), .ref (A 13), .ref (A 14), .int z])) := ⟨_, rfl⟩
      have hP : mw_P (gD G) gx_cl M_8 H := by rw [hM_8]; exact hP
      have hT : md_at G o A M_8 1 (sSp S) (sSh S) (nI (sN S)) (nI np) z g := md_at.fld hT hM_8
      have hk : md_keeps o A M M_8 := md_keeps.fld hk hM_8
      refine lv_aload_n hx hb dX4_limits_69 rfl (lv_at hl 0 rfl) ?_
      refine mw_get (D := gD G) (ci := 4) (v := .int 1) (C := RX4) (T := TX4) (N := 21) hx hb htb inX4 hown hK hP hT.1 rfl 0 (by decide) (htb _ wd524) (fun _ h9 => h9) rfl dX4_limits_70 ?_
      refine lv_if_le (tgt := 78) hx hb dX4_limits_73 (by decide) (fun c_9 => absurd c_9 (by decide)) (fun c_9 => ?_)
      refine lv_iconst (v := 0) hx hb dX4_limits_76 (by decide) ?_
      have hex : ex_lim S st b a sg = 1 := by rw [ex_lim, if_pos (fun z9 => kb_7 z9.2.1)]
      exact mx_iret (v := 0) (M' := M_8) hx hb hr hlocks hP hS ⟨by rw [hex]; rfl, ⟨_, by rw [hex]; exact (⟨np, bg, g, hT, hB⟩ : md_R G o A M_8 1 z S)⟩, hk⟩ dX4_limits_77 (Nat.le_of_ble_eq_true rfl) (Nat.le_of_ble_eq_true rfl)
    · have kb_10 : isO S a := bI_t c_6
      have ho_a := isO_on kb_10 hle
      refine lv_aload_n hx hb dX4_limits_17 rfl (lv_at hl 0 rfl) ?_
      refine lv_iload hx hb dX4_limits_18 (lv_at hl 4 rfl) ?_
      refine mw_callV (C := RX4) (As := [.int sg]) (rest := [.ref o]) hx hb hml hown hl (kX4_isBoxOrNone l htr G H.size M o A th z S (⟨np, bg, g, hT, hB⟩ : md_R G o A M th z S) sg) (g_B (n := 1) htb wd632 wd3 wd629 (by decide +kernel) ⟨Nat.le_of_ble_eq_true rfl, Nat.le_of_ble_eq_true rfl⟩) (htb _ wd631) (htb _ ws28) hE hP hS hT.1 rfl rfl rfl (Nat.le_of_ble_eq_true rfl) dX4_limits_20 ⟨Nat.le_of_ble_eq_true rfl, Nat.le_of_ble_eq_true rfl⟩ (fun v9 M9 H locs hpo hP hz hS => ?_) (fun x9 E9 cell9 H9 locs9 hE9 => hE9.elim)
      obtain ⟨rfl, rfl⟩ := hpo
      refine W.eq (g2 := F0 m 23 ls [.int (bI (isO S sg)), .ref o]) rfl ?_
      refine lv_if_ne (tgt := 30) hx hb dX4_limits_23 (by decide) (fun c_11 => ?_) (fun c_11 => ?_)
      · have kb_12 : isO S sg := bI_t c_11
        have ho_sg := isO_on kb_12 hle
        refine lv_iload_n hx hb dX4_limits_30 rfl (lv_at hl 1 rfl) ?_
        refine mw_callS (As := [.int st]) (rest := [.ref o]) hx hb hml hown hl (kX4_isStyle l htr G H.size M st) (g_B (n := 1) htb wd671 wd3 wd669 (by decide +kernel) ⟨Nat.le_of_ble_eq_true rfl, Nat.le_of_ble_eq_true rfl⟩) (htb _ wd670) hE hP hS rfl rfl (Nat.le_of_ble_eq_true rfl) dX4_limits_31 ⟨Nat.le_of_ble_eq_true rfl, Nat.le_of_ble_eq_true rfl⟩ (fun v9 M9 H locs hpo hP hz hS => ?_) (fun x9 E9 cell9 H9 locs9 hE9 => hE9.elim)
        obtain ⟨rfl, rfl⟩ := hpo
        refine W.eq (g2 := F0 m 34 ls [.int (bI (isT st)), .ref o]) rfl ?_
        refine lv_if_eq (tgt := 48) hx hb dX4_limits_34 (by decide) (fun c_13 => ?_) (fun c_13 => ?_)
        · have kb_14 : ¬ (isT st) := bI_f c_13
          refine lv_iconst (v := 2) hx hb dX4_limits_48 (by decide) ?_
          refine lv_goto (tgt := 66) hx hb dX4_limits_49 (by decide) ?_
          refine mw_put (D := gD G) (ci := 4) (v := .int 2) (ty := .int) (C := RX4) (T := TX4) (N := 21) hx hb htb inX4 tyX4 tyX4_ok nmX4 hown hK hP hS hT.1 hT.2.2.2.1 rfl 0 (by decide) (htb _ wd524) (fun _ h9 => h9) rfl (by decide +kernel) rfl rfl (Nat.le_of_ble_eq_true rfl) dX4_limits_66 (fun H locs hP hS => ?_)
          obtain ⟨M_15, hM_15⟩ : ∃ z9 : mw_M, z9 = mw_up M o (.inr (4, [.int 2, .ref (A 0), .int (sSp S), .int (sSh S), .int (nI (sN S)), .ref (A 1), .ref (A 2), .ref (A 3), .ref (A 4), .ref (A 5), .ref (A 6), .ref (A 7), .int (nI np), .ref (A 8), .ref (A 9), .ref (A 10), .ref (A 11), .ref (A 12), .ref (A 13), .ref (A 14), .int z])) := ⟨_, rfl⟩
          have hP : mw_P (gD G) gx_cl M_15 H := by rw [hM_15]; exact hP
          have hT : md_at G o A M_15 2 (sSp S) (sSh S) (nI (sN S)) (nI np) z g := md_at.fld hT hM_15
          have hk : md_keeps o A M M_15 := md_keeps.fld hk hM_15
          refine lv_aload_n hx hb dX4_limits_69 rfl (lv_at hl 0 rfl) ?_
          refine mw_get (D := gD G) (ci := 4) (v := .int 2) (C := RX4) (T := TX4) (N := 21) hx hb htb inX4 hown hK hP hT.1 rfl 0 (by decide) (htb _ wd524) (fun _ h9 => h9) rfl dX4_limits_70 ?_
          refine lv_if_le (tgt := 78) hx hb dX4_limits_73 (by decide) (fun c_16 => absurd c_16 (by decide)) (fun c_16 => ?_)
          refine lv_iconst (v := 0) hx hb dX4_limits_76 (by decide) ?_
          have hex : ex_lim S st b a sg = 2 := by rw [ex_lim, if_neg (fun z9 => z9 ⟨kb_5, kb_10, kb_12⟩), if_pos (fun z9 => kb_14 z9.1)]
          exact mx_iret (v := 0) (M' := M_15) hx hb hr hlocks hP hS ⟨by rw [hex]; rfl, ⟨_, by rw [hex]; exact (⟨np, bg, g, hT, hB⟩ : md_R G o A M_15 2 z S)⟩, hk⟩ dX4_limits_77 (Nat.le_of_ble_eq_true rfl) (Nat.le_of_ble_eq_true rfl)
        · have kb_17 : isT st := bI_t c_13
          have h_st := isT_lt kb_17
          have e_st := fIx_of kb_17.1
          rw [e_st] at hl
          refine lv_iload_n hx hb dX4_limits_37 rfl (lv_at hl 3 rfl) ?_
          refine lv_iconst (v := (-1)) hx hb dX4_limits_38 (by decide) ?_
          refine lv_icmp_ne (tgt := 52) hx hb dX4_limits_39 (by decide) (fun c_18 => ?_) (fun c_18 => ?_)
          · have kb_19 : on2 a sg := fun q => c_18 q.1
            have hb_a := kb_10.resolve_left c_18
            have h_a := isB_lt hb_a hle
            have e_a := fIx_of hb_a.1
            rw [e_a] at hl
            have hn_a : ¬ nI (fIx a) = (-1) := fun q => c_18 (e_a.trans q)
            refine lv_aload_n hx hb dX4_limits_52 rfl (lv_at hl 0 rfl) ?_
            refine mw_get (D := gD G) (ci := 4) (v := .int (nI (sN S))) (C := RX4) (T := TX4) (N := 21) hx hb htb inX4 hown hK hP hT.1 rfl 4 (by decide) (htb _ wd528) (fun _ h9 => h9) rfl dX4_limits_53 ?_
            refine lv_bipush (v := 120) hx hb dX4_limits_56 (by decide) ?_
            refine lv_icmp_ne (tgt := 65) hx hb dX4_limits_58 (by decide) (fun c_20 => ?_) (fun c_20 => ?_)
            · have kb_21 : rmk S 1 := Decidable.byContradiction (fun z9 => c_20 ((rmk_eq hle).mpr z9))
              refine lv_iconst (v := 0) hx hb dX4_limits_65 (by decide) ?_
              refine mw_put (D := gD G) (ci := 4) (v := .int 0) (ty := .int) (C := RX4) (T := TX4) (N := 21) hx hb htb inX4 tyX4 tyX4_ok nmX4 hown hK hP hS hT.1 hT.2.2.2.1 rfl 0 (by decide) (htb _ wd524) (fun _ h9 => h9) rfl (by decide +kernel) rfl rfl (Nat.le_of_ble_eq_true rfl) dX4_limits_66 (fun H locs hP hS => ?_)
              obtain ⟨M_22, hM_22⟩ : ∃ z9 : mw_M, z9 = mw_up M o (.inr (4, [.int 0, .ref (A 0), .int (sSp S), .int (sSh S), .int (nI (sN S)), .ref (A 1), .ref (A 2), .ref (A 3), .ref (A 4), .ref (A 5), .ref (A 6), .ref (A 7), .int (nI np), .ref (A 8), .ref (A 9), .ref (A 10), .ref (A 11), .ref (A 12), .ref (A 13), .ref (A 14), .int z])) := ⟨_, rfl⟩
              have hP : mw_P (gD G) gx_cl M_22 H := by rw [hM_22]; exact hP
              have hT : md_at G o A M_22 0 (sSp S) (sSh S) (nI (sN S)) (nI np) z g := md_at.fld hT hM_22
              have hk : md_keeps o A M M_22 := md_keeps.fld hk hM_22
              refine lv_aload_n hx hb dX4_limits_69 rfl (lv_at hl 0 rfl) ?_
              refine mw_get (D := gD G) (ci := 4) (v := .int 0) (C := RX4) (T := TX4) (N := 21) hx hb htb inX4 hown hK hP hT.1 rfl 0 (by decide) (htb _ wd524) (fun _ h9 => h9) rfl dX4_limits_70 ?_
              refine lv_if_le (tgt := 78) hx hb dX4_limits_73 (by decide) (fun c_23 => ?_) (fun c_23 => absurd (by decide) c_23)
              refine lv_aload_n hx hb dX4_limits_78 rfl (lv_at hl 0 rfl) ?_
              refine lv_iload_n hx hb dX4_limits_79 rfl (lv_at hl 1 rfl) ?_
              refine mw_callV (C := RX4) (As := [.int (nI (fIx st))]) (rest := []) hx hb hml hown hl (kX4_use l htr G H.size M_22 o A 0 z S (⟨np, bg, g, hT, hB⟩ : md_R G o A M_22 0 z S) (fIx st) h_st) (g_B (n := 1) htb wd675 wd3 wd672 (by decide +kernel) ⟨Nat.le_of_ble_eq_true rfl, Nat.le_of_ble_eq_true rfl⟩) (htb _ wd674) (htb _ ws35) hE hP hS hT.1 rfl rfl rfl (Nat.le_of_ble_eq_true rfl) dX4_limits_80 ⟨Nat.le_of_ble_eq_true rfl, Nat.le_of_ble_eq_true rfl⟩ (fun v9 M9 H locs hpo hP hz hS => ?_) (fun x9 E9 cell9 H9 locs9 hE9 => hE9.elim)
              obtain ⟨rfl, hRn, hkn⟩ := hpo
              obtain ⟨M_24, hM_24⟩ : ∃ z9 : mw_M, z9 = M9 := ⟨_, rfl⟩
              rw [← hM_24] at hP hRn hkn
              have hk := md_keeps.tr hk hkn
              obtain ⟨np25, bg25, g25, hT, hB⟩ := id hRn
              refine W.eq (g2 := F0 m 83 ls []) rfl ?_
              refine lv_aload_n hx hb dX4_limits_83 rfl (lv_at hl 0 rfl) ?_
              refine mw_get (D := gD G) (ci := 4) (v := .ref (A 1)) (C := RX4) (T := TX4) (N := 21) hx hb htb inX4 hown hK hP hT.1 rfl 5 (by decide) (htb _ wd529) (fun _ h9 => h9) rfl dX4_limits_84 ?_
              refine lv_iload_n hx hb dX4_limits_87 rfl (lv_at hl 2 rfl) ?_
              refine mw_iald hx hb hK hP 0 (show M_24 (A 1) = some (.inl (gI G, 120, .inl (g25 1))) from hT.2.1 1 (by decide)) rfl (by exact vp_in_nI (show (fIx b) < 120 by have := hle; omega) (by decide)) dX4_limits_88 ?_
              refine W.eq (g2 := F0 m 89 ls [.int (bW S (fIx b))]) (by rw [nI_clamp (show (fIx b) < 2 ^ 31 by have := hle; omega), hB.W h_b]) ?_
              refine lv_istore (lv' := [(5, .int (bW S (fIx b))), (0, .ref o), (1, .int (nI (fIx st))), (2, .int (nI (fIx b))), (3, .int (nI (fIx a))), (4, .int sg)]) hx hb dX4_limits_89 hl (by decide) rfl (fun ls hl => ?_)
              refine lv_iload_n hx hb dX4_limits_91 rfl (lv_at hl 4 rfl) ?_
              refine lv_iconst (v := (-1)) hx hb dX4_limits_92 (by decide) ?_
              refine lv_icmp_ne (tgt := 101) hx hb dX4_limits_93 (by decide) (fun c_26 => ?_) (fun c_26 => absurd c_26 hn_a)
              refine lv_iload hx hb dX4_limits_101 (lv_at hl 0 rfl) ?_
              refine lv_aload_n hx hb dX4_limits_103 rfl (lv_at hl 1 rfl) ?_
              refine mw_get (D := gD G) (ci := 4) (v := .ref (A 1)) (C := RX4) (T := TX4) (N := 21) hx hb htb inX4 hown hK hP hT.1 rfl 5 (by decide) (htb _ wd529) (fun _ h9 => h9) rfl dX4_limits_104 ?_
              refine lv_iload_n hx hb dX4_limits_107 rfl (lv_at hl 4 rfl) ?_
              refine mw_iald hx hb hK hP 0 (show M_24 (A 1) = some (.inl (gI G, 120, .inl (g25 1))) from hT.2.1 1 (by decide)) rfl (by exact vp_in_nI (show (fIx a) < 120 by have := hle; omega) (by decide)) dX4_limits_108 ?_
              refine W.eq (g2 := F0 m 109 ls [.int (bW S (fIx a)), .int (bW S (fIx b))]) (by rw [nI_clamp (show (fIx a) < 2 ^ 31 by have := hle; omega), hB.W h_a]) ?_
              refine mw_callS (As := [.int (bW S (fIx b)), .int (bW S (fIx a))]) (rest := []) hx hb hml hown hl (kX4_greater l htr G H.size M_24 (bW S (fIx b)) (bW S (fIx a))) (g_B (n := 2) htb wd664 wd3 wd662 (by decide +kernel) ⟨Nat.le_of_ble_eq_true rfl, Nat.le_of_ble_eq_true rfl⟩) (htb _ wd663) hE hP hS rfl rfl (Nat.le_of_ble_eq_true rfl) dX4_limits_109 ⟨Nat.le_of_ble_eq_true rfl, Nat.le_of_ble_eq_true rfl⟩ (fun v9 M9 H locs hpo hP hz hS => ?_) (fun x9 E9 cell9 H9 locs9 hE9 => hE9.elim)
              obtain ⟨rfl, rfl⟩ := hpo
              refine W.eq (g2 := F0 m 112 ls [.int (fMx (bW S (fIx b)) (bW S (fIx a)))]) rfl ?_
              refine lv_istore (lv' := [(5, .int (fMx (bW S (fIx b)) (bW S (fIx a)))), (0, .ref o), (1, .int (nI (fIx st))), (2, .int (nI (fIx b))), (3, .int (nI (fIx a))), (4, .int sg)]) hx hb dX4_limits_112 hl (by decide) rfl (fun ls hl => ?_)
              refine lv_iload hx hb dX4_limits_114 (lv_at hl 5 rfl) ?_
              refine lv_iconst (v := (-1)) hx hb dX4_limits_116 (by decide) ?_
              refine lv_icmp_ne (tgt := 125) hx hb dX4_limits_117 (by decide) (fun c_27 => ?_) (fun c_27 => ?_)
              · have hb_sg := kb_12.resolve_left c_27
                have h_sg := isB_lt hb_sg hle
                have e_sg := fIx_of hb_sg.1
                rw [e_sg] at hl
                have hn_sg : ¬ nI (fIx sg) = (-1) := fun q => c_27 (e_sg.trans q)
                refine lv_iload hx hb dX4_limits_125 (lv_at hl 0 rfl) ?_
                refine lv_aload_n hx hb dX4_limits_127 rfl (lv_at hl 1 rfl) ?_
                refine mw_get (D := gD G) (ci := 4) (v := .ref (A 1)) (C := RX4) (T := TX4) (N := 21) hx hb htb inX4 hown hK hP hT.1 rfl 5 (by decide) (htb _ wd529) (fun _ h9 => h9) rfl dX4_limits_128 ?_
                refine lv_iload hx hb dX4_limits_131 (lv_at hl 5 rfl) ?_
                refine mw_iald hx hb hK hP 0 (show M_24 (A 1) = some (.inl (gI G, 120, .inl (g25 1))) from hT.2.1 1 (by decide)) rfl (by exact vp_in_nI (show (fIx sg) < 120 by have := hle; omega) (by decide)) dX4_limits_133 ?_
                refine W.eq (g2 := F0 m 134 ls [.int (bW S (fIx sg)), .int (fMx (bW S (fIx b)) (bW S (fIx a)))]) (by rw [nI_clamp (show (fIx sg) < 2 ^ 31 by have := hle; omega), hB.W h_sg]) ?_
                refine mw_callS (As := [.int (fMx (bW S (fIx b)) (bW S (fIx a))), .int (bW S (fIx sg))]) (rest := []) hx hb hml hown hl (kX4_greater l htr G H.size M_24 (fMx (bW S (fIx b)) (bW S (fIx a))) (bW S (fIx sg))) (g_B (n := 2) htb wd664 wd3 wd662 (by decide +kernel) ⟨Nat.le_of_ble_eq_true rfl, Nat.le_of_ble_eq_true rfl⟩) (htb _ wd663) hE hP hS rfl rfl (Nat.le_of_ble_eq_true rfl) dX4_limits_134 ⟨Nat.le_of_ble_eq_true rfl, Nat.le_of_ble_eq_true rfl⟩ (fun v9 M9 H locs hpo hP hz hS => ?_) (fun x9 E9 cell9 H9 locs9 hE9 => hE9.elim)
                obtain ⟨rfl, rfl⟩ := hpo
                refine W.eq (g2 := F0 m 137 ls [.int (fMx (fMx (bW S (fIx b)) (bW S (fIx a))) (bW S (fIx sg)))]) rfl ?_
                refine lv_istore (lv' := [(5, .int (fMx (fMx (bW S (fIx b)) (bW S (fIx a))) (bW S (fIx sg)))), (0, .ref o), (1, .int (nI (fIx st))), (2, .int (nI (fIx b))), (3, .int (nI (fIx a))), (4, .int (nI (fIx sg)))]) hx hb dX4_limits_137 hl (by decide) rfl (fun ls hl => ?_)
                refine lv_iload_n hx hb dX4_limits_139 rfl (lv_at hl 4 rfl) ?_
                refine lv_iconst (v := (-1)) hx hb dX4_limits_140 (by decide) ?_
                refine lv_icmp_ne (tgt := 148) hx hb dX4_limits_141 (by decide) (fun c_28 => ?_) (fun c_28 => absurd c_28 hn_a)
                refine lv_aload_n hx hb dX4_limits_148 rfl (lv_at hl 1 rfl) ?_
                refine lv_bipush (v := 17) hx hb dX4_limits_149 (by decide) ?_
                refine mw_callV (C := RX4) (As := [.int 17]) (rest := []) hx hb hml hown hl (kX4_p l htr G H.size M_24 o A 0 S (fIx st) 17 h_st (by decide) (⟨np25, bg25, g25, hT, hB⟩ : md_R G o A M_24 0 (nI (fSz (fIx st))) S)) (g_B (n := 1) htb wd679 wd3 wd676 (by decide +kernel) ⟨Nat.le_of_ble_eq_true rfl, Nat.le_of_ble_eq_true rfl⟩) (htb _ wd678) (htb _ ws36) hE hP hS hT.1 rfl rfl rfl (Nat.le_of_ble_eq_true rfl) dX4_limits_151 ⟨Nat.le_of_ble_eq_true rfl, Nat.le_of_ble_eq_true rfl⟩ (fun v9 M9 H locs hpo hP hz hS => ?_) (fun x9 E9 cell9 H9 locs9 hE9 => hE9.elim)
                obtain ⟨rfl, rfl⟩ := hpo
                refine W.eq (g2 := F0 m 154 ls [.int (pV S (fIx st) 17)]) rfl ?_
                refine lv_aload_n hx hb dX4_limits_154 rfl (lv_at hl 1 rfl) ?_
                refine mw_get (D := gD G) (ci := 4) (v := .ref (A 3)) (C := RX4) (T := TX4) (N := 21) hx hb htb inX4 hown hK hP hT.1 rfl 7 (by decide) (htb _ wd531) (fun _ h9 => h9) rfl dX4_limits_155 ?_
                refine lv_iload_n hx hb dX4_limits_158 rfl (lv_at hl 4 rfl) ?_
                refine mw_iald hx hb hK hP 0 (show M_24 (A 3) = some (.inl (gI G, 120, .inl (g25 3))) from hT.2.1 3 (by decide)) rfl (by exact vp_in_nI (show (fIx a) < 120 by have := hle; omega) (by decide)) dX4_limits_159 ?_
                refine W.eq (g2 := F0 m 160 ls [.int (bD S (fIx a)), .int (pV S (fIx st) 17)]) (by rw [nI_clamp (show (fIx a) < 2 ^ 31 by have := hle; omega), hB.D h_a]) ?_
                refine lv_isub hx hb dX4_limits_160 ?_
                refine lv_aload_n hx hb dX4_limits_161 rfl (lv_at hl 1 rfl) ?_
                refine lv_bipush (v := 15) hx hb dX4_limits_162 (by decide) ?_
                refine mw_callV (C := RX4) (As := [.int 15]) (rest := [.int ((pV S (fIx st) 17) - (bD S (fIx a)))]) hx hb hml hown hl (kX4_p l htr G H.size M_24 o A 0 S (fIx st) 15 h_st (by decide) (⟨np25, bg25, g25, hT, hB⟩ : md_R G o A M_24 0 (nI (fSz (fIx st))) S)) (g_B (n := 1) htb wd679 wd3 wd676 (by decide +kernel) ⟨Nat.le_of_ble_eq_true rfl, Nat.le_of_ble_eq_true rfl⟩) (htb _ wd678) (htb _ ws36) hE hP hS hT.1 rfl rfl rfl (Nat.le_of_ble_eq_true rfl) dX4_limits_164 ⟨Nat.le_of_ble_eq_true rfl, Nat.le_of_ble_eq_true rfl⟩ (fun v9 M9 H locs hpo hP hz hS => ?_) (fun x9 E9 cell9 H9 locs9 hE9 => hE9.elim)
                obtain ⟨rfl, rfl⟩ := hpo
                refine W.eq (g2 := F0 m 167 ls [.int (pV S (fIx st) 15), .int ((pV S (fIx st) 17) - (bD S (fIx a)))]) rfl ?_
                refine mw_callS (As := [.int ((pV S (fIx st) 17) - (bD S (fIx a))), .int (pV S (fIx st) 15)]) (rest := []) hx hb hml hown hl (kX4_greater l htr G H.size M_24 ((pV S (fIx st) 17) - (bD S (fIx a))) (pV S (fIx st) 15)) (g_B (n := 2) htb wd664 wd3 wd662 (by decide +kernel) ⟨Nat.le_of_ble_eq_true rfl, Nat.le_of_ble_eq_true rfl⟩) (htb _ wd663) hE hP hS rfl rfl (Nat.le_of_ble_eq_true rfl) dX4_limits_167 ⟨Nat.le_of_ble_eq_true rfl, Nat.le_of_ble_eq_true rfl⟩ (fun v9 M9 H locs hpo hP hz hS => ?_) (fun x9 E9 cell9 H9 locs9 hE9 => hE9.elim)
                obtain ⟨rfl, rfl⟩ := hpo
                refine W.eq (g2 := F0 m 170 ls [.int (fMx ((pV S (fIx st) 17) - (bD S (fIx a))) (pV S (fIx st) 15))]) rfl ?_
                refine lv_istore (lv' := [(6, .int (fMx ((pV S (fIx st) 17) - (bD S (fIx a))) (pV S (fIx st) 15))), (5, .int (fMx (fMx (bW S (fIx b)) (bW S (fIx a))) (bW S (fIx sg)))), (0, .ref o), (1, .int (nI (fIx st))), (2, .int (nI (fIx b))), (3, .int (nI (fIx a))), (4, .int (nI (fIx sg)))]) hx hb dX4_limits_170 hl (by decide) rfl (fun ls hl => ?_)
                refine lv_iload hx hb dX4_limits_172 (lv_at hl 6 rfl) ?_
                refine lv_iconst (v := (-1)) hx hb dX4_limits_174 (by decide) ?_
                refine lv_icmp_ne (tgt := 182) hx hb dX4_limits_175 (by decide) (fun c_29 => ?_) (fun c_29 => absurd c_29 hn_sg)
                refine lv_aload_n hx hb dX4_limits_182 rfl (lv_at hl 2 rfl) ?_
                refine lv_bipush (v := 18) hx hb dX4_limits_183 (by decide) ?_
                refine mw_callV (C := RX4) (As := [.int 18]) (rest := []) hx hb hml hown hl (kX4_p l htr G H.size M_24 o A 0 S (fIx st) 18 h_st (by decide) (⟨np25, bg25, g25, hT, hB⟩ : md_R G o A M_24 0 (nI (fSz (fIx st))) S)) (g_B (n := 1) htb wd679 wd3 wd676 (by decide +kernel) ⟨Nat.le_of_ble_eq_true rfl, Nat.le_of_ble_eq_true rfl⟩) (htb _ wd678) (htb _ ws36) hE hP hS hT.1 rfl rfl rfl (Nat.le_of_ble_eq_true rfl) dX4_limits_185 ⟨Nat.le_of_ble_eq_true rfl, Nat.le_of_ble_eq_true rfl⟩ (fun v9 M9 H locs hpo hP hz hS => ?_) (fun x9 E9 cell9 H9 locs9 hE9 => hE9.elim)
                obtain ⟨rfl, rfl⟩ := hpo
                refine W.eq (g2 := F0 m 188 ls [.int (pV S (fIx st) 18)]) rfl ?_
                refine lv_aload_n hx hb dX4_limits_188 rfl (lv_at hl 2 rfl) ?_
                refine mw_get (D := gD G) (ci := 4) (v := .ref (A 2)) (C := RX4) (T := TX4) (N := 21) hx hb htb inX4 hown hK hP hT.1 rfl 6 (by decide) (htb _ wd530) (fun _ h9 => h9) rfl dX4_limits_189 ?_
                refine lv_iload hx hb dX4_limits_192 (lv_at hl 6 rfl) ?_
                refine mw_iald hx hb hK hP 0 (show M_24 (A 2) = some (.inl (gI G, 120, .inl (g25 2))) from hT.2.1 2 (by decide)) rfl (by exact vp_in_nI (show (fIx sg) < 120 by have := hle; omega) (by decide)) dX4_limits_194 ?_
                refine W.eq (g2 := F0 m 195 ls [.int (bH S (fIx sg)), .int (pV S (fIx st) 18)]) (by rw [nI_clamp (show (fIx sg) < 2 ^ 31 by have := hle; omega), hB.H h_sg]) ?_
                refine lv_isub hx hb dX4_limits_195 ?_
                refine lv_aload_n hx hb dX4_limits_196 rfl (lv_at hl 2 rfl) ?_
                refine lv_bipush (v := 16) hx hb dX4_limits_197 (by decide) ?_
                refine mw_callV (C := RX4) (As := [.int 16]) (rest := [.int ((pV S (fIx st) 18) - (bH S (fIx sg)))]) hx hb hml hown hl (kX4_p l htr G H.size M_24 o A 0 S (fIx st) 16 h_st (by decide) (⟨np25, bg25, g25, hT, hB⟩ : md_R G o A M_24 0 (nI (fSz (fIx st))) S)) (g_B (n := 1) htb wd679 wd3 wd676 (by decide +kernel) ⟨Nat.le_of_ble_eq_true rfl, Nat.le_of_ble_eq_true rfl⟩) (htb _ wd678) (htb _ ws36) hE hP hS hT.1 rfl rfl rfl (Nat.le_of_ble_eq_true rfl) dX4_limits_199 ⟨Nat.le_of_ble_eq_true rfl, Nat.le_of_ble_eq_true rfl⟩ (fun v9 M9 H locs hpo hP hz hS => ?_) (fun x9 E9 cell9 H9 locs9 hE9 => hE9.elim)
                obtain ⟨rfl, rfl⟩ := hpo
                refine W.eq (g2 := F0 m 202 ls [.int (pV S (fIx st) 16), .int ((pV S (fIx st) 18) - (bH S (fIx sg)))]) rfl ?_
                refine mw_callS (As := [.int ((pV S (fIx st) 18) - (bH S (fIx sg))), .int (pV S (fIx st) 16)]) (rest := []) hx hb hml hown hl (kX4_greater l htr G H.size M_24 ((pV S (fIx st) 18) - (bH S (fIx sg))) (pV S (fIx st) 16)) (g_B (n := 2) htb wd664 wd3 wd662 (by decide +kernel) ⟨Nat.le_of_ble_eq_true rfl, Nat.le_of_ble_eq_true rfl⟩) (htb _ wd663) hE hP hS rfl rfl (Nat.le_of_ble_eq_true rfl) dX4_limits_202 ⟨Nat.le_of_ble_eq_true rfl, Nat.le_of_ble_eq_true rfl⟩ (fun v9 M9 H locs hpo hP hz hS => ?_) (fun x9 E9 cell9 H9 locs9 hE9 => hE9.elim)
                obtain ⟨rfl, rfl⟩ := hpo
                refine W.eq (g2 := F0 m 205 ls [.int (fMx ((pV S (fIx st) 18) - (bH S (fIx sg))) (pV S (fIx st) 16))]) rfl ?_
                refine lv_istore (lv' := [(7, .int (fMx ((pV S (fIx st) 18) - (bH S (fIx sg))) (pV S (fIx st) 16))), (6, .int (fMx ((pV S (fIx st) 17) - (bD S (fIx a))) (pV S (fIx st) 15))), (5, .int (fMx (fMx (bW S (fIx b)) (bW S (fIx a))) (bW S (fIx sg)))), (0, .ref o), (1, .int (nI (fIx st))), (2, .int (nI (fIx b))), (3, .int (nI (fIx a))), (4, .int (nI (fIx sg)))]) hx hb dX4_limits_205 hl (by decide) rfl (fun ls hl => ?_)
                refine lv_iload_n hx hb dX4_limits_207 rfl (lv_at hl 6 rfl) ?_
                refine lv_iconst (v := (-1)) hx hb dX4_limits_208 (by decide) ?_
                refine lv_icmp_ne (tgt := 221) hx hb dX4_limits_209 (by decide) (fun c_30 => ?_) (fun c_30 => absurd c_30 hn_a)
                refine lv_aload_n hx hb dX4_limits_221 rfl (lv_at hl 3 rfl) ?_
                refine mw_get (D := gD G) (ci := 4) (v := .ref (A 2)) (C := RX4) (T := TX4) (N := 21) hx hb htb inX4 hown hK hP hT.1 rfl 6 (by decide) (htb _ wd530) (fun _ h9 => h9) rfl dX4_limits_222 ?_
                refine lv_iload_n hx hb dX4_limits_225 rfl (lv_at hl 5 rfl) ?_
                refine mw_iald hx hb hK hP 0 (show M_24 (A 2) = some (.inl (gI G, 120, .inl (g25 2))) from hT.2.1 2 (by decide)) rfl (by exact vp_in_nI (show (fIx b) < 120 by have := hle; omega) (by decide)) dX4_limits_226 ?_
                refine W.eq (g2 := F0 m 227 ls [.int (bH S (fIx b))]) (by rw [nI_clamp (show (fIx b) < 2 ^ 31 by have := hle; omega), hB.H h_b]) ?_
                refine lv_iload hx hb dX4_limits_227 (lv_at hl 1 rfl) ?_
                refine lv_iadd hx hb dX4_limits_229 ?_
                refine lv_aload_n hx hb dX4_limits_230 rfl (lv_at hl 3 rfl) ?_
                refine mw_get (D := gD G) (ci := 4) (v := .ref (A 3)) (C := RX4) (T := TX4) (N := 21) hx hb htb inX4 hown hK hP hT.1 rfl 7 (by decide) (htb _ wd531) (fun _ h9 => h9) rfl dX4_limits_231 ?_
                refine lv_iload_n hx hb dX4_limits_234 rfl (lv_at hl 6 rfl) ?_
                refine mw_iald hx hb hK hP 0 (show M_24 (A 3) = some (.inl (gI G, 120, .inl (g25 3))) from hT.2.1 3 (by decide)) rfl (by exact vp_in_nI (show (fIx a) < 120 by have := hle; omega) (by decide)) dX4_limits_235 ?_
                refine W.eq (g2 := F0 m 236 ls [.int (bD S (fIx a)), .int ((bH S (fIx b)) + (fMx ((pV S (fIx st) 17) - (bD S (fIx a))) (pV S (fIx st) 15)))]) (by rw [nI_clamp (show (fIx a) < 2 ^ 31 by have := hle; omega), hB.D h_a]) ?_
                refine lv_iadd hx hb dX4_limits_236 ?_
                refine lv_aload_n hx hb dX4_limits_237 rfl (lv_at hl 3 rfl) ?_
                refine mw_get (D := gD G) (ci := 4) (v := .ref (A 2)) (C := RX4) (T := TX4) (N := 21) hx hb htb inX4 hown hK hP hT.1 rfl 6 (by decide) (htb _ wd530) (fun _ h9 => h9) rfl dX4_limits_238 ?_
                refine lv_iload_n hx hb dX4_limits_241 rfl (lv_at hl 6 rfl) ?_
                refine mw_iald hx hb hK hP 0 (show M_24 (A 2) = some (.inl (gI G, 120, .inl (g25 2))) from hT.2.1 2 (by decide)) rfl (by exact vp_in_nI (show (fIx a) < 120 by have := hle; omega) (by decide)) dX4_limits_242 ?_
                refine W.eq (g2 := F0 m 243 ls [.int (bH S (fIx a)), .int (((bH S (fIx b)) + (fMx ((pV S (fIx st) 17) - (bD S (fIx a))) (pV S (fIx st) 15))) + (bD S (fIx a)))]) (by rw [nI_clamp (show (fIx a) < 2 ^ 31 by have := hle; omega), hB.H h_a]) ?_
                refine lv_iadd hx hb dX4_limits_243 ?_
                refine lv_aload_n hx hb dX4_limits_244 rfl (lv_at hl 3 rfl) ?_
                refine lv_bipush (v := 19) hx hb dX4_limits_245 (by decide) ?_
                refine mw_callV (C := RX4) (As := [.int 19]) (rest := [.int ((((bH S (fIx b)) + (fMx ((pV S (fIx st) 17) - (bD S (fIx a))) (pV S (fIx st) 15))) + (bD S (fIx a))) + (bH S (fIx a)))]) hx hb hml hown hl (kX4_p l htr G H.size M_24 o A 0 S (fIx st) 19 h_st (by decide) (⟨np25, bg25, g25, hT, hB⟩ : md_R G o A M_24 0 (nI (fSz (fIx st))) S)) (g_B (n := 1) htb wd679 wd3 wd676 (by decide +kernel) ⟨Nat.le_of_ble_eq_true rfl, Nat.le_of_ble_eq_true rfl⟩) (htb _ wd678) (htb _ ws36) hE hP hS hT.1 rfl rfl rfl (Nat.le_of_ble_eq_true rfl) dX4_limits_247 ⟨Nat.le_of_ble_eq_true rfl, Nat.le_of_ble_eq_true rfl⟩ (fun v9 M9 H locs hpo hP hz hS => ?_) (fun x9 E9 cell9 H9 locs9 hE9 => hE9.elim)
                obtain ⟨rfl, rfl⟩ := hpo
                refine W.eq (g2 := F0 m 250 ls [.int (pV S (fIx st) 19), .int ((((bH S (fIx b)) + (fMx ((pV S (fIx st) 17) - (bD S (fIx a))) (pV S (fIx st) 15))) + (bD S (fIx a))) + (bH S (fIx a)))]) rfl ?_
                refine lv_iadd hx hb dX4_limits_250 ?_
                refine lv_istore (lv' := [(8, .int (((((bH S (fIx b)) + (fMx ((pV S (fIx st) 17) - (bD S (fIx a))) (pV S (fIx st) 15))) + (bD S (fIx a))) + (bH S (fIx a))) + (pV S (fIx st) 19))), (7, .int (fMx ((pV S (fIx st) 18) - (bH S (fIx sg))) (pV S (fIx st) 16))), (6, .int (fMx ((pV S (fIx st) 17) - (bD S (fIx a))) (pV S (fIx st) 15))), (5, .int (fMx (fMx (bW S (fIx b)) (bW S (fIx a))) (bW S (fIx sg)))), (0, .ref o), (1, .int (nI (fIx st))), (2, .int (nI (fIx b))), (3, .int (nI (fIx a))), (4, .int (nI (fIx sg)))]) hx hb dX4_limits_251 hl (by decide) rfl (fun ls hl => ?_)
                refine lv_iload hx hb dX4_limits_253 (lv_at hl 8 rfl) ?_
                refine lv_iconst (v := (-1)) hx hb dX4_limits_255 (by decide) ?_
                refine lv_icmp_ne (tgt := 268) hx hb dX4_limits_256 (by decide) (fun c_31 => ?_) (fun c_31 => absurd c_31 hn_sg)
                refine lv_aload_n hx hb dX4_limits_268 rfl (lv_at hl 4 rfl) ?_
                refine mw_get (D := gD G) (ci := 4) (v := .ref (A 3)) (C := RX4) (T := TX4) (N := 21) hx hb htb inX4 hown hK hP hT.1 rfl 7 (by decide) (htb _ wd531) (fun _ h9 => h9) rfl dX4_limits_269 ?_
                refine lv_iload_n hx hb dX4_limits_272 rfl (lv_at hl 6 rfl) ?_
                refine mw_iald hx hb hK hP 0 (show M_24 (A 3) = some (.inl (gI G, 120, .inl (g25 3))) from hT.2.1 3 (by decide)) rfl (by exact vp_in_nI (show (fIx b) < 120 by have := hle; omega) (by decide)) dX4_limits_273 ?_
                refine W.eq (g2 := F0 m 274 ls [.int (bD S (fIx b))]) (by rw [nI_clamp (show (fIx b) < 2 ^ 31 by have := hle; omega), hB.D h_b]) ?_
                refine lv_iload hx hb dX4_limits_274 (lv_at hl 1 rfl) ?_
                refine lv_iadd hx hb dX4_limits_276 ?_
                refine lv_aload_n hx hb dX4_limits_277 rfl (lv_at hl 4 rfl) ?_
                refine mw_get (D := gD G) (ci := 4) (v := .ref (A 2)) (C := RX4) (T := TX4) (N := 21) hx hb htb inX4 hown hK hP hT.1 rfl 6 (by decide) (htb _ wd530) (fun _ h9 => h9) rfl dX4_limits_278 ?_
                refine lv_iload hx hb dX4_limits_281 (lv_at hl 8 rfl) ?_
                refine mw_iald hx hb hK hP 0 (show M_24 (A 2) = some (.inl (gI G, 120, .inl (g25 2))) from hT.2.1 2 (by decide)) rfl (by exact vp_in_nI (show (fIx sg) < 120 by have := hle; omega) (by decide)) dX4_limits_283 ?_
                refine W.eq (g2 := F0 m 284 ls [.int (bH S (fIx sg)), .int ((bD S (fIx b)) + (fMx ((pV S (fIx st) 18) - (bH S (fIx sg))) (pV S (fIx st) 16)))]) (by rw [nI_clamp (show (fIx sg) < 2 ^ 31 by have := hle; omega), hB.H h_sg]) ?_
                refine lv_iadd hx hb dX4_limits_284 ?_
                refine lv_aload_n hx hb dX4_limits_285 rfl (lv_at hl 4 rfl) ?_
                refine mw_get (D := gD G) (ci := 4) (v := .ref (A 3)) (C := RX4) (T := TX4) (N := 21) hx hb htb inX4 hown hK hP hT.1 rfl 7 (by decide) (htb _ wd531) (fun _ h9 => h9) rfl dX4_limits_286 ?_
                refine lv_iload hx hb dX4_limits_289 (lv_at hl 8 rfl) ?_
                refine mw_iald hx hb hK hP 0 (show M_24 (A 3) = some (.inl (gI G, 120, .inl (g25 3))) from hT.2.1 3 (by decide)) rfl (by exact vp_in_nI (show (fIx sg) < 120 by have := hle; omega) (by decide)) dX4_limits_291 ?_
                refine W.eq (g2 := F0 m 292 ls [.int (bD S (fIx sg)), .int (((bD S (fIx b)) + (fMx ((pV S (fIx st) 18) - (bH S (fIx sg))) (pV S (fIx st) 16))) + (bH S (fIx sg)))]) (by rw [nI_clamp (show (fIx sg) < 2 ^ 31 by have := hle; omega), hB.D h_sg]) ?_
                refine lv_iadd hx hb dX4_limits_292 ?_
                refine lv_aload_n hx hb dX4_limits_293 rfl (lv_at hl 4 rfl) ?_
                refine lv_bipush (v := 19) hx hb dX4_limits_294 (by decide) ?_
                refine mw_callV (C := RX4) (As := [.int 19]) (rest := [.int ((((bD S (fIx b)) + (fMx ((pV S (fIx st) 18) - (bH S (fIx sg))) (pV S (fIx st) 16))) + (bH S (fIx sg))) + (bD S (fIx sg)))]) hx hb hml hown hl (kX4_p l htr G H.size M_24 o A 0 S (fIx st) 19 h_st (by decide) (⟨np25, bg25, g25, hT, hB⟩ : md_R G o A M_24 0 (nI (fSz (fIx st))) S)) (g_B (n := 1) htb wd679 wd3 wd676 (by decide +kernel) ⟨Nat.le_of_ble_eq_true rfl, Nat.le_of_ble_eq_true rfl⟩) (htb _ wd678) (htb _ ws36) hE hP hS hT.1 rfl rfl rfl (Nat.le_of_ble_eq_true rfl) dX4_limits_296 ⟨Nat.le_of_ble_eq_true rfl, Nat.le_of_ble_eq_true rfl⟩ (fun v9 M9 H locs hpo hP hz hS => ?_) (fun x9 E9 cell9 H9 locs9 hE9 => hE9.elim)
                obtain ⟨rfl, rfl⟩ := hpo
                refine W.eq (g2 := F0 m 299 ls [.int (pV S (fIx st) 19), .int ((((bD S (fIx b)) + (fMx ((pV S (fIx st) 18) - (bH S (fIx sg))) (pV S (fIx st) 16))) + (bH S (fIx sg))) + (bD S (fIx sg)))]) rfl ?_
                refine lv_iadd hx hb dX4_limits_299 ?_
                refine lv_istore (lv' := [(9, .int (((((bD S (fIx b)) + (fMx ((pV S (fIx st) 18) - (bH S (fIx sg))) (pV S (fIx st) 16))) + (bH S (fIx sg))) + (bD S (fIx sg))) + (pV S (fIx st) 19))), (8, .int (((((bH S (fIx b)) + (fMx ((pV S (fIx st) 17) - (bD S (fIx a))) (pV S (fIx st) 15))) + (bD S (fIx a))) + (bH S (fIx a))) + (pV S (fIx st) 19))), (7, .int (fMx ((pV S (fIx st) 18) - (bH S (fIx sg))) (pV S (fIx st) 16))), (6, .int (fMx ((pV S (fIx st) 17) - (bD S (fIx a))) (pV S (fIx st) 15))), (5, .int (fMx (fMx (bW S (fIx b)) (bW S (fIx a))) (bW S (fIx sg)))), (0, .ref o), (1, .int (nI (fIx st))), (2, .int (nI (fIx b))), (3, .int (nI (fIx a))), (4, .int (nI (fIx sg)))]) hx hb dX4_limits_300 hl (by decide) rfl (fun ls hl => ?_)
                refine lv_aload_n hx hb dX4_limits_302 rfl (lv_at hl 5 rfl) ?_
                refine lv_iload hx hb dX4_limits_303 (lv_at hl 4 rfl) ?_
                refine lv_iload hx hb dX4_limits_305 (lv_at hl 1 rfl) ?_
                refine lv_iload hx hb dX4_limits_307 (lv_at hl 0 rfl) ?_
                refine mw_callV (C := RX4) (As := [.int (fMx (fMx (bW S (fIx b)) (bW S (fIx a))) (bW S (fIx sg))), .int (((((bH S (fIx b)) + (fMx ((pV S (fIx st) 17) - (bD S (fIx a))) (pV S (fIx st) 15))) + (bD S (fIx a))) + (bH S (fIx a))) + (pV S (fIx st) 19)), .int (((((bD S (fIx b)) + (fMx ((pV S (fIx st) 18) - (bH S (fIx sg))) (pV S (fIx st) 16))) + (bH S (fIx sg))) + (bD S (fIx sg))) + (pV S (fIx st) 19))]) (rest := []) hx hb hml hown hl (kX4_make l htr G H.size M_24 o A 0 (nI (fSz (fIx st))) S (⟨np25, bg25, g25, hT, hB⟩ : md_R G o A M_24 0 (nI (fSz (fIx st))) S) (rmk_lt kb_21 hle) (fMx (fMx (bW S (fIx b)) (bW S (fIx a))) (bW S (fIx sg))) (((((bH S (fIx b)) + (fMx ((pV S (fIx st) 17) - (bD S (fIx a))) (pV S (fIx st) 15))) + (bD S (fIx a))) + (bH S (fIx a))) + (pV S (fIx st) 19)) (((((bD S (fIx b)) + (fMx ((pV S (fIx st) 18) - (bH S (fIx sg))) (pV S (fIx st) 16))) + (bH S (fIx sg))) + (bD S (fIx sg))) + (pV S (fIx st) 19))) (g_B (n := 3) htb wd613 wd3 wd610 (by decide +kernel) ⟨Nat.le_of_ble_eq_true rfl, Nat.le_of_ble_eq_true rfl⟩) (htb _ wd612) (htb _ ws26) hE hP hS hT.1 rfl rfl rfl (Nat.le_of_ble_eq_true rfl) dX4_limits_309 ⟨Nat.le_of_ble_eq_true rfl, Nat.le_of_ble_eq_true rfl⟩ (fun v9 M9 H locs hpo hP hz hS => ?_) (fun x9 E9 cell9 H9 locs9 hE9 => hE9.elim)
                have hle0 := hle
                obtain ⟨rfl, hRn, hkn⟩ := hpo
                obtain ⟨M_32, hM_32⟩ : ∃ z9 : mw_M, z9 = M9 := ⟨_, rfl⟩
                rw [← hM_32] at hP hRn hkn
                have hk := md_keeps.tr hk hkn
                have hRn : md_R G o A M_32 0 (nI (fSz (fIx st))) (fs_push S ((fMx (fMx (bW S (fIx b)) (bW S (fIx a))) (bW S (fIx sg))), (((((bH S (fIx b)) + (fMx ((pV S (fIx st) 17) - (bD S (fIx a))) (pV S (fIx st) 15))) + (bD S (fIx a))) + (bH S (fIx a))) + (pV S (fIx st) 19)), (((((bD S (fIx b)) + (fMx ((pV S (fIx st) 18) - (bH S (fIx sg))) (pV S (fIx st) 16))) + (bH S (fIx sg))) + (bD S (fIx sg))) + (pV S (fIx st) 19)), [], 0, 0)) := hRn
                obtain ⟨np33, bg33, g33, hT, hB⟩ := id hRn
                rw [sN_push] at hT
                have hT : md_at G o A M_32 0 (sSp S) (sSh S) (nI (sN S + 1)) (nI np33) (nI (fSz (fIx st))) g33 := hT
                have hle : sN S + 1 ≤ 120 := by have := hB.1; rw [sN_push] at this; exact this
                refine W.eq (g2 := F0 m 312 ls [.int (nI (sN S))]) rfl ?_
                refine lv_istore (lv' := [(10, .int (nI (sN S))), (9, .int (((((bD S (fIx b)) + (fMx ((pV S (fIx st) 18) - (bH S (fIx sg))) (pV S (fIx st) 16))) + (bH S (fIx sg))) + (bD S (fIx sg))) + (pV S (fIx st) 19))), (8, .int (((((bH S (fIx b)) + (fMx ((pV S (fIx st) 17) - (bD S (fIx a))) (pV S (fIx st) 15))) + (bD S (fIx a))) + (bH S (fIx a))) + (pV S (fIx st) 19))), (7, .int (fMx ((pV S (fIx st) 18) - (bH S (fIx sg))) (pV S (fIx st) 16))), (6, .int (fMx ((pV S (fIx st) 17) - (bD S (fIx a))) (pV S (fIx st) 15))), (5, .int (fMx (fMx (bW S (fIx b)) (bW S (fIx a))) (bW S (fIx sg)))), (0, .ref o), (1, .int (nI (fIx st))), (2, .int (nI (fIx b))), (3, .int (nI (fIx a))), (4, .int (nI (fIx sg)))]) hx hb dX4_limits_312 hl (by decide) rfl (fun ls hl => ?_)
                refine lv_iload_n hx hb dX4_limits_314 rfl (lv_at hl 9 rfl) ?_
                refine lv_iconst (v := (-1)) hx hb dX4_limits_315 (by decide) ?_
                refine lv_icmp_eq (tgt := 352) hx hb dX4_limits_316 (by decide) (fun c_34 => absurd c_34 hn_a) (fun c_34 => ?_)
                refine lv_aload_n hx hb dX4_limits_319 rfl (lv_at hl 6 rfl) ?_
                refine lv_iload_n hx hb dX4_limits_320 rfl (lv_at hl 9 rfl) ?_
                refine lv_iload hx hb dX4_limits_321 (lv_at hl 5 rfl) ?_
                refine lv_aload_n hx hb dX4_limits_323 rfl (lv_at hl 6 rfl) ?_
                refine mw_get (D := gD G) (ci := 4) (v := .ref (A 1)) (C := RX4) (T := TX4) (N := 21) hx hb htb inX4 hown hK hP hT.1 rfl 5 (by decide) (htb _ wd529) (fun _ h9 => h9) rfl dX4_limits_324 ?_
                refine lv_iload_n hx hb dX4_limits_327 rfl (lv_at hl 9 rfl) ?_
                refine mw_iald hx hb hK hP 0 (show M_32 (A 1) = some (.inl (gI G, 120, .inl (g33 1))) from hT.2.1 1 (by decide)) rfl (by exact vp_in_nI (show (fIx a) < 120 by have := hle; omega) (by decide)) dX4_limits_328 ?_
                refine W.eq (g2 := F0 m 329 ls [.int (bW S (fIx a)), .int (fMx (fMx (bW S (fIx b)) (bW S (fIx a))) (bW S (fIx sg))), .int (nI (fIx a)), .ref o]) (by rw [nI_clamp (show (fIx a) < 2 ^ 31 by have := hle; omega), hB.W (show (fIx a) < sN (fs_push S ((fMx (fMx (bW S (fIx b)) (bW S (fIx a))) (bW S (fIx sg))), (((((bH S (fIx b)) + (fMx ((pV S (fIx st) 17) - (bD S (fIx a))) (pV S (fIx st) 15))) + (bD S (fIx a))) + (bH S (fIx a))) + (pV S (fIx st) 19)), (((((bD S (fIx b)) + (fMx ((pV S (fIx st) 18) - (bH S (fIx sg))) (pV S (fIx st) 16))) + (bH S (fIx sg))) + (bD S (fIx sg))) + (pV S (fIx st) 19)), [], 0, 0)) by rw [sN_push]; omega), bW_push _ h_a]) ?_
                refine lv_isub hx hb dX4_limits_329 ?_
                refine mw_callS (As := [.int ((fMx (fMx (bW S (fIx b)) (bW S (fIx a))) (bW S (fIx sg))) - (bW S (fIx a)))]) (rest := [.int (nI (fIx a)), .ref o]) hx hb hml hown hl (kX4_half l htr G H.size M_32 ((fMx (fMx (bW S (fIx b)) (bW S (fIx a))) (bW S (fIx sg))) - (bW S (fIx a)))) (g_B (n := 1) htb wd682 wd3 wd680 (by decide +kernel) ⟨Nat.le_of_ble_eq_true rfl, Nat.le_of_ble_eq_true rfl⟩) (htb _ wd681) hE hP hS rfl rfl (Nat.le_of_ble_eq_true rfl) dX4_limits_330 ⟨Nat.le_of_ble_eq_true rfl, Nat.le_of_ble_eq_true rfl⟩ (fun v9 M9 H locs hpo hP hz hS => ?_) (fun x9 E9 cell9 H9 locs9 hE9 => hE9.elim)
                obtain ⟨rfl, rfl⟩ := hpo
                refine W.eq (g2 := F0 m 333 ls [.int (fHf ((fMx (fMx (bW S (fIx b)) (bW S (fIx a))) (bW S (fIx sg))) - (bW S (fIx a)))), .int (nI (fIx a)), .ref o]) rfl ?_
                refine lv_aload_n hx hb dX4_limits_333 rfl (lv_at hl 6 rfl) ?_
                refine mw_get (D := gD G) (ci := 4) (v := .ref (A 2)) (C := RX4) (T := TX4) (N := 21) hx hb htb inX4 hown hK hP hT.1 rfl 6 (by decide) (htb _ wd530) (fun _ h9 => h9) rfl dX4_limits_334 ?_
                refine lv_iload_n hx hb dX4_limits_337 rfl (lv_at hl 8 rfl) ?_
                refine mw_iald hx hb hK hP 0 (show M_32 (A 2) = some (.inl (gI G, 120, .inl (g33 2))) from hT.2.1 2 (by decide)) rfl (by exact vp_in_nI (show (fIx b) < 120 by have := hle; omega) (by decide)) dX4_limits_338 ?_
                refine W.eq (g2 := F0 m 339 ls [.int (bH S (fIx b)), .int (fHf ((fMx (fMx (bW S (fIx b)) (bW S (fIx a))) (bW S (fIx sg))) - (bW S (fIx a)))), .int (nI (fIx a)), .ref o]) (by rw [nI_clamp (show (fIx b) < 2 ^ 31 by have := hle; omega), hB.H (show (fIx b) < sN (fs_push S ((fMx (fMx (bW S (fIx b)) (bW S (fIx a))) (bW S (fIx sg))), (((((bH S (fIx b)) + (fMx ((pV S (fIx st) 17) - (bD S (fIx a))) (pV S (fIx st) 15))) + (bD S (fIx a))) + (bH S (fIx a))) + (pV S (fIx st) 19)), (((((bD S (fIx b)) + (fMx ((pV S (fIx st) 18) - (bH S (fIx sg))) (pV S (fIx st) 16))) + (bH S (fIx sg))) + (bD S (fIx sg))) + (pV S (fIx st) 19)), [], 0, 0)) by rw [sN_push]; omega), bH_push _ h_b]) ?_
                refine lv_iload hx hb dX4_limits_339 (lv_at hl 4 rfl) ?_
                refine lv_iadd hx hb dX4_limits_341 ?_
                refine lv_aload_n hx hb dX4_limits_342 rfl (lv_at hl 6 rfl) ?_
                refine mw_get (D := gD G) (ci := 4) (v := .ref (A 3)) (C := RX4) (T := TX4) (N := 21) hx hb htb inX4 hown hK hP hT.1 rfl 7 (by decide) (htb _ wd531) (fun _ h9 => h9) rfl dX4_limits_343 ?_
                refine lv_iload_n hx hb dX4_limits_346 rfl (lv_at hl 9 rfl) ?_
                refine mw_iald hx hb hK hP 0 (show M_32 (A 3) = some (.inl (gI G, 120, .inl (g33 3))) from hT.2.1 3 (by decide)) rfl (by exact vp_in_nI (show (fIx a) < 120 by have := hle; omega) (by decide)) dX4_limits_347 ?_
                refine W.eq (g2 := F0 m 348 ls [.int (bD S (fIx a)), .int ((bH S (fIx b)) + (fMx ((pV S (fIx st) 17) - (bD S (fIx a))) (pV S (fIx st) 15))), .int (fHf ((fMx (fMx (bW S (fIx b)) (bW S (fIx a))) (bW S (fIx sg))) - (bW S (fIx a)))), .int (nI (fIx a)), .ref o]) (by rw [nI_clamp (show (fIx a) < 2 ^ 31 by have := hle; omega), hB.D (show (fIx a) < sN (fs_push S ((fMx (fMx (bW S (fIx b)) (bW S (fIx a))) (bW S (fIx sg))), (((((bH S (fIx b)) + (fMx ((pV S (fIx st) 17) - (bD S (fIx a))) (pV S (fIx st) 15))) + (bD S (fIx a))) + (bH S (fIx a))) + (pV S (fIx st) 19)), (((((bD S (fIx b)) + (fMx ((pV S (fIx st) 18) - (bH S (fIx sg))) (pV S (fIx st) 16))) + (bH S (fIx sg))) + (bD S (fIx sg))) + (pV S (fIx st) 19)), [], 0, 0)) by rw [sN_push]; omega), bD_push _ h_a]) ?_
                refine lv_iadd hx hb dX4_limits_348 ?_
                refine mw_callV (C := RX4) (As := [.int (nI (fIx a)), .int (fHf ((fMx (fMx (bW S (fIx b)) (bW S (fIx a))) (bW S (fIx sg))) - (bW S (fIx a)))), .int (((bH S (fIx b)) + (fMx ((pV S (fIx st) 17) - (bD S (fIx a))) (pV S (fIx st) 15))) + (bD S (fIx a)))]) (rest := []) hx hb hml hown hl (kX4_lay l htr G H.size M_32 o A 0 (nI (fSz (fIx st))) S (fMx (fMx (bW S (fIx b)) (bW S (fIx a))) (bW S (fIx sg))) (((((bH S (fIx b)) + (fMx ((pV S (fIx st) 17) - (bD S (fIx a))) (pV S (fIx st) 15))) + (bD S (fIx a))) + (bH S (fIx a))) + (pV S (fIx st) 19)) (((((bD S (fIx b)) + (fMx ((pV S (fIx st) 18) - (bH S (fIx sg))) (pV S (fIx st) 16))) + (bH S (fIx sg))) + (bD S (fIx sg))) + (pV S (fIx st) 19)) ([]) 0 0 (md_R.of (np := np33) hT hB : md_R G o A M_32 0 (nI (fSz (fIx st))) (fs_push S ((fMx (fMx (bW S (fIx b)) (bW S (fIx a))) (bW S (fIx sg))), (((((bH S (fIx b)) + (fMx ((pV S (fIx st) 17) - (bD S (fIx a))) (pV S (fIx st) 15))) + (bD S (fIx a))) + (bH S (fIx a))) + (pV S (fIx st) 19)), (((((bD S (fIx b)) + (fMx ((pV S (fIx st) 18) - (bH S (fIx sg))) (pV S (fIx st) 16))) + (bH S (fIx sg))) + (bD S (fIx sg))) + (pV S (fIx st) 19)), [], 0, 0))) (by simp) (nI (fIx a)) (fHf ((fMx (fMx (bW S (fIx b)) (bW S (fIx a))) (bW S (fIx sg))) - (bW S (fIx a)))) (((bH S (fIx b)) + (fMx ((pV S (fIx st) 17) - (bD S (fIx a))) (pV S (fIx st) 15))) + (bD S (fIx a)))) (g_B (n := 3) htb wd661 wd3 wd658 (by decide +kernel) ⟨Nat.le_of_ble_eq_true rfl, Nat.le_of_ble_eq_true rfl⟩) (htb _ wd660) (htb _ ws34) hE hP hS hT.1 rfl rfl rfl (Nat.le_of_ble_eq_true rfl) dX4_limits_349 ⟨Nat.le_of_ble_eq_true rfl, Nat.le_of_ble_eq_true rfl⟩ (fun v9 M9 H locs hpo hP hz hS => ?_) (fun x9 E9 cell9 H9 locs9 hE9 => hE9.elim)
                obtain ⟨rfl, hRn, hkn⟩ := hpo
                obtain ⟨M_35, hM_35⟩ : ∃ z9 : mw_M, z9 = M9 := ⟨_, rfl⟩
                rw [← hM_35] at hP hRn hkn
                have hk := md_keeps.tr hk hkn
                have hRn : md_R G o A M_35 0 (nI (fSz (fIx st))) (fs_push S ((fMx (fMx (bW S (fIx b)) (bW S (fIx a))) (bW S (fIx sg))), (((((bH S (fIx b)) + (fMx ((pV S (fIx st) 17) - (bD S (fIx a))) (pV S (fIx st) 15))) + (bD S (fIx a))) + (bH S (fIx a))) + (pV S (fIx st) 19)), (((((bD S (fIx b)) + (fMx ((pV S (fIx st) 18) - (bH S (fIx sg))) (pV S (fIx st) 16))) + (bH S (fIx sg))) + (bD S (fIx sg))) + (pV S (fIx st) 19)), [(nI (fIx a)), (fHf ((fMx (fMx (bW S (fIx b)) (bW S (fIx a))) (bW S (fIx sg))) - (bW S (fIx a)))), (((bH S (fIx b)) + (fMx ((pV S (fIx st) 17) - (bD S (fIx a))) (pV S (fIx st) 15))) + (bD S (fIx a)))], 0, 0)) := hRn
                obtain ⟨np36, bg36, g36, hT, hB⟩ := id hRn
                rw [sN_push] at hT
                have hT : md_at G o A M_35 0 (sSp S) (sSh S) (nI (sN S + 1)) (nI np36) (nI (fSz (fIx st))) g36 := hT
                refine W.eq (g2 := F0 m 352 ls []) rfl ?_
                refine lv_aload_n hx hb dX4_limits_352 rfl (lv_at hl 6 rfl) ?_
                refine lv_iload_n hx hb dX4_limits_353 rfl (lv_at hl 8 rfl) ?_
                refine lv_iload hx hb dX4_limits_354 (lv_at hl 5 rfl) ?_
                refine lv_aload_n hx hb dX4_limits_356 rfl (lv_at hl 6 rfl) ?_
                refine mw_get (D := gD G) (ci := 4) (v := .ref (A 1)) (C := RX4) (T := TX4) (N := 21) hx hb htb inX4 hown hK hP hT.1 rfl 5 (by decide) (htb _ wd529) (fun _ h9 => h9) rfl dX4_limits_357 ?_
                refine lv_iload_n hx hb dX4_limits_360 rfl (lv_at hl 8 rfl) ?_
                refine mw_iald hx hb hK hP 0 (show M_35 (A 1) = some (.inl (gI G, 120, .inl (g36 1))) from hT.2.1 1 (by decide)) rfl (by exact vp_in_nI (show (fIx b) < 120 by have := hle; omega) (by decide)) dX4_limits_361 ?_
                refine W.eq (g2 := F0 m 362 ls [.int (bW S (fIx b)), .int (fMx (fMx (bW S (fIx b)) (bW S (fIx a))) (bW S (fIx sg))), .int (nI (fIx b)), .ref o]) (by rw [nI_clamp (show (fIx b) < 2 ^ 31 by have := hle; omega), hB.W (show (fIx b) < sN (fs_push S ((fMx (fMx (bW S (fIx b)) (bW S (fIx a))) (bW S (fIx sg))), (((((bH S (fIx b)) + (fMx ((pV S (fIx st) 17) - (bD S (fIx a))) (pV S (fIx st) 15))) + (bD S (fIx a))) + (bH S (fIx a))) + (pV S (fIx st) 19)), (((((bD S (fIx b)) + (fMx ((pV S (fIx st) 18) - (bH S (fIx sg))) (pV S (fIx st) 16))) + (bH S (fIx sg))) + (bD S (fIx sg))) + (pV S (fIx st) 19)), [(nI (fIx a)), (fHf ((fMx (fMx (bW S (fIx b)) (bW S (fIx a))) (bW S (fIx sg))) - (bW S (fIx a)))), (((bH S (fIx b)) + (fMx ((pV S (fIx st) 17) - (bD S (fIx a))) (pV S (fIx st) 15))) + (bD S (fIx a)))], 0, 0)) by rw [sN_push]; omega), bW_push _ h_b]) ?_
                refine lv_isub hx hb dX4_limits_362 ?_
                refine mw_callS (As := [.int ((fMx (fMx (bW S (fIx b)) (bW S (fIx a))) (bW S (fIx sg))) - (bW S (fIx b)))]) (rest := [.int (nI (fIx b)), .ref o]) hx hb hml hown hl (kX4_half l htr G H.size M_35 ((fMx (fMx (bW S (fIx b)) (bW S (fIx a))) (bW S (fIx sg))) - (bW S (fIx b)))) (g_B (n := 1) htb wd682 wd3 wd680 (by decide +kernel) ⟨Nat.le_of_ble_eq_true rfl, Nat.le_of_ble_eq_true rfl⟩) (htb _ wd681) hE hP hS rfl rfl (Nat.le_of_ble_eq_true rfl) dX4_limits_363 ⟨Nat.le_of_ble_eq_true rfl, Nat.le_of_ble_eq_true rfl⟩ (fun v9 M9 H locs hpo hP hz hS => ?_) (fun x9 E9 cell9 H9 locs9 hE9 => hE9.elim)
                obtain ⟨rfl, rfl⟩ := hpo
                refine W.eq (g2 := F0 m 366 ls [.int (fHf ((fMx (fMx (bW S (fIx b)) (bW S (fIx a))) (bW S (fIx sg))) - (bW S (fIx b)))), .int (nI (fIx b)), .ref o]) rfl ?_
                refine lv_iconst (v := 0) hx hb dX4_limits_366 (by decide) ?_
                refine mw_callV (C := RX4) (As := [.int (nI (fIx b)), .int (fHf ((fMx (fMx (bW S (fIx b)) (bW S (fIx a))) (bW S (fIx sg))) - (bW S (fIx b)))), .int 0]) (rest := []) hx hb hml hown hl (kX4_lay l htr G H.size M_35 o A 0 (nI (fSz (fIx st))) S (fMx (fMx (bW S (fIx b)) (bW S (fIx a))) (bW S (fIx sg))) (((((bH S (fIx b)) + (fMx ((pV S (fIx st) 17) - (bD S (fIx a))) (pV S (fIx st) 15))) + (bD S (fIx a))) + (bH S (fIx a))) + (pV S (fIx st) 19)) (((((bD S (fIx b)) + (fMx ((pV S (fIx st) 18) - (bH S (fIx sg))) (pV S (fIx st) 16))) + (bH S (fIx sg))) + (bD S (fIx sg))) + (pV S (fIx st) 19)) ([(nI (fIx a)), (fHf ((fMx (fMx (bW S (fIx b)) (bW S (fIx a))) (bW S (fIx sg))) - (bW S (fIx a)))), (((bH S (fIx b)) + (fMx ((pV S (fIx st) 17) - (bD S (fIx a))) (pV S (fIx st) 15))) + (bD S (fIx a)))]) 0 0 (md_R.of (np := np36) hT hB : md_R G o A M_35 0 (nI (fSz (fIx st))) (fs_push S ((fMx (fMx (bW S (fIx b)) (bW S (fIx a))) (bW S (fIx sg))), (((((bH S (fIx b)) + (fMx ((pV S (fIx st) 17) - (bD S (fIx a))) (pV S (fIx st) 15))) + (bD S (fIx a))) + (bH S (fIx a))) + (pV S (fIx st) 19)), (((((bD S (fIx b)) + (fMx ((pV S (fIx st) 18) - (bH S (fIx sg))) (pV S (fIx st) 16))) + (bH S (fIx sg))) + (bD S (fIx sg))) + (pV S (fIx st) 19)), [(nI (fIx a)), (fHf ((fMx (fMx (bW S (fIx b)) (bW S (fIx a))) (bW S (fIx sg))) - (bW S (fIx a)))), (((bH S (fIx b)) + (fMx ((pV S (fIx st) 17) - (bD S (fIx a))) (pV S (fIx st) 15))) + (bD S (fIx a)))], 0, 0))) (by simp) (nI (fIx b)) (fHf ((fMx (fMx (bW S (fIx b)) (bW S (fIx a))) (bW S (fIx sg))) - (bW S (fIx b)))) 0) (g_B (n := 3) htb wd661 wd3 wd658 (by decide +kernel) ⟨Nat.le_of_ble_eq_true rfl, Nat.le_of_ble_eq_true rfl⟩) (htb _ wd660) (htb _ ws34) hE hP hS hT.1 rfl rfl rfl (Nat.le_of_ble_eq_true rfl) dX4_limits_367 ⟨Nat.le_of_ble_eq_true rfl, Nat.le_of_ble_eq_true rfl⟩ (fun v9 M9 H locs hpo hP hz hS => ?_) (fun x9 E9 cell9 H9 locs9 hE9 => hE9.elim)
                obtain ⟨rfl, hRn, hkn⟩ := hpo
                obtain ⟨M_37, hM_37⟩ : ∃ z9 : mw_M, z9 = M9 := ⟨_, rfl⟩
                rw [← hM_37] at hP hRn hkn
                have hk := md_keeps.tr hk hkn
                have hRn : md_R G o A M_37 0 (nI (fSz (fIx st))) (fs_push S ((fMx (fMx (bW S (fIx b)) (bW S (fIx a))) (bW S (fIx sg))), (((((bH S (fIx b)) + (fMx ((pV S (fIx st) 17) - (bD S (fIx a))) (pV S (fIx st) 15))) + (bD S (fIx a))) + (bH S (fIx a))) + (pV S (fIx st) 19)), (((((bD S (fIx b)) + (fMx ((pV S (fIx st) 18) - (bH S (fIx sg))) (pV S (fIx st) 16))) + (bH S (fIx sg))) + (bD S (fIx sg))) + (pV S (fIx st) 19)), [(nI (fIx a)), (fHf ((fMx (fMx (bW S (fIx b)) (bW S (fIx a))) (bW S (fIx sg))) - (bW S (fIx a)))), (((bH S (fIx b)) + (fMx ((pV S (fIx st) 17) - (bD S (fIx a))) (pV S (fIx st) 15))) + (bD S (fIx a))), (nI (fIx b)), (fHf ((fMx (fMx (bW S (fIx b)) (bW S (fIx a))) (bW S (fIx sg))) - (bW S (fIx b)))), 0], 0, 0)) := hRn
                obtain ⟨np38, bg38, g38, hT, hB⟩ := id hRn
                rw [sN_push] at hT
                have hT : md_at G o A M_37 0 (sSp S) (sSh S) (nI (sN S + 1)) (nI np38) (nI (fSz (fIx st))) g38 := hT
                refine W.eq (g2 := F0 m 370 ls []) rfl ?_
                refine lv_iload hx hb dX4_limits_370 (lv_at hl 10 rfl) ?_
                refine lv_iconst (v := (-1)) hx hb dX4_limits_372 (by decide) ?_
                refine lv_icmp_eq (tgt := 413) hx hb dX4_limits_373 (by decide) (fun c_39 => absurd c_39 hn_sg) (fun c_39 => ?_)
                refine lv_aload_n hx hb dX4_limits_376 rfl (lv_at hl 6 rfl) ?_
                refine lv_iload hx hb dX4_limits_377 (lv_at hl 10 rfl) ?_
                refine lv_iload hx hb dX4_limits_379 (lv_at hl 5 rfl) ?_
                refine lv_aload_n hx hb dX4_limits_381 rfl (lv_at hl 6 rfl) ?_
                refine mw_get (D := gD G) (ci := 4) (v := .ref (A 1)) (C := RX4) (T := TX4) (N := 21) hx hb htb inX4 hown hK hP hT.1 rfl 5 (by decide) (htb _ wd529) (fun _ h9 => h9) rfl dX4_limits_382 ?_
                refine lv_iload hx hb dX4_limits_385 (lv_at hl 10 rfl) ?_
                refine mw_iald hx hb hK hP 0 (show M_37 (A 1) = some (.inl (gI G, 120, .inl (g38 1))) from hT.2.1 1 (by decide)) rfl (by exact vp_in_nI (show (fIx sg) < 120 by have := hle; omega) (by decide)) dX4_limits_387 ?_
                refine W.eq (g2 := F0 m 388 ls [.int (bW S (fIx sg)), .int (fMx (fMx (bW S (fIx b)) (bW S (fIx a))) (bW S (fIx sg))), .int (nI (fIx sg)), .ref o]) (by rw [nI_clamp (show (fIx sg) < 2 ^ 31 by have := hle; omega), hB.W (show (fIx sg) < sN (fs_push S ((fMx (fMx (bW S (fIx b)) (bW S (fIx a))) (bW S (fIx sg))), (((((bH S (fIx b)) + (fMx ((pV S (fIx st) 17) - (bD S (fIx a))) (pV S (fIx st) 15))) + (bD S (fIx a))) + (bH S (fIx a))) + (pV S (fIx st) 19)), (((((bD S (fIx b)) + (fMx ((pV S (fIx st) 18) - (bH S (fIx sg))) (pV S (fIx st) 16))) + (bH S (fIx sg))) + (bD S (fIx sg))) + (pV S (fIx st) 19)), [(nI (fIx a)), (fHf ((fMx (fMx (bW S (fIx b)) (bW S (fIx a))) (bW S (fIx sg))) - (bW S (fIx a)))), (((bH S (fIx b)) + (fMx ((pV S (fIx st) 17) - (bD S (fIx a))) (pV S (fIx st) 15))) + (bD S (fIx a))), (nI (fIx b)), (fHf ((fMx (fMx (bW S (fIx b)) (bW S (fIx a))) (bW S (fIx sg))) - (bW S (fIx b)))), 0], 0, 0)) by rw [sN_push]; omega), bW_push _ h_sg]) ?_
                refine lv_isub hx hb dX4_limits_388 ?_
                refine mw_callS (As := [.int ((fMx (fMx (bW S (fIx b)) (bW S (fIx a))) (bW S (fIx sg))) - (bW S (fIx sg)))]) (rest := [.int (nI (fIx sg)), .ref o]) hx hb hml hown hl (kX4_half l htr G H.size M_37 ((fMx (fMx (bW S (fIx b)) (bW S (fIx a))) (bW S (fIx sg))) - (bW S (fIx sg)))) (g_B (n := 1) htb wd682 wd3 wd680 (by decide +kernel) ⟨Nat.le_of_ble_eq_true rfl, Nat.le_of_ble_eq_true rfl⟩) (htb _ wd681) hE hP hS rfl rfl (Nat.le_of_ble_eq_true rfl) dX4_limits_389 ⟨Nat.le_of_ble_eq_true rfl, Nat.le_of_ble_eq_true rfl⟩ (fun v9 M9 H locs hpo hP hz hS => ?_) (fun x9 E9 cell9 H9 locs9 hE9 => hE9.elim)
                obtain ⟨rfl, rfl⟩ := hpo
                refine W.eq (g2 := F0 m 392 ls [.int (fHf ((fMx (fMx (bW S (fIx b)) (bW S (fIx a))) (bW S (fIx sg))) - (bW S (fIx sg)))), .int (nI (fIx sg)), .ref o]) rfl ?_
                refine lv_aload_n hx hb dX4_limits_392 rfl (lv_at hl 6 rfl) ?_
                refine mw_get (D := gD G) (ci := 4) (v := .ref (A 3)) (C := RX4) (T := TX4) (N := 21) hx hb htb inX4 hown hK hP hT.1 rfl 7 (by decide) (htb _ wd531) (fun _ h9 => h9) rfl dX4_limits_393 ?_
                refine lv_iload_n hx hb dX4_limits_396 rfl (lv_at hl 8 rfl) ?_
                refine mw_iald hx hb hK hP 0 (show M_37 (A 3) = some (.inl (gI G, 120, .inl (g38 3))) from hT.2.1 3 (by decide)) rfl (by exact vp_in_nI (show (fIx b) < 120 by have := hle; omega) (by decide)) dX4_limits_397 ?_
                refine W.eq (g2 := F0 m 398 ls [.int (bD S (fIx b)), .int (fHf ((fMx (fMx (bW S (fIx b)) (bW S (fIx a))) (bW S (fIx sg))) - (bW S (fIx sg)))), .int (nI (fIx sg)), .ref o]) (by rw [nI_clamp (show (fIx b) < 2 ^ 31 by have := hle; omega), hB.D (show (fIx b) < sN (fs_push S ((fMx (fMx (bW S (fIx b)) (bW S (fIx a))) (bW S (fIx sg))), (((((bH S (fIx b)) + (fMx ((pV S (fIx st) 17) - (bD S (fIx a))) (pV S (fIx st) 15))) + (bD S (fIx a))) + (bH S (fIx a))) + (pV S (fIx st) 19)), (((((bD S (fIx b)) + (fMx ((pV S (fIx st) 18) - (bH S (fIx sg))) (pV S (fIx st) 16))) + (bH S (fIx sg))) + (bD S (fIx sg))) + (pV S (fIx st) 19)), [(nI (fIx a)), (fHf ((fMx (fMx (bW S (fIx b)) (bW S (fIx a))) (bW S (fIx sg))) - (bW S (fIx a)))), (((bH S (fIx b)) + (fMx ((pV S (fIx st) 17) - (bD S (fIx a))) (pV S (fIx st) 15))) + (bD S (fIx a))), (nI (fIx b)), (fHf ((fMx (fMx (bW S (fIx b)) (bW S (fIx a))) (bW S (fIx sg))) - (bW S (fIx b)))), 0], 0, 0)) by rw [sN_push]; omega), bD_push _ h_b]) ?_
                refine lv_iload hx hb dX4_limits_398 (lv_at hl 3 rfl) ?_
                refine lv_iadd hx hb dX4_limits_400 ?_
                refine lv_aload_n hx hb dX4_limits_401 rfl (lv_at hl 6 rfl) ?_
                refine mw_get (D := gD G) (ci := 4) (v := .ref (A 2)) (C := RX4) (T := TX4) (N := 21) hx hb htb inX4 hown hK hP hT.1 rfl 6 (by decide) (htb _ wd530) (fun _ h9 => h9) rfl dX4_limits_402 ?_
                refine lv_iload hx hb dX4_limits_405 (lv_at hl 10 rfl) ?_
                refine mw_iald hx hb hK hP 0 (show M_37 (A 2) = some (.inl (gI G, 120, .inl (g38 2))) from hT.2.1 2 (by decide)) rfl (by exact vp_in_nI (show (fIx sg) < 120 by have := hle; omega) (by decide)) dX4_limits_407 ?_
                refine W.eq (g2 := F0 m 408 ls [.int (bH S (fIx sg)), .int ((bD S (fIx b)) + (fMx ((pV S (fIx st) 18) - (bH S (fIx sg))) (pV S (fIx st) 16))), .int (fHf ((fMx (fMx (bW S (fIx b)) (bW S (fIx a))) (bW S (fIx sg))) - (bW S (fIx sg)))), .int (nI (fIx sg)), .ref o]) (by rw [nI_clamp (show (fIx sg) < 2 ^ 31 by have := hle; omega), hB.H (show (fIx sg) < sN (fs_push S ((fMx (fMx (bW S (fIx b)) (bW S (fIx a))) (bW S (fIx sg))), (((((bH S (fIx b)) + (fMx ((pV S (fIx st) 17) - (bD S (fIx a))) (pV S (fIx st) 15))) + (bD S (fIx a))) + (bH S (fIx a))) + (pV S (fIx st) 19)), (((((bD S (fIx b)) + (fMx ((pV S (fIx st) 18) - (bH S (fIx sg))) (pV S (fIx st) 16))) + (bH S (fIx sg))) + (bD S (fIx sg))) + (pV S (fIx st) 19)), [(nI (fIx a)), (fHf ((fMx (fMx (bW S (fIx b)) (bW S (fIx a))) (bW S (fIx sg))) - (bW S (fIx a)))), (((bH S (fIx b)) + (fMx ((pV S (fIx st) 17) - (bD S (fIx a))) (pV S (fIx st) 15))) + (bD S (fIx a))), (nI (fIx b)), (fHf ((fMx (fMx (bW S (fIx b)) (bW S (fIx a))) (bW S (fIx sg))) - (bW S (fIx b)))), 0], 0, 0)) by rw [sN_push]; omega), bH_push _ h_sg]) ?_
                refine lv_iadd hx hb dX4_limits_408 ?_
                refine lv_ineg hx hb dX4_limits_409 ?_
                refine mw_callV (C := RX4) (As := [.int (nI (fIx sg)), .int (fHf ((fMx (fMx (bW S (fIx b)) (bW S (fIx a))) (bW S (fIx sg))) - (bW S (fIx sg)))), .int (-(((bD S (fIx b)) + (fMx ((pV S (fIx st) 18) - (bH S (fIx sg))) (pV S (fIx st) 16))) + (bH S (fIx sg))))]) (rest := []) hx hb hml hown hl (kX4_lay l htr G H.size M_37 o A 0 (nI (fSz (fIx st))) S (fMx (fMx (bW S (fIx b)) (bW S (fIx a))) (bW S (fIx sg))) (((((bH S (fIx b)) + (fMx ((pV S (fIx st) 17) - (bD S (fIx a))) (pV S (fIx st) 15))) + (bD S (fIx a))) + (bH S (fIx a))) + (pV S (fIx st) 19)) (((((bD S (fIx b)) + (fMx ((pV S (fIx st) 18) - (bH S (fIx sg))) (pV S (fIx st) 16))) + (bH S (fIx sg))) + (bD S (fIx sg))) + (pV S (fIx st) 19)) ([(nI (fIx a)), (fHf ((fMx (fMx (bW S (fIx b)) (bW S (fIx a))) (bW S (fIx sg))) - (bW S (fIx a)))), (((bH S (fIx b)) + (fMx ((pV S (fIx st) 17) - (bD S (fIx a))) (pV S (fIx st) 15))) + (bD S (fIx a))), (nI (fIx b)), (fHf ((fMx (fMx (bW S (fIx b)) (bW S (fIx a))) (bW S (fIx sg))) - (bW S (fIx b)))), 0]) 0 0 (md_R.of (np := np38) hT hB : md_R G o A M_37 0 (nI (fSz (fIx st))) (fs_push S ((fMx (fMx (bW S (fIx b)) (bW S (fIx a))) (bW S (fIx sg))), (((((bH S (fIx b)) + (fMx ((pV S (fIx st) 17) - (bD S (fIx a))) (pV S (fIx st) 15))) + (bD S (fIx a))) + (bH S (fIx a))) + (pV S (fIx st) 19)), (((((bD S (fIx b)) + (fMx ((pV S (fIx st) 18) - (bH S (fIx sg))) (pV S (fIx st) 16))) + (bH S (fIx sg))) + (bD S (fIx sg))) + (pV S (fIx st) 19)), [(nI (fIx a)), (fHf ((fMx (fMx (bW S (fIx b)) (bW S (fIx a))) (bW S (fIx sg))) - (bW S (fIx a)))), (((bH S (fIx b)) + (fMx ((pV S (fIx st) 17) - (bD S (fIx a))) (pV S (fIx st) 15))) + (bD S (fIx a))), (nI (fIx b)), (fHf ((fMx (fMx (bW S (fIx b)) (bW S (fIx a))) (bW S (fIx sg))) - (bW S (fIx b)))), 0], 0, 0))) (by simp) (nI (fIx sg)) (fHf ((fMx (fMx (bW S (fIx b)) (bW S (fIx a))) (bW S (fIx sg))) - (bW S (fIx sg)))) (-(((bD S (fIx b)) + (fMx ((pV S (fIx st) 18) - (bH S (fIx sg))) (pV S (fIx st) 16))) + (bH S (fIx sg))))) (g_B (n := 3) htb wd661 wd3 wd658 (by decide +kernel) ⟨Nat.le_of_ble_eq_true rfl, Nat.le_of_ble_eq_true rfl⟩) (htb _ wd660) (htb _ ws34) hE hP hS hT.1 rfl rfl rfl (Nat.le_of_ble_eq_true rfl) dX4_limits_410 ⟨Nat.le_of_ble_eq_true rfl, Nat.le_of_ble_eq_true rfl⟩ (fun v9 M9 H locs hpo hP hz hS => ?_) (fun x9 E9 cell9 H9 locs9 hE9 => hE9.elim)
                obtain ⟨rfl, hRn, hkn⟩ := hpo
                obtain ⟨M_40, hM_40⟩ : ∃ z9 : mw_M, z9 = M9 := ⟨_, rfl⟩
                rw [← hM_40] at hP hRn hkn
                have hk := md_keeps.tr hk hkn
                have hRn : md_R G o A M_40 0 (nI (fSz (fIx st))) (fs_push S ((fMx (fMx (bW S (fIx b)) (bW S (fIx a))) (bW S (fIx sg))), (((((bH S (fIx b)) + (fMx ((pV S (fIx st) 17) - (bD S (fIx a))) (pV S (fIx st) 15))) + (bD S (fIx a))) + (bH S (fIx a))) + (pV S (fIx st) 19)), (((((bD S (fIx b)) + (fMx ((pV S (fIx st) 18) - (bH S (fIx sg))) (pV S (fIx st) 16))) + (bH S (fIx sg))) + (bD S (fIx sg))) + (pV S (fIx st) 19)), [(nI (fIx a)), (fHf ((fMx (fMx (bW S (fIx b)) (bW S (fIx a))) (bW S (fIx sg))) - (bW S (fIx a)))), (((bH S (fIx b)) + (fMx ((pV S (fIx st) 17) - (bD S (fIx a))) (pV S (fIx st) 15))) + (bD S (fIx a))), (nI (fIx b)), (fHf ((fMx (fMx (bW S (fIx b)) (bW S (fIx a))) (bW S (fIx sg))) - (bW S (fIx b)))), 0, (nI (fIx sg)), (fHf ((fMx (fMx (bW S (fIx b)) (bW S (fIx a))) (bW S (fIx sg))) - (bW S (fIx sg)))), (-(((bD S (fIx b)) + (fMx ((pV S (fIx st) 18) - (bH S (fIx sg))) (pV S (fIx st) 16))) + (bH S (fIx sg))))], 0, 0)) := hRn
                obtain ⟨np41, bg41, g41, hT, hB⟩ := id hRn
                rw [sN_push] at hT
                have hT : md_at G o A M_40 0 (sSp S) (sSh S) (nI (sN S + 1)) (nI np41) (nI (fSz (fIx st))) g41 := hT
                refine W.eq (g2 := F0 m 413 ls []) rfl ?_
                refine lv_iload hx hb dX4_limits_413 (lv_at hl 0 rfl) ?_
                have hex : ex_lim S st b a sg = 0 := by rw [ex_lim, if_neg (fun z9 => z9 ⟨kb_5, kb_10, kb_12⟩), if_neg (fun z9 => z9 ⟨kb_17, kb_19⟩), if_neg (fun z9 => z9 kb_21)]
                have hre : fs_lm S (fIx st) (fIx b) a sg = ((fMx (fMx (bW S (fIx b)) (bW S (fIx a))) (bW S (fIx sg))), (((((bH S (fIx b)) + (fMx ((pV S (fIx st) 17) - (bD S (fIx a))) (pV S (fIx st) 15))) + (bD S (fIx a))) + (bH S (fIx a))) + (pV S (fIx st) 19)), (((((bD S (fIx b)) + (fMx ((pV S (fIx st) 18) - (bH S (fIx sg))) (pV S (fIx st) 16))) + (bH S (fIx sg))) + (bD S (fIx sg))) + (pV S (fIx st) 19)), [(nI (fIx a)), (fHf ((fMx (fMx (bW S (fIx b)) (bW S (fIx a))) (bW S (fIx sg))) - (bW S (fIx a)))), (((bH S (fIx b)) + (fMx ((pV S (fIx st) 17) - (bD S (fIx a))) (pV S (fIx st) 15))) + (bD S (fIx a))), (nI (fIx b)), (fHf ((fMx (fMx (bW S (fIx b)) (bW S (fIx a))) (bW S (fIx sg))) - (bW S (fIx b)))), 0, (nI (fIx sg)), (fHf ((fMx (fMx (bW S (fIx b)) (bW S (fIx a))) (bW S (fIx sg))) - (bW S (fIx sg)))), (-(((bD S (fIx b)) + (fMx ((pV S (fIx st) 18) - (bH S (fIx sg))) (pV S (fIx st) 16))) + (bH S (fIx sg))))], 0, 0) := by simp only [fs_lm, fs_lw, fs_la, fs_ls, if_neg c_18, if_neg c_20, if_neg c_27, List.nil_append, List.append_nil, List.cons_append, rg_1]; rw [← e_a, ← e_sg]
                exact mx_iret (v := (nI (sN S))) (M' := M_40) hx hb hr hlocks hP hS ⟨by rw [hex]; rfl, ⟨_, by rw [hex, if_pos rfl, hre]; exact (md_R.of (np := np41) hT hB : md_R G o A M_40 0 (nI (fSz (fIx st))) (fs_push S ((fMx (fMx (bW S (fIx b)) (bW S (fIx a))) (bW S (fIx sg))), (((((bH S (fIx b)) + (fMx ((pV S (fIx st) 17) - (bD S (fIx a))) (pV S (fIx st) 15))) + (bD S (fIx a))) + (bH S (fIx a))) + (pV S (fIx st) 19)), (((((bD S (fIx b)) + (fMx ((pV S (fIx st) 18) - (bH S (fIx sg))) (pV S (fIx st) 16))) + (bH S (fIx sg))) + (bD S (fIx sg))) + (pV S (fIx st) 19)), [(nI (fIx a)), (fHf ((fMx (fMx (bW S (fIx b)) (bW S (fIx a))) (bW S (fIx sg))) - (bW S (fIx a)))), (((bH S (fIx b)) + (fMx ((pV S (fIx st) 17) - (bD S (fIx a))) (pV S (fIx st) 15))) + (bD S (fIx a))), (nI (fIx b)), (fHf ((fMx (fMx (bW S (fIx b)) (bW S (fIx a))) (bW S (fIx sg))) - (bW S (fIx b)))), 0, (nI (fIx sg)), (fHf ((fMx (fMx (bW S (fIx b)) (bW S (fIx a))) (bW S (fIx sg))) - (bW S (fIx sg)))), (-(((bD S (fIx b)) + (fMx ((pV S (fIx st) 18) - (bH S (fIx sg))) (pV S (fIx st) 16))) + (bH S (fIx sg))))], 0, 0)))⟩, hk⟩ dX4_limits_415 (Nat.le_of_ble_eq_true rfl) (Nat.le_of_ble_eq_true rfl)
              · refine lv_iload hx hb dX4_limits_120 (lv_at hl 0 rfl) ?_
                refine lv_goto (tgt := 137) hx hb dX4_limits_122 (by decide) ?_
                refine lv_istore (lv' := [(5, .int (fMx (bW S (fIx b)) (bW S (fIx a)))), (0, .ref o), (1, .int (nI (fIx st))), (2, .int (nI (fIx b))), (3, .int (nI (fIx a))), (4, .int sg)]) hx hb dX4_limits_137 hl (by decide) rfl (fun ls hl => ?_)
                refine lv_iload_n hx hb dX4_limits_139 rfl (lv_at hl 4 rfl) ?_
                refine lv_iconst (v := (-1)) hx hb dX4_limits_140 (by decide) ?_
                refine lv_icmp_ne (tgt := 148) hx hb dX4_limits_141 (by decide) (fun c_42 => ?_) (fun c_42 => absurd c_42 hn_a)
                refine lv_aload_n hx hb dX4_limits_148 rfl (lv_at hl 1 rfl) ?_
                refine lv_bipush (v := 17) hx hb dX4_limits_149 (by decide) ?_
                refine mw_callV (C := RX4) (As := [.int 17]) (rest := []) hx hb hml hown hl (kX4_p l htr G H.size M_24 o A 0 S (fIx st) 17 h_st (by decide) (⟨np25, bg25, g25, hT, hB⟩ : md_R G o A M_24 0 (nI (fSz (fIx st))) S)) (g_B (n := 1) htb wd679 wd3 wd676 (by decide +kernel) ⟨Nat.le_of_ble_eq_true rfl, Nat.le_of_ble_eq_true rfl⟩) (htb _ wd678) (htb _ ws36) hE hP hS hT.1 rfl rfl rfl (Nat.le_of_ble_eq_true rfl) dX4_limits_151 ⟨Nat.le_of_ble_eq_true rfl, Nat.le_of_ble_eq_true rfl⟩ (fun v9 M9 H locs hpo hP hz hS => ?_) (fun x9 E9 cell9 H9 locs9 hE9 => hE9.elim)
                obtain ⟨rfl, rfl⟩ := hpo
                refine W.eq (g2 := F0 m 154 ls [.int (pV S (fIx st) 17)]) rfl ?_
                refine lv_aload_n hx hb dX4_limits_154 rfl (lv_at hl 1 rfl) ?_
                refine mw_get (D := gD G) (ci := 4) (v := .ref (A 3)) (C := RX4) (T := TX4) (N := 21) hx hb htb inX4 hown hK hP hT.1 rfl 7 (by decide) (htb _ wd531) (fun _ h9 => h9) rfl dX4_limits_155 ?_
                refine lv_iload_n hx hb dX4_limits_158 rfl (lv_at hl 4 rfl) ?_
                refine mw_iald hx hb hK hP 0 (show M_24 (A 3) = some (.inl (gI G, 120, .inl (g25 3))) from hT.2.1 3 (by decide)) rfl (by exact vp_in_nI (show (fIx a) < 120 by have := hle; omega) (by decide)) dX4_limits_159 ?_
                refine W.eq (g2 := F0 m 160 ls [.int (bD S (fIx a)), .int (pV S (fIx st) 17)]) (by rw [nI_clamp (show (fIx a) < 2 ^ 31 by have := hle; omega), hB.D h_a]) ?_
                refine lv_isub hx hb dX4_limits_160 ?_
                refine lv_aload_n hx hb dX4_limits_161 rfl (lv_at hl 1 rfl) ?_
                refine lv_bipush (v := 15) hx hb dX4_limits_162 (by decide) ?_
                refine mw_callV (C := RX4) (As := [.int 15]) (rest := [.int ((pV S (fIx st) 17) - (bD S (fIx a)))]) hx hb hml hown hl (kX4_p l htr G H.size M_24 o A 0 S (fIx st) 15 h_st (by decide) (⟨np25, bg25, g25, hT, hB⟩ : md_R G o A M_24 0 (nI (fSz (fIx st))) S)) (g_B (n := 1) htb wd679 wd3 wd676 (by decide +kernel) ⟨Nat.le_of_ble_eq_true rfl, Nat.le_of_ble_eq_true rfl⟩) (htb _ wd678) (htb _ ws36) hE hP hS hT.1 rfl rfl rfl (Nat.le_of_ble_eq_true rfl) dX4_limits_164 ⟨Nat.le_of_ble_eq_true rfl, Nat.le_of_ble_eq_true rfl⟩ (fun v9 M9 H locs hpo hP hz hS => ?_) (fun x9 E9 cell9 H9 locs9 hE9 => hE9.elim)
                obtain ⟨rfl, rfl⟩ := hpo
                refine W.eq (g2 := F0 m 167 ls [.int (pV S (fIx st) 15), .int ((pV S (fIx st) 17) - (bD S (fIx a)))]) rfl ?_
                refine mw_callS (As := [.int ((pV S (fIx st) 17) - (bD S (fIx a))), .int (pV S (fIx st) 15)]) (rest := []) hx hb hml hown hl (kX4_greater l htr G H.size M_24 ((pV S (fIx st) 17) - (bD S (fIx a))) (pV S (fIx st) 15)) (g_B (n := 2) htb wd664 wd3 wd662 (by decide +kernel) ⟨Nat.le_of_ble_eq_true rfl, Nat.le_of_ble_eq_true rfl⟩) (htb _ wd663) hE hP hS rfl rfl (Nat.le_of_ble_eq_true rfl) dX4_limits_167 ⟨Nat.le_of_ble_eq_true rfl, Nat.le_of_ble_eq_true rfl⟩ (fun v9 M9 H locs hpo hP hz hS => ?_) (fun x9 E9 cell9 H9 locs9 hE9 => hE9.elim)
                obtain ⟨rfl, rfl⟩ := hpo
                refine W.eq (g2 := F0 m 170 ls [.int (fMx ((pV S (fIx st) 17) - (bD S (fIx a))) (pV S (fIx st) 15))]) rfl ?_
                refine lv_istore (lv' := [(6, .int (fMx ((pV S (fIx st) 17) - (bD S (fIx a))) (pV S (fIx st) 15))), (5, .int (fMx (bW S (fIx b)) (bW S (fIx a)))), (0, .ref o), (1, .int (nI (fIx st))), (2, .int (nI (fIx b))), (3, .int (nI (fIx a))), (4, .int sg)]) hx hb dX4_limits_170 hl (by decide) rfl (fun ls hl => ?_)
                refine lv_iload hx hb dX4_limits_172 (lv_at hl 6 rfl) ?_
                refine lv_iconst (v := (-1)) hx hb dX4_limits_174 (by decide) ?_
                refine lv_icmp_ne (tgt := 182) hx hb dX4_limits_175 (by decide) (fun c_43 => absurd c_27 c_43) (fun c_43 => ?_)
                refine lv_iconst (v := 0) hx hb dX4_limits_178 (by decide) ?_
                refine lv_goto (tgt := 205) hx hb dX4_limits_179 (by decide) ?_
                refine lv_istore (lv' := [(7, .int 0), (6, .int (fMx ((pV S (fIx st) 17) - (bD S (fIx a))) (pV S (fIx st) 15))), (5, .int (fMx (bW S (fIx b)) (bW S (fIx a)))), (0, .ref o), (1, .int (nI (fIx st))), (2, .int (nI (fIx b))), (3, .int (nI (fIx a))), (4, .int sg)]) hx hb dX4_limits_205 hl (by decide) rfl (fun ls hl => ?_)
                refine lv_iload_n hx hb dX4_limits_207 rfl (lv_at hl 6 rfl) ?_
                refine lv_iconst (v := (-1)) hx hb dX4_limits_208 (by decide) ?_
                refine lv_icmp_ne (tgt := 221) hx hb dX4_limits_209 (by decide) (fun c_44 => ?_) (fun c_44 => absurd c_44 hn_a)
                refine lv_aload_n hx hb dX4_limits_221 rfl (lv_at hl 3 rfl) ?_
                refine mw_get (D := gD G) (ci := 4) (v := .ref (A 2)) (C := RX4) (T := TX4) (N := 21) hx hb htb inX4 hown hK hP hT.1 rfl 6 (by decide) (htb _ wd530) (fun _ h9 => h9) rfl dX4_limits_222 ?_
                refine lv_iload_n hx hb dX4_limits_225 rfl (lv_at hl 5 rfl) ?_
                refine mw_iald hx hb hK hP 0 (show M_24 (A 2) = some (.inl (gI G, 120, .inl (g25 2))) from hT.2.1 2 (by decide)) rfl (by exact vp_in_nI (show (fIx b) < 120 by have := hle; omega) (by decide)) dX4_limits_226 ?_
                refine W.eq (g2 := F0 m 227 ls [.int (bH S (fIx b))]) (by rw [nI_clamp (show (fIx b) < 2 ^ 31 by have := hle; omega), hB.H h_b]) ?_
                refine lv_iload hx hb dX4_limits_227 (lv_at hl 1 rfl) ?_
                refine lv_iadd hx hb dX4_limits_229 ?_
                refine lv_aload_n hx hb dX4_limits_230 rfl (lv_at hl 3 rfl) ?_
                refine mw_get (D := gD G) (ci := 4) (v := .ref (A 3)) (C := RX4) (T := TX4) (N := 21) hx hb htb inX4 hown hK hP hT.1 rfl 7 (by decide) (htb _ wd531) (fun _ h9 => h9) rfl dX4_limits_231 ?_
                refine lv_iload_n hx hb dX4_limits_234 rfl (lv_at hl 6 rfl) ?_
                refine mw_iald hx hb hK hP 0 (show M_24 (A 3) = some (.inl (gI G, 120, .inl (g25 3))) from hT.2.1 3 (by decide)) rfl (by exact vp_in_nI (show (fIx a) < 120 by have := hle; omega) (by decide)) dX4_limits_235 ?_
                refine W.eq (g2 := F0 m 236 ls [.int (bD S (fIx a)), .int ((bH S (fIx b)) + (fMx ((pV S (fIx st) 17) - (bD S (fIx a))) (pV S (fIx st) 15)))]) (by rw [nI_clamp (show (fIx a) < 2 ^ 31 by have := hle; omega), hB.D h_a]) ?_
                refine lv_iadd hx hb dX4_limits_236 ?_
                refine lv_aload_n hx hb dX4_limits_237 rfl (lv_at hl 3 rfl) ?_
                refine mw_get (D := gD G) (ci := 4) (v := .ref (A 2)) (C := RX4) (T := TX4) (N := 21) hx hb htb inX4 hown hK hP hT.1 rfl 6 (by decide) (htb _ wd530) (fun _ h9 => h9) rfl dX4_limits_238 ?_
                refine lv_iload_n hx hb dX4_limits_241 rfl (lv_at hl 6 rfl) ?_
                refine mw_iald hx hb hK hP 0 (show M_24 (A 2) = some (.inl (gI G, 120, .inl (g25 2))) from hT.2.1 2 (by decide)) rfl (by exact vp_in_nI (show (fIx a) < 120 by have := hle; omega) (by decide)) dX4_limits_242 ?_
                refine W.eq (g2 := F0 m 243 ls [.int (bH S (fIx a)), .int (((bH S (fIx b)) + (fMx ((pV S (fIx st) 17) - (bD S (fIx a))) (pV S (fIx st) 15))) + (bD S (fIx a)))]) (by rw [nI_clamp (show (fIx a) < 2 ^ 31 by have := hle; omega), hB.H h_a]) ?_
                refine lv_iadd hx hb dX4_limits_243 ?_
                refine lv_aload_n hx hb dX4_limits_244 rfl (lv_at hl 3 rfl) ?_
                refine lv_bipush (v := 19) hx hb dX4_limits_245 (by decide) ?_
                refine mw_callV (C := RX4) (As := [.int 19]) (rest := [.int ((((bH S (fIx b)) + (fMx ((pV S (fIx st) 17) - (bD S (fIx a))) (pV S (fIx st) 15))) + (bD S (fIx a))) + (bH S (fIx a)))]) hx hb hml hown hl (kX4_p l htr G H.size M_24 o A 0 S (fIx st) 19 h_st (by decide) (⟨np25, bg25, g25, hT, hB⟩ : md_R G o A M_24 0 (nI (fSz (fIx st))) S)) (g_B (n := 1) htb wd679 wd3 wd676 (by decide +kernel) ⟨Nat.le_of_ble_eq_true rfl, Nat.le_of_ble_eq_true rfl⟩) (htb _ wd678) (htb _ ws36) hE hP hS hT.1 rfl rfl rfl (Nat.le_of_ble_eq_true rfl) dX4_limits_247 ⟨Nat.le_of_ble_eq_true rfl, Nat.le_of_ble_eq_true rfl⟩ (fun v9 M9 H locs hpo hP hz hS => ?_) (fun x9 E9 cell9 H9 locs9 hE9 => hE9.elim)
                obtain ⟨rfl, rfl⟩ := hpo
                refine W.eq (g2 := F0 m 250 ls [.int (pV S (fIx st) 19), .int ((((bH S (fIx b)) + (fMx ((pV S (fIx st) 17) - (bD S (fIx a))) (pV S (fIx st) 15))) + (bD S (fIx a))) + (bH S (fIx a)))]) rfl ?_
                refine lv_iadd hx hb dX4_limits_250 ?_
                refine lv_istore (lv' := [(8, .int (((((bH S (fIx b)) + (fMx ((pV S (fIx st) 17) - (bD S (fIx a))) (pV S (fIx st) 15))) + (bD S (fIx a))) + (bH S (fIx a))) + (pV S (fIx st) 19))), (7, .int 0), (6, .int (fMx ((pV S (fIx st) 17) - (bD S (fIx a))) (pV S (fIx st) 15))), (5, .int (fMx (bW S (fIx b)) (bW S (fIx a)))), (0, .ref o), (1, .int (nI (fIx st))), (2, .int (nI (fIx b))), (3, .int (nI (fIx a))), (4, .int sg)]) hx hb dX4_limits_251 hl (by decide) rfl (fun ls hl => ?_)
                refine lv_iload hx hb dX4_limits_253 (lv_at hl 8 rfl) ?_
                refine lv_iconst (v := (-1)) hx hb dX4_limits_255 (by decide) ?_
                refine lv_icmp_ne (tgt := 268) hx hb dX4_limits_256 (by decide) (fun c_45 => absurd c_27 c_45) (fun c_45 => ?_)
                refine lv_aload_n hx hb dX4_limits_259 rfl (lv_at hl 4 rfl) ?_
                refine mw_get (D := gD G) (ci := 4) (v := .ref (A 3)) (C := RX4) (T := TX4) (N := 21) hx hb htb inX4 hown hK hP hT.1 rfl 7 (by decide) (htb _ wd531) (fun _ h9 => h9) rfl dX4_limits_260 ?_
                refine lv_iload_n hx hb dX4_limits_263 rfl (lv_at hl 6 rfl) ?_
                refine mw_iald hx hb hK hP 0 (show M_24 (A 3) = some (.inl (gI G, 120, .inl (g25 3))) from hT.2.1 3 (by decide)) rfl (by exact vp_in_nI (show (fIx b) < 120 by have := hle; omega) (by decide)) dX4_limits_264 ?_
                refine W.eq (g2 := F0 m 265 ls [.int (bD S (fIx b))]) (by rw [nI_clamp (show (fIx b) < 2 ^ 31 by have := hle; omega), hB.D h_b]) ?_
                refine lv_goto (tgt := 300) hx hb dX4_limits_265 (by decide) ?_
                refine lv_istore (lv' := [(9, .int (bD S (fIx b))), (8, .int (((((bH S (fIx b)) + (fMx ((pV S (fIx st) 17) - (bD S (fIx a))) (pV S (fIx st) 15))) + (bD S (fIx a))) + (bH S (fIx a))) + (pV S (fIx st) 19))), (7, .int 0), (6, .int (fMx ((pV S (fIx st) 17) - (bD S (fIx a))) (pV S (fIx st) 15))), (5, .int (fMx (bW S (fIx b)) (bW S (fIx a)))), (0, .ref o), (1, .int (nI (fIx st))), (2, .int (nI (fIx b))), (3, .int (nI (fIx a))), (4, .int sg)]) hx hb dX4_limits_300 hl (by decide) rfl (fun ls hl => ?_)
                refine lv_aload_n hx hb dX4_limits_302 rfl (lv_at hl 5 rfl) ?_
                refine lv_iload hx hb dX4_limits_303 (lv_at hl 4 rfl) ?_
                refine lv_iload hx hb dX4_limits_305 (lv_at hl 1 rfl) ?_
                refine lv_iload hx hb dX4_limits_307 (lv_at hl 0 rfl) ?_
                refine mw_callV (C := RX4) (As := [.int (fMx (bW S (fIx b)) (bW S (fIx a))), .int (((((bH S (fIx b)) + (fMx ((pV S (fIx st) 17) - (bD S (fIx a))) (pV S (fIx st) 15))) + (bD S (fIx a))) + (bH S (fIx a))) + (pV S (fIx st) 19)), .int (bD S (fIx b))]) (rest := []) hx hb hml hown hl (kX4_make l htr G H.size M_24 o A 0 (nI (fSz (fIx st))) S (⟨np25, bg25, g25, hT, hB⟩ : md_R G o A M_24 0 (nI (fSz (fIx st))) S) (rmk_lt kb_21 hle) (fMx (bW S (fIx b)) (bW S (fIx a))) (((((bH S (fIx b)) + (fMx ((pV S (fIx st) 17) - (bD S (fIx a))) (pV S (fIx st) 15))) + (bD S (fIx a))) + (bH S (fIx a))) + (pV S (fIx st) 19)) (bD S (fIx b))) (g_B (n := 3) htb wd613 wd3 wd610 (by decide +kernel) ⟨Nat.le_of_ble_eq_true rfl, Nat.le_of_ble_eq_true rfl⟩) (htb _ wd612) (htb _ ws26) hE hP hS hT.1 rfl rfl rfl (Nat.le_of_ble_eq_true rfl) dX4_limits_309 ⟨Nat.le_of_ble_eq_true rfl, Nat.le_of_ble_eq_true rfl⟩ (fun v9 M9 H locs hpo hP hz hS => ?_) (fun x9 E9 cell9 H9 locs9 hE9 => hE9.elim)
                have hle0 := hle
                obtain ⟨rfl, hRn, hkn⟩ := hpo
                obtain ⟨M_46, hM_46⟩ : ∃ z9 : mw_M, z9 = M9 := ⟨_, rfl⟩
                rw [← hM_46] at hP hRn hkn
                have hk := md_keeps.tr hk hkn
                have hRn : md_R G o A M_46 0 (nI (fSz (fIx st))) (fs_push S ((fMx (bW S (fIx b)) (bW S (fIx a))), (((((bH S (fIx b)) + (fMx ((pV S (fIx st) 17) - (bD S (fIx a))) (pV S (fIx st) 15))) + (bD S (fIx a))) + (bH S (fIx a))) + (pV S (fIx st) 19)), (bD S (fIx b)), [], 0, 0)) := hRn
                obtain ⟨np47, bg47, g47, hT, hB⟩ := id hRn
                rw [sN_push] at hT
                have hT : md_at G o A M_46 0 (sSp S) (sSh S) (nI (sN S + 1)) (nI np47) (nI (fSz (fIx st))) g47 := hT
                have hle : sN S + 1 ≤ 120 := by have := hB.1; rw [sN_push] at this; exact this
                refine W.eq (g2 := F0 m 312 ls [.int (nI (sN S))]) rfl ?_
                refine lv_istore (lv' := [(10, .int (nI (sN S))), (9, .int (bD S (fIx b))), (8, .int (((((bH S (fIx b)) + (fMx ((pV S (fIx st) 17) - (bD S (fIx a))) (pV S (fIx st) 15))) + (bD S (fIx a))) + (bH S (fIx a))) + (pV S (fIx st) 19))), (7, .int 0), (6, .int (fMx ((pV S (fIx st) 17) - (bD S (fIx a))) (pV S (fIx st) 15))), (5, .int (fMx (bW S (fIx b)) (bW S (fIx a)))), (0, .ref o), (1, .int (nI (fIx st))), (2, .int (nI (fIx b))), (3, .int (nI (fIx a))), (4, .int sg)]) hx hb dX4_limits_312 hl (by decide) rfl (fun ls hl => ?_)
                refine lv_iload_n hx hb dX4_limits_314 rfl (lv_at hl 9 rfl) ?_
                refine lv_iconst (v := (-1)) hx hb dX4_limits_315 (by decide) ?_
                refine lv_icmp_eq (tgt := 352) hx hb dX4_limits_316 (by decide) (fun c_48 => absurd c_48 hn_a) (fun c_48 => ?_)
                refine lv_aload_n hx hb dX4_limits_319 rfl (lv_at hl 6 rfl) ?_
                refine lv_iload_n hx hb dX4_limits_320 rfl (lv_at hl 9 rfl) ?_
                refine lv_iload hx hb dX4_limits_321 (lv_at hl 5 rfl) ?_
                refine lv_aload_n hx hb dX4_limits_323 rfl (lv_at hl 6 rfl) ?_
                refine mw_get (D := gD G) (ci := 4) (v := .ref (A 1)) (C := RX4) (T := TX4) (N := 21) hx hb htb inX4 hown hK hP hT.1 rfl 5 (by decide) (htb _ wd529) (fun _ h9 => h9) rfl dX4_limits_324 ?_
                refine lv_iload_n hx hb dX4_limits_327 rfl (lv_at hl 9 rfl) ?_
                refine mw_iald hx hb hK hP 0 (show M_46 (A 1) = some (.inl (gI G, 120, .inl (g47 1))) from hT.2.1 1 (by decide)) rfl (by exact vp_in_nI (show (fIx a) < 120 by have := hle; omega) (by decide)) dX4_limits_328 ?_
                refine W.eq (g2 := F0 m 329 ls [.int (bW S (fIx a)), .int (fMx (bW S (fIx b)) (bW S (fIx a))), .int (nI (fIx a)), .ref o]) (by rw [nI_clamp (show (fIx a) < 2 ^ 31 by have := hle; omega), hB.W (show (fIx a) < sN (fs_push S ((fMx (bW S (fIx b)) (bW S (fIx a))), (((((bH S (fIx b)) + (fMx ((pV S (fIx st) 17) - (bD S (fIx a))) (pV S (fIx st) 15))) + (bD S (fIx a))) + (bH S (fIx a))) + (pV S (fIx st) 19)), (bD S (fIx b)), [], 0, 0)) by rw [sN_push]; omega), bW_push _ h_a]) ?_
                refine lv_isub hx hb dX4_limits_329 ?_
                refine mw_callS (As := [.int ((fMx (bW S (fIx b)) (bW S (fIx a))) - (bW S (fIx a)))]) (rest := [.int (nI (fIx a)), .ref o]) hx hb hml hown hl (kX4_half l htr G H.size M_46 ((fMx (bW S (fIx b)) (bW S (fIx a))) - (bW S (fIx a)))) (g_B (n := 1) htb wd682 wd3 wd680 (by decide +kernel) ⟨Nat.le_of_ble_eq_true rfl, Nat.le_of_ble_eq_true rfl⟩) (htb _ wd681) hE hP hS rfl rfl (Nat.le_of_ble_eq_true rfl) dX4_limits_330 ⟨Nat.le_of_ble_eq_true rfl, Nat.le_of_ble_eq_true rfl⟩ (fun v9 M9 H locs hpo hP hz hS => ?_) (fun x9 E9 cell9 H9 locs9 hE9 => hE9.elim)
                obtain ⟨rfl, rfl⟩ := hpo
                refine W.eq (g2 := F0 m 333 ls [.int (fHf ((fMx (bW S (fIx b)) (bW S (fIx a))) - (bW S (fIx a)))), .int (nI (fIx a)), .ref o]) rfl ?_
                refine lv_aload_n hx hb dX4_limits_333 rfl (lv_at hl 6 rfl) ?_
                refine mw_get (D := gD G) (ci := 4) (v := .ref (A 2)) (C := RX4) (T := TX4) (N := 21) hx hb htb inX4 hown hK hP hT.1 rfl 6 (by decide) (htb _ wd530) (fun _ h9 => h9) rfl dX4_limits_334 ?_
                refine lv_iload_n hx hb dX4_limits_337 rfl (lv_at hl 8 rfl) ?_
                refine mw_iald hx hb hK hP 0 (show M_46 (A 2) = some (.inl (gI G, 120, .inl (g47 2))) from hT.2.1 2 (by decide)) rfl (by exact vp_in_nI (show (fIx b) < 120 by have := hle; omega) (by decide)) dX4_limits_338 ?_
                refine W.eq (g2 := F0 m 339 ls [.int (bH S (fIx b)), .int (fHf ((fMx (bW S (fIx b)) (bW S (fIx a))) - (bW S (fIx a)))), .int (nI (fIx a)), .ref o]) (by rw [nI_clamp (show (fIx b) < 2 ^ 31 by have := hle; omega), hB.H (show (fIx b) < sN (fs_push S ((fMx (bW S (fIx b)) (bW S (fIx a))), (((((bH S (fIx b)) + (fMx ((pV S (fIx st) 17) - (bD S (fIx a))) (pV S (fIx st) 15))) + (bD S (fIx a))) + (bH S (fIx a))) + (pV S (fIx st) 19)), (bD S (fIx b)), [], 0, 0)) by rw [sN_push]; omega), bH_push _ h_b]) ?_
                refine lv_iload hx hb dX4_limits_339 (lv_at hl 4 rfl) ?_
                refine lv_iadd hx hb dX4_limits_341 ?_
                refine lv_aload_n hx hb dX4_limits_342 rfl (lv_at hl 6 rfl) ?_
                refine mw_get (D := gD G) (ci := 4) (v := .ref (A 3)) (C := RX4) (T := TX4) (N := 21) hx hb htb inX4 hown hK hP hT.1 rfl 7 (by decide) (htb _ wd531) (fun _ h9 => h9) rfl dX4_limits_343 ?_
                refine lv_iload_n hx hb dX4_limits_346 rfl (lv_at hl 9 rfl) ?_
                refine mw_iald hx hb hK hP 0 (show M_46 (A 3) = some (.inl (gI G, 120, .inl (g47 3))) from hT.2.1 3 (by decide)) rfl (by exact vp_in_nI (show (fIx a) < 120 by have := hle; omega) (by decide)) dX4_limits_347 ?_
                refine W.eq (g2 := F0 m 348 ls [.int (bD S (fIx a)), .int ((bH S (fIx b)) + (fMx ((pV S (fIx st) 17) - (bD S (fIx a))) (pV S (fIx st) 15))), .int (fHf ((fMx (bW S (fIx b)) (bW S (fIx a))) - (bW S (fIx a)))), .int (nI (fIx a)), .ref o]) (by rw [nI_clamp (show (fIx a) < 2 ^ 31 by have := hle; omega), hB.D (show (fIx a) < sN (fs_push S ((fMx (bW S (fIx b)) (bW S (fIx a))), (((((bH S (fIx b)) + (fMx ((pV S (fIx st) 17) - (bD S (fIx a))) (pV S (fIx st) 15))) + (bD S (fIx a))) + (bH S (fIx a))) + (pV S (fIx st) 19)), (bD S (fIx b)), [], 0, 0)) by rw [sN_push]; omega), bD_push _ h_a]) ?_
                refine lv_iadd hx hb dX4_limits_348 ?_
                refine mw_callV (C := RX4) (As := [.int (nI (fIx a)), .int (fHf ((fMx (bW S (fIx b)) (bW S (fIx a))) - (bW S (fIx a)))), .int (((bH S (fIx b)) + (fMx ((pV S (fIx st) 17) - (bD S (fIx a))) (pV S (fIx st) 15))) + (bD S (fIx a)))]) (rest := []) hx hb hml hown hl (kX4_lay l htr G H.size M_46 o A 0 (nI (fSz (fIx st))) S (fMx (bW S (fIx b)) (bW S (fIx a))) (((((bH S (fIx b)) + (fMx ((pV S (fIx st) 17) - (bD S (fIx a))) (pV S (fIx st) 15))) + (bD S (fIx a))) + (bH S (fIx a))) + (pV S (fIx st) 19)) (bD S (fIx b)) ([]) 0 0 (md_R.of (np := np47) hT hB : md_R G o A M_46 0 (nI (fSz (fIx st))) (fs_push S ((fMx (bW S (fIx b)) (bW S (fIx a))), (((((bH S (fIx b)) + (fMx ((pV S (fIx st) 17) - (bD S (fIx a))) (pV S (fIx st) 15))) + (bD S (fIx a))) + (bH S (fIx a))) + (pV S (fIx st) 19)), (bD S (fIx b)), [], 0, 0))) (by simp) (nI (fIx a)) (fHf ((fMx (bW S (fIx b)) (bW S (fIx a))) - (bW S (fIx a)))) (((bH S (fIx b)) + (fMx ((pV S (fIx st) 17) - (bD S (fIx a))) (pV S (fIx st) 15))) + (bD S (fIx a)))) (g_B (n := 3) htb wd661 wd3 wd658 (by decide +kernel) ⟨Nat.le_of_ble_eq_true rfl, Nat.le_of_ble_eq_true rfl⟩) (htb _ wd660) (htb _ ws34) hE hP hS hT.1 rfl rfl rfl (Nat.le_of_ble_eq_true rfl) dX4_limits_349 ⟨Nat.le_of_ble_eq_true rfl, Nat.le_of_ble_eq_true rfl⟩ (fun v9 M9 H locs hpo hP hz hS => ?_) (fun x9 E9 cell9 H9 locs9 hE9 => hE9.elim)
                obtain ⟨rfl, hRn, hkn⟩ := hpo
                obtain ⟨M_49, hM_49⟩ : ∃ z9 : mw_M, z9 = M9 := ⟨_, rfl⟩
                rw [← hM_49] at hP hRn hkn
                have hk := md_keeps.tr hk hkn
                have hRn : md_R G o A M_49 0 (nI (fSz (fIx st))) (fs_push S ((fMx (bW S (fIx b)) (bW S (fIx a))), (((((bH S (fIx b)) + (fMx ((pV S (fIx st) 17) - (bD S (fIx a))) (pV S (fIx st) 15))) + (bD S (fIx a))) + (bH S (fIx a))) + (pV S (fIx st) 19)), (bD S (fIx b)), [(nI (fIx a)), (fHf ((fMx (bW S (fIx b)) (bW S (fIx a))) - (bW S (fIx a)))), (((bH S (fIx b)) + (fMx ((pV S (fIx st) 17) - (bD S (fIx a))) (pV S (fIx st) 15))) + (bD S (fIx a)))], 0, 0)) := hRn
                obtain ⟨np50, bg50, g50, hT, hB⟩ := id hRn
                rw [sN_push] at hT
                have hT : md_at G o A M_49 0 (sSp S) (sSh S) (nI (sN S + 1)) (nI np50) (nI (fSz (fIx st))) g50 := hT
                refine W.eq (g2 := F0 m 352 ls []) rfl ?_
                refine lv_aload_n hx hb dX4_limits_352 rfl (lv_at hl 6 rfl) ?_
                refine lv_iload_n hx hb dX4_limits_353 rfl (lv_at hl 8 rfl) ?_
                refine lv_iload hx hb dX4_limits_354 (lv_at hl 5 rfl) ?_
                refine lv_aload_n hx hb dX4_limits_356 rfl (lv_at hl 6 rfl) ?_
                refine mw_get (D := gD G) (ci := 4) (v := .ref (A 1)) (C := RX4) (T := TX4) (N := 21) hx hb htb inX4 hown hK hP hT.1 rfl 5 (by decide) (htb _ wd529) (fun _ h9 => h9) rfl dX4_limits_357 ?_
                refine lv_iload_n hx hb dX4_limits_360 rfl (lv_at hl 8 rfl) ?_
                refine mw_iald hx hb hK hP 0 (show M_49 (A 1) = some (.inl (gI G, 120, .inl (g50 1))) from hT.2.1 1 (by decide)) rfl (by exact vp_in_nI (show (fIx b) < 120 by have := hle; omega) (by decide)) dX4_limits_361 ?_
                refine W.eq (g2 := F0 m 362 ls [.int (bW S (fIx b)), .int (fMx (bW S (fIx b)) (bW S (fIx a))), .int (nI (fIx b)), .ref o]) (by rw [nI_clamp (show (fIx b) < 2 ^ 31 by have := hle; omega), hB.W (show (fIx b) < sN (fs_push S ((fMx (bW S (fIx b)) (bW S (fIx a))), (((((bH S (fIx b)) + (fMx ((pV S (fIx st) 17) - (bD S (fIx a))) (pV S (fIx st) 15))) + (bD S (fIx a))) + (bH S (fIx a))) + (pV S (fIx st) 19)), (bD S (fIx b)), [(nI (fIx a)), (fHf ((fMx (bW S (fIx b)) (bW S (fIx a))) - (bW S (fIx a)))), (((bH S (fIx b)) + (fMx ((pV S (fIx st) 17) - (bD S (fIx a))) (pV S (fIx st) 15))) + (bD S (fIx a)))], 0, 0)) by rw [sN_push]; omega), bW_push _ h_b]) ?_
                refine lv_isub hx hb dX4_limits_362 ?_
                refine mw_callS (As := [.int ((fMx (bW S (fIx b)) (bW S (fIx a))) - (bW S (fIx b)))]) (rest := [.int (nI (fIx b)), .ref o]) hx hb hml hown hl (kX4_half l htr G H.size M_49 ((fMx (bW S (fIx b)) (bW S (fIx a))) - (bW S (fIx b)))) (g_B (n := 1) htb wd682 wd3 wd680 (by decide +kernel) ⟨Nat.le_of_ble_eq_true rfl, Nat.le_of_ble_eq_true rfl⟩) (htb _ wd681) hE hP hS rfl rfl (Nat.le_of_ble_eq_true rfl) dX4_limits_363 ⟨Nat.le_of_ble_eq_true rfl, Nat.le_of_ble_eq_true rfl⟩ (fun v9 M9 H locs hpo hP hz hS => ?_) (fun x9 E9 cell9 H9 locs9 hE9 => hE9.elim)
                obtain ⟨rfl, rfl⟩ := hpo
                refine W.eq (g2 := F0 m 366 ls [.int (fHf ((fMx (bW S (fIx b)) (bW S (fIx a))) - (bW S (fIx b)))), .int (nI (fIx b)), .ref o]) rfl ?_
                refine lv_iconst (v := 0) hx hb dX4_limits_366 (by decide) ?_
                refine mw_callV (C := RX4) (As := [.int (nI (fIx b)), .int (fHf ((fMx (bW S (fIx b)) (bW S (fIx a))) - (bW S (fIx b)))), .int 0]) (rest := []) hx hb hml hown hl (kX4_lay l htr G H.size M_49 o A 0 (nI (fSz (fIx st))) S (fMx (bW S (fIx b)) (bW S (fIx a))) (((((bH S (fIx b)) + (fMx ((pV S (fIx st) 17) - (bD S (fIx a))) (pV S (fIx st) 15))) + (bD S (fIx a))) + (bH S (fIx a))) + (pV S (fIx st) 19)) (bD S (fIx b)) ([(nI (fIx a)), (fHf ((fMx (bW S (fIx b)) (bW S (fIx a))) - (bW S (fIx a)))), (((bH S (fIx b)) + (fMx ((pV S (fIx st) 17) - (bD S (fIx a))) (pV S (fIx st) 15))) + (bD S (fIx a)))]) 0 0 (md_R.of (np := np50) hT hB : md_R G o A M_49 0 (nI (fSz (fIx st))) (fs_push S ((fMx (bW S (fIx b)) (bW S (fIx a))), (((((bH S (fIx b)) + (fMx ((pV S (fIx st) 17) - (bD S (fIx a))) (pV S (fIx st) 15))) + (bD S (fIx a))) + (bH S (fIx a))) + (pV S (fIx st) 19)), (bD S (fIx b)), [(nI (fIx a)), (fHf ((fMx (bW S (fIx b)) (bW S (fIx a))) - (bW S (fIx a)))), (((bH S (fIx b)) + (fMx ((pV S (fIx st) 17) - (bD S (fIx a))) (pV S (fIx st) 15))) + (bD S (fIx a)))], 0, 0))) (by simp) (nI (fIx b)) (fHf ((fMx (bW S (fIx b)) (bW S (fIx a))) - (bW S (fIx b)))) 0) (g_B (n := 3) htb wd661 wd3 wd658 (by decide +kernel) ⟨Nat.le_of_ble_eq_true rfl, Nat.le_of_ble_eq_true rfl⟩) (htb _ wd660) (htb _ ws34) hE hP hS hT.1 rfl rfl rfl (Nat.le_of_ble_eq_true rfl) dX4_limits_367 ⟨Nat.le_of_ble_eq_true rfl, Nat.le_of_ble_eq_true rfl⟩ (fun v9 M9 H locs hpo hP hz hS => ?_) (fun x9 E9 cell9 H9 locs9 hE9 => hE9.elim)
                obtain ⟨rfl, hRn, hkn⟩ := hpo
                obtain ⟨M_51, hM_51⟩ : ∃ z9 : mw_M, z9 = M9 := ⟨_, rfl⟩
                rw [← hM_51] at hP hRn hkn
                have hk := md_keeps.tr hk hkn
                have hRn : md_R G o A M_51 0 (nI (fSz (fIx st))) (fs_push S ((fMx (bW S (fIx b)) (bW S (fIx a))), (((((bH S (fIx b)) + (fMx ((pV S (fIx st) 17) - (bD S (fIx a))) (pV S (fIx st) 15))) + (bD S (fIx a))) + (bH S (fIx a))) + (pV S (fIx st) 19)), (bD S (fIx b)), [(nI (fIx a)), (fHf ((fMx (bW S (fIx b)) (bW S (fIx a))) - (bW S (fIx a)))), (((bH S (fIx b)) + (fMx ((pV S (fIx st) 17) - (bD S (fIx a))) (pV S (fIx st) 15))) + (bD S (fIx a))), (nI (fIx b)), (fHf ((fMx (bW S (fIx b)) (bW S (fIx a))) - (bW S (fIx b)))), 0], 0, 0)) := hRn
                obtain ⟨np52, bg52, g52, hT, hB⟩ := id hRn
                rw [sN_push] at hT
                have hT : md_at G o A M_51 0 (sSp S) (sSh S) (nI (sN S + 1)) (nI np52) (nI (fSz (fIx st))) g52 := hT
                refine W.eq (g2 := F0 m 370 ls []) rfl ?_
                refine lv_iload hx hb dX4_limits_370 (lv_at hl 10 rfl) ?_
                refine lv_iconst (v := (-1)) hx hb dX4_limits_372 (by decide) ?_
                refine lv_icmp_eq (tgt := 413) hx hb dX4_limits_373 (by decide) (fun c_53 => ?_) (fun c_53 => absurd c_27 c_53)
                refine lv_iload hx hb dX4_limits_413 (lv_at hl 0 rfl) ?_
                have hex : ex_lim S st b a sg = 0 := by rw [ex_lim, if_neg (fun z9 => z9 ⟨kb_5, kb_10, kb_12⟩), if_neg (fun z9 => z9 ⟨kb_17, kb_19⟩), if_neg (fun z9 => z9 kb_21)]
                have hre : fs_lm S (fIx st) (fIx b) a sg = ((fMx (bW S (fIx b)) (bW S (fIx a))), (((((bH S (fIx b)) + (fMx ((pV S (fIx st) 17) - (bD S (fIx a))) (pV S (fIx st) 15))) + (bD S (fIx a))) + (bH S (fIx a))) + (pV S (fIx st) 19)), (bD S (fIx b)), [(nI (fIx a)), (fHf ((fMx (bW S (fIx b)) (bW S (fIx a))) - (bW S (fIx a)))), (((bH S (fIx b)) + (fMx ((pV S (fIx st) 17) - (bD S (fIx a))) (pV S (fIx st) 15))) + (bD S (fIx a))), (nI (fIx b)), (fHf ((fMx (bW S (fIx b)) (bW S (fIx a))) - (bW S (fIx b)))), 0], 0, 0) := by simp only [fs_lm, fs_lw, fs_la, fs_ls, if_neg c_18, if_neg c_20, if_pos c_27, List.nil_append, List.append_nil, List.cons_append, rg_1]; rw [← e_a]
                exact mx_iret (v := (nI (sN S))) (M' := M_51) hx hb hr hlocks hP hS ⟨by rw [hex]; rfl, ⟨_, by rw [hex, if_pos rfl, hre]; exact (md_R.of (np := np52) hT hB : md_R G o A M_51 0 (nI (fSz (fIx st))) (fs_push S ((fMx (bW S (fIx b)) (bW S (fIx a))), (((((bH S (fIx b)) + (fMx ((pV S (fIx st) 17) - (bD S (fIx a))) (pV S (fIx st) 15))) + (bD S (fIx a))) + (bH S (fIx a))) + (pV S (fIx st) 19)), (bD S (fIx b)), [(nI (fIx a)), (fHf ((fMx (bW S (fIx b)) (bW S (fIx a))) - (bW S (fIx a)))), (((bH S (fIx b)) + (fMx ((pV S (fIx st) 17) - (bD S (fIx a))) (pV S (fIx st) 15))) + (bD S (fIx a))), (nI (fIx b)), (fHf ((fMx (bW S (fIx b)) (bW S (fIx a))) - (bW S (fIx b)))), 0], 0, 0)))⟩, hk⟩ dX4_limits_415 (Nat.le_of_ble_eq_true rfl) (Nat.le_of_ble_eq_true rfl)
            · have kb_54 : ¬ rmk S 1 := (rmk_eq hle).mp c_20
              refine lv_iconst (v := 3) hx hb dX4_limits_61 (by decide) ?_
              refine lv_goto (tgt := 66) hx hb dX4_limits_62 (by decide) ?_
              refine mw_put (D := gD G) (ci := 4) (v := .int 3) (ty := .int) (C := RX4) (T := TX4) (N := 21) hx hb htb inX4 tyX4 tyX4_ok nmX4 hown hK hP hS hT.1 hT.2.2.2.1 rfl 0 (by decide) (htb _ wd524) (fun _ h9 => h9) rfl (by decide +kernel) rfl rfl (Nat.le_of_ble_eq_true rfl) dX4_limits_66 (fun H locs hP hS => ?_)
              obtain ⟨M_55, hM_55⟩ : ∃ z9 : mw_M, z9 = mw_up M o (.inr (4, [.int 3, .ref (A 0), .int (sSp S), .int (sSh S), .int (nI (sN S)), .ref (A 1), .ref (A 2), .ref (A 3), .ref (A 4), .ref (A 5), .ref (A 6), .ref (A 7), .int (nI np), .ref (A 8), .ref (A 9), .ref (A 10), .ref (A 11), .ref (A 12), .ref (A 13), .ref (A 14), .int z])) := ⟨_, rfl⟩
              have hP : mw_P (gD G) gx_cl M_55 H := by rw [hM_55]; exact hP
              have hT : md_at G o A M_55 3 (sSp S) (sSh S) (nI (sN S)) (nI np) z g := md_at.fld hT hM_55
              have hk : md_keeps o A M M_55 := md_keeps.fld hk hM_55
              refine lv_aload_n hx hb dX4_limits_69 rfl (lv_at hl 0 rfl) ?_
              refine mw_get (D := gD G) (ci := 4) (v := .int 3) (C := RX4) (T := TX4) (N := 21) hx hb htb inX4 hown hK hP hT.1 rfl 0 (by decide) (htb _ wd524) (fun _ h9 => h9) rfl dX4_limits_70 ?_
              refine lv_if_le (tgt := 78) hx hb dX4_limits_73 (by decide) (fun c_56 => absurd c_56 (by decide)) (fun c_56 => ?_)
              refine lv_iconst (v := 0) hx hb dX4_limits_76 (by decide) ?_
              have hex : ex_lim S st b a sg = 3 := by rw [ex_lim, if_neg (fun z9 => z9 ⟨kb_5, kb_10, kb_12⟩), if_neg (fun z9 => z9 ⟨kb_17, kb_19⟩), if_pos (fun z9 => kb_54 z9)]
              exact mx_iret (v := 0) (M' := M_55) hx hb hr hlocks hP hS ⟨by rw [hex]; rfl, ⟨_, by rw [hex]; exact (⟨np, bg, g, hT, hB⟩ : md_R G o A M_55 3 z S)⟩, hk⟩ dX4_limits_77 (Nat.le_of_ble_eq_true rfl) (Nat.le_of_ble_eq_true rfl)
          · refine lv_iload hx hb dX4_limits_42 (lv_at hl 4 rfl) ?_
            refine lv_iconst (v := (-1)) hx hb dX4_limits_44 (by decide) ?_
            refine lv_icmp_ne (tgt := 52) hx hb dX4_limits_45 (by decide) (fun c_57 => ?_) (fun c_57 => ?_)
            · have kb_58 : on2 a sg := fun q => c_57 q.2
              have hb_sg := kb_12.resolve_left c_57
              have h_sg := isB_lt hb_sg hle
              have e_sg := fIx_of hb_sg.1
              rw [e_sg] at hl
              have hn_sg : ¬ nI (fIx sg) = (-1) := fun q => c_57 (e_sg.trans q)
              refine lv_aload_n hx hb dX4_limits_52 rfl (lv_at hl 0 rfl) ?_
              refine mw_get (D := gD G) (ci := 4) (v := .int (nI (sN S))) (C := RX4) (T := TX4) (N := 21) hx hb htb inX4 hown hK hP hT.1 rfl 4 (by decide) (htb _ wd528) (fun _ h9 => h9) rfl dX4_limits_53 ?_
              refine lv_bipush (v := 120) hx hb dX4_limits_56 (by decide) ?_
              refine lv_icmp_ne (tgt := 65) hx hb dX4_limits_58 (by decide) (fun c_59 => ?_) (fun c_59 => ?_)
              · have kb_60 : rmk S 1 := Decidable.byContradiction (fun z9 => c_59 ((rmk_eq hle).mpr z9))
                refine lv_iconst (v := 0) hx hb dX4_limits_65 (by decide) ?_
                refine mw_put (D := gD G) (ci := 4) (v := .int 0) (ty := .int) (C := RX4) (T := TX4) (N := 21) hx hb htb inX4 tyX4 tyX4_ok nmX4 hown hK hP hS hT.1 hT.2.2.2.1 rfl 0 (by decide) (htb _ wd524) (fun _ h9 => h9) rfl (by decide +kernel) rfl rfl (Nat.le_of_ble_eq_true rfl) dX4_limits_66 (fun H locs hP hS => ?_)
                obtain ⟨M_61, hM_61⟩ : ∃ z9 : mw_M, z9 = mw_up M o (.inr (4, [.int 0, .ref (A 0), .int (sSp S), .int (sSh S), .int (nI (sN S)), .ref (A 1), .ref (A 2), .ref (A 3), .ref (A 4), .ref (A 5), .ref (A 6), .ref (A 7), .int (nI np), .ref (A 8), .ref (A 9), .ref (A 10), .ref (A 11), .ref (A 12), .ref (A 13), .ref (A 14), .int z])) := ⟨_, rfl⟩
                have hP : mw_P (gD G) gx_cl M_61 H := by rw [hM_61]; exact hP
                have hT : md_at G o A M_61 0 (sSp S) (sSh S) (nI (sN S)) (nI np) z g := md_at.fld hT hM_61
                have hk : md_keeps o A M M_61 := md_keeps.fld hk hM_61
                refine lv_aload_n hx hb dX4_limits_69 rfl (lv_at hl 0 rfl) ?_
                refine mw_get (D := gD G) (ci := 4) (v := .int 0) (C := RX4) (T := TX4) (N := 21) hx hb htb inX4 hown hK hP hT.1 rfl 0 (by decide) (htb _ wd524) (fun _ h9 => h9) rfl dX4_limits_70 ?_
                refine lv_if_le (tgt := 78) hx hb dX4_limits_73 (by decide) (fun c_62 => ?_) (fun c_62 => absurd (by decide) c_62)
                refine lv_aload_n hx hb dX4_limits_78 rfl (lv_at hl 0 rfl) ?_
                refine lv_iload_n hx hb dX4_limits_79 rfl (lv_at hl 1 rfl) ?_
                refine mw_callV (C := RX4) (As := [.int (nI (fIx st))]) (rest := []) hx hb hml hown hl (kX4_use l htr G H.size M_61 o A 0 z S (⟨np, bg, g, hT, hB⟩ : md_R G o A M_61 0 z S) (fIx st) h_st) (g_B (n := 1) htb wd675 wd3 wd672 (by decide +kernel) ⟨Nat.le_of_ble_eq_true rfl, Nat.le_of_ble_eq_true rfl⟩) (htb _ wd674) (htb _ ws35) hE hP hS hT.1 rfl rfl rfl (Nat.le_of_ble_eq_true rfl) dX4_limits_80 ⟨Nat.le_of_ble_eq_true rfl, Nat.le_of_ble_eq_true rfl⟩ (fun v9 M9 H locs hpo hP hz hS => ?_) (fun x9 E9 cell9 H9 locs9 hE9 => hE9.elim)
                obtain ⟨rfl, hRn, hkn⟩ := hpo
                obtain ⟨M_63, hM_63⟩ : ∃ z9 : mw_M, z9 = M9 := ⟨_, rfl⟩
                rw [← hM_63] at hP hRn hkn
                have hk := md_keeps.tr hk hkn
                obtain ⟨np64, bg64, g64, hT, hB⟩ := id hRn
                refine W.eq (g2 := F0 m 83 ls []) rfl ?_
                refine lv_aload_n hx hb dX4_limits_83 rfl (lv_at hl 0 rfl) ?_
                refine mw_get (D := gD G) (ci := 4) (v := .ref (A 1)) (C := RX4) (T := TX4) (N := 21) hx hb htb inX4 hown hK hP hT.1 rfl 5 (by decide) (htb _ wd529) (fun _ h9 => h9) rfl dX4_limits_84 ?_
                refine lv_iload_n hx hb dX4_limits_87 rfl (lv_at hl 2 rfl) ?_
                refine mw_iald hx hb hK hP 0 (show M_63 (A 1) = some (.inl (gI G, 120, .inl (g64 1))) from hT.2.1 1 (by decide)) rfl (by exact vp_in_nI (show (fIx b) < 120 by have := hle; omega) (by decide)) dX4_limits_88 ?_
                refine W.eq (g2 := F0 m 89 ls [.int (bW S (fIx b))]) (by rw [nI_clamp (show (fIx b) < 2 ^ 31 by have := hle; omega), hB.W h_b]) ?_
                refine lv_istore (lv' := [(5, .int (bW S (fIx b))), (0, .ref o), (1, .int (nI (fIx st))), (2, .int (nI (fIx b))), (3, .int a), (4, .int (nI (fIx sg)))]) hx hb dX4_limits_89 hl (by decide) rfl (fun ls hl => ?_)
                refine lv_iload_n hx hb dX4_limits_91 rfl (lv_at hl 4 rfl) ?_
                refine lv_iconst (v := (-1)) hx hb dX4_limits_92 (by decide) ?_
                refine lv_icmp_ne (tgt := 101) hx hb dX4_limits_93 (by decide) (fun c_65 => absurd c_18 c_65) (fun c_65 => ?_)
                refine lv_iload hx hb dX4_limits_96 (lv_at hl 0 rfl) ?_
                refine lv_goto (tgt := 112) hx hb dX4_limits_98 (by decide) ?_
                refine lv_istore (lv' := [(5, .int (bW S (fIx b))), (0, .ref o), (1, .int (nI (fIx st))), (2, .int (nI (fIx b))), (3, .int a), (4, .int (nI (fIx sg)))]) hx hb dX4_limits_112 hl (by decide) rfl (fun ls hl => ?_)
                refine lv_iload hx hb dX4_limits_114 (lv_at hl 5 rfl) ?_
                refine lv_iconst (v := (-1)) hx hb dX4_limits_116 (by decide) ?_
                refine lv_icmp_ne (tgt := 125) hx hb dX4_limits_117 (by decide) (fun c_66 => ?_) (fun c_66 => absurd c_66 hn_sg)
                refine lv_iload hx hb dX4_limits_125 (lv_at hl 0 rfl) ?_
                refine lv_aload_n hx hb dX4_limits_127 rfl (lv_at hl 1 rfl) ?_
                refine mw_get (D := gD G) (ci := 4) (v := .ref (A 1)) (C := RX4) (T := TX4) (N := 21) hx hb htb inX4 hown hK hP hT.1 rfl 5 (by decide) (htb _ wd529) (fun _ h9 => h9) rfl dX4_limits_128 ?_
                refine lv_iload hx hb dX4_limits_131 (lv_at hl 5 rfl) ?_
                refine mw_iald hx hb hK hP 0 (show M_63 (A 1) = some (.inl (gI G, 120, .inl (g64 1))) from hT.2.1 1 (by decide)) rfl (by exact vp_in_nI (show (fIx sg) < 120 by have := hle; omega) (by decide)) dX4_limits_133 ?_
                refine W.eq (g2 := F0 m 134 ls [.int (bW S (fIx sg)), .int (bW S (fIx b))]) (by rw [nI_clamp (show (fIx sg) < 2 ^ 31 by have := hle; omega), hB.W h_sg]) ?_
                refine mw_callS (As := [.int (bW S (fIx b)), .int (bW S (fIx sg))]) (rest := []) hx hb hml hown hl (kX4_greater l htr G H.size M_63 (bW S (fIx b)) (bW S (fIx sg))) (g_B (n := 2) htb wd664 wd3 wd662 (by decide +kernel) ⟨Nat.le_of_ble_eq_true rfl, Nat.le_of_ble_eq_true rfl⟩) (htb _ wd663) hE hP hS rfl rfl (Nat.le_of_ble_eq_true rfl) dX4_limits_134 ⟨Nat.le_of_ble_eq_true rfl, Nat.le_of_ble_eq_true rfl⟩ (fun v9 M9 H locs hpo hP hz hS => ?_) (fun x9 E9 cell9 H9 locs9 hE9 => hE9.elim)
                obtain ⟨rfl, rfl⟩ := hpo
                refine W.eq (g2 := F0 m 137 ls [.int (fMx (bW S (fIx b)) (bW S (fIx sg)))]) rfl ?_
                refine lv_istore (lv' := [(5, .int (fMx (bW S (fIx b)) (bW S (fIx sg)))), (0, .ref o), (1, .int (nI (fIx st))), (2, .int (nI (fIx b))), (3, .int a), (4, .int (nI (fIx sg)))]) hx hb dX4_limits_137 hl (by decide) rfl (fun ls hl => ?_)
                refine lv_iload_n hx hb dX4_limits_139 rfl (lv_at hl 4 rfl) ?_
                refine lv_iconst (v := (-1)) hx hb dX4_limits_140 (by decide) ?_
                refine lv_icmp_ne (tgt := 148) hx hb dX4_limits_141 (by decide) (fun c_67 => absurd c_18 c_67) (fun c_67 => ?_)
                refine lv_iconst (v := 0) hx hb dX4_limits_144 (by decide) ?_
                refine lv_goto (tgt := 170) hx hb dX4_limits_145 (by decide) ?_
                refine lv_istore (lv' := [(6, .int 0), (5, .int (fMx (bW S (fIx b)) (bW S (fIx sg)))), (0, .ref o), (1, .int (nI (fIx st))), (2, .int (nI (fIx b))), (3, .int a), (4, .int (nI (fIx sg)))]) hx hb dX4_limits_170 hl (by decide) rfl (fun ls hl => ?_)
                refine lv_iload hx hb dX4_limits_172 (lv_at hl 6 rfl) ?_
                refine lv_iconst (v := (-1)) hx hb dX4_limits_174 (by decide) ?_
                refine lv_icmp_ne (tgt := 182) hx hb dX4_limits_175 (by decide) (fun c_68 => ?_) (fun c_68 => absurd c_68 hn_sg)
                refine lv_aload_n hx hb dX4_limits_182 rfl (lv_at hl 2 rfl) ?_
                refine lv_bipush (v := 18) hx hb dX4_limits_183 (by decide) ?_
                refine mw_callV (C := RX4) (As := [.int 18]) (rest := []) hx hb hml hown hl (kX4_p l htr G H.size M_63 o A 0 S (fIx st) 18 h_st (by decide) (⟨np64, bg64, g64, hT, hB⟩ : md_R G o A M_63 0 (nI (fSz (fIx st))) S)) (g_B (n := 1) htb wd679 wd3 wd676 (by decide +kernel) ⟨Nat.le_of_ble_eq_true rfl, Nat.le_of_ble_eq_true rfl⟩) (htb _ wd678) (htb _ ws36) hE hP hS hT.1 rfl rfl rfl (Nat.le_of_ble_eq_true rfl) dX4_limits_185 ⟨Nat.le_of_ble_eq_true rfl, Nat.le_of_ble_eq_true rfl⟩ (fun v9 M9 H locs hpo hP hz hS => ?_) (fun x9 E9 cell9 H9 locs9 hE9 => hE9.elim)
                obtain ⟨rfl, rfl⟩ := hpo
                refine W.eq (g2 := F0 m 188 ls [.int (pV S (fIx st) 18)]) rfl ?_
                refine lv_aload_n hx hb dX4_limits_188 rfl (lv_at hl 2 rfl) ?_
                refine mw_get (D := gD G) (ci := 4) (v := .ref (A 2)) (C := RX4) (T := TX4) (N := 21) hx hb htb inX4 hown hK hP hT.1 rfl 6 (by decide) (htb _ wd530) (fun _ h9 => h9) rfl dX4_limits_189 ?_
                refine lv_iload hx hb dX4_limits_192 (lv_at hl 6 rfl) ?_
                refine mw_iald hx hb hK hP 0 (show M_63 (A 2) = some (.inl (gI G, 120, .inl (g64 2))) from hT.2.1 2 (by decide)) rfl (by exact vp_in_nI (show (fIx sg) < 120 by have := hle; omega) (by decide)) dX4_limits_194 ?_
                refine W.eq (g2 := F0 m 195 ls [.int (bH S (fIx sg)), .int (pV S (fIx st) 18)]) (by rw [nI_clamp (show (fIx sg) < 2 ^ 31 by have := hle; omega), hB.H h_sg]) ?_
                refine lv_isub hx hb dX4_limits_195 ?_
                refine lv_aload_n hx hb dX4_limits_196 rfl (lv_at hl 2 rfl) ?_
                refine lv_bipush (v := 16) hx hb dX4_limits_197 (by decide) ?_
                refine mw_callV (C := RX4) (As := [.int 16]) (rest := [.int ((pV S (fIx st) 18) - (bH S (fIx sg)))]) hx hb hml hown hl (kX4_p l htr G H.size M_63 o A 0 S (fIx st) 16 h_st (by decide) (⟨np64, bg64, g64, hT, hB⟩ : md_R G o A M_63 0 (nI (fSz (fIx st))) S)) (g_B (n := 1) htb wd679 wd3 wd676 (by decide +kernel) ⟨Nat.le_of_ble_eq_true rfl, Nat.le_of_ble_eq_true rfl⟩) (htb _ wd678) (htb _ ws36) hE hP hS hT.1 rfl rfl rfl (Nat.le_of_ble_eq_true rfl) dX4_limits_199 ⟨Nat.le_of_ble_eq_true rfl, Nat.le_of_ble_eq_true rfl⟩ (fun v9 M9 H locs hpo hP hz hS => ?_) (fun x9 E9 cell9 H9 locs9 hE9 => hE9.elim)
                obtain ⟨rfl, rfl⟩ := hpo
                refine W.eq (g2 := F0 m 202 ls [.int (pV S (fIx st) 16), .int ((pV S (fIx st) 18) - (bH S (fIx sg)))]) rfl ?_
                refine mw_callS (As := [.int ((pV S (fIx st) 18) - (bH S (fIx sg))), .int (pV S (fIx st) 16)]) (rest := []) hx hb hml hown hl (kX4_greater l htr G H.size M_63 ((pV S (fIx st) 18) - (bH S (fIx sg))) (pV S (fIx st) 16)) (g_B (n := 2) htb wd664 wd3 wd662 (by decide +kernel) ⟨Nat.le_of_ble_eq_true rfl, Nat.le_of_ble_eq_true rfl⟩) (htb _ wd663) hE hP hS rfl rfl (Nat.le_of_ble_eq_true rfl) dX4_limits_202 ⟨Nat.le_of_ble_eq_true rfl, Nat.le_of_ble_eq_true rfl⟩ (fun v9 M9 H locs hpo hP hz hS => ?_) (fun x9 E9 cell9 H9 locs9 hE9 => hE9.elim)
                obtain ⟨rfl, rfl⟩ := hpo
                refine W.eq (g2 := F0 m 205 ls [.int (fMx ((pV S (fIx st) 18) - (bH S (fIx sg))) (pV S (fIx st) 16))]) rfl ?_
                refine lv_istore (lv' := [(7, .int (fMx ((pV S (fIx st) 18) - (bH S (fIx sg))) (pV S (fIx st) 16))), (6, .int 0), (5, .int (fMx (bW S (fIx b)) (bW S (fIx sg)))), (0, .ref o), (1, .int (nI (fIx st))), (2, .int (nI (fIx b))), (3, .int a), (4, .int (nI (fIx sg)))]) hx hb dX4_limits_205 hl (by decide) rfl (fun ls hl => ?_)
                refine lv_iload_n hx hb dX4_limits_207 rfl (lv_at hl 6 rfl) ?_
                refine lv_iconst (v := (-1)) hx hb dX4_limits_208 (by decide) ?_
                refine lv_icmp_ne (tgt := 221) hx hb dX4_limits_209 (by decide) (fun c_69 => absurd c_18 c_69) (fun c_69 => ?_)
                refine lv_aload_n hx hb dX4_limits_212 rfl (lv_at hl 3 rfl) ?_
                refine mw_get (D := gD G) (ci := 4) (v := .ref (A 2)) (C := RX4) (T := TX4) (N := 21) hx hb htb inX4 hown hK hP hT.1 rfl 6 (by decide) (htb _ wd530) (fun _ h9 => h9) rfl dX4_limits_213 ?_
                refine lv_iload_n hx hb dX4_limits_216 rfl (lv_at hl 5 rfl) ?_
                refine mw_iald hx hb hK hP 0 (show M_63 (A 2) = some (.inl (gI G, 120, .inl (g64 2))) from hT.2.1 2 (by decide)) rfl (by exact vp_in_nI (show (fIx b) < 120 by have := hle; omega) (by decide)) dX4_limits_217 ?_
                refine W.eq (g2 := F0 m 218 ls [.int (bH S (fIx b))]) (by rw [nI_clamp (show (fIx b) < 2 ^ 31 by have := hle; omega), hB.H h_b]) ?_
                refine lv_goto (tgt := 251) hx hb dX4_limits_218 (by decide) ?_
                refine lv_istore (lv' := [(8, .int (bH S (fIx b))), (7, .int (fMx ((pV S (fIx st) 18) - (bH S (fIx sg))) (pV S (fIx st) 16))), (6, .int 0), (5, .int (fMx (bW S (fIx b)) (bW S (fIx sg)))), (0, .ref o), (1, .int (nI (fIx st))), (2, .int (nI (fIx b))), (3, .int a), (4, .int (nI (fIx sg)))]) hx hb dX4_limits_251 hl (by decide) rfl (fun ls hl => ?_)
                refine lv_iload hx hb dX4_limits_253 (lv_at hl 8 rfl) ?_
                refine lv_iconst (v := (-1)) hx hb dX4_limits_255 (by decide) ?_
                refine lv_icmp_ne (tgt := 268) hx hb dX4_limits_256 (by decide) (fun c_70 => ?_) (fun c_70 => absurd c_70 hn_sg)
                refine lv_aload_n hx hb dX4_limits_268 rfl (lv_at hl 4 rfl) ?_
                refine mw_get (D := gD G) (ci := 4) (v := .ref (A 3)) (C := RX4) (T := TX4) (N := 21) hx hb htb inX4 hown hK hP hT.1 rfl 7 (by decide) (htb _ wd531) (fun _ h9 => h9) rfl dX4_limits_269 ?_
                refine lv_iload_n hx hb dX4_limits_272 rfl (lv_at hl 6 rfl) ?_
                refine mw_iald hx hb hK hP 0 (show M_63 (A 3) = some (.inl (gI G, 120, .inl (g64 3))) from hT.2.1 3 (by decide)) rfl (by exact vp_in_nI (show (fIx b) < 120 by have := hle; omega) (by decide)) dX4_limits_273 ?_
                refine W.eq (g2 := F0 m 274 ls [.int (bD S (fIx b))]) (by rw [nI_clamp (show (fIx b) < 2 ^ 31 by have := hle; omega), hB.D h_b]) ?_
                refine lv_iload hx hb dX4_limits_274 (lv_at hl 1 rfl) ?_
                refine lv_iadd hx hb dX4_limits_276 ?_
                refine lv_aload_n hx hb dX4_limits_277 rfl (lv_at hl 4 rfl) ?_
                refine mw_get (D := gD G) (ci := 4) (v := .ref (A 2)) (C := RX4) (T := TX4) (N := 21) hx hb htb inX4 hown hK hP hT.1 rfl 6 (by decide) (htb _ wd530) (fun _ h9 => h9) rfl dX4_limits_278 ?_
                refine lv_iload hx hb dX4_limits_281 (lv_at hl 8 rfl) ?_
                refine mw_iald hx hb hK hP 0 (show M_63 (A 2) = some (.inl (gI G, 120, .inl (g64 2))) from hT.2.1 2 (by decide)) rfl (by exact vp_in_nI (show (fIx sg) < 120 by have := hle; omega) (by decide)) dX4_limits_283 ?_
                refine W.eq (g2 := F0 m 284 ls [.int (bH S (fIx sg)), .int ((bD S (fIx b)) + (fMx ((pV S (fIx st) 18) - (bH S (fIx sg))) (pV S (fIx st) 16)))]) (by rw [nI_clamp (show (fIx sg) < 2 ^ 31 by have := hle; omega), hB.H h_sg]) ?_
                refine lv_iadd hx hb dX4_limits_284 ?_
                refine lv_aload_n hx hb dX4_limits_285 rfl (lv_at hl 4 rfl) ?_
                refine mw_get (D := gD G) (ci := 4) (v := .ref (A 3)) (C := RX4) (T := TX4) (N := 21) hx hb htb inX4 hown hK hP hT.1 rfl 7 (by decide) (htb _ wd531) (fun _ h9 => h9) rfl dX4_limits_286 ?_
                refine lv_iload hx hb dX4_limits_289 (lv_at hl 8 rfl) ?_
                refine mw_iald hx hb hK hP 0 (show M_63 (A 3) = some (.inl (gI G, 120, .inl (g64 3))) from hT.2.1 3 (by decide)) rfl (by exact vp_in_nI (show (fIx sg) < 120 by have := hle; omega) (by decide)) dX4_limits_291 ?_
                refine W.eq (g2 := F0 m 292 ls [.int (bD S (fIx sg)), .int (((bD S (fIx b)) + (fMx ((pV S (fIx st) 18) - (bH S (fIx sg))) (pV S (fIx st) 16))) + (bH S (fIx sg)))]) (by rw [nI_clamp (show (fIx sg) < 2 ^ 31 by have := hle; omega), hB.D h_sg]) ?_
                refine lv_iadd hx hb dX4_limits_292 ?_
                refine lv_aload_n hx hb dX4_limits_293 rfl (lv_at hl 4 rfl) ?_
                refine lv_bipush (v := 19) hx hb dX4_limits_294 (by decide) ?_
                refine mw_callV (C := RX4) (As := [.int 19]) (rest := [.int ((((bD S (fIx b)) + (fMx ((pV S (fIx st) 18) - (bH S (fIx sg))) (pV S (fIx st) 16))) + (bH S (fIx sg))) + (bD S (fIx sg)))]) hx hb hml hown hl (kX4_p l htr G H.size M_63 o A 0 S (fIx st) 19 h_st (by decide) (⟨np64, bg64, g64, hT, hB⟩ : md_R G o A M_63 0 (nI (fSz (fIx st))) S)) (g_B (n := 1) htb wd679 wd3 wd676 (by decide +kernel) ⟨Nat.le_of_ble_eq_true rfl, Nat.le_of_ble_eq_true rfl⟩) (htb _ wd678) (htb _ ws36) hE hP hS hT.1 rfl rfl rfl (Nat.le_of_ble_eq_true rfl) dX4_limits_296 ⟨Nat.le_of_ble_eq_true rfl, Nat.le_of_ble_eq_true rfl⟩ (fun v9 M9 H locs hpo hP hz hS => ?_) (fun x9 E9 cell9 H9 locs9 hE9 => hE9.elim)
                obtain ⟨rfl, rfl⟩ := hpo
                refine W.eq (g2 := F0 m 299 ls [.int (pV S (fIx st) 19), .int ((((bD S (fIx b)) + (fMx ((pV S (fIx st) 18) - (bH S (fIx sg))) (pV S (fIx st) 16))) + (bH S (fIx sg))) + (bD S (fIx sg)))]) rfl ?_
                refine lv_iadd hx hb dX4_limits_299 ?_
                refine lv_istore (lv' := [(9, .int (((((bD S (fIx b)) + (fMx ((pV S (fIx st) 18) - (bH S (fIx sg))) (pV S (fIx st) 16))) + (bH S (fIx sg))) + (bD S (fIx sg))) + (pV S (fIx st) 19))), (8, .int (bH S (fIx b))), (7, .int (fMx ((pV S (fIx st) 18) - (bH S (fIx sg))) (pV S (fIx st) 16))), (6, .int 0), (5, .int (fMx (bW S (fIx b)) (bW S (fIx sg)))), (0, .ref o), (1, .int (nI (fIx st))), (2, .int (nI (fIx b))), (3, .int a), (4, .int (nI (fIx sg)))]) hx hb dX4_limits_300 hl (by decide) rfl (fun ls hl => ?_)
                refine lv_aload_n hx hb dX4_limits_302 rfl (lv_at hl 5 rfl) ?_
                refine lv_iload hx hb dX4_limits_303 (lv_at hl 4 rfl) ?_
                refine lv_iload hx hb dX4_limits_305 (lv_at hl 1 rfl) ?_
                refine lv_iload hx hb dX4_limits_307 (lv_at hl 0 rfl) ?_
                refine mw_callV (C := RX4) (As := [.int (fMx (bW S (fIx b)) (bW S (fIx sg))), .int (bH S (fIx b)), .int (((((bD S (fIx b)) + (fMx ((pV S (fIx st) 18) - (bH S (fIx sg))) (pV S (fIx st) 16))) + (bH S (fIx sg))) + (bD S (fIx sg))) + (pV S (fIx st) 19))]) (rest := []) hx hb hml hown hl (kX4_make l htr G H.size M_63 o A 0 (nI (fSz (fIx st))) S (⟨np64, bg64, g64, hT, hB⟩ : md_R G o A M_63 0 (nI (fSz (fIx st))) S) (rmk_lt kb_60 hle) (fMx (bW S (fIx b)) (bW S (fIx sg))) (bH S (fIx b)) (((((bD S (fIx b)) + (fMx ((pV S (fIx st) 18) - (bH S (fIx sg))) (pV S (fIx st) 16))) + (bH S (fIx sg))) + (bD S (fIx sg))) + (pV S (fIx st) 19))) (g_B (n := 3) htb wd613 wd3 wd610 (by decide +kernel) ⟨Nat.le_of_ble_eq_true rfl, Nat.le_of_ble_eq_true rfl⟩) (htb _ wd612) (htb _ ws26) hE hP hS hT.1 rfl rfl rfl (Nat.le_of_ble_eq_true rfl) dX4_limits_309 ⟨Nat.le_of_ble_eq_true rfl, Nat.le_of_ble_eq_true rfl⟩ (fun v9 M9 H locs hpo hP hz hS => ?_) (fun x9 E9 cell9 H9 locs9 hE9 => hE9.elim)
                have hle0 := hle
                obtain ⟨rfl, hRn, hkn⟩ := hpo
                obtain ⟨M_71, hM_71⟩ : ∃ z9 : mw_M, z9 = M9 := ⟨_, rfl⟩
                rw [← hM_71] at hP hRn hkn
                have hk := md_keeps.tr hk hkn
                have hRn : md_R G o A M_71 0 (nI (fSz (fIx st))) (fs_push S ((fMx (bW S (fIx b)) (bW S (fIx sg))), (bH S (fIx b)), (((((bD S (fIx b)) + (fMx ((pV S (fIx st) 18) - (bH S (fIx sg))) (pV S (fIx st) 16))) + (bH S (fIx sg))) + (bD S (fIx sg))) + (pV S (fIx st) 19)), [], 0, 0)) := hRn
                obtain ⟨np72, bg72, g72, hT, hB⟩ := id hRn
                rw [sN_push] at hT
                have hT : md_at G o A M_71 0 (sSp S) (sSh S) (nI (sN S + 1)) (nI np72) (nI (fSz (fIx st))) g72 := hT
                have hle : sN S + 1 ≤ 120 := by have := hB.1; rw [sN_push] at this; exact this
                refine W.eq (g2 := F0 m 312 ls [.int (nI (sN S))]) rfl ?_
                refine lv_istore (lv' := [(10, .int (nI (sN S))), (9, .int (((((bD S (fIx b)) + (fMx ((pV S (fIx st) 18) - (bH S (fIx sg))) (pV S (fIx st) 16))) + (bH S (fIx sg))) + (bD S (fIx sg))) + (pV S (fIx st) 19))), (8, .int (bH S (fIx b))), (7, .int (fMx ((pV S (fIx st) 18) - (bH S (fIx sg))) (pV S (fIx st) 16))), (6, .int 0), (5, .int (fMx (bW S (fIx b)) (bW S (fIx sg)))), (0, .ref o), (1, .int (nI (fIx st))), (2, .int (nI (fIx b))), (3, .int a), (4, .int (nI (fIx sg)))]) hx hb dX4_limits_312 hl (by decide) rfl (fun ls hl => ?_)
                refine lv_iload_n hx hb dX4_limits_314 rfl (lv_at hl 9 rfl) ?_
                refine lv_iconst (v := (-1)) hx hb dX4_limits_315 (by decide) ?_
                refine lv_icmp_eq (tgt := 352) hx hb dX4_limits_316 (by decide) (fun c_73 => ?_) (fun c_73 => absurd c_18 c_73)
                refine lv_aload_n hx hb dX4_limits_352 rfl (lv_at hl 6 rfl) ?_
                refine lv_iload_n hx hb dX4_limits_353 rfl (lv_at hl 8 rfl) ?_
                refine lv_iload hx hb dX4_limits_354 (lv_at hl 5 rfl) ?_
                refine lv_aload_n hx hb dX4_limits_356 rfl (lv_at hl 6 rfl) ?_
                refine mw_get (D := gD G) (ci := 4) (v := .ref (A 1)) (C := RX4) (T := TX4) (N := 21) hx hb htb inX4 hown hK hP hT.1 rfl 5 (by decide) (htb _ wd529) (fun _ h9 => h9) rfl dX4_limits_357 ?_
                refine lv_iload_n hx hb dX4_limits_360 rfl (lv_at hl 8 rfl) ?_
                refine mw_iald hx hb hK hP 0 (show M_71 (A 1) = some (.inl (gI G, 120, .inl (g72 1))) from hT.2.1 1 (by decide)) rfl (by exact vp_in_nI (show (fIx b) < 120 by have := hle; omega) (by decide)) dX4_limits_361 ?_
                refine W.eq (g2 := F0 m 362 ls [.int (bW S (fIx b)), .int (fMx (bW S (fIx b)) (bW S (fIx sg))), .int (nI (fIx b)), .ref o]) (by rw [nI_clamp (show (fIx b) < 2 ^ 31 by have := hle; omega), hB.W (show (fIx b) < sN (fs_push S ((fMx (bW S (fIx b)) (bW S (fIx sg))), (bH S (fIx b)), (((((bD S (fIx b)) + (fMx ((pV S (fIx st) 18) - (bH S (fIx sg))) (pV S (fIx st) 16))) + (bH S (fIx sg))) + (bD S (fIx sg))) + (pV S (fIx st) 19)), [], 0, 0)) by rw [sN_push]; omega), bW_push _ h_b]) ?_
                refine lv_isub hx hb dX4_limits_362 ?_
                refine mw_callS (As := [.int ((fMx (bW S (fIx b)) (bW S (fIx sg))) - (bW S (fIx b)))]) (rest := [.int (nI (fIx b)), .ref o]) hx hb hml hown hl (kX4_half l htr G H.size M_71 ((fMx (bW S (fIx b)) (bW S (fIx sg))) - (bW S (fIx b)))) (g_B (n := 1) htb wd682 wd3 wd680 (by decide +kernel) ⟨Nat.le_of_ble_eq_true rfl, Nat.le_of_ble_eq_true rfl⟩) (htb _ wd681) hE hP hS rfl rfl (Nat.le_of_ble_eq_true rfl) dX4_limits_363 ⟨Nat.le_of_ble_eq_true rfl, Nat.le_of_ble_eq_true rfl⟩ (fun v9 M9 H locs hpo hP hz hS => ?_) (fun x9 E9 cell9 H9 locs9 hE9 => hE9.elim)
                obtain ⟨rfl, rfl⟩ := hpo
                refine W.eq (g2 := F0 m 366 ls [.int (fHf ((fMx (bW S (fIx b)) (bW S (fIx sg))) - (bW S (fIx b)))), .int (nI (fIx b)), .ref o]) rfl ?_
                refine lv_iconst (v := 0) hx hb dX4_limits_366 (by decide) ?_
                refine mw_callV (C := RX4) (As := [.int (nI (fIx b)), .int (fHf ((fMx (bW S (fIx b)) (bW S (fIx sg))) - (bW S (fIx b)))), .int 0]) (rest := []) hx hb hml hown hl (kX4_lay l htr G H.size M_71 o A 0 (nI (fSz (fIx st))) S (fMx (bW S (fIx b)) (bW S (fIx sg))) (bH S (fIx b)) (((((bD S (fIx b)) + (fMx ((pV S (fIx st) 18) - (bH S (fIx sg))) (pV S (fIx st) 16))) + (bH S (fIx sg))) + (bD S (fIx sg))) + (pV S (fIx st) 19)) ([]) 0 0 (md_R.of (np := np72) hT hB : md_R G o A M_71 0 (nI (fSz (fIx st))) (fs_push S ((fMx (bW S (fIx b)) (bW S (fIx sg))), (bH S (fIx b)), (((((bD S (fIx b)) + (fMx ((pV S (fIx st) 18) - (bH S (fIx sg))) (pV S (fIx st) 16))) + (bH S (fIx sg))) + (bD S (fIx sg))) + (pV S (fIx st) 19)), [], 0, 0))) (by simp) (nI (fIx b)) (fHf ((fMx (bW S (fIx b)) (bW S (fIx sg))) - (bW S (fIx b)))) 0) (g_B (n := 3) htb wd661 wd3 wd658 (by decide +kernel) ⟨Nat.le_of_ble_eq_true rfl, Nat.le_of_ble_eq_true rfl⟩) (htb _ wd660) (htb _ ws34) hE hP hS hT.1 rfl rfl rfl (Nat.le_of_ble_eq_true rfl) dX4_limits_367 ⟨Nat.le_of_ble_eq_true rfl, Nat.le_of_ble_eq_true rfl⟩ (fun v9 M9 H locs hpo hP hz hS => ?_) (fun x9 E9 cell9 H9 locs9 hE9 => hE9.elim)
                obtain ⟨rfl, hRn, hkn⟩ := hpo
                obtain ⟨M_74, hM_74⟩ : ∃ z9 : mw_M, z9 = M9 := ⟨_, rfl⟩
                rw [← hM_74] at hP hRn hkn
                have hk := md_keeps.tr hk hkn
                have hRn : md_R G o A M_74 0 (nI (fSz (fIx st))) (fs_push S ((fMx (bW S (fIx b)) (bW S (fIx sg))), (bH S (fIx b)), (((((bD S (fIx b)) + (fMx ((pV S (fIx st) 18) - (bH S (fIx sg))) (pV S (fIx st) 16))) + (bH S (fIx sg))) + (bD S (fIx sg))) + (pV S (fIx st) 19)), [(nI (fIx b)), (fHf ((fMx (bW S (fIx b)) (bW S (fIx sg))) - (bW S (fIx b)))), 0], 0, 0)) := hRn
                obtain ⟨np75, bg75, g75, hT, hB⟩ := id hRn
                rw [sN_push] at hT
                have hT : md_at G o A M_74 0 (sSp S) (sSh S) (nI (sN S + 1)) (nI np75) (nI (fSz (fIx st))) g75 := hT
                refine W.eq (g2 := F0 m 370 ls []) rfl ?_
                refine lv_iload hx hb dX4_limits_370 (lv_at hl 10 rfl) ?_
                refine lv_iconst (v := (-1)) hx hb dX4_limits_372 (by decide) ?_
                refine lv_icmp_eq (tgt := 413) hx hb dX4_limits_373 (by decide) (fun c_76 => absurd c_76 hn_sg) (fun c_76 => ?_)
                refine lv_aload_n hx hb dX4_limits_376 rfl (lv_at hl 6 rfl) ?_
                refine lv_iload hx hb dX4_limits_377 (lv_at hl 10 rfl) ?_
                refine lv_iload hx hb dX4_limits_379 (lv_at hl 5 rfl) ?_
                refine lv_aload_n hx hb dX4_limits_381 rfl (lv_at hl 6 rfl) ?_
                refine mw_get (D := gD G) (ci := 4) (v := .ref (A 1)) (C := RX4) (T := TX4) (N := 21) hx hb htb inX4 hown hK hP hT.1 rfl 5 (by decide) (htb _ wd529) (fun _ h9 => h9) rfl dX4_limits_382 ?_
                refine lv_iload hx hb dX4_limits_385 (lv_at hl 10 rfl) ?_
                refine mw_iald hx hb hK hP 0 (show M_74 (A 1) = some (.inl (gI G, 120, .inl (g75 1))) from hT.2.1 1 (by decide)) rfl (by exact vp_in_nI (show (fIx sg) < 120 by have := hle; omega) (by decide)) dX4_limits_387 ?_
                refine W.eq (g2 := F0 m 388 ls [.int (bW S (fIx sg)), .int (fMx (bW S (fIx b)) (bW S (fIx sg))), .int (nI (fIx sg)), .ref o]) (by rw [nI_clamp (show (fIx sg) < 2 ^ 31 by have := hle; omega), hB.W (show (fIx sg) < sN (fs_push S ((fMx (bW S (fIx b)) (bW S (fIx sg))), (bH S (fIx b)), (((((bD S (fIx b)) + (fMx ((pV S (fIx st) 18) - (bH S (fIx sg))) (pV S (fIx st) 16))) + (bH S (fIx sg))) + (bD S (fIx sg))) + (pV S (fIx st) 19)), [(nI (fIx b)), (fHf ((fMx (bW S (fIx b)) (bW S (fIx sg))) - (bW S (fIx b)))), 0], 0, 0)) by rw [sN_push]; omega), bW_push _ h_sg]) ?_
                refine lv_isub hx hb dX4_limits_388 ?_
                refine mw_callS (As := [.int ((fMx (bW S (fIx b)) (bW S (fIx sg))) - (bW S (fIx sg)))]) (rest := [.int (nI (fIx sg)), .ref o]) hx hb hml hown hl (kX4_half l htr G H.size M_74 ((fMx (bW S (fIx b)) (bW S (fIx sg))) - (bW S (fIx sg)))) (g_B (n := 1) htb wd682 wd3 wd680 (by decide +kernel) ⟨Nat.le_of_ble_eq_true rfl, Nat.le_of_ble_eq_true rfl⟩) (htb _ wd681) hE hP hS rfl rfl (Nat.le_of_ble_eq_true rfl) dX4_limits_389 ⟨Nat.le_of_ble_eq_true rfl, Nat.le_of_ble_eq_true rfl⟩ (fun v9 M9 H locs hpo hP hz hS => ?_) (fun x9 E9 cell9 H9 locs9 hE9 => hE9.elim)
                obtain ⟨rfl, rfl⟩ := hpo
                refine W.eq (g2 := F0 m 392 ls [.int (fHf ((fMx (bW S (fIx b)) (bW S (fIx sg))) - (bW S (fIx sg)))), .int (nI (fIx sg)), .ref o]) rfl ?_
                refine lv_aload_n hx hb dX4_limits_392 rfl (lv_at hl 6 rfl) ?_
                refine mw_get (D := gD G) (ci := 4) (v := .ref (A 3)) (C := RX4) (T := TX4) (N := 21) hx hb htb inX4 hown hK hP hT.1 rfl 7 (by decide) (htb _ wd531) (fun _ h9 => h9) rfl dX4_limits_393 ?_
                refine lv_iload_n hx hb dX4_limits_396 rfl (lv_at hl 8 rfl) ?_
                refine mw_iald hx hb hK hP 0 (show M_74 (A 3) = some (.inl (gI G, 120, .inl (g75 3))) from hT.2.1 3 (by decide)) rfl (by exact vp_in_nI (show (fIx b) < 120 by have := hle; omega) (by decide)) dX4_limits_397 ?_
                refine W.eq (g2 := F0 m 398 ls [.int (bD S (fIx b)), .int (fHf ((fMx (bW S (fIx b)) (bW S (fIx sg))) - (bW S (fIx sg)))), .int (nI (fIx sg)), .ref o]) (by rw [nI_clamp (show (fIx b) < 2 ^ 31 by have := hle; omega), hB.D (show (fIx b) < sN (fs_push S ((fMx (bW S (fIx b)) (bW S (fIx sg))), (bH S (fIx b)), (((((bD S (fIx b)) + (fMx ((pV S (fIx st) 18) - (bH S (fIx sg))) (pV S (fIx st) 16))) + (bH S (fIx sg))) + (bD S (fIx sg))) + (pV S (fIx st) 19)), [(nI (fIx b)), (fHf ((fMx (bW S (fIx b)) (bW S (fIx sg))) - (bW S (fIx b)))), 0], 0, 0)) by rw [sN_push]; omega), bD_push _ h_b]) ?_
                refine lv_iload hx hb dX4_limits_398 (lv_at hl 3 rfl) ?_
                refine lv_iadd hx hb dX4_limits_400 ?_
                refine lv_aload_n hx hb dX4_limits_401 rfl (lv_at hl 6 rfl) ?_
                refine mw_get (D := gD G) (ci := 4) (v := .ref (A 2)) (C := RX4) (T := TX4) (N := 21) hx hb htb inX4 hown hK hP hT.1 rfl 6 (by decide) (htb _ wd530) (fun _ h9 => h9) rfl dX4_limits_402 ?_
                refine lv_iload hx hb dX4_limits_405 (lv_at hl 10 rfl) ?_
                refine mw_iald hx hb hK hP 0 (show M_74 (A 2) = some (.inl (gI G, 120, .inl (g75 2))) from hT.2.1 2 (by decide)) rfl (by exact vp_in_nI (show (fIx sg) < 120 by have := hle; omega) (by decide)) dX4_limits_407 ?_
                refine W.eq (g2 := F0 m 408 ls [.int (bH S (fIx sg)), .int ((bD S (fIx b)) + (fMx ((pV S (fIx st) 18) - (bH S (fIx sg))) (pV S (fIx st) 16))), .int (fHf ((fMx (bW S (fIx b)) (bW S (fIx sg))) - (bW S (fIx sg)))), .int (nI (fIx sg)), .ref o]) (by rw [nI_clamp (show (fIx sg) < 2 ^ 31 by have := hle; omega), hB.H (show (fIx sg) < sN (fs_push S ((fMx (bW S (fIx b)) (bW S (fIx sg))), (bH S (fIx b)), (((((bD S (fIx b)) + (fMx ((pV S (fIx st) 18) - (bH S (fIx sg))) (pV S (fIx st) 16))) + (bH S (fIx sg))) + (bD S (fIx sg))) + (pV S (fIx st) 19)), [(nI (fIx b)), (fHf ((fMx (bW S (fIx b)) (bW S (fIx sg))) - (bW S (fIx b)))), 0], 0, 0)) by rw [sN_push]; omega), bH_push _ h_sg]) ?_
                refine lv_iadd hx hb dX4_limits_408 ?_
                refine lv_ineg hx hb dX4_limits_409 ?_
                refine mw_callV (C := RX4) (As := [.int (nI (fIx sg)), .int (fHf ((fMx (bW S (fIx b)) (bW S (fIx sg))) - (bW S (fIx sg)))), .int (-(((bD S (fIx b)) + (fMx ((pV S (fIx st) 18) - (bH S (fIx sg))) (pV S (fIx st) 16))) + (bH S (fIx sg))))]) (rest := []) hx hb hml hown hl (kX4_lay l htr G H.size M_74 o A 0 (nI (fSz (fIx st))) S (fMx (bW S (fIx b)) (bW S (fIx sg))) (bH S (fIx b)) (((((bD S (fIx b)) + (fMx ((pV S (fIx st) 18) - (bH S (fIx sg))) (pV S (fIx st) 16))) + (bH S (fIx sg))) + (bD S (fIx sg))) + (pV S (fIx st) 19)) ([(nI (fIx b)), (fHf ((fMx (bW S (fIx b)) (bW S (fIx sg))) - (bW S (fIx b)))), 0]) 0 0 (md_R.of (np := np75) hT hB : md_R G o A M_74 0 (nI (fSz (fIx st))) (fs_push S ((fMx (bW S (fIx b)) (bW S (fIx sg))), (bH S (fIx b)), (((((bD S (fIx b)) + (fMx ((pV S (fIx st) 18) - (bH S (fIx sg))) (pV S (fIx st) 16))) + (bH S (fIx sg))) + (bD S (fIx sg))) + (pV S (fIx st) 19)), [(nI (fIx b)), (fHf ((fMx (bW S (fIx b)) (bW S (fIx sg))) - (bW S (fIx b)))), 0], 0, 0))) (by simp) (nI (fIx sg)) (fHf ((fMx (bW S (fIx b)) (bW S (fIx sg))) - (bW S (fIx sg)))) (-(((bD S (fIx b)) + (fMx ((pV S (fIx st) 18) - (bH S (fIx sg))) (pV S (fIx st) 16))) + (bH S (fIx sg))))) (g_B (n := 3) htb wd661 wd3 wd658 (by decide +kernel) ⟨Nat.le_of_ble_eq_true rfl, Nat.le_of_ble_eq_true rfl⟩) (htb _ wd660) (htb _ ws34) hE hP hS hT.1 rfl rfl rfl (Nat.le_of_ble_eq_true rfl) dX4_limits_410 ⟨Nat.le_of_ble_eq_true rfl, Nat.le_of_ble_eq_true rfl⟩ (fun v9 M9 H locs hpo hP hz hS => ?_) (fun x9 E9 cell9 H9 locs9 hE9 => hE9.elim)
                obtain ⟨rfl, hRn, hkn⟩ := hpo
                obtain ⟨M_77, hM_77⟩ : ∃ z9 : mw_M, z9 = M9 := ⟨_, rfl⟩
                rw [← hM_77] at hP hRn hkn
                have hk := md_keeps.tr hk hkn
                have hRn : md_R G o A M_77 0 (nI (fSz (fIx st))) (fs_push S ((fMx (bW S (fIx b)) (bW S (fIx sg))), (bH S (fIx b)), (((((bD S (fIx b)) + (fMx ((pV S (fIx st) 18) - (bH S (fIx sg))) (pV S (fIx st) 16))) + (bH S (fIx sg))) + (bD S (fIx sg))) + (pV S (fIx st) 19)), [(nI (fIx b)), (fHf ((fMx (bW S (fIx b)) (bW S (fIx sg))) - (bW S (fIx b)))), 0, (nI (fIx sg)), (fHf ((fMx (bW S (fIx b)) (bW S (fIx sg))) - (bW S (fIx sg)))), (-(((bD S (fIx b)) + (fMx ((pV S (fIx st) 18) - (bH S (fIx sg))) (pV S (fIx st) 16))) + (bH S (fIx sg))))], 0, 0)) := hRn
                obtain ⟨np78, bg78, g78, hT, hB⟩ := id hRn
                rw [sN_push] at hT
                have hT : md_at G o A M_77 0 (sSp S) (sSh S) (nI (sN S + 1)) (nI np78) (nI (fSz (fIx st))) g78 := hT
                refine W.eq (g2 := F0 m 413 ls []) rfl ?_
                refine lv_iload hx hb dX4_limits_413 (lv_at hl 0 rfl) ?_
                have hex : ex_lim S st b a sg = 0 := by rw [ex_lim, if_neg (fun z9 => z9 ⟨kb_5, kb_10, kb_12⟩), if_neg (fun z9 => z9 ⟨kb_17, kb_58⟩), if_neg (fun z9 => z9 kb_60)]
                have hre : fs_lm S (fIx st) (fIx b) a sg = ((fMx (bW S (fIx b)) (bW S (fIx sg))), (bH S (fIx b)), (((((bD S (fIx b)) + (fMx ((pV S (fIx st) 18) - (bH S (fIx sg))) (pV S (fIx st) 16))) + (bH S (fIx sg))) + (bD S (fIx sg))) + (pV S (fIx st) 19)), [(nI (fIx b)), (fHf ((fMx (bW S (fIx b)) (bW S (fIx sg))) - (bW S (fIx b)))), 0, (nI (fIx sg)), (fHf ((fMx (bW S (fIx b)) (bW S (fIx sg))) - (bW S (fIx sg)))), (-(((bD S (fIx b)) + (fMx ((pV S (fIx st) 18) - (bH S (fIx sg))) (pV S (fIx st) 16))) + (bH S (fIx sg))))], 0, 0) := by simp only [fs_lm, fs_lw, fs_la, fs_ls, if_pos c_18, if_neg c_57, if_neg c_59, List.nil_append, List.append_nil, List.cons_append, rg_1]; rw [← e_sg]
                exact mx_iret (v := (nI (sN S))) (M' := M_77) hx hb hr hlocks hP hS ⟨by rw [hex]; rfl, ⟨_, by rw [hex, if_pos rfl, hre]; exact (md_R.of (np := np78) hT hB : md_R G o A M_77 0 (nI (fSz (fIx st))) (fs_push S ((fMx (bW S (fIx b)) (bW S (fIx sg))), (bH S (fIx b)), (((((bD S (fIx b)) + (fMx ((pV S (fIx st) 18) - (bH S (fIx sg))) (pV S (fIx st) 16))) + (bH S (fIx sg))) + (bD S (fIx sg))) + (pV S (fIx st) 19)), [(nI (fIx b)), (fHf ((fMx (bW S (fIx b)) (bW S (fIx sg))) - (bW S (fIx b)))), 0, (nI (fIx sg)), (fHf ((fMx (bW S (fIx b)) (bW S (fIx sg))) - (bW S (fIx sg)))), (-(((bD S (fIx b)) + (fMx ((pV S (fIx st) 18) - (bH S (fIx sg))) (pV S (fIx st) 16))) + (bH S (fIx sg))))], 0, 0)))⟩, hk⟩ dX4_limits_415 (Nat.le_of_ble_eq_true rfl) (Nat.le_of_ble_eq_true rfl)
              · have kb_79 : ¬ rmk S 1 := (rmk_eq hle).mp c_59
                refine lv_iconst (v := 3) hx hb dX4_limits_61 (by decide) ?_
                refine lv_goto (tgt := 66) hx hb dX4_limits_62 (by decide) ?_
                refine mw_put (D := gD G) (ci := 4) (v := .int 3) (ty := .int) (C := RX4) (T := TX4) (N := 21) hx hb htb inX4 tyX4 tyX4_ok nmX4 hown hK hP hS hT.1 hT.2.2.2.1 rfl 0 (by decide) (htb _ wd524) (fun _ h9 => h9) rfl (by decide +kernel) rfl rfl (Nat.le_of_ble_eq_true rfl) dX4_limits_66 (fun H locs hP hS => ?_)
                obtain ⟨M_80, hM_80⟩ : ∃ z9 : mw_M, z9 = mw_up M o (.inr (4, [.int 3, .ref (A 0), .int (sSp S), .int (sSh S), .int (nI (sN S)), .ref (A 1), .ref (A 2), .ref (A 3), .ref (A 4), .ref (A 5), .ref (A 6), .ref (A 7), .int (nI np), .ref (A 8), .ref (A 9), .ref (A 10), .ref (A 11), .ref (A 12), .ref (A 13), .ref (A 14), .int z])) := ⟨_, rfl⟩
                have hP : mw_P (gD G) gx_cl M_80 H := by rw [hM_80]; exact hP
                have hT : md_at G o A M_80 3 (sSp S) (sSh S) (nI (sN S)) (nI np) z g := md_at.fld hT hM_80
                have hk : md_keeps o A M M_80 := md_keeps.fld hk hM_80
                refine lv_aload_n hx hb dX4_limits_69 rfl (lv_at hl 0 rfl) ?_
                refine mw_get (D := gD G) (ci := 4) (v := .int 3) (C := RX4) (T := TX4) (N := 21) hx hb htb inX4 hown hK hP hT.1 rfl 0 (by decide) (htb _ wd524) (fun _ h9 => h9) rfl dX4_limits_70 ?_
                refine lv_if_le (tgt := 78) hx hb dX4_limits_73 (by decide) (fun c_81 => absurd c_81 (by decide)) (fun c_81 => ?_)
                refine lv_iconst (v := 0) hx hb dX4_limits_76 (by decide) ?_
                have hex : ex_lim S st b a sg = 3 := by rw [ex_lim, if_neg (fun z9 => z9 ⟨kb_5, kb_10, kb_12⟩), if_neg (fun z9 => z9 ⟨kb_17, kb_58⟩), if_pos (fun z9 => kb_79 z9)]
                exact mx_iret (v := 0) (M' := M_80) hx hb hr hlocks hP hS ⟨by rw [hex]; rfl, ⟨_, by rw [hex]; exact (⟨np, bg, g, hT, hB⟩ : md_R G o A M_80 3 z S)⟩, hk⟩ dX4_limits_77 (Nat.le_of_ble_eq_true rfl) (Nat.le_of_ble_eq_true rfl)
            · have kb_82 : ¬ on2 a sg := fun q => q ⟨c_18, c_57⟩
              refine lv_iconst (v := 2) hx hb dX4_limits_48 (by decide) ?_
              refine lv_goto (tgt := 66) hx hb dX4_limits_49 (by decide) ?_
              refine mw_put (D := gD G) (ci := 4) (v := .int 2) (ty := .int) (C := RX4) (T := TX4) (N := 21) hx hb htb inX4 tyX4 tyX4_ok nmX4 hown hK hP hS hT.1 hT.2.2.2.1 rfl 0 (by decide) (htb _ wd524) (fun _ h9 => h9) rfl (by decide +kernel) rfl rfl (Nat.le_of_ble_eq_true rfl) dX4_limits_66 (fun H locs hP hS => ?_)
              obtain ⟨M_83, hM_83⟩ : ∃ z9 : mw_M, z9 = mw_up M o (.inr (4, [.int 2, .ref (A 0), .int (sSp S), .int (sSh S), .int (nI (sN S)), .ref (A 1), .ref (A 2), .ref (A 3), .ref (A 4), .ref (A 5), .ref (A 6), .ref (A 7), .int (nI np), .ref (A 8), .ref (A 9), .ref (A 10), .ref (A 11), .ref (A 12), .ref (A 13), .ref (A 14), .int z])) := ⟨_, rfl⟩
              have hP : mw_P (gD G) gx_cl M_83 H := by rw [hM_83]; exact hP
              have hT : md_at G o A M_83 2 (sSp S) (sSh S) (nI (sN S)) (nI np) z g := md_at.fld hT hM_83
              have hk : md_keeps o A M M_83 := md_keeps.fld hk hM_83
              refine lv_aload_n hx hb dX4_limits_69 rfl (lv_at hl 0 rfl) ?_
              refine mw_get (D := gD G) (ci := 4) (v := .int 2) (C := RX4) (T := TX4) (N := 21) hx hb htb inX4 hown hK hP hT.1 rfl 0 (by decide) (htb _ wd524) (fun _ h9 => h9) rfl dX4_limits_70 ?_
              refine lv_if_le (tgt := 78) hx hb dX4_limits_73 (by decide) (fun c_84 => absurd c_84 (by decide)) (fun c_84 => ?_)
              refine lv_iconst (v := 0) hx hb dX4_limits_76 (by decide) ?_
              have hex : ex_lim S st b a sg = 2 := by rw [ex_lim, if_neg (fun z9 => z9 ⟨kb_5, kb_10, kb_12⟩), if_pos (fun z9 => kb_82 z9.2)]
              exact mx_iret (v := 0) (M' := M_83) hx hb hr hlocks hP hS ⟨by rw [hex]; rfl, ⟨_, by rw [hex]; exact (⟨np, bg, g, hT, hB⟩ : md_R G o A M_83 2 z S)⟩, hk⟩ dX4_limits_77 (Nat.le_of_ble_eq_true rfl) (Nat.le_of_ble_eq_true rfl)
      · have kb_85 : ¬ (isO S sg) := bI_f c_11
        refine lv_iconst (v := 1) hx hb dX4_limits_26 (by decide) ?_
        refine lv_goto (tgt := 66) hx hb dX4_limits_27 (by decide) ?_
        refine mw_put (D := gD G) (ci := 4) (v := .int 1) (ty := .int) (C := RX4) (T := TX4) (N := 21) hx hb htb inX4 tyX4 tyX4_ok nmX4 hown hK hP hS hT.1 hT.2.2.2.1 rfl 0 (by decide) (htb _ wd524) (fun _ h9 => h9) rfl (by decide +kernel) rfl rfl (Nat.le_of_ble_eq_true rfl) dX4_limits_66 (fun H locs hP hS => ?_)
        obtain ⟨M_86, hM_86⟩ : ∃ z9 : mw_M, z9 = mw_up M o (.inr (4, [.int 1, .ref (A 0), .int (sSp S), .int (sSh S), .int (nI (sN S)), .ref (A 1), .ref (A 2), .ref (A 3), .ref (A 4), .ref (A 5), .ref (A 6), .ref (A 7), .int (nI np), .ref (A 8), .ref (A 9), .ref (A 10), .ref (A 11), .ref (A 12), .ref (A 13), .ref (A 14), .int z])) := ⟨_, rfl⟩
        have hP : mw_P (gD G) gx_cl M_86 H := by rw [hM_86]; exact hP
        have hT : md_at G o A M_86 1 (sSp S) (sSh S) (nI (sN S)) (nI np) z g := md_at.fld hT hM_86
        have hk : md_keeps o A M M_86 := md_keeps.fld hk hM_86
        refine lv_aload_n hx hb dX4_limits_69 rfl (lv_at hl 0 rfl) ?_
        refine mw_get (D := gD G) (ci := 4) (v := .int 1) (C := RX4) (T := TX4) (N := 21) hx hb htb inX4 hown hK hP hT.1 rfl 0 (by decide) (htb _ wd524) (fun _ h9 => h9) rfl dX4_limits_70 ?_
        refine lv_if_le (tgt := 78) hx hb dX4_limits_73 (by decide) (fun c_87 => absurd c_87 (by decide)) (fun c_87 => ?_)
        refine lv_iconst (v := 0) hx hb dX4_limits_76 (by decide) ?_
        have hex : ex_lim S st b a sg = 1 := by rw [ex_lim, if_pos (fun z9 => kb_85 z9.2.2)]
        exact mx_iret (v := 0) (M' := M_86) hx hb hr hlocks hP hS ⟨by rw [hex]; rfl, ⟨_, by rw [hex]; exact (⟨np, bg, g, hT, hB⟩ : md_R G o A M_86 1 z S)⟩, hk⟩ dX4_limits_77 (Nat.le_of_ble_eq_true rfl) (Nat.le_of_ble_eq_true rfl)
