/-! printed by wip/whole/spec*.py -/
-- X4_fraction
set_option maxHeartbeats 4000000 in
set_option maxRecDepth 100000 in
theorem kX4_fraction (l : Launch) (htr : l.stackTraces = false) (G : gx_G) (sz : Nat) (M : mw_M) (o : Nat) (A : Nat → Nat) (th z : Int32) (S : fs_S) (hR : md_R G o A M th z S) (hok : fs_ok S) (st n d t : Int32) : g_Met l G yX4_fraction (.code yX4_fraction cX4_fraction 11 (some .int)) ({ frames := 5, cells := 0, slots := 0, locals := 200 } : Room) sz M [.ref o, .int st, .int n, .int d, .int t] (md_Mk G o A M S (ex_fraction S st n d t) (fs_push S (re_fraction S st n d t)) (some (.int (if ex_fraction S st n d t = 0 then nI (sN S) else 0)))) (fun _ => False) := by
  refine MetE.ofW (cc := cX4_fraction) (maxL := 11) (ret := (some .int)) (by decide) rfl ?_
  intro p e s m args below meth c s₁ B hml hv
  obtain ⟨rfl, hsz, hP, hE⟩ := hv
  have hx := B.exec
  have hb := B.bytes
  have hr := B.returns
  have hts := atoms_spec (ws := _ :: lw_big) B.pre
  have htb : ∀ w ∈ lw_big, w.before _ s = true := fun w h => hts w (List.mem_cons_of_mem _ h)
  have hno := B.noHandlers (hts _ List.mem_cons_self)
  have hown : s.vm.findClass RX4 = some m.cls := findClass_of_methodNamed B.named
  have hlocks := B.notSynchronized
  have hK := hE.1
  subst hsz
  have hS : va_S (gA G) s.heap s.heap [] := va_S.rf
  have hl := lv_entry ([.ref o, .int st, .int n, .int d, .int t]) (n := 11) (Nat.le_of_ble_eq_true rfl)
  rw [lg_entry_eq]
  generalize (lg_sl ([.ref o, .int st, .int n, .int d, .int t]) ++ List.replicate (11 - (lg_sl ([.ref o, .int st, .int n, .int d, .int t])).length) Slot.unset).toArray = ls at hl ⊢
  have hl : lv_has ls 11 [(0, .ref o), (1, .int st), (2, .int n), (3, .int d), (4, .int t)] := hl
  obtain ⟨np, bg, g, hT, hB⟩ := id hR
  have hk : md_keeps o A M M := md_keeps.rf o A M
  have hle : sN S ≤ 120 := hB.1
  refine lv_aload_n hx hb dX4_fraction_0 rfl (lv_at hl 0 rfl) ?_
  refine lv_aload_n hx hb dX4_fraction_1 rfl (lv_at hl 0 rfl) ?_
  refine lv_iload_n hx hb dX4_fraction_2 rfl (lv_at hl 2 rfl) ?_
  refine mw_callV (C := RX4) (As := [.int n]) (rest := [.ref o]) hx hb hml hown hl (kX4_isBox l htr G s.heap.size M o A th z S (⟨np, bg, g, hT, hB⟩ : md_R G o A M th z S) n) (g_B (n := 1) htb wd624 wd3 wd621 (by decide +kernel) ⟨Nat.le_of_ble_eq_true rfl, Nat.le_of_ble_eq_true rfl⟩) (htb _ wd623) (htb _ ws27) hE hP hS hT.1 rfl rfl rfl (Nat.le_of_ble_eq_true rfl) dX4_fraction_3 ⟨Nat.le_of_ble_eq_true rfl, Nat.le_of_ble_eq_true rfl⟩ (fun v9 M9 H locs hpo hP hz hS => ?_) (fun x9 E9 cell9 H9 locs9 hE9 => hE9.elim)
  obtain ⟨rfl, rfl⟩ := hpo
  refine W.eq (g2 := F0 m 6 ls [.int (bI (isB S n)), .ref o]) rfl ?_
  refine lv_if_eq (tgt := 17) hx hb dX4_fraction_6 (by decide) (fun c_1 => ?_) (fun c_1 => ?_)
  · have kb_2 : ¬ (isB S n) := bI_f c_1
    refine lv_iconst (v := 1) hx hb dX4_fraction_17 (by decide) ?_
    refine lv_goto (tgt := 57) hx hb dX4_fraction_18 (by decide) ?_
    refine mw_put (D := gD G) (ci := 4) (v := .int 1) (ty := .int) (C := RX4) (T := TX4) (N := 21) hx hb htb inX4 tyX4 tyX4_ok nmX4 hown hK hP hS hT.1 hT.2.2.2.1 rfl 0 (by decide) (htb _ wd524) (fun _ h9 => h9) rfl (by decide +kernel) rfl rfl (Nat.le_of_ble_eq_true rfl) dX4_fraction_57 (fun H locs hP hS => ?_)
    obtain ⟨M_3, hM_3⟩ : ∃ z9 : mw_M, z9 = mw_up M o (.inr (4, [.int 1, .ref (A 0), .int (sSp S), .int (sSh S), .int (nI (sN S)), .ref (A 1), .ref (A 2), .ref (A 3), .ref (A 4), .ref (A 5), .ref (A 6), .ref (A 7), .int (nI np), .ref (A 8), .ref (A 9), .ref (A 10), .ref (A 11), .ref (A 12), .ref (A 13), .ref (A 14), .int z])) := ⟨_, rfl⟩
    have hP : mw_P (gD G) gx_cl M_3 H := by rw [hM_3]; exact hP
    have hT : md_at G o A M_3 1 (sSp S) (sSh S) (nI (sN S)) (nI np) z g := md_at.fld hT hM_3
    have hk : md_keeps o A M M_3 := md_keeps.fld hk hM_3
    refine lv_aload_n hx hb dX4_fraction_60 rfl (lv_at hl 0 rfl) ?_
    refine mw_get (D := gD G) (ci := 4) (v := .int 1) (C := RX4) (T := TX4) (N := 21) hx hb htb inX4 hown hK hP hT.1 rfl 0 (by decide) (htb _ wd524) (fun _ h9 => h9) rfl dX4_fraction_61 ?_
    refine lv_if_le (tgt := 69) hx hb dX4_fraction_64 (by decide) (fun c_4 => absurd c_4 (by decide)) (fun c_4 => ?_)
    refine lv_iconst (v := 0) hx hb dX4_fraction_67 (by decide) ?_
    have hex : ex_fraction S st n d t = 1 := by rw [ex_fraction, if_pos (fun z9 => kb_2 z9.1)]
    exact mx_iret (v := 0) (M' := M_3) hx hb hr hlocks hP hS ⟨by rw [hex]; rfl, ⟨_, by rw [hex]; exact (⟨np, bg, g, hT, hB⟩ : md_R G o A M_3 1 z S)⟩, hk⟩ dX4_fraction_68 (Nat.le_of_ble_eq_true rfl) (Nat.le_of_ble_eq_true rfl)
  · have kb_5 : isB S n := bI_t c_1
    have h_n := isB_lt kb_5 hle
    have e_n := fIx_of kb_5.1
    rw [e_n] at hl
    refine lv_aload_n hx hb dX4_fraction_9 rfl (lv_at hl 0 rfl) ?_
    refine lv_iload_n hx hb dX4_fraction_10 rfl (lv_at hl 3 rfl) ?_
    refine mw_callV (C := RX4) (As := [.int d]) (rest := [.ref o]) hx hb hml hown hl (kX4_isBox l htr G H.size M o A th z S (⟨np, bg, g, hT, hB⟩ : md_R G o A M th z S) d) (g_B (n := 1) htb wd624 wd3 wd621 (by decide +kernel) ⟨Nat.le_of_ble_eq_true rfl, Nat.le_of_ble_eq_true rfl⟩) (htb _ wd623) (htb _ ws27) hE hP hS hT.1 rfl rfl rfl (Nat.le_of_ble_eq_true rfl) dX4_fraction_11 ⟨Nat.le_of_ble_eq_true rfl, Nat.le_of_ble_eq_true rfl⟩ (fun v9 M9 H locs hpo hP hz hS => ?_) (fun x9 E9 cell9 H9 locs9 hE9 => hE9.elim)
    obtain ⟨rfl, rfl⟩ := hpo
    refine W.eq (g2 := F0 m 14 ls [.int (bI (isB S d)), .ref o]) rfl ?_
    refine lv_if_ne (tgt := 21) hx hb dX4_fraction_14 (by decide) (fun c_6 => ?_) (fun c_6 => ?_)
    · have kb_7 : isB S d := bI_t c_6
      have h_d := isB_lt kb_7 hle
      have e_d := fIx_of kb_7.1
      rw [e_d] at hl
      refine lv_iload_n hx hb dX4_fraction_21 rfl (lv_at hl 1 rfl) ?_
      refine mw_callS (As := [.int st]) (rest := [.ref o]) hx hb hml hown hl (kX4_isStyle l htr G H.size M st) (g_B (n := 1) htb wd671 wd3 wd669 (by decide +kernel) ⟨Nat.le_of_ble_eq_true rfl, Nat.le_of_ble_eq_true rfl⟩) (htb _ wd670) hE hP hS rfl rfl (Nat.le_of_ble_eq_true rfl) dX4_fraction_22 ⟨Nat.le_of_ble_eq_true rfl, Nat.le_of_ble_eq_true rfl⟩ (fun v9 M9 H locs hpo hP hz hS => ?_) (fun x9 E9 cell9 H9 locs9 hE9 => hE9.elim)
      obtain ⟨rfl, rfl⟩ := hpo
      refine W.eq (g2 := F0 m 25 ls [.int (bI (isT st)), .ref o]) rfl ?_
      refine lv_if_eq (tgt := 39) hx hb dX4_fraction_25 (by decide) (fun c_8 => ?_) (fun c_8 => ?_)
      · have kb_9 : ¬ (isT st) := bI_f c_8
        refine lv_iconst (v := 2) hx hb dX4_fraction_39 (by decide) ?_
        refine lv_goto (tgt := 57) hx hb dX4_fraction_40 (by decide) ?_
        refine mw_put (D := gD G) (ci := 4) (v := .int 2) (ty := .int) (C := RX4) (T := TX4) (N := 21) hx hb htb inX4 tyX4 tyX4_ok nmX4 hown hK hP hS hT.1 hT.2.2.2.1 rfl 0 (by decide) (htb _ wd524) (fun _ h9 => h9) rfl (by decide +kernel) rfl rfl (Nat.le_of_ble_eq_true rfl) dX4_fraction_57 (fun H locs hP hS => ?_)
        obtain ⟨M_10, hM_10⟩ : ∃ z9 : mw_M, z9 = mw_up M o (.inr (4, [.int 2, .ref (A 0), .int (sSp S), .int (sSh S), .int (nI (sN S)), .ref (A 1), .ref (A 2), .ref (A 3), .ref (A 4), .ref (A 5), .ref (A 6), .ref (A 7), .int (nI np), .ref (A 8), .ref (A 9), .ref (A 10), .ref (A 11), .ref (A 12), .ref (A 13), .ref (A 14), .int z])) := ⟨_, rfl⟩
        have hP : mw_P (gD G) gx_cl M_10 H := by rw [hM_10]; exact hP
        have hT : md_at G o A M_10 2 (sSp S) (sSh S) (nI (sN S)) (nI np) z g := md_at.fld hT hM_10
        have hk : md_keeps o A M M_10 := md_keeps.fld hk hM_10
        refine lv_aload_n hx hb dX4_fraction_60 rfl (lv_at hl 0 rfl) ?_
        refine mw_get (D := gD G) (ci := 4) (v := .int 2) (C := RX4) (T := TX4) (N := 21) hx hb htb inX4 hown hK hP hT.1 rfl 0 (by decide) (htb _ wd524) (fun _ h9 => h9) rfl dX4_fraction_61 ?_
        refine lv_if_le (tgt := 69) hx hb dX4_fraction_64 (by decide) (fun c_11 => absurd c_11 (by decide)) (fun c_11 => ?_)
        refine lv_iconst (v := 0) hx hb dX4_fraction_67 (by decide) ?_
        have hex : ex_fraction S st n d t = 2 := by rw [ex_fraction, if_neg (fun z9 => z9 ⟨kb_5, kb_7⟩), if_pos (fun z9 => kb_9 z9.1)]
        exact mx_iret (v := 0) (M' := M_10) hx hb hr hlocks hP hS ⟨by rw [hex]; rfl, ⟨_, by rw [hex]; exact (⟨np, bg, g, hT, hB⟩ : md_R G o A M_10 2 z S)⟩, hk⟩ dX4_fraction_68 (Nat.le_of_ble_eq_true rfl) (Nat.le_of_ble_eq_true rfl)
      · have kb_12 : isT st := bI_t c_8
        have h_st := isT_lt kb_12
        have e_st := fIx_of kb_12.1
        rw [e_st] at hl
        refine lv_iload hx hb dX4_fraction_28 (lv_at hl 4 rfl) ?_
        refine lv_iconst (v := 0) hx hb dX4_fraction_30 (by decide) ?_
        refine lv_ldc (v := 1000000) hx hb hown (htb _ wd601) dX4_fraction_31 ?_
        refine mw_callS (As := [.int t, .int 0, .int 1000000]) (rest := [.ref o]) hx hb hml hown hl (kX4_in l htr G H.size M t 0 1000000) (g_B (n := 3) htb wd599 wd3 wd597 (by decide +kernel) ⟨Nat.le_of_ble_eq_true rfl, Nat.le_of_ble_eq_true rfl⟩) (htb _ wd598) hE hP hS rfl rfl (Nat.le_of_ble_eq_true rfl) dX4_fraction_33 ⟨Nat.le_of_ble_eq_true rfl, Nat.le_of_ble_eq_true rfl⟩ (fun v9 M9 H locs hpo hP hz hS => ?_) (fun x9 E9 cell9 H9 locs9 hE9 => hE9.elim)
        obtain ⟨rfl, rfl⟩ := hpo
        refine W.eq (g2 := F0 m 36 ls [.int (bI (wi t 0 1000000)), .ref o]) rfl ?_
        refine lv_if_ne (tgt := 43) hx hb dX4_fraction_36 (by decide) (fun c_13 => ?_) (fun c_13 => ?_)
        · have kb_14 : wi t 0 1000000 := bI_t c_13
          refine lv_aload_n hx hb dX4_fraction_43 rfl (lv_at hl 0 rfl) ?_
          refine mw_get (D := gD G) (ci := 4) (v := .int (nI (sN S))) (C := RX4) (T := TX4) (N := 21) hx hb htb inX4 hown hK hP hT.1 rfl 4 (by decide) (htb _ wd528) (fun _ h9 => h9) rfl dX4_fraction_44 ?_
          refine lv_bipush (v := 120) hx hb dX4_fraction_47 (by decide) ?_
          refine lv_icmp_ne (tgt := 56) hx hb dX4_fraction_49 (by decide) (fun c_15 => ?_) (fun c_15 => ?_)
          · have kb_16 : rmk S 1 := Decidable.byContradiction (fun z9 => c_15 ((rmk_eq hle).mpr z9))
            refine lv_iconst (v := 0) hx hb dX4_fraction_56 (by decide) ?_
            refine mw_put (D := gD G) (ci := 4) (v := .int 0) (ty := .int) (C := RX4) (T := TX4) (N := 21) hx hb htb inX4 tyX4 tyX4_ok nmX4 hown hK hP hS hT.1 hT.2.2.2.1 rfl 0 (by decide) (htb _ wd524) (fun _ h9 => h9) rfl (by decide +kernel) rfl rfl (Nat.le_of_ble_eq_true rfl) dX4_fraction_57 (fun H locs hP hS => ?_)
            obtain ⟨M_17, hM_17⟩ : ∃ z9 : mw_M, z9 = mw_up M o (.inr (4, [.int 0, .ref (A 0), .int (sSp S), .int (sSh S), .int (nI (sN S)), .ref (A 1), .ref (A 2), .ref (A 3), .ref (A 4), .ref (A 5), .ref (A 6), .ref (A 7), .int (nI np), .ref (A 8), .ref (A 9), .ref (A 10), .ref (A 11), .ref (A 12), .ref (A 13), .ref (A 14), .int z])) := ⟨_, rfl⟩
            have hP : mw_P (gD G) gx_cl M_17 H := by rw [hM_17]; exact hP
            have hT : md_at G o A M_17 0 (sSp S) (sSh S) (nI (sN S)) (nI np) z g := md_at.fld hT hM_17
            have hk : md_keeps o A M M_17 := md_keeps.fld hk hM_17
            refine lv_aload_n hx hb dX4_fraction_60 rfl (lv_at hl 0 rfl) ?_
            refine mw_get (D := gD G) (ci := 4) (v := .int 0) (C := RX4) (T := TX4) (N := 21) hx hb htb inX4 hown hK hP hT.1 rfl 0 (by decide) (htb _ wd524) (fun _ h9 => h9) rfl dX4_fraction_61 ?_
            refine lv_if_le (tgt := 69) hx hb dX4_fraction_64 (by decide) (fun c_18 => ?_) (fun c_18 => absurd (by decide) c_18)
            refine lv_aload_n hx hb dX4_fraction_69 rfl (lv_at hl 0 rfl) ?_
            refine lv_iload_n hx hb dX4_fraction_70 rfl (lv_at hl 1 rfl) ?_
            refine mw_callV (C := RX4) (As := [.int (nI (fIx st))]) (rest := []) hx hb hml hown hl (kX4_use l htr G H.size M_17 o A 0 z S (⟨np, bg, g, hT, hB⟩ : md_R G o A M_17 0 z S) (fIx st) h_st) (g_B (n := 1) htb wd675 wd3 wd672 (by decide +kernel) ⟨Nat.le_of_ble_eq_true rfl, Nat.le_of_ble_eq_true rfl⟩) (htb _ wd674) (htb _ ws35) hE hP hS hT.1 rfl rfl rfl (Nat.le_of_ble_eq_true rfl) dX4_fraction_71 ⟨Nat.le_of_ble_eq_true rfl, Nat.le_of_ble_eq_true rfl⟩ (fun v9 M9 H locs hpo hP hz hS => ?_) (fun x9 E9 cell9 H9 locs9 hE9 => hE9.elim)
            obtain ⟨rfl, hRn, hkn⟩ := hpo
            obtain ⟨M_19, hM_19⟩ : ∃ z9 : mw_M, z9 = M9 := ⟨_, rfl⟩
            rw [← hM_19] at hP hRn hkn
            have hk := md_keeps.tr hk hkn
            obtain ⟨np20, bg20, g20, hT, hB⟩ := id hRn
            refine W.eq (g2 := F0 m 74 ls []) rfl ?_
            refine lv_iload_n hx hb dX4_fraction_74 rfl (lv_at hl 1 rfl) ?_
            refine lv_if_ne (tgt := 86) hx hb dX4_fraction_75 (by decide) (fun c_21 => ?_) (fun c_21 => ?_)
            · refine lv_iload hx hb dX4_fraction_86 (lv_at hl 4 rfl) ?_
              refine lv_if_le (tgt := 99) hx hb dX4_fraction_88 (by decide) (fun c_22 => ?_) (fun c_22 => ?_)
              · have t0_23 : t = 0 := Int32.le_antisymm c_22 (Int32.not_lt.mp kb_14.1)
                refine lv_aload_n hx hb dX4_fraction_99 rfl (lv_at hl 0 rfl) ?_
                refine lv_iconst (v := 3) hx hb dX4_fraction_100 (by decide) ?_
                refine mw_callV (C := RX4) (As := [.int 3]) (rest := []) hx hb hml hown hl (kX4_p l htr G H.size M_19 o A 0 S (fIx st) 3 h_st (by decide) (⟨np20, bg20, g20, hT, hB⟩ : md_R G o A M_19 0 (nI (fSz (fIx st))) S)) (g_B (n := 1) htb wd679 wd3 wd676 (by decide +kernel) ⟨Nat.le_of_ble_eq_true rfl, Nat.le_of_ble_eq_true rfl⟩) (htb _ wd678) (htb _ ws36) hE hP hS hT.1 rfl rfl rfl (Nat.le_of_ble_eq_true rfl) dX4_fraction_101 ⟨Nat.le_of_ble_eq_true rfl, Nat.le_of_ble_eq_true rfl⟩ (fun v9 M9 H locs hpo hP hz hS => ?_) (fun x9 E9 cell9 H9 locs9 hE9 => hE9.elim)
                obtain ⟨rfl, rfl⟩ := hpo
                refine W.eq (g2 := F0 m 104 ls [.int (pV S (fIx st) 3)]) rfl ?_
                refine lv_istore (lv' := [(5, .int (pV S (fIx st) 3)), (0, .ref o), (1, .int (nI (fIx st))), (2, .int (nI (fIx n))), (3, .int (nI (fIx d))), (4, .int t)]) hx hb dX4_fraction_104 hl (by decide) rfl (fun ls hl => ?_)
                refine lv_iload_n hx hb dX4_fraction_106 rfl (lv_at hl 2 rfl) ?_
                refine lv_if_ne (tgt := 118) hx hb dX4_fraction_107 (by decide) (fun c_24 => ?_) (fun c_24 => absurd c_24 c_21)
                refine lv_aload_n hx hb dX4_fraction_118 rfl (lv_at hl 1 rfl) ?_
                refine lv_iconst (v := 5) hx hb dX4_fraction_119 (by decide) ?_
                refine mw_callV (C := RX4) (As := [.int 5]) (rest := []) hx hb hml hown hl (kX4_p l htr G H.size M_19 o A 0 S (fIx st) 5 h_st (by decide) (⟨np20, bg20, g20, hT, hB⟩ : md_R G o A M_19 0 (nI (fSz (fIx st))) S)) (g_B (n := 1) htb wd679 wd3 wd676 (by decide +kernel) ⟨Nat.le_of_ble_eq_true rfl, Nat.le_of_ble_eq_true rfl⟩) (htb _ wd678) (htb _ ws36) hE hP hS hT.1 rfl rfl rfl (Nat.le_of_ble_eq_true rfl) dX4_fraction_120 ⟨Nat.le_of_ble_eq_true rfl, Nat.le_of_ble_eq_true rfl⟩ (fun v9 M9 H locs hpo hP hz hS => ?_) (fun x9 E9 cell9 H9 locs9 hE9 => hE9.elim)
                obtain ⟨rfl, rfl⟩ := hpo
                refine W.eq (g2 := F0 m 123 ls [.int (pV S (fIx st) 5)]) rfl ?_
                refine lv_istore (lv' := [(6, .int (pV S (fIx st) 5)), (5, .int (pV S (fIx st) 3)), (0, .ref o), (1, .int (nI (fIx st))), (2, .int (nI (fIx n))), (3, .int (nI (fIx d))), (4, .int t)]) hx hb dX4_fraction_123 hl (by decide) rfl (fun ls hl => ?_)
                refine lv_iload hx hb dX4_fraction_125 (lv_at hl 6 rfl) ?_
                refine mw_callS (As := [.int t]) (rest := []) hx hb hml hown hl (kX4_half l htr G H.size M_19 t) (g_B (n := 1) htb wd682 wd3 wd680 (by decide +kernel) ⟨Nat.le_of_ble_eq_true rfl, Nat.le_of_ble_eq_true rfl⟩) (htb _ wd681) hE hP hS rfl rfl (Nat.le_of_ble_eq_true rfl) dX4_fraction_127 ⟨Nat.le_of_ble_eq_true rfl, Nat.le_of_ble_eq_true rfl⟩ (fun v9 M9 H locs hpo hP hz hS => ?_) (fun x9 E9 cell9 H9 locs9 hE9 => hE9.elim)
                obtain ⟨rfl, rfl⟩ := hpo
                refine W.eq (g2 := F0 m 130 ls [.int (fHf t)]) rfl ?_
                refine lv_istore (lv' := [(7, .int (fHf t)), (6, .int (pV S (fIx st) 5)), (5, .int (pV S (fIx st) 3)), (0, .ref o), (1, .int (nI (fIx st))), (2, .int (nI (fIx n))), (3, .int (nI (fIx d))), (4, .int t)]) hx hb dX4_fraction_130 hl (by decide) rfl (fun ls hl => ?_)
                refine lv_iload hx hb dX4_fraction_132 (lv_at hl 7 rfl) ?_
                refine lv_if_ne (tgt := 227) hx hb dX4_fraction_134 (by decide) (fun c_25 => absurd t0_23 c_25) (fun c_25 => ?_)
                refine lv_iload_n hx hb dX4_fraction_137 rfl (lv_at hl 4 rfl) ?_
                refine lv_if_ne (tgt := 153) hx hb dX4_fraction_138 (by decide) (fun c_26 => ?_) (fun c_26 => absurd c_26 c_21)
                refine lv_iconst (v := 3) hx hb dX4_fraction_153 (by decide) ?_
                refine lv_aload_n hx hb dX4_fraction_154 rfl (lv_at hl 3 rfl) ?_
                refine lv_bipush (v := 13) hx hb dX4_fraction_155 (by decide) ?_
                refine mw_callV (C := RX4) (As := [.int 13]) (rest := [.int 3]) hx hb hml hown hl (kX4_p l htr G H.size M_19 o A 0 S (fIx st) 13 h_st (by decide) (⟨np20, bg20, g20, hT, hB⟩ : md_R G o A M_19 0 (nI (fSz (fIx st))) S)) (g_B (n := 1) htb wd679 wd3 wd676 (by decide +kernel) ⟨Nat.le_of_ble_eq_true rfl, Nat.le_of_ble_eq_true rfl⟩) (htb _ wd678) (htb _ ws36) hE hP hS hT.1 rfl rfl rfl (Nat.le_of_ble_eq_true rfl) dX4_fraction_157 ⟨Nat.le_of_ble_eq_true rfl, Nat.le_of_ble_eq_true rfl⟩ (fun v9 M9 H locs hpo hP hz hS => ?_) (fun x9 E9 cell9 H9 locs9 hE9 => hE9.elim)
                obtain ⟨rfl, rfl⟩ := hpo
                refine W.eq (g2 := F0 m 160 ls [.int (pV S (fIx st) 13), .int 3]) rfl ?_
                refine lv_imul hx hb dX4_fraction_160 ?_
                refine lv_istore (lv' := [(8, .int (3 * (pV S (fIx st) 13))), (7, .int (fHf t)), (6, .int (pV S (fIx st) 5)), (5, .int (pV S (fIx st) 3)), (0, .ref o), (1, .int (nI (fIx st))), (2, .int (nI (fIx n))), (3, .int (nI (fIx d))), (4, .int t)]) hx hb dX4_fraction_161 hl (by decide) rfl (fun ls hl => ?_)
                refine lv_iload hx hb dX4_fraction_163 (lv_at hl 0 rfl) ?_
                refine lv_iload hx hb dX4_fraction_165 (lv_at hl 3 rfl) ?_
                refine lv_aload_n hx hb dX4_fraction_167 rfl (lv_at hl 4 rfl) ?_
                refine mw_get (D := gD G) (ci := 4) (v := .ref (A 3)) (C := RX4) (T := TX4) (N := 21) hx hb htb inX4 hown hK hP hT.1 rfl 7 (by decide) (htb _ wd531) (fun _ h9 => h9) rfl dX4_fraction_168 ?_
                refine lv_iload_n hx hb dX4_fraction_171 rfl (lv_at hl 6 rfl) ?_
                refine mw_iald hx hb hK hP 0 (show M_19 (A 3) = some (.inl (gI G, 120, .inl (g20 3))) from hT.2.1 3 (by decide)) rfl (by exact vp_in_nI (show (fIx n) < 120 by have := hle; omega) (by decide)) dX4_fraction_172 ?_
                refine W.eq (g2 := F0 m 173 ls [.int (bD S (fIx n)), .int (pV S (fIx st) 3), .int (3 * (pV S (fIx st) 13))]) (by rw [nI_clamp (show (fIx n) < 2 ^ 31 by have := hle; omega), hB.D h_n]) ?_
                refine lv_isub hx hb dX4_fraction_173 ?_
                refine lv_aload_n hx hb dX4_fraction_174 rfl (lv_at hl 4 rfl) ?_
                refine mw_get (D := gD G) (ci := 4) (v := .ref (A 2)) (C := RX4) (T := TX4) (N := 21) hx hb htb inX4 hown hK hP hT.1 rfl 6 (by decide) (htb _ wd530) (fun _ h9 => h9) rfl dX4_fraction_175 ?_
                refine lv_iload_n hx hb dX4_fraction_178 rfl (lv_at hl 7 rfl) ?_
                refine mw_iald hx hb hK hP 0 (show M_19 (A 2) = some (.inl (gI G, 120, .inl (g20 2))) from hT.2.1 2 (by decide)) rfl (by exact vp_in_nI (show (fIx d) < 120 by have := hle; omega) (by decide)) dX4_fraction_179 ?_
                refine W.eq (g2 := F0 m 180 ls [.int (bH S (fIx d)), .int ((pV S (fIx st) 3) - (bD S (fIx n))), .int (3 * (pV S (fIx st) 13))]) (by rw [nI_clamp (show (fIx d) < 2 ^ 31 by have := hle; omega), hB.H h_d]) ?_
                refine lv_iload hx hb dX4_fraction_180 (lv_at hl 2 rfl) ?_
                refine lv_isub hx hb dX4_fraction_182 ?_
                refine lv_isub hx hb dX4_fraction_183 ?_
                refine lv_isub hx hb dX4_fraction_184 ?_
                refine mw_callS (As := [.int ((3 * (pV S (fIx st) 13)) - (((pV S (fIx st) 3) - (bD S (fIx n))) - ((bH S (fIx d)) - (pV S (fIx st) 5))))]) (rest := []) hx hb hml hown hl (kX4_half l htr G H.size M_19 ((3 * (pV S (fIx st) 13)) - (((pV S (fIx st) 3) - (bD S (fIx n))) - ((bH S (fIx d)) - (pV S (fIx st) 5))))) (g_B (n := 1) htb wd682 wd3 wd680 (by decide +kernel) ⟨Nat.le_of_ble_eq_true rfl, Nat.le_of_ble_eq_true rfl⟩) (htb _ wd681) hE hP hS rfl rfl (Nat.le_of_ble_eq_true rfl) dX4_fraction_185 ⟨Nat.le_of_ble_eq_true rfl, Nat.le_of_ble_eq_true rfl⟩ (fun v9 M9 H locs hpo hP hz hS => ?_) (fun x9 E9 cell9 H9 locs9 hE9 => hE9.elim)
                obtain ⟨rfl, rfl⟩ := hpo
                refine W.eq (g2 := F0 m 188 ls [.int (fHf ((3 * (pV S (fIx st) 13)) - (((pV S (fIx st) 3) - (bD S (fIx n))) - ((bH S (fIx d)) - (pV S (fIx st) 5)))))]) rfl ?_
                refine lv_istore (lv' := [(9, .int (fHf ((3 * (pV S (fIx st) 13)) - (((pV S (fIx st) 3) - (bD S (fIx n))) - ((bH S (fIx d)) - (pV S (fIx st) 5)))))), (8, .int (3 * (pV S (fIx st) 13))), (7, .int (fHf t)), (6, .int (pV S (fIx st) 5)), (5, .int (pV S (fIx st) 3)), (0, .ref o), (1, .int (nI (fIx st))), (2, .int (nI (fIx n))), (3, .int (nI (fIx d))), (4, .int t)]) hx hb dX4_fraction_188 hl (by decide) rfl (fun ls hl => ?_)
                refine lv_iload hx hb dX4_fraction_190 (lv_at hl 0 rfl) ?_
                refine lv_if_le (tgt := 203) hx hb dX4_fraction_192 (by decide) (fun c_27 => ?_) (fun c_27 => ?_)
                · refine lv_iload hx hb dX4_fraction_203 (lv_at hl 4 rfl) ?_
                  refine lv_istore (lv' := [(5, .int (pV S (fIx st) 3)), (9, .int (fHf ((3 * (pV S (fIx st) 13)) - (((pV S (fIx st) 3) - (bD S (fIx n))) - ((bH S (fIx d)) - (pV S (fIx st) 5)))))), (8, .int (3 * (pV S (fIx st) 13))), (7, .int (fHf t)), (6, .int (pV S (fIx st) 5)), (0, .ref o), (1, .int (nI (fIx st))), (2, .int (nI (fIx n))), (3, .int (nI (fIx d))), (4, .int t)]) hx hb dX4_fraction_205 hl (by decide) rfl (fun ls hl => ?_)
                  refine lv_iload hx hb dX4_fraction_207 (lv_at hl 1 rfl) ?_
                  refine lv_if_le (tgt := 220) hx hb dX4_fraction_209 (by decide) (fun c_28 => ?_) (fun c_28 => absurd c_27 c_28)
                  refine lv_iload hx hb dX4_fraction_220 (lv_at hl 4 rfl) ?_
                  refine lv_istore (lv' := [(6, .int (pV S (fIx st) 5)), (5, .int (pV S (fIx st) 3)), (9, .int (fHf ((3 * (pV S (fIx st) 13)) - (((pV S (fIx st) 3) - (bD S (fIx n))) - ((bH S (fIx d)) - (pV S (fIx st) 5)))))), (8, .int (3 * (pV S (fIx st) 13))), (7, .int (fHf t)), (0, .ref o), (1, .int (nI (fIx st))), (2, .int (nI (fIx n))), (3, .int (nI (fIx d))), (4, .int t)]) hx hb dX4_fraction_222 hl (by decide) rfl (fun ls hl => ?_)
                  refine lv_goto (tgt := 322) hx hb dX4_fraction_224 (by decide) ?_
                  refine lv_aload_n hx hb dX4_fraction_322 rfl (lv_at hl 5 rfl) ?_
                  refine mw_get (D := gD G) (ci := 4) (v := .ref (A 1)) (C := RX4) (T := TX4) (N := 21) hx hb htb inX4 hown hK hP hT.1 rfl 5 (by decide) (htb _ wd529) (fun _ h9 => h9) rfl dX4_fraction_323 ?_
                  refine lv_iload_n hx hb dX4_fraction_326 rfl (lv_at hl 7 rfl) ?_
                  refine mw_iald hx hb hK hP 0 (show M_19 (A 1) = some (.inl (gI G, 120, .inl (g20 1))) from hT.2.1 1 (by decide)) rfl (by exact vp_in_nI (show (fIx n) < 120 by have := hle; omega) (by decide)) dX4_fraction_327 ?_
                  refine W.eq (g2 := F0 m 328 ls [.int (bW S (fIx n))]) (by rw [nI_clamp (show (fIx n) < 2 ^ 31 by have := hle; omega), hB.W h_n]) ?_
                  refine lv_aload_n hx hb dX4_fraction_328 rfl (lv_at hl 5 rfl) ?_
                  refine mw_get (D := gD G) (ci := 4) (v := .ref (A 1)) (C := RX4) (T := TX4) (N := 21) hx hb htb inX4 hown hK hP hT.1 rfl 5 (by decide) (htb _ wd529) (fun _ h9 => h9) rfl dX4_fraction_329 ?_
                  refine lv_iload_n hx hb dX4_fraction_332 rfl (lv_at hl 8 rfl) ?_
                  refine mw_iald hx hb hK hP 0 (show M_19 (A 1) = some (.inl (gI G, 120, .inl (g20 1))) from hT.2.1 1 (by decide)) rfl (by exact vp_in_nI (show (fIx d) < 120 by have := hle; omega) (by decide)) dX4_fraction_333 ?_
                  refine W.eq (g2 := F0 m 334 ls [.int (bW S (fIx d)), .int (bW S (fIx n))]) (by rw [nI_clamp (show (fIx d) < 2 ^ 31 by have := hle; omega), hB.W h_d]) ?_
                  refine mw_callS (As := [.int (bW S (fIx n)), .int (bW S (fIx d))]) (rest := []) hx hb hml hown hl (kX4_greater l htr G H.size M_19 (bW S (fIx n)) (bW S (fIx d))) (g_B (n := 2) htb wd664 wd3 wd662 (by decide +kernel) ⟨Nat.le_of_ble_eq_true rfl, Nat.le_of_ble_eq_true rfl⟩) (htb _ wd663) hE hP hS rfl rfl (Nat.le_of_ble_eq_true rfl) dX4_fraction_334 ⟨Nat.le_of_ble_eq_true rfl, Nat.le_of_ble_eq_true rfl⟩ (fun v9 M9 H locs hpo hP hz hS => ?_) (fun x9 E9 cell9 H9 locs9 hE9 => hE9.elim)
                  obtain ⟨rfl, rfl⟩ := hpo
                  refine W.eq (g2 := F0 m 337 ls [.int (fMx (bW S (fIx n)) (bW S (fIx d)))]) rfl ?_
                  refine lv_istore (lv' := [(8, .int (fMx (bW S (fIx n)) (bW S (fIx d)))), (6, .int (pV S (fIx st) 5)), (5, .int (pV S (fIx st) 3)), (9, .int (fHf ((3 * (pV S (fIx st) 13)) - (((pV S (fIx st) 3) - (bD S (fIx n))) - ((bH S (fIx d)) - (pV S (fIx st) 5)))))), (7, .int (fHf t)), (0, .ref o), (1, .int (nI (fIx st))), (2, .int (nI (fIx n))), (3, .int (nI (fIx d))), (4, .int t)]) hx hb dX4_fraction_337 hl (by decide) rfl (fun ls hl => ?_)
                  refine lv_aload_n hx hb dX4_fraction_339 rfl (lv_at hl 5 rfl) ?_
                  refine lv_iload hx hb dX4_fraction_340 (lv_at hl 0 rfl) ?_
                  refine lv_iload hx hb dX4_fraction_342 (lv_at hl 2 rfl) ?_
                  refine lv_aload_n hx hb dX4_fraction_344 rfl (lv_at hl 5 rfl) ?_
                  refine mw_get (D := gD G) (ci := 4) (v := .ref (A 2)) (C := RX4) (T := TX4) (N := 21) hx hb htb inX4 hown hK hP hT.1 rfl 6 (by decide) (htb _ wd530) (fun _ h9 => h9) rfl dX4_fraction_345 ?_
                  refine lv_iload_n hx hb dX4_fraction_348 rfl (lv_at hl 7 rfl) ?_
                  refine mw_iald hx hb hK hP 0 (show M_19 (A 2) = some (.inl (gI G, 120, .inl (g20 2))) from hT.2.1 2 (by decide)) rfl (by exact vp_in_nI (show (fIx n) < 120 by have := hle; omega) (by decide)) dX4_fraction_349 ?_
                  refine W.eq (g2 := F0 m 350 ls [.int (bH S (fIx n)), .int (pV S (fIx st) 3), .int (fMx (bW S (fIx n)) (bW S (fIx d))), .ref o]) (by rw [nI_clamp (show (fIx n) < 2 ^ 31 by have := hle; omega), hB.H h_n]) ?_
                  refine lv_iadd hx hb dX4_fraction_350 ?_
                  refine lv_aload_n hx hb dX4_fraction_351 rfl (lv_at hl 5 rfl) ?_
                  refine mw_get (D := gD G) (ci := 4) (v := .ref (A 3)) (C := RX4) (T := TX4) (N := 21) hx hb htb inX4 hown hK hP hT.1 rfl 7 (by decide) (htb _ wd531) (fun _ h9 => h9) rfl dX4_fraction_352 ?_
                  refine lv_iload_n hx hb dX4_fraction_355 rfl (lv_at hl 8 rfl) ?_
                  refine mw_iald hx hb hK hP 0 (show M_19 (A 3) = some (.inl (gI G, 120, .inl (g20 3))) from hT.2.1 3 (by decide)) rfl (by exact vp_in_nI (show (fIx d) < 120 by have := hle; omega) (by decide)) dX4_fraction_356 ?_
                  refine W.eq (g2 := F0 m 357 ls [.int (bD S (fIx d)), .int ((pV S (fIx st) 3) + (bH S (fIx n))), .int (fMx (bW S (fIx n)) (bW S (fIx d))), .ref o]) (by rw [nI_clamp (show (fIx d) < 2 ^ 31 by have := hle; omega), hB.D h_d]) ?_
                  refine lv_iload hx hb dX4_fraction_357 (lv_at hl 1 rfl) ?_
                  refine lv_iadd hx hb dX4_fraction_359 ?_
                  refine mw_callV (C := RX4) (As := [.int (fMx (bW S (fIx n)) (bW S (fIx d))), .int ((pV S (fIx st) 3) + (bH S (fIx n))), .int ((bD S (fIx d)) + (pV S (fIx st) 5))]) (rest := []) hx hb hml hown hl (kX4_make l htr G H.size M_19 o A 0 (nI (fSz (fIx st))) S (⟨np20, bg20, g20, hT, hB⟩ : md_R G o A M_19 0 (nI (fSz (fIx st))) S) (rmk_lt kb_16 hle) (fMx (bW S (fIx n)) (bW S (fIx d))) ((pV S (fIx st) 3) + (bH S (fIx n))) ((bD S (fIx d)) + (pV S (fIx st) 5))) (g_B (n := 3) htb wd613 wd3 wd610 (by decide +kernel) ⟨Nat.le_of_ble_eq_true rfl, Nat.le_of_ble_eq_true rfl⟩) (htb _ wd612) (htb _ ws26) hE hP hS hT.1 rfl rfl rfl (Nat.le_of_ble_eq_true rfl) dX4_fraction_360 ⟨Nat.le_of_ble_eq_true rfl, Nat.le_of_ble_eq_true rfl⟩ (fun v9 M9 H locs hpo hP hz hS => ?_) (fun x9 E9 cell9 H9 locs9 hE9 => hE9.elim)
                  have hle0 := hle
                  obtain ⟨rfl, hRn, hkn⟩ := hpo
                  obtain ⟨M_29, hM_29⟩ : ∃ z9 : mw_M, z9 = M9 := ⟨_, rfl⟩
                  rw [← hM_29] at hP hRn hkn
                  have hk := md_keeps.tr hk hkn
                  have hRn : md_R G o A M_29 0 (nI (fSz (fIx st))) (fs_push S ((fMx (bW S (fIx n)) (bW S (fIx d))), ((pV S (fIx st) 3) + (bH S (fIx n))), ((bD S (fIx d)) + (pV S (fIx st) 5)), [], 0, 0)) := hRn
                  obtain ⟨np30, bg30, g30, hT, hB⟩ := id hRn
                  rw [sN_push] at hT
                  have hT : md_at G o A M_29 0 (sSp S) (sSh S) (nI (sN S + 1)) (nI np30) (nI (fSz (fIx st))) g30 := hT
                  have hle : sN S + 1 ≤ 120 := by have := hB.1; rw [sN_push] at this; exact this
                  refine W.eq (g2 := F0 m 363 ls [.int (nI (sN S))]) rfl ?_
                  refine lv_istore (lv' := [(9, .int (nI (sN S))), (8, .int (fMx (bW S (fIx n)) (bW S (fIx d)))), (6, .int (pV S (fIx st) 5)), (5, .int (pV S (fIx st) 3)), (7, .int (fHf t)), (0, .ref o), (1, .int (nI (fIx st))), (2, .int (nI (fIx n))), (3, .int (nI (fIx d))), (4, .int t)]) hx hb dX4_fraction_363 hl (by decide) rfl (fun ls hl => ?_)
                  refine lv_aload_n hx hb dX4_fraction_365 rfl (lv_at hl 5 rfl) ?_
                  refine lv_iload_n hx hb dX4_fraction_366 rfl (lv_at hl 7 rfl) ?_
                  refine lv_iload hx hb dX4_fraction_367 (lv_at hl 1 rfl) ?_
                  refine lv_aload_n hx hb dX4_fraction_369 rfl (lv_at hl 5 rfl) ?_
                  refine mw_get (D := gD G) (ci := 4) (v := .ref (A 1)) (C := RX4) (T := TX4) (N := 21) hx hb htb inX4 hown hK hP hT.1 rfl 5 (by decide) (htb _ wd529) (fun _ h9 => h9) rfl dX4_fraction_370 ?_
                  refine lv_iload_n hx hb dX4_fraction_373 rfl (lv_at hl 7 rfl) ?_
                  refine mw_iald hx hb hK hP 0 (show M_29 (A 1) = some (.inl (gI G, 120, .inl (g30 1))) from hT.2.1 1 (by decide)) rfl (by exact vp_in_nI (show (fIx n) < 120 by have := hle; omega) (by decide)) dX4_fraction_374 ?_
                  refine W.eq (g2 := F0 m 375 ls [.int (bW S (fIx n)), .int (fMx (bW S (fIx n)) (bW S (fIx d))), .int (nI (fIx n)), .ref o]) (by rw [nI_clamp (show (fIx n) < 2 ^ 31 by have := hle; omega), hB.W (show (fIx n) < sN (fs_push S ((fMx (bW S (fIx n)) (bW S (fIx d))), ((pV S (fIx st) 3) + (bH S (fIx n))), ((bD S (fIx d)) + (pV S (fIx st) 5)), [], 0, 0)) by rw [sN_push]; omega), bW_push _ h_n]) ?_
                  refine lv_isub hx hb dX4_fraction_375 ?_
                  refine mw_callS (As := [.int ((fMx (bW S (fIx n)) (bW S (fIx d))) - (bW S (fIx n)))]) (rest := [.int (nI (fIx n)), .ref o]) hx hb hml hown hl (kX4_half l htr G H.size M_29 ((fMx (bW S (fIx n)) (bW S (fIx d))) - (bW S (fIx n)))) (g_B (n := 1) htb wd682 wd3 wd680 (by decide +kernel) ⟨Nat.le_of_ble_eq_true rfl, Nat.le_of_ble_eq_true rfl⟩) (htb _ wd681) hE hP hS rfl rfl (Nat.le_of_ble_eq_true rfl) dX4_fraction_376 ⟨Nat.le_of_ble_eq_true rfl, Nat.le_of_ble_eq_true rfl⟩ (fun v9 M9 H locs hpo hP hz hS => ?_) (fun x9 E9 cell9 H9 locs9 hE9 => hE9.elim)
                  obtain ⟨rfl, rfl⟩ := hpo
                  refine W.eq (g2 := F0 m 379 ls [.int (fHf ((fMx (bW S (fIx n)) (bW S (fIx d))) - (bW S (fIx n)))), .int (nI (fIx n)), .ref o]) rfl ?_
                  refine lv_iload hx hb dX4_fraction_379 (lv_at hl 3 rfl) ?_
                  refine mw_callV (C := RX4) (As := [.int (nI (fIx n)), .int (fHf ((fMx (bW S (fIx n)) (bW S (fIx d))) - (bW S (fIx n)))), .int (pV S (fIx st) 3)]) (rest := []) hx hb hml hown hl (kX4_lay l htr G H.size M_29 o A 0 (nI (fSz (fIx st))) S (fMx (bW S (fIx n)) (bW S (fIx d))) ((pV S (fIx st) 3) + (bH S (fIx n))) ((bD S (fIx d)) + (pV S (fIx st) 5)) ([]) 0 0 (md_R.of (np := np30) hT hB : md_R G o A M_29 0 (nI (fSz (fIx st))) (fs_push S ((fMx (bW S (fIx n)) (bW S (fIx d))), ((pV S (fIx st) 3) + (bH S (fIx n))), ((bD S (fIx d)) + (pV S (fIx st) 5)), [], 0, 0))) (by simp) (nI (fIx n)) (fHf ((fMx (bW S (fIx n)) (bW S (fIx d))) - (bW S (fIx n)))) (pV S (fIx st) 3)) (g_B (n := 3) htb wd661 wd3 wd658 (by decide +kernel) ⟨Nat.le_of_ble_eq_true rfl, Nat.le_of_ble_eq_true rfl⟩) (htb _ wd660) (htb _ ws34) hE hP hS hT.1 rfl rfl rfl (Nat.le_of_ble_eq_true rfl) dX4_fraction_381 ⟨Nat.le_of_ble_eq_true rfl, Nat.le_of_ble_eq_true rfl⟩ (fun v9 M9 H locs hpo hP hz hS => ?_) (fun x9 E9 cell9 H9 locs9 hE9 => hE9.elim)
                  obtain ⟨rfl, hRn, hkn⟩ := hpo
                  obtain ⟨M_31, hM_31⟩ : ∃ z9 : mw_M, z9 = M9 := ⟨_, rfl⟩
                  rw [← hM_31] at hP hRn hkn
                  have hk := md_keeps.tr hk hkn
                  have hRn : md_R G o A M_31 0 (nI (fSz (fIx st))) (fs_push S ((fMx (bW S (fIx n)) (bW S (fIx d))), ((pV S (fIx st) 3) + (bH S (fIx n))), ((bD S (fIx d)) + (pV S (fIx st) 5)), [(nI (fIx n)), (fHf ((fMx (bW S (fIx n)) (bW S (fIx d))) - (bW S (fIx n)))), (pV S (fIx st) 3)], 0, 0)) := hRn
                  obtain ⟨np32, bg32, g32, hT, hB⟩ := id hRn
                  rw [sN_push] at hT
                  have hT : md_at G o A M_31 0 (sSp S) (sSh S) (nI (sN S + 1)) (nI np32) (nI (fSz (fIx st))) g32 := hT
                  refine W.eq (g2 := F0 m 384 ls []) rfl ?_
                  refine lv_aload_n hx hb dX4_fraction_384 rfl (lv_at hl 5 rfl) ?_
                  refine lv_iload_n hx hb dX4_fraction_385 rfl (lv_at hl 8 rfl) ?_
                  refine lv_iload hx hb dX4_fraction_386 (lv_at hl 1 rfl) ?_
                  refine lv_aload_n hx hb dX4_fraction_388 rfl (lv_at hl 5 rfl) ?_
                  refine mw_get (D := gD G) (ci := 4) (v := .ref (A 1)) (C := RX4) (T := TX4) (N := 21) hx hb htb inX4 hown hK hP hT.1 rfl 5 (by decide) (htb _ wd529) (fun _ h9 => h9) rfl dX4_fraction_389 ?_
                  refine lv_iload_n hx hb dX4_fraction_392 rfl (lv_at hl 8 rfl) ?_
                  refine mw_iald hx hb hK hP 0 (show M_31 (A 1) = some (.inl (gI G, 120, .inl (g32 1))) from hT.2.1 1 (by decide)) rfl (by exact vp_in_nI (show (fIx d) < 120 by have := hle; omega) (by decide)) dX4_fraction_393 ?_
                  refine W.eq (g2 := F0 m 394 ls [.int (bW S (fIx d)), .int (fMx (bW S (fIx n)) (bW S (fIx d))), .int (nI (fIx d)), .ref o]) (by rw [nI_clamp (show (fIx d) < 2 ^ 31 by have := hle; omega), hB.W (show (fIx d) < sN (fs_push S ((fMx (bW S (fIx n)) (bW S (fIx d))), ((pV S (fIx st) 3) + (bH S (fIx n))), ((bD S (fIx d)) + (pV S (fIx st) 5)), [(nI (fIx n)), (fHf ((fMx (bW S (fIx n)) (bW S (fIx d))) - (bW S (fIx n)))), (pV S (fIx st) 3)], 0, 0)) by rw [sN_push]; omega), bW_push _ h_d]) ?_
                  refine lv_isub hx hb dX4_fraction_394 ?_
                  refine mw_callS (As := [.int ((fMx (bW S (fIx n)) (bW S (fIx d))) - (bW S (fIx d)))]) (rest := [.int (nI (fIx d)), .ref o]) hx hb hml hown hl (kX4_half l htr G H.size M_31 ((fMx (bW S (fIx n)) (bW S (fIx d))) - (bW S (fIx d)))) (g_B (n := 1) htb wd682 wd3 wd680 (by decide +kernel) ⟨Nat.le_of_ble_eq_true rfl, Nat.le_of_ble_eq_true rfl⟩) (htb _ wd681) hE hP hS rfl rfl (Nat.le_of_ble_eq_true rfl) dX4_fraction_395 ⟨Nat.le_of_ble_eq_true rfl, Nat.le_of_ble_eq_true rfl⟩ (fun v9 M9 H locs hpo hP hz hS => ?_) (fun x9 E9 cell9 H9 locs9 hE9 => hE9.elim)
                  obtain ⟨rfl, rfl⟩ := hpo
                  refine W.eq (g2 := F0 m 398 ls [.int (fHf ((fMx (bW S (fIx n)) (bW S (fIx d))) - (bW S (fIx d)))), .int (nI (fIx d)), .ref o]) rfl ?_
                  refine lv_iload hx hb dX4_fraction_398 (lv_at hl 2 rfl) ?_
                  refine lv_ineg hx hb dX4_fraction_400 ?_
                  refine mw_callV (C := RX4) (As := [.int (nI (fIx d)), .int (fHf ((fMx (bW S (fIx n)) (bW S (fIx d))) - (bW S (fIx d)))), .int (-(pV S (fIx st) 5))]) (rest := []) hx hb hml hown hl (kX4_lay l htr G H.size M_31 o A 0 (nI (fSz (fIx st))) S (fMx (bW S (fIx n)) (bW S (fIx d))) ((pV S (fIx st) 3) + (bH S (fIx n))) ((bD S (fIx d)) + (pV S (fIx st) 5)) ([(nI (fIx n)), (fHf ((fMx (bW S (fIx n)) (bW S (fIx d))) - (bW S (fIx n)))), (pV S (fIx st) 3)]) 0 0 (md_R.of (np := np32) hT hB : md_R G o A M_31 0 (nI (fSz (fIx st))) (fs_push S ((fMx (bW S (fIx n)) (bW S (fIx d))), ((pV S (fIx st) 3) + (bH S (fIx n))), ((bD S (fIx d)) + (pV S (fIx st) 5)), [(nI (fIx n)), (fHf ((fMx (bW S (fIx n)) (bW S (fIx d))) - (bW S (fIx n)))), (pV S (fIx st) 3)], 0, 0))) (by simp) (nI (fIx d)) (fHf ((fMx (bW S (fIx n)) (bW S (fIx d))) - (bW S (fIx d)))) (-(pV S (fIx st) 5))) (g_B (n := 3) htb wd661 wd3 wd658 (by decide +kernel) ⟨Nat.le_of_ble_eq_true rfl, Nat.le_of_ble_eq_true rfl⟩) (htb _ wd660) (htb _ ws34) hE hP hS hT.1 rfl rfl rfl (Nat.le_of_ble_eq_true rfl) dX4_fraction_401 ⟨Nat.le_of_ble_eq_true rfl, Nat.le_of_ble_eq_true rfl⟩ (fun v9 M9 H locs hpo hP hz hS => ?_) (fun x9 E9 cell9 H9 locs9 hE9 => hE9.elim)
                  obtain ⟨rfl, hRn, hkn⟩ := hpo
                  obtain ⟨M_33, hM_33⟩ : ∃ z9 : mw_M, z9 = M9 := ⟨_, rfl⟩
                  rw [← hM_33] at hP hRn hkn
                  have hk := md_keeps.tr hk hkn
                  have hRn : md_R G o A M_33 0 (nI (fSz (fIx st))) (fs_push S ((fMx (bW S (fIx n)) (bW S (fIx d))), ((pV S (fIx st) 3) + (bH S (fIx n))), ((bD S (fIx d)) + (pV S (fIx st) 5)), [(nI (fIx n)), (fHf ((fMx (bW S (fIx n)) (bW S (fIx d))) - (bW S (fIx n)))), (pV S (fIx st) 3), (nI (fIx d)), (fHf ((fMx (bW S (fIx n)) (bW S (fIx d))) - (bW S (fIx d)))), (-(pV S (fIx st) 5))], 0, 0)) := hRn
                  obtain ⟨np34, bg34, g34, hT, hB⟩ := id hRn
                  rw [sN_push] at hT
                  have hT : md_at G o A M_33 0 (sSp S) (sSh S) (nI (sN S + 1)) (nI np34) (nI (fSz (fIx st))) g34 := hT
                  refine W.eq (g2 := F0 m 404 ls []) rfl ?_
                  refine lv_iload hx hb dX4_fraction_404 (lv_at hl 9 rfl) ?_
                  refine lv_if_le (tgt := 444) hx hb dX4_fraction_406 (by decide) (fun c_35 => ?_) (fun c_35 => absurd c_22 c_35)
                  refine lv_iload hx hb dX4_fraction_444 (lv_at hl 0 rfl) ?_
                  have hex : ex_fraction S st n d t = 0 := by rw [ex_fraction, if_neg (fun z9 => z9 ⟨kb_5, kb_7⟩), if_neg (fun z9 => z9 ⟨kb_12, kb_14⟩), if_neg (fun z9 => z9 kb_16)]
                  have hre : re_fraction S st n d t = ((fMx (bW S (fIx n)) (bW S (fIx d))), ((pV S (fIx st) 3) + (bH S (fIx n))), ((bD S (fIx d)) + (pV S (fIx st) 5)), [(nI (fIx n)), (fHf ((fMx (bW S (fIx n)) (bW S (fIx d))) - (bW S (fIx n)))), (pV S (fIx st) 3), (nI (fIx d)), (fHf ((fMx (bW S (fIx n)) (bW S (fIx d))) - (bW S (fIx d)))), (-(pV S (fIx st) 5))], 0, 0) := by simp only [re_fraction, fs_fb, fs_fb1, fs_fb2, fs_fb3, fs_fl, fs_fl1, fs_fl3, if_neg c_15, if_neg c_21, if_pos c_22, if_pos c_27, Int32.add_zero]
                  exact mx_iret (v := (nI (sN S))) (M' := M_33) hx hb hr hlocks hP hS ⟨by rw [hex]; rfl, ⟨_, by rw [hex, if_pos rfl, hre]; exact (md_R.of (np := np34) hT hB : md_R G o A M_33 0 (nI (fSz (fIx st))) (fs_push S ((fMx (bW S (fIx n)) (bW S (fIx d))), ((pV S (fIx st) 3) + (bH S (fIx n))), ((bD S (fIx d)) + (pV S (fIx st) 5)), [(nI (fIx n)), (fHf ((fMx (bW S (fIx n)) (bW S (fIx d))) - (bW S (fIx n)))), (pV S (fIx st) 3), (nI (fIx d)), (fHf ((fMx (bW S (fIx n)) (bW S (fIx d))) - (bW S (fIx d)))), (-(pV S (fIx st) 5))], 0, 0)))⟩, hk⟩ dX4_fraction_446 (Nat.le_of_ble_eq_true rfl) (Nat.le_of_ble_eq_true rfl)
                · refine lv_iload hx hb dX4_fraction_195 (lv_at hl 4 rfl) ?_
                  refine lv_iload hx hb dX4_fraction_197 (lv_at hl 0 rfl) ?_
                  refine lv_iadd hx hb dX4_fraction_199 ?_
                  refine lv_goto (tgt := 205) hx hb dX4_fraction_200 (by decide) ?_
                  refine lv_istore (lv' := [(5, .int ((pV S (fIx st) 3) + (fHf ((3 * (pV S (fIx st) 13)) - (((pV S (fIx st) 3) - (bD S (fIx n))) - ((bH S (fIx d)) - (pV S (fIx st) 5))))))), (9, .int (fHf ((3 * (pV S (fIx st) 13)) - (((pV S (fIx st) 3) - (bD S (fIx n))) - ((bH S (fIx d)) - (pV S (fIx st) 5)))))), (8, .int (3 * (pV S (fIx st) 13))), (7, .int (fHf t)), (6, .int (pV S (fIx st) 5)), (0, .ref o), (1, .int (nI (fIx st))), (2, .int (nI (fIx n))), (3, .int (nI (fIx d))), (4, .int t)]) hx hb dX4_fraction_205 hl (by decide) rfl (fun ls hl => ?_)
                  refine lv_iload hx hb dX4_fraction_207 (lv_at hl 1 rfl) ?_
                  refine lv_if_le (tgt := 220) hx hb dX4_fraction_209 (by decide) (fun c_36 => absurd c_36 c_27) (fun c_36 => ?_)
                  refine lv_iload hx hb dX4_fraction_212 (lv_at hl 4 rfl) ?_
                  refine lv_iload hx hb dX4_fraction_214 (lv_at hl 1 rfl) ?_
                  refine lv_iadd hx hb dX4_fraction_216 ?_
                  refine lv_goto (tgt := 222) hx hb dX4_fraction_217 (by decide) ?_
                  refine lv_istore (lv' := [(6, .int ((pV S (fIx st) 5) + (fHf ((3 * (pV S (fIx st) 13)) - (((pV S (fIx st) 3) - (bD S (fIx n))) - ((bH S (fIx d)) - (pV S (fIx st) 5))))))), (5, .int ((pV S (fIx st) 3) + (fHf ((3 * (pV S (fIx st) 13)) - (((pV S (fIx st) 3) - (bD S (fIx n))) - ((bH S (fIx d)) - (pV S (fIx st) 5))))))), (9, .int (fHf ((3 * (pV S (fIx st) 13)) - (((pV S (fIx st) 3) - (bD S (fIx n))) - ((bH S (fIx d)) - (pV S (fIx st) 5)))))), (8, .int (3 * (pV S (fIx st) 13))), (7, .int (fHf t)), (0, .ref o), (1, .int (nI (fIx st))), (2, .int (nI (fIx n))), (3, .int (nI (fIx d))), (4, .int t)]) hx hb dX4_fraction_222 hl (by decide) rfl (fun ls hl => ?_)
                  refine lv_goto (tgt := 322) hx hb dX4_fraction_224 (by decide) ?_
                  refine lv_aload_n hx hb dX4_fraction_322 rfl (lv_at hl 5 rfl) ?_
                  refine mw_get (D := gD G) (ci := 4) (v := .ref (A 1)) (C := RX4) (T := TX4) (N := 21) hx hb htb inX4 hown hK hP hT.1 rfl 5 (by decide) (htb _ wd529) (fun _ h9 => h9) rfl dX4_fraction_323 ?_
                  refine lv_iload_n hx hb dX4_fraction_326 rfl (lv_at hl 7 rfl) ?_
                  refine mw_iald hx hb hK hP 0 (show M_19 (A 1) = some (.inl (gI G, 120, .inl (g20 1))) from hT.2.1 1 (by decide)) rfl (by exact vp_in_nI (show (fIx n) < 120 by have := hle; omega) (by decide)) dX4_fraction_327 ?_
                  refine W.eq (g2 := F0 m 328 ls [.int (bW S (fIx n))]) (by rw [nI_clamp (show (fIx n) < 2 ^ 31 by have := hle; omega), hB.W h_n]) ?_
                  refine lv_aload_n hx hb dX4_fraction_328 rfl (lv_at hl 5 rfl) ?_
                  refine mw_get (D := gD G) (ci := 4) (v := .ref (A 1)) (C := RX4) (T := TX4) (N := 21) hx hb htb inX4 hown hK hP hT.1 rfl 5 (by decide) (htb _ wd529) (fun _ h9 => h9) rfl dX4_fraction_329 ?_
                  refine lv_iload_n hx hb dX4_fraction_332 rfl (lv_at hl 8 rfl) ?_
                  refine mw_iald hx hb hK hP 0 (show M_19 (A 1) = some (.inl (gI G, 120, .inl (g20 1))) from hT.2.1 1 (by decide)) rfl (by exact vp_in_nI (show (fIx d) < 120 by have := hle; omega) (by decide)) dX4_fraction_333 ?_
                  refine W.eq (g2 := F0 m 334 ls [.int (bW S (fIx d)), .int (bW S (fIx n))]) (by rw [nI_clamp (show (fIx d) < 2 ^ 31 by have := hle; omega), hB.W h_d]) ?_
                  refine mw_callS (As := [.int (bW S (fIx n)), .int (bW S (fIx d))]) (rest := []) hx hb hml hown hl (kX4_greater l htr G H.size M_19 (bW S (fIx n)) (bW S (fIx d))) (g_B (n := 2) htb wd664 wd3 wd662 (by decide +kernel) ⟨Nat.le_of_ble_eq_true rfl, Nat.le_of_ble_eq_true rfl⟩) (htb _ wd663) hE hP hS rfl rfl (Nat.le_of_ble_eq_true rfl) dX4_fraction_334 ⟨Nat.le_of_ble_eq_true rfl, Nat.le_of_ble_eq_true rfl⟩ (fun v9 M9 H locs hpo hP hz hS => ?_) (fun x9 E9 cell9 H9 locs9 hE9 => hE9.elim)
                  obtain ⟨rfl, rfl⟩ := hpo
                  refine W.eq (g2 := F0 m 337 ls [.int (fMx (bW S (fIx n)) (bW S (fIx d)))]) rfl ?_
                  refine lv_istore (lv' := [(8, .int (fMx (bW S (fIx n)) (bW S (fIx d)))), (6, .int ((pV S (fIx st) 5) + (fHf ((3 * (pV S (fIx st) 13)) - (((pV S (fIx st) 3) - (bD S (fIx n))) - ((bH S (fIx d)) - (pV S (fIx st) 5))))))), (5, .int ((pV S (fIx st) 3) + (fHf ((3 * (pV S (fIx st) 13)) - (((pV S (fIx st) 3) - (bD S (fIx n))) - ((bH S (fIx d)) - (pV S (fIx st) 5))))))), (9, .int (fHf ((3 * (pV S (fIx st) 13)) - (((pV S (fIx st) 3) - (bD S (fIx n))) - ((bH S (fIx d)) - (pV S (fIx st) 5)))))), (7, .int (fHf t)), (0, .ref o), (1, .int (nI (fIx st))), (2, .int (nI (fIx n))), (3, .int (nI (fIx d))), (4, .int t)]) hx hb dX4_fraction_337 hl (by decide) rfl (fun ls hl => ?_)
                  refine lv_aload_n hx hb dX4_fraction_339 rfl (lv_at hl 5 rfl) ?_
                  refine lv_iload hx hb dX4_fraction_340 (lv_at hl 0 rfl) ?_
                  refine lv_iload hx hb dX4_fraction_342 (lv_at hl 2 rfl) ?_
                  refine lv_aload_n hx hb dX4_fraction_344 rfl (lv_at hl 5 rfl) ?_
                  refine mw_get (D := gD G) (ci := 4) (v := .ref (A 2)) (C := RX4) (T := TX4) (N := 21) hx hb htb inX4 hown hK hP hT.1 rfl 6 (by decide) (htb _ wd530) (fun _ h9 => h9) rfl dX4_fraction_345 ?_
                  refine lv_iload_n hx hb dX4_fraction_348 rfl (lv_at hl 7 rfl) ?_
                  refine mw_iald hx hb hK hP 0 (show M_19 (A 2) = some (.inl (gI G, 120, .inl (g20 2))) from hT.2.1 2 (by decide)) rfl (by exact vp_in_nI (show (fIx n) < 120 by have := hle; omega) (by decide)) dX4_fraction_349 ?_
                  refine W.eq (g2 := F0 m 350 ls [.int (bH S (fIx n)), .int ((pV S (fIx st) 3) + (fHf ((3 * (pV S (fIx st) 13)) - (((pV S (fIx st) 3) - (bD S (fIx n))) - ((bH S (fIx d)) - (pV S (fIx st) 5)))))), .int (fMx (bW S (fIx n)) (bW S (fIx d))), .ref o]) (by rw [nI_clamp (show (fIx n) < 2 ^ 31 by have := hle; omega), hB.H h_n]) ?_
                  refine lv_iadd hx hb dX4_fraction_350 ?_
                  refine lv_aload_n hx hb dX4_fraction_351 rfl (lv_at hl 5 rfl) ?_
                  refine mw_get (D := gD G) (ci := 4) (v := .ref (A 3)) (C := RX4) (T := TX4) (N := 21) hx hb htb inX4 hown hK hP hT.1 rfl 7 (by decide) (htb _ wd531) (fun _ h9 => h9) rfl dX4_fraction_352 ?_
                  refine lv_iload_n hx hb dX4_fraction_355 rfl (lv_at hl 8 rfl) ?_
                  refine mw_iald hx hb hK hP 0 (show M_19 (A 3) = some (.inl (gI G, 120, .inl (g20 3))) from hT.2.1 3 (by decide)) rfl (by exact vp_in_nI (show (fIx d) < 120 by have := hle; omega) (by decide)) dX4_fraction_356 ?_
                  refine W.eq (g2 := F0 m 357 ls [.int (bD S (fIx d)), .int (((pV S (fIx st) 3) + (fHf ((3 * (pV S (fIx st) 13)) - (((pV S (fIx st) 3) - (bD S (fIx n))) - ((bH S (fIx d)) - (pV S (fIx st) 5)))))) + (bH S (fIx n))), .int (fMx (bW S (fIx n)) (bW S (fIx d))), .ref o]) (by rw [nI_clamp (show (fIx d) < 2 ^ 31 by have := hle; omega), hB.D h_d]) ?_
                  refine lv_iload hx hb dX4_fraction_357 (lv_at hl 1 rfl) ?_
                  refine lv_iadd hx hb dX4_fraction_359 ?_
                  refine mw_callV (C := RX4) (As := [.int (fMx (bW S (fIx n)) (bW S (fIx d))), .int (((pV S (fIx st) 3) + (fHf ((3 * (pV S (fIx st) 13)) - (((pV S (fIx st) 3) - (bD S (fIx n))) - ((bH S (fIx d)) - (pV S (fIx st) 5)))))) + (bH S (fIx n))), .int ((bD S (fIx d)) + ((pV S (fIx st) 5) + (fHf ((3 * (pV S (fIx st) 13)) - (((pV S (fIx st) 3) - (bD S (fIx n))) - ((bH S (fIx d)) - (pV S (fIx st) 5)))))))]) (rest := []) hx hb hml hown hl (kX4_make l htr G H.size M_19 o A 0 (nI (fSz (fIx st))) S (⟨np20, bg20, g20, hT, hB⟩ : md_R G o A M_19 0 (nI (fSz (fIx st))) S) (rmk_lt kb_16 hle) (fMx (bW S (fIx n)) (bW S (fIx d))) (((pV S (fIx st) 3) + (fHf ((3 * (pV S (fIx st) 13)) - (((pV S (fIx st) 3) - (bD S (fIx n))) - ((bH S (fIx d)) - (pV S (fIx st) 5)))))) + (bH S (fIx n))) ((bD S (fIx d)) + ((pV S (fIx st) 5) + (fHf ((3 * (pV S (fIx st) 13)) - (((pV S (fIx st) 3) - (bD S (fIx n))) - ((bH S (fIx d)) - (pV S (fIx st) 5)))))))) (g_B (n := 3) htb wd613 wd3 wd610 (by decide +kernel) ⟨Nat.le_of_ble_eq_true rfl, Nat.le_of_ble_eq_true rfl⟩) (htb _ wd612) (htb _ ws26) hE hP hS hT.1 rfl rfl rfl (Nat.le_of_ble_eq_true rfl) dX4_fraction_360 ⟨Nat.le_of_ble_eq_true rfl, Nat.le_of_ble_eq_true rfl⟩ (fun v9 M9 H locs hpo hP hz hS => ?_) (fun x9 E9 cell9 H9 locs9 hE9 => hE9.elim)
                  have hle0 := hle
                  obtain ⟨rfl, hRn, hkn⟩ := hpo
                  obtain ⟨M_37, hM_37⟩ : ∃ z9 : mw_M, z9 = M9 := ⟨_, rfl⟩
                  rw [← hM_37] at hP hRn hkn
                  have hk := md_keeps.tr hk hkn
                  have hRn : md_R G o A M_37 0 (nI (fSz (fIx st))) (fs_push S ((fMx (bW S (fIx n)) (bW S (fIx d))), (((pV S (fIx st) 3) + (fHf ((3 * (pV S (fIx st) 13)) - (((pV S (fIx st) 3) - (bD S (fIx n))) - ((bH S (fIx d)) - (pV S (fIx st) 5)))))) + (bH S (fIx n))), ((bD S (fIx d)) + ((pV S (fIx st) 5) + (fHf ((3 * (pV S (fIx st) 13)) - (((pV S (fIx st) 3) - (bD S (fIx n))) - ((bH S (fIx d)) - (pV S (fIx st) 5))))))), [], 0, 0)) := hRn
                  obtain ⟨np38, bg38, g38, hT, hB⟩ := id hRn
                  rw [sN_push] at hT
                  have hT : md_at G o A M_37 0 (sSp S) (sSh S) (nI (sN S + 1)) (nI np38) (nI (fSz (fIx st))) g38 := hT
                  have hle : sN S + 1 ≤ 120 := by have := hB.1; rw [sN_push] at this; exact this
                  refine W.eq (g2 := F0 m 363 ls [.int (nI (sN S))]) rfl ?_
                  refine lv_istore (lv' := [(9, .int (nI (sN S))), (8, .int (fMx (bW S (fIx n)) (bW S (fIx d)))), (6, .int ((pV S (fIx st) 5) + (fHf ((3 * (pV S (fIx st) 13)) - (((pV S (fIx st) 3) - (bD S (fIx n))) - ((bH S (fIx d)) - (pV S (fIx st) 5))))))), (5, .int ((pV S (fIx st) 3) + (fHf ((3 * (pV S (fIx st) 13)) - (((pV S (fIx st) 3) - (bD S (fIx n))) - ((bH S (fIx d)) - (pV S (fIx st) 5))))))), (7, .int (fHf t)), (0, .ref o), (1, .int (nI (fIx st))), (2, .int (nI (fIx n))), (3, .int (nI (fIx d))), (4, .int t)]) hx hb dX4_fraction_363 hl (by decide) rfl (fun ls hl => ?_)
                  refine lv_aload_n hx hb dX4_fraction_365 rfl (lv_at hl 5 rfl) ?_
                  refine lv_iload_n hx hb dX4_fraction_366 rfl (lv_at hl 7 rfl) ?_
                  refine lv_iload hx hb dX4_fraction_367 (lv_at hl 1 rfl) ?_
                  refine lv_aload_n hx hb dX4_fraction_369 rfl (lv_at hl 5 rfl) ?_
                  refine mw_get (D := gD G) (ci := 4) (v := .ref (A 1)) (C := RX4) (T := TX4) (N := 21) hx hb htb inX4 hown hK hP hT.1 rfl 5 (by decide) (htb _ wd529) (fun _ h9 => h9) rfl dX4_fraction_370 ?_
                  refine lv_iload_n hx hb dX4_fraction_373 rfl (lv_at hl 7 rfl) ?_
                  refine mw_iald hx hb hK hP 0 (show M_37 (A 1) = some (.inl (gI G, 120, .inl (g38 1))) from hT.2.1 1 (by decide)) rfl (by exact vp_in_nI (show (fIx n) < 120 by have := hle; omega) (by decide)) dX4_fraction_374 ?_
                  refine W.eq (g2 := F0 m 375 ls [.int (bW S (fIx n)), .int (fMx (bW S (fIx n)) (bW S (fIx d))), .int (nI (fIx n)), .ref o]) (by rw [nI_clamp (show (fIx n) < 2 ^ 31 by have := hle; omega), hB.W (show (fIx n) < sN (fs_push S ((fMx (bW S (fIx n)) (bW S (fIx d))), (((pV S (fIx st) 3) + (fHf ((3 * (pV S (fIx st) 13)) - (((pV S (fIx st) 3) - (bD S (fIx n))) - ((bH S (fIx d)) - (pV S (fIx st) 5)))))) + (bH S (fIx n))), ((bD S (fIx d)) + ((pV S (fIx st) 5) + (fHf ((3 * (pV S (fIx st) 13)) - (((pV S (fIx st) 3) - (bD S (fIx n))) - ((bH S (fIx d)) - (pV S (fIx st) 5))))))), [], 0, 0)) by rw [sN_push]; omega), bW_push _ h_n]) ?_
                  refine lv_isub hx hb dX4_fraction_375 ?_
                  refine mw_callS (As := [.int ((fMx (bW S (fIx n)) (bW S (fIx d))) - (bW S (fIx n)))]) (rest := [.int (nI (fIx n)), .ref o]) hx hb hml hown hl (kX4_half l htr G H.size M_37 ((fMx (bW S (fIx n)) (bW S (fIx d))) - (bW S (fIx n)))) (g_B (n := 1) htb wd682 wd3 wd680 (by decide +kernel) ⟨Nat.le_of_ble_eq_true rfl, Nat.le_of_ble_eq_true rfl⟩) (htb _ wd681) hE hP hS rfl rfl (Nat.le_of_ble_eq_true rfl) dX4_fraction_376 ⟨Nat.le_of_ble_eq_true rfl, Nat.le_of_ble_eq_true rfl⟩ (fun v9 M9 H locs hpo hP hz hS => ?_) (fun x9 E9 cell9 H9 locs9 hE9 => hE9.elim)
                  obtain ⟨rfl, rfl⟩ := hpo
                  refine W.eq (g2 := F0 m 379 ls [.int (fHf ((fMx (bW S (fIx n)) (bW S (fIx d))) - (bW S (fIx n)))), .int (nI (fIx n)), .ref o]) rfl ?_
                  refine lv_iload hx hb dX4_fraction_379 (lv_at hl 3 rfl) ?_
                  refine mw_callV (C := RX4) (As := [.int (nI (fIx n)), .int (fHf ((fMx (bW S (fIx n)) (bW S (fIx d))) - (bW S (fIx n)))), .int ((pV S (fIx st) 3) + (fHf ((3 * (pV S (fIx st) 13)) - (((pV S (fIx st) 3) - (bD S (fIx n))) - ((bH S (fIx d)) - (pV S (fIx st) 5))))))]) (rest := []) hx hb hml hown hl (kX4_lay l htr G H.size M_37 o A 0 (nI (fSz (fIx st))) S (fMx (bW S (fIx n)) (bW S (fIx d))) (((pV S (fIx st) 3) + (fHf ((3 * (pV S (fIx st) 13)) - (((pV S (fIx st) 3) - (bD S (fIx n))) - ((bH S (fIx d)) - (pV S (fIx st) 5)))))) + (bH S (fIx n))) ((bD S (fIx d)) + ((pV S (fIx st) 5) + (fHf ((3 * (pV S (fIx st) 13)) - (((pV S (fIx st) 3) - (bD S (fIx n))) - ((bH S (fIx d)) - (pV S (fIx st) 5))))))) ([]) 0 0 (md_R.of (np := np38) hT hB : md_R G o A M_37 0 (nI (fSz (fIx st))) (fs_push S ((fMx (bW S (fIx n)) (bW S (fIx d))), (((pV S (fIx st) 3) + (fHf ((3 * (pV S (fIx st) 13)) - (((pV S (fIx st) 3) - (bD S (fIx n))) - ((bH S (fIx d)) - (pV S (fIx st) 5)))))) + (bH S (fIx n))), ((bD S (fIx d)) + ((pV S (fIx st) 5) + (fHf ((3 * (pV S (fIx st) 13)) - (((pV S (fIx st) 3) - (bD S (fIx n))) - ((bH S (fIx d)) - (pV S (fIx st) 5))))))), [], 0, 0))) (by simp) (nI (fIx n)) (fHf ((fMx (bW S (fIx n)) (bW S (fIx d))) - (bW S (fIx n)))) ((pV S (fIx st) 3) + (fHf ((3 * (pV S (fIx st) 13)) - (((pV S (fIx st) 3) - (bD S (fIx n))) - ((bH S (fIx d)) - (pV S (fIx st) 5))))))) (g_B (n := 3) htb wd661 wd3 wd658 (by decide +kernel) ⟨Nat.le_of_ble_eq_true rfl, Nat.le_of_ble_eq_true rfl⟩) (htb _ wd660) (htb _ ws34) hE hP hS hT.1 rfl rfl rfl (Nat.le_of_ble_eq_true rfl) dX4_fraction_381 ⟨Nat.le_of_ble_eq_true rfl, Nat.le_of_ble_eq_true rfl⟩ (fun v9 M9 H locs hpo hP hz hS => ?_) (fun x9 E9 cell9 H9 locs9 hE9 => hE9.elim)
                  obtain ⟨rfl, hRn, hkn⟩ := hpo
                  obtain ⟨M_39, hM_39⟩ : ∃ z9 : mw_M, z9 = M9 := ⟨_, rfl⟩
                  rw [← hM_39] at hP hRn hkn
                  have hk := md_keeps.tr hk hkn
                  have hRn : md_R G o A M_39 0 (nI (fSz (fIx st))) (fs_push S ((fMx (bW S (fIx n)) (bW S (fIx d))), (((pV S (fIx st) 3) + (fHf ((3 * (pV S (fIx st) 13)) - (((pV S (fIx st) 3) - (bD S (fIx n))) - ((bH S (fIx d)) - (pV S (fIx st) 5)))))) + (bH S (fIx n))), ((bD S (fIx d)) + ((pV S (fIx st) 5) + (fHf ((3 * (pV S (fIx st) 13)) - (((pV S (fIx st) 3) - (bD S (fIx n))) - ((bH S (fIx d)) - (pV S (fIx st) 5))))))), [(nI (fIx n)), (fHf ((fMx (bW S (fIx n)) (bW S (fIx d))) - (bW S (fIx n)))), ((pV S (fIx st) 3) + (fHf ((3 * (pV S (fIx st) 13)) - (((pV S (fIx st) 3) - (bD S (fIx n))) - ((bH S (fIx d)) - (pV S (fIx st) 5))))))], 0, 0)) := hRn
                  obtain ⟨np40, bg40, g40, hT, hB⟩ := id hRn
                  rw [sN_push] at hT
                  have hT : md_at G o A M_39 0 (sSp S) (sSh S) (nI (sN S + 1)) (nI np40) (nI (fSz (fIx st))) g40 := hT
                  refine W.eq (g2 := F0 m 384 ls []) rfl ?_
                  refine lv_aload_n hx hb dX4_fraction_384 rfl (lv_at hl 5 rfl) ?_
                  refine lv_iload_n hx hb dX4_fraction_385 rfl (lv_at hl 8 rfl) ?_
                  refine lv_iload hx hb dX4_fraction_386 (lv_at hl 1 rfl) ?_
                  refine lv_aload_n hx hb dX4_fraction_388 rfl (lv_at hl 5 rfl) ?_
                  refine mw_get (D := gD G) (ci := 4) (v := .ref (A 1)) (C := RX4) (T := TX4) (N := 21) hx hb htb inX4 hown hK hP hT.1 rfl 5 (by decide) (htb _ wd529) (fun _ h9 => h9) rfl dX4_fraction_389 ?_
                  refine lv_iload_n hx hb dX4_fraction_392 rfl (lv_at hl 8 rfl) ?_
                  refine mw_iald hx hb hK hP 0 (show M_39 (A 1) = some (.inl (gI G, 120, .inl (g40 1))) from hT.2.1 1 (by decide)) rfl (by exact vp_in_nI (show (fIx d) < 120 by have := hle; omega) (by decide)) dX4_fraction_393 ?_
                  refine W.eq (g2 := F0 m 394 ls [.int (bW S (fIx d)), .int (fMx (bW S (fIx n)) (bW S (fIx d))), .int (nI (fIx d)), .ref o]) (by rw [nI_clamp (show (fIx d) < 2 ^ 31 by have := hle; omega), hB.W (show (fIx d) < sN (fs_push S ((fMx (bW S (fIx n)) (bW S (fIx d))), (((pV S (fIx st) 3) + (fHf ((3 * (pV S (fIx st) 13)) - (((pV S (fIx st) 3) - (bD S (fIx n))) - ((bH S (fIx d)) - (pV S (fIx st) 5)))))) + (bH S (fIx n))), ((bD S (fIx d)) + ((pV S (fIx st) 5) + (fHf ((3 * (pV S (fIx st) 13)) - (((pV S (fIx st) 3) - (bD S (fIx n))) - ((bH S (fIx d)) - (pV S (fIx st) 5))))))), [(nI (fIx n)), (fHf ((fMx (bW S (fIx n)) (bW S (fIx d))) - (bW S (fIx n)))), ((pV S (fIx st) 3) + (fHf ((3 * (pV S (fIx st) 13)) - (((pV S (fIx st) 3) - (bD S (fIx n))) - ((bH S (fIx d)) - (pV S (fIx st) 5))))))], 0, 0)) by rw [sN_push]; omega), bW_push _ h_d]) ?_
                  refine lv_isub hx hb dX4_fraction_394 ?_
                  refine mw_callS (As := [.int ((fMx (bW S (fIx n)) (bW S (fIx d))) - (bW S (fIx d)))]) (rest := [.int (nI (fIx d)), .ref o]) hx hb hml hown hl (kX4_half l htr G H.size M_39 ((fMx (bW S (fIx n)) (bW S (fIx d))) - (bW S (fIx d)))) (g_B (n := 1) htb wd682 wd3 wd680 (by decide +kernel) ⟨Nat.le_of_ble_eq_true rfl, Nat.le_of_ble_eq_true rfl⟩) (htb _ wd681) hE hP hS rfl rfl (Nat.le_of_ble_eq_true rfl) dX4_fraction_395 ⟨Nat.le_of_ble_eq_true rfl, Nat.le_of_ble_eq_true rfl⟩ (fun v9 M9 H locs hpo hP hz hS => ?_) (fun x9 E9 cell9 H9 locs9 hE9 => hE9.elim)
                  obtain ⟨rfl, rfl⟩ := hpo
                  refine W.eq (g2 := F0 m 398 ls [.int (fHf ((fMx (bW S (fIx n)) (bW S (fIx d))) - (bW S (fIx d)))), .int (nI (fIx d)), .ref o]) rfl ?_
                  refine lv_iload hx hb dX4_fraction_398 (lv_at hl 2 rfl) ?_
                  refine lv_ineg hx hb dX4_fraction_400 ?_
                  refine mw_callV (C := RX4) (As := [.int (nI (fIx d)), .int (fHf ((fMx (bW S (fIx n)) (bW S (fIx d))) - (bW S (fIx d)))), .int (-((pV S (fIx st) 5) + (fHf ((3 * (pV S (fIx st) 13)) - (((pV S (fIx st) 3) - (bD S (fIx n))) - ((bH S (fIx d)) - (pV S (fIx st) 5)))))))]) (rest := []) hx hb hml hown hl (kX4_lay l htr G H.size M_39 o A 0 (nI (fSz (fIx st))) S (fMx (bW S (fIx n)) (bW S (fIx d))) (((pV S (fIx st) 3) + (fHf ((3 * (pV S (fIx st) 13)) - (((pV S (fIx st) 3) - (bD S (fIx n))) - ((bH S (fIx d)) - (pV S (fIx st) 5)))))) + (bH S (fIx n))) ((bD S (fIx d)) + ((pV S (fIx st) 5) + (fHf ((3 * (pV S (fIx st) 13)) - (((pV S (fIx st) 3) - (bD S (fIx n))) - ((bH S (fIx d)) - (pV S (fIx st) 5))))))) ([(nI (fIx n)), (fHf ((fMx (bW S (fIx n)) (bW S (fIx d))) - (bW S (fIx n)))), ((pV S (fIx st) 3) + (fHf ((3 * (pV S (fIx st) 13)) - (((pV S (fIx st) 3) - (bD S (fIx n))) - ((bH S (fIx d)) - (pV S (fIx st) 5))))))]) 0 0 (md_R.of (np := np40) hT hB : md_R G o A M_39 0 (nI (fSz (fIx st))) (fs_push S ((fMx (bW S (fIx n)) (bW S (fIx d))), (((pV S (fIx st) 3) + (fHf ((3 * (pV S (fIx st) 13)) - (((pV S (fIx st) 3) - (bD S (fIx n))) - ((bH S (fIx d)) - (pV S (fIx st) 5)))))) + (bH S (fIx n))), ((bD S (fIx d)) + ((pV S (fIx st) 5) + (fHf ((3 * (pV S (fIx st) 13)) - (((pV S (fIx st) 3) - (bD S (fIx n))) - ((bH S (fIx d)) - (pV S (fIx st) 5))))))), [(nI (fIx n)), (fHf ((fMx (bW S (fIx n)) (bW S (fIx d))) - (bW S (fIx n)))), ((pV S (fIx st) 3) + (fHf ((3 * (pV S (fIx st) 13)) - (((pV S (fIx st) 3) - (bD S (fIx n))) - ((bH S (fIx d)) - (pV S (fIx st) 5))))))], 0, 0))) (by simp) (nI (fIx d)) (fHf ((fMx (bW S (fIx n)) (bW S (fIx d))) - (bW S (fIx d)))) (-((pV S (fIx st) 5) + (fHf ((3 * (pV S (fIx st) 13)) - (((pV S (fIx st) 3) - (bD S (fIx n))) - ((bH S (fIx d)) - (pV S (fIx st) 5)))))))) (g_B (n := 3) htb wd661 wd3 wd658 (by decide +kernel) ⟨Nat.le_of_ble_eq_true rfl, Nat.le_of_ble_eq_true rfl⟩) (htb _ wd660) (htb _ ws34) hE hP hS hT.1 rfl rfl rfl (Nat.le_of_ble_eq_true rfl) dX4_fraction_401 ⟨Nat.le_of_ble_eq_true rfl, Nat.le_of_ble_eq_true rfl⟩ (fun v9 M9 H locs hpo hP hz hS => ?_) (fun x9 E9 cell9 H9 locs9 hE9 => hE9.elim)
                  obtain ⟨rfl, hRn, hkn⟩ := hpo
                  obtain ⟨M_41, hM_41⟩ : ∃ z9 : mw_M, z9 = M9 := ⟨_, rfl⟩
                  rw [← hM_41] at hP hRn hkn
                  have hk := md_keeps.tr hk hkn
                  have hRn : md_R G o A M_41 0 (nI (fSz (fIx st))) (fs_push S ((fMx (bW S (fIx n)) (bW S (fIx d))), (((pV S (fIx st) 3) + (fHf ((3 * (pV S (fIx st) 13)) - (((pV S (fIx st) 3) - (bD S (fIx n))) - ((bH S (fIx d)) - (pV S (fIx st) 5)))))) + (bH S (fIx n))), ((bD S (fIx d)) + ((pV S (fIx st) 5) + (fHf ((3 * (pV S (fIx st) 13)) - (((pV S (fIx st) 3) - (bD S (fIx n))) - ((bH S (fIx d)) - (pV S (fIx st) 5))))))), [(nI (fIx n)), (fHf ((fMx (bW S (fIx n)) (bW S (fIx d))) - (bW S (fIx n)))), ((pV S (fIx st) 3) + (fHf ((3 * (pV S (fIx st) 13)) - (((pV S (fIx st) 3) - (bD S (fIx n))) - ((bH S (fIx d)) - (pV S (fIx st) 5)))))), (nI (fIx d)), (fHf ((fMx (bW S (fIx n)) (bW S (fIx d))) - (bW S (fIx d)))), (-((pV S (fIx st) 5) + (fHf ((3 * (pV S (fIx st) 13)) - (((pV S (fIx st) 3) - (bD S (fIx n))) - ((bH S (fIx d)) - (pV S (fIx st) 5)))))))], 0, 0)) := hRn
                  obtain ⟨np42, bg42, g42, hT, hB⟩ := id hRn
                  rw [sN_push] at hT
                  have hT : md_at G o A M_41 0 (sSp S) (sSh S) (nI (sN S + 1)) (nI np42) (nI (fSz (fIx st))) g42 := hT
                  refine W.eq (g2 := F0 m 404 ls []) rfl ?_
                  refine lv_iload hx hb dX4_fraction_404 (lv_at hl 9 rfl) ?_
                  refine lv_if_le (tgt := 444) hx hb dX4_fraction_406 (by decide) (fun c_43 => ?_) (fun c_43 => absurd c_22 c_43)
                  refine lv_iload hx hb dX4_fraction_444 (lv_at hl 0 rfl) ?_
                  have hex : ex_fraction S st n d t = 0 := by rw [ex_fraction, if_neg (fun z9 => z9 ⟨kb_5, kb_7⟩), if_neg (fun z9 => z9 ⟨kb_12, kb_14⟩), if_neg (fun z9 => z9 kb_16)]
                  have hre : re_fraction S st n d t = ((fMx (bW S (fIx n)) (bW S (fIx d))), (((pV S (fIx st) 3) + (fHf ((3 * (pV S (fIx st) 13)) - (((pV S (fIx st) 3) - (bD S (fIx n))) - ((bH S (fIx d)) - (pV S (fIx st) 5)))))) + (bH S (fIx n))), ((bD S (fIx d)) + ((pV S (fIx st) 5) + (fHf ((3 * (pV S (fIx st) 13)) - (((pV S (fIx st) 3) - (bD S (fIx n))) - ((bH S (fIx d)) - (pV S (fIx st) 5))))))), [(nI (fIx n)), (fHf ((fMx (bW S (fIx n)) (bW S (fIx d))) - (bW S (fIx n)))), ((pV S (fIx st) 3) + (fHf ((3 * (pV S (fIx st) 13)) - (((pV S (fIx st) 3) - (bD S (fIx n))) - ((bH S (fIx d)) - (pV S (fIx st) 5)))))), (nI (fIx d)), (fHf ((fMx (bW S (fIx n)) (bW S (fIx d))) - (bW S (fIx d)))), (-((pV S (fIx st) 5) + (fHf ((3 * (pV S (fIx st) 13)) - (((pV S (fIx st) 3) - (bD S (fIx n))) - ((bH S (fIx d)) - (pV S (fIx st) 5)))))))], 0, 0) := by simp only [re_fraction, fs_fb, fs_fb1, fs_fb2, fs_fb3, fs_fl, fs_fl1, fs_fl3, if_neg c_15, if_neg c_21, if_pos c_22, if_neg c_27, Int32.add_zero]
                  exact mx_iret (v := (nI (sN S))) (M' := M_41) hx hb hr hlocks hP hS ⟨by rw [hex]; rfl, ⟨_, by rw [hex, if_pos rfl, hre]; exact (md_R.of (np := np42) hT hB : md_R G o A M_41 0 (nI (fSz (fIx st))) (fs_push S ((fMx (bW S (fIx n)) (bW S (fIx d))), (((pV S (fIx st) 3) + (fHf ((3 * (pV S (fIx st) 13)) - (((pV S (fIx st) 3) - (bD S (fIx n))) - ((bH S (fIx d)) - (pV S (fIx st) 5)))))) + (bH S (fIx n))), ((bD S (fIx d)) + ((pV S (fIx st) 5) + (fHf ((3 * (pV S (fIx st) 13)) - (((pV S (fIx st) 3) - (bD S (fIx n))) - ((bH S (fIx d)) - (pV S (fIx st) 5))))))), [(nI (fIx n)), (fHf ((fMx (bW S (fIx n)) (bW S (fIx d))) - (bW S (fIx n)))), ((pV S (fIx st) 3) + (fHf ((3 * (pV S (fIx st) 13)) - (((pV S (fIx st) 3) - (bD S (fIx n))) - ((bH S (fIx d)) - (pV S (fIx st) 5)))))), (nI (fIx d)), (fHf ((fMx (bW S (fIx n)) (bW S (fIx d))) - (bW S (fIx d)))), (-((pV S (fIx st) 5) + (fHf ((3 * (pV S (fIx st) 13)) - (((pV S (fIx st) 3) - (bD S (fIx n))) - ((bH S (fIx d)) - (pV S (fIx st) 5)))))))], 0, 0)))⟩, hk⟩ dX4_fraction_446 (Nat.le_of_ble_eq_true rfl) (Nat.le_of_ble_eq_true rfl)
              · have t0_44 : ¬ t = 0 := fun z9 => c_22 (by rw [z9]; exact Int32.le_refl _)
                refine lv_aload_n hx hb dX4_fraction_91 rfl (lv_at hl 0 rfl) ?_
                refine lv_iconst (v := 2) hx hb dX4_fraction_92 (by decide) ?_
                refine mw_callV (C := RX4) (As := [.int 2]) (rest := []) hx hb hml hown hl (kX4_p l htr G H.size M_19 o A 0 S (fIx st) 2 h_st (by decide) (⟨np20, bg20, g20, hT, hB⟩ : md_R G o A M_19 0 (nI (fSz (fIx st))) S)) (g_B (n := 1) htb wd679 wd3 wd676 (by decide +kernel) ⟨Nat.le_of_ble_eq_true rfl, Nat.le_of_ble_eq_true rfl⟩) (htb _ wd678) (htb _ ws36) hE hP hS hT.1 rfl rfl rfl (Nat.le_of_ble_eq_true rfl) dX4_fraction_93 ⟨Nat.le_of_ble_eq_true rfl, Nat.le_of_ble_eq_true rfl⟩ (fun v9 M9 H locs hpo hP hz hS => ?_) (fun x9 E9 cell9 H9 locs9 hE9 => hE9.elim)
                obtain ⟨rfl, rfl⟩ := hpo
                refine W.eq (g2 := F0 m 96 ls [.int (pV S (fIx st) 2)]) rfl ?_
                refine lv_goto (tgt := 104) hx hb dX4_fraction_96 (by decide) ?_
                refine lv_istore (lv' := [(5, .int (pV S (fIx st) 2)), (0, .ref o), (1, .int (nI (fIx st))), (2, .int (nI (fIx n))), (3, .int (nI (fIx d))), (4, .int t)]) hx hb dX4_fraction_104 hl (by decide) rfl (fun ls hl => ?_)
                refine lv_iload_n hx hb dX4_fraction_106 rfl (lv_at hl 2 rfl) ?_
                refine lv_if_ne (tgt := 118) hx hb dX4_fraction_107 (by decide) (fun c_45 => ?_) (fun c_45 => absurd c_45 c_21)
                refine lv_aload_n hx hb dX4_fraction_118 rfl (lv_at hl 1 rfl) ?_
                refine lv_iconst (v := 5) hx hb dX4_fraction_119 (by decide) ?_
                refine mw_callV (C := RX4) (As := [.int 5]) (rest := []) hx hb hml hown hl (kX4_p l htr G H.size M_19 o A 0 S (fIx st) 5 h_st (by decide) (⟨np20, bg20, g20, hT, hB⟩ : md_R G o A M_19 0 (nI (fSz (fIx st))) S)) (g_B (n := 1) htb wd679 wd3 wd676 (by decide +kernel) ⟨Nat.le_of_ble_eq_true rfl, Nat.le_of_ble_eq_true rfl⟩) (htb _ wd678) (htb _ ws36) hE hP hS hT.1 rfl rfl rfl (Nat.le_of_ble_eq_true rfl) dX4_fraction_120 ⟨Nat.le_of_ble_eq_true rfl, Nat.le_of_ble_eq_true rfl⟩ (fun v9 M9 H locs hpo hP hz hS => ?_) (fun x9 E9 cell9 H9 locs9 hE9 => hE9.elim)
                obtain ⟨rfl, rfl⟩ := hpo
                refine W.eq (g2 := F0 m 123 ls [.int (pV S (fIx st) 5)]) rfl ?_
                refine lv_istore (lv' := [(6, .int (pV S (fIx st) 5)), (5, .int (pV S (fIx st) 2)), (0, .ref o), (1, .int (nI (fIx st))), (2, .int (nI (fIx n))), (3, .int (nI (fIx d))), (4, .int t)]) hx hb dX4_fraction_123 hl (by decide) rfl (fun ls hl => ?_)
                refine lv_iload hx hb dX4_fraction_125 (lv_at hl 6 rfl) ?_
                refine mw_callS (As := [.int t]) (rest := []) hx hb hml hown hl (kX4_half l htr G H.size M_19 t) (g_B (n := 1) htb wd682 wd3 wd680 (by decide +kernel) ⟨Nat.le_of_ble_eq_true rfl, Nat.le_of_ble_eq_true rfl⟩) (htb _ wd681) hE hP hS rfl rfl (Nat.le_of_ble_eq_true rfl) dX4_fraction_127 ⟨Nat.le_of_ble_eq_true rfl, Nat.le_of_ble_eq_true rfl⟩ (fun v9 M9 H locs hpo hP hz hS => ?_) (fun x9 E9 cell9 H9 locs9 hE9 => hE9.elim)
                obtain ⟨rfl, rfl⟩ := hpo
                refine W.eq (g2 := F0 m 130 ls [.int (fHf t)]) rfl ?_
                refine lv_istore (lv' := [(7, .int (fHf t)), (6, .int (pV S (fIx st) 5)), (5, .int (pV S (fIx st) 2)), (0, .ref o), (1, .int (nI (fIx st))), (2, .int (nI (fIx n))), (3, .int (nI (fIx d))), (4, .int t)]) hx hb dX4_fraction_130 hl (by decide) rfl (fun ls hl => ?_)
                refine lv_iload hx hb dX4_fraction_132 (lv_at hl 7 rfl) ?_
                refine lv_if_ne (tgt := 227) hx hb dX4_fraction_134 (by decide) (fun c_46 => ?_) (fun c_46 => absurd c_46 t0_44)
                refine lv_iload_n hx hb dX4_fraction_227 rfl (lv_at hl 4 rfl) ?_
                refine lv_if_ne (tgt := 238) hx hb dX4_fraction_228 (by decide) (fun c_47 => ?_) (fun c_47 => absurd c_47 c_21)
                refine lv_iload hx hb dX4_fraction_238 (lv_at hl 7 rfl) ?_
                refine lv_istore (lv' := [(8, .int t), (7, .int (fHf t)), (6, .int (pV S (fIx st) 5)), (5, .int (pV S (fIx st) 2)), (0, .ref o), (1, .int (nI (fIx st))), (2, .int (nI (fIx n))), (3, .int (nI (fIx d))), (4, .int t)]) hx hb dX4_fraction_240 hl (by decide) rfl (fun ls hl => ?_)
                refine lv_iload hx hb dX4_fraction_242 (lv_at hl 0 rfl) ?_
                refine lv_iload hx hb dX4_fraction_244 (lv_at hl 3 rfl) ?_
                refine lv_aload_n hx hb dX4_fraction_246 rfl (lv_at hl 4 rfl) ?_
                refine mw_get (D := gD G) (ci := 4) (v := .ref (A 3)) (C := RX4) (T := TX4) (N := 21) hx hb htb inX4 hown hK hP hT.1 rfl 7 (by decide) (htb _ wd531) (fun _ h9 => h9) rfl dX4_fraction_247 ?_
                refine lv_iload_n hx hb dX4_fraction_250 rfl (lv_at hl 6 rfl) ?_
                refine mw_iald hx hb hK hP 0 (show M_19 (A 3) = some (.inl (gI G, 120, .inl (g20 3))) from hT.2.1 3 (by decide)) rfl (by exact vp_in_nI (show (fIx n) < 120 by have := hle; omega) (by decide)) dX4_fraction_251 ?_
                refine W.eq (g2 := F0 m 252 ls [.int (bD S (fIx n)), .int (pV S (fIx st) 2), .int t]) (by rw [nI_clamp (show (fIx n) < 2 ^ 31 by have := hle; omega), hB.D h_n]) ?_
                refine lv_isub hx hb dX4_fraction_252 ?_
                refine lv_aload_n hx hb dX4_fraction_253 rfl (lv_at hl 4 rfl) ?_
                refine lv_iconst (v := 0) hx hb dX4_fraction_254 (by decide) ?_
                refine mw_callV (C := RX4) (As := [.int 0]) (rest := [.int ((pV S (fIx st) 2) - (bD S (fIx n))), .int t]) hx hb hml hown hl (kX4_p l htr G H.size M_19 o A 0 S (fIx st) 0 h_st (by decide) (⟨np20, bg20, g20, hT, hB⟩ : md_R G o A M_19 0 (nI (fSz (fIx st))) S)) (g_B (n := 1) htb wd679 wd3 wd676 (by decide +kernel) ⟨Nat.le_of_ble_eq_true rfl, Nat.le_of_ble_eq_true rfl⟩) (htb _ wd678) (htb _ ws36) hE hP hS hT.1 rfl rfl rfl (Nat.le_of_ble_eq_true rfl) dX4_fraction_255 ⟨Nat.le_of_ble_eq_true rfl, Nat.le_of_ble_eq_true rfl⟩ (fun v9 M9 H locs hpo hP hz hS => ?_) (fun x9 E9 cell9 H9 locs9 hE9 => hE9.elim)
                obtain ⟨rfl, rfl⟩ := hpo
                refine W.eq (g2 := F0 m 258 ls [.int (pV S (fIx st) 0), .int ((pV S (fIx st) 2) - (bD S (fIx n))), .int t]) rfl ?_
                refine lv_iload hx hb dX4_fraction_258 (lv_at hl 1 rfl) ?_
                refine lv_iadd hx hb dX4_fraction_260 ?_
                refine lv_isub hx hb dX4_fraction_261 ?_
                refine lv_isub hx hb dX4_fraction_262 ?_
                refine lv_istore (lv' := [(9, .int (t - (((pV S (fIx st) 2) - (bD S (fIx n))) - ((pV S (fIx st) 0) + (fHf t))))), (8, .int t), (7, .int (fHf t)), (6, .int (pV S (fIx st) 5)), (5, .int (pV S (fIx st) 2)), (0, .ref o), (1, .int (nI (fIx st))), (2, .int (nI (fIx n))), (3, .int (nI (fIx d))), (4, .int t)]) hx hb dX4_fraction_263 hl (by decide) rfl (fun ls hl => ?_)
                refine lv_iload hx hb dX4_fraction_265 (lv_at hl 1 rfl) ?_
                refine lv_aload_n hx hb dX4_fraction_267 rfl (lv_at hl 5 rfl) ?_
                refine lv_iconst (v := 0) hx hb dX4_fraction_268 (by decide) ?_
                refine mw_callV (C := RX4) (As := [.int 0]) (rest := [.int t]) hx hb hml hown hl (kX4_p l htr G H.size M_19 o A 0 S (fIx st) 0 h_st (by decide) (⟨np20, bg20, g20, hT, hB⟩ : md_R G o A M_19 0 (nI (fSz (fIx st))) S)) (g_B (n := 1) htb wd679 wd3 wd676 (by decide +kernel) ⟨Nat.le_of_ble_eq_true rfl, Nat.le_of_ble_eq_true rfl⟩) (htb _ wd678) (htb _ ws36) hE hP hS hT.1 rfl rfl rfl (Nat.le_of_ble_eq_true rfl) dX4_fraction_269 ⟨Nat.le_of_ble_eq_true rfl, Nat.le_of_ble_eq_true rfl⟩ (fun v9 M9 H locs hpo hP hz hS => ?_) (fun x9 E9 cell9 H9 locs9 hE9 => hE9.elim)
                obtain ⟨rfl, rfl⟩ := hpo
                refine W.eq (g2 := F0 m 272 ls [.int (pV S (fIx st) 0), .int t]) rfl ?_
                refine lv_iload hx hb dX4_fraction_272 (lv_at hl 2 rfl) ?_
                refine lv_isub hx hb dX4_fraction_274 ?_
                refine lv_aload_n hx hb dX4_fraction_275 rfl (lv_at hl 5 rfl) ?_
                refine mw_get (D := gD G) (ci := 4) (v := .ref (A 2)) (C := RX4) (T := TX4) (N := 21) hx hb htb inX4 hown hK hP hT.1 rfl 6 (by decide) (htb _ wd530) (fun _ h9 => h9) rfl dX4_fraction_276 ?_
                refine lv_iload_n hx hb dX4_fraction_279 rfl (lv_at hl 8 rfl) ?_
                refine mw_iald hx hb hK hP 0 (show M_19 (A 2) = some (.inl (gI G, 120, .inl (g20 2))) from hT.2.1 2 (by decide)) rfl (by exact vp_in_nI (show (fIx d) < 120 by have := hle; omega) (by decide)) dX4_fraction_280 ?_
                refine W.eq (g2 := F0 m 281 ls [.int (bH S (fIx d)), .int ((pV S (fIx st) 0) - (fHf t)), .int t]) (by rw [nI_clamp (show (fIx d) < 2 ^ 31 by have := hle; omega), hB.H h_d]) ?_
                refine lv_iload hx hb dX4_fraction_281 (lv_at hl 3 rfl) ?_
                refine lv_isub hx hb dX4_fraction_283 ?_
                refine lv_isub hx hb dX4_fraction_284 ?_
                refine lv_isub hx hb dX4_fraction_285 ?_
                refine lv_istore (lv' := [(10, .int (t - (((pV S (fIx st) 0) - (fHf t)) - ((bH S (fIx d)) - (pV S (fIx st) 5))))), (9, .int (t - (((pV S (fIx st) 2) - (bD S (fIx n))) - ((pV S (fIx st) 0) + (fHf t))))), (8, .int t), (7, .int (fHf t)), (6, .int (pV S (fIx st) 5)), (5, .int (pV S (fIx st) 2)), (0, .ref o), (1, .int (nI (fIx st))), (2, .int (nI (fIx n))), (3, .int (nI (fIx d))), (4, .int t)]) hx hb dX4_fraction_286 hl (by decide) rfl (fun ls hl => ?_)
                refine lv_iload hx hb dX4_fraction_288 (lv_at hl 1 rfl) ?_
                refine lv_if_le (tgt := 301) hx hb dX4_fraction_290 (by decide) (fun c_48 => ?_) (fun c_48 => ?_)
                · refine lv_iload hx hb dX4_fraction_301 (lv_at hl 5 rfl) ?_
                  refine lv_istore (lv' := [(5, .int (pV S (fIx st) 2)), (10, .int (t - (((pV S (fIx st) 0) - (fHf t)) - ((bH S (fIx d)) - (pV S (fIx st) 5))))), (9, .int (t - (((pV S (fIx st) 2) - (bD S (fIx n))) - ((pV S (fIx st) 0) + (fHf t))))), (8, .int t), (7, .int (fHf t)), (6, .int (pV S (fIx st) 5)), (0, .ref o), (1, .int (nI (fIx st))), (2, .int (nI (fIx n))), (3, .int (nI (fIx d))), (4, .int t)]) hx hb dX4_fraction_303 hl (by decide) rfl (fun ls hl => ?_)
                  refine lv_iload hx hb dX4_fraction_305 (lv_at hl 1 rfl) ?_
                  refine lv_if_le (tgt := 318) hx hb dX4_fraction_307 (by decide) (fun c_49 => ?_) (fun c_49 => ?_)
                  · refine lv_iload hx hb dX4_fraction_318 (lv_at hl 5 rfl) ?_
                    refine lv_istore (lv' := [(6, .int (pV S (fIx st) 5)), (5, .int (pV S (fIx st) 2)), (10, .int (t - (((pV S (fIx st) 0) - (fHf t)) - ((bH S (fIx d)) - (pV S (fIx st) 5))))), (9, .int (t - (((pV S (fIx st) 2) - (bD S (fIx n))) - ((pV S (fIx st) 0) + (fHf t))))), (8, .int t), (7, .int (fHf t)), (0, .ref o), (1, .int (nI (fIx st))), (2, .int (nI (fIx n))), (3, .int (nI (fIx d))), (4, .int t)]) hx hb dX4_fraction_320 hl (by decide) rfl (fun ls hl => ?_)
                    refine lv_aload_n hx hb dX4_fraction_322 rfl (lv_at hl 6 rfl) ?_
                    refine mw_get (D := gD G) (ci := 4) (v := .ref (A 1)) (C := RX4) (T := TX4) (N := 21) hx hb htb inX4 hown hK hP hT.1 rfl 5 (by decide) (htb _ wd529) (fun _ h9 => h9) rfl dX4_fraction_323 ?_
                    refine lv_iload_n hx hb dX4_fraction_326 rfl (lv_at hl 8 rfl) ?_
                    refine mw_iald hx hb hK hP 0 (show M_19 (A 1) = some (.inl (gI G, 120, .inl (g20 1))) from hT.2.1 1 (by decide)) rfl (by exact vp_in_nI (show (fIx n) < 120 by have := hle; omega) (by decide)) dX4_fraction_327 ?_
                    refine W.eq (g2 := F0 m 328 ls [.int (bW S (fIx n))]) (by rw [nI_clamp (show (fIx n) < 2 ^ 31 by have := hle; omega), hB.W h_n]) ?_
                    refine lv_aload_n hx hb dX4_fraction_328 rfl (lv_at hl 6 rfl) ?_
                    refine mw_get (D := gD G) (ci := 4) (v := .ref (A 1)) (C := RX4) (T := TX4) (N := 21) hx hb htb inX4 hown hK hP hT.1 rfl 5 (by decide) (htb _ wd529) (fun _ h9 => h9) rfl dX4_fraction_329 ?_
                    refine lv_iload_n hx hb dX4_fraction_332 rfl (lv_at hl 9 rfl) ?_
                    refine mw_iald hx hb hK hP 0 (show M_19 (A 1) = some (.inl (gI G, 120, .inl (g20 1))) from hT.2.1 1 (by decide)) rfl (by exact vp_in_nI (show (fIx d) < 120 by have := hle; omega) (by decide)) dX4_fraction_333 ?_
                    refine W.eq (g2 := F0 m 334 ls [.int (bW S (fIx d)), .int (bW S (fIx n))]) (by rw [nI_clamp (show (fIx d) < 2 ^ 31 by have := hle; omega), hB.W h_d]) ?_
                    refine mw_callS (As := [.int (bW S (fIx n)), .int (bW S (fIx d))]) (rest := []) hx hb hml hown hl (kX4_greater l htr G H.size M_19 (bW S (fIx n)) (bW S (fIx d))) (g_B (n := 2) htb wd664 wd3 wd662 (by decide +kernel) ⟨Nat.le_of_ble_eq_true rfl, Nat.le_of_ble_eq_true rfl⟩) (htb _ wd663) hE hP hS rfl rfl (Nat.le_of_ble_eq_true rfl) dX4_fraction_334 ⟨Nat.le_of_ble_eq_true rfl, Nat.le_of_ble_eq_true rfl⟩ (fun v9 M9 H locs hpo hP hz hS => ?_) (fun x9 E9 cell9 H9 locs9 hE9 => hE9.elim)
                    obtain ⟨rfl, rfl⟩ := hpo
                    refine W.eq (g2 := F0 m 337 ls [.int (fMx (bW S (fIx n)) (bW S (fIx d)))]) rfl ?_
                    refine lv_istore (lv' := [(8, .int (fMx (bW S (fIx n)) (bW S (fIx d)))), (6, .int (pV S (fIx st) 5)), (5, .int (pV S (fIx st) 2)), (10, .int (t - (((pV S (fIx st) 0) - (fHf t)) - ((bH S (fIx d)) - (pV S (fIx st) 5))))), (9, .int (t - (((pV S (fIx st) 2) - (bD S (fIx n))) - ((pV S (fIx st) 0) + (fHf t))))), (7, .int (fHf t)), (0, .ref o), (1, .int (nI (fIx st))), (2, .int (nI (fIx n))), (3, .int (nI (fIx d))), (4, .int t)]) hx hb dX4_fraction_337 hl (by decide) rfl (fun ls hl => ?_)
                    refine lv_aload_n hx hb dX4_fraction_339 rfl (lv_at hl 6 rfl) ?_
                    refine lv_iload hx hb dX4_fraction_340 (lv_at hl 0 rfl) ?_
                    refine lv_iload hx hb dX4_fraction_342 (lv_at hl 2 rfl) ?_
                    refine lv_aload_n hx hb dX4_fraction_344 rfl (lv_at hl 6 rfl) ?_
                    refine mw_get (D := gD G) (ci := 4) (v := .ref (A 2)) (C := RX4) (T := TX4) (N := 21) hx hb htb inX4 hown hK hP hT.1 rfl 6 (by decide) (htb _ wd530) (fun _ h9 => h9) rfl dX4_fraction_345 ?_
                    refine lv_iload_n hx hb dX4_fraction_348 rfl (lv_at hl 8 rfl) ?_
                    refine mw_iald hx hb hK hP 0 (show M_19 (A 2) = some (.inl (gI G, 120, .inl (g20 2))) from hT.2.1 2 (by decide)) rfl (by exact vp_in_nI (show (fIx n) < 120 by have := hle; omega) (by decide)) dX4_fraction_349 ?_
                    refine W.eq (g2 := F0 m 350 ls [.int (bH S (fIx n)), .int (pV S (fIx st) 2), .int (fMx (bW S (fIx n)) (bW S (fIx d))), .ref o]) (by rw [nI_clamp (show (fIx n) < 2 ^ 31 by have := hle; omega), hB.H h_n]) ?_
                    refine lv_iadd hx hb dX4_fraction_350 ?_
                    refine lv_aload_n hx hb dX4_fraction_351 rfl (lv_at hl 6 rfl) ?_
                    refine mw_get (D := gD G) (ci := 4) (v := .ref (A 3)) (C := RX4) (T := TX4) (N := 21) hx hb htb inX4 hown hK hP hT.1 rfl 7 (by decide) (htb _ wd531) (fun _ h9 => h9) rfl dX4_fraction_352 ?_
                    refine lv_iload_n hx hb dX4_fraction_355 rfl (lv_at hl 9 rfl) ?_
                    refine mw_iald hx hb hK hP 0 (show M_19 (A 3) = some (.inl (gI G, 120, .inl (g20 3))) from hT.2.1 3 (by decide)) rfl (by exact vp_in_nI (show (fIx d) < 120 by have := hle; omega) (by decide)) dX4_fraction_356 ?_
                    refine W.eq (g2 := F0 m 357 ls [.int (bD S (fIx d)), .int ((pV S (fIx st) 2) + (bH S (fIx n))), .int (fMx (bW S (fIx n)) (bW S (fIx d))), .ref o]) (by rw [nI_clamp (show (fIx d) < 2 ^ 31 by have := hle; omega), hB.D h_d]) ?_
                    refine lv_iload hx hb dX4_fraction_357 (lv_at hl 1 rfl) ?_
                    refine lv_iadd hx hb dX4_fraction_359 ?_
                    refine mw_callV (C := RX4) (As := [.int (fMx (bW S (fIx n)) (bW S (fIx d))), .int ((pV S (fIx st) 2) + (bH S (fIx n))), .int ((bD S (fIx d)) + (pV S (fIx st) 5))]) (rest := []) hx hb hml hown hl (kX4_make l htr G H.size M_19 o A 0 (nI (fSz (fIx st))) S (⟨np20, bg20, g20, hT, hB⟩ : md_R G o A M_19 0 (nI (fSz (fIx st))) S) (rmk_lt kb_16 hle) (fMx (bW S (fIx n)) (bW S (fIx d))) ((pV S (fIx st) 2) + (bH S (fIx n))) ((bD S (fIx d)) + (pV S (fIx st) 5))) (g_B (n := 3) htb wd613 wd3 wd610 (by decide +kernel) ⟨Nat.le_of_ble_eq_true rfl, Nat.le_of_ble_eq_true rfl⟩) (htb _ wd612) (htb _ ws26) hE hP hS hT.1 rfl rfl rfl (Nat.le_of_ble_eq_true rfl) dX4_fraction_360 ⟨Nat.le_of_ble_eq_true rfl, Nat.le_of_ble_eq_true rfl⟩ (fun v9 M9 H locs hpo hP hz hS => ?_) (fun x9 E9 cell9 H9 locs9 hE9 => hE9.elim)
                    have hle0 := hle
                    obtain ⟨rfl, hRn, hkn⟩ := hpo
                    obtain ⟨M_50, hM_50⟩ : ∃ z9 : mw_M, z9 = M9 := ⟨_, rfl⟩
                    rw [← hM_50] at hP hRn hkn
                    have hk := md_keeps.tr hk hkn
                    have hRn : md_R G o A M_50 0 (nI (fSz (fIx st))) (fs_push S ((fMx (bW S (fIx n)) (bW S (fIx d))), ((pV S (fIx st) 2) + (bH S (fIx n))), ((bD S (fIx d)) + (pV S (fIx st) 5)), [], 0, 0)) := hRn
                    obtain ⟨np51, bg51, g51, hT, hB⟩ := id hRn
                    rw [sN_push] at hT
                    have hT : md_at G o A M_50 0 (sSp S) (sSh S) (nI (sN S + 1)) (nI np51) (nI (fSz (fIx st))) g51 := hT
                    have hle : sN S + 1 ≤ 120 := by have := hB.1; rw [sN_push] at this; exact this
                    refine W.eq (g2 := F0 m 363 ls [.int (nI (sN S))]) rfl ?_
                    refine lv_istore (lv' := [(9, .int (nI (sN S))), (8, .int (fMx (bW S (fIx n)) (bW S (fIx d)))), (6, .int (pV S (fIx st) 5)), (5, .int (pV S (fIx st) 2)), (10, .int (t - (((pV S (fIx st) 0) - (fHf t)) - ((bH S (fIx d)) - (pV S (fIx st) 5))))), (7, .int (fHf t)), (0, .ref o), (1, .int (nI (fIx st))), (2, .int (nI (fIx n))), (3, .int (nI (fIx d))), (4, .int t)]) hx hb dX4_fraction_363 hl (by decide) rfl (fun ls hl => ?_)
                    refine lv_aload_n hx hb dX4_fraction_365 rfl (lv_at hl 6 rfl) ?_
                    refine lv_iload_n hx hb dX4_fraction_366 rfl (lv_at hl 8 rfl) ?_
                    refine lv_iload hx hb dX4_fraction_367 (lv_at hl 1 rfl) ?_
                    refine lv_aload_n hx hb dX4_fraction_369 rfl (lv_at hl 6 rfl) ?_
                    refine mw_get (D := gD G) (ci := 4) (v := .ref (A 1)) (C := RX4) (T := TX4) (N := 21) hx hb htb inX4 hown hK hP hT.1 rfl 5 (by decide) (htb _ wd529) (fun _ h9 => h9) rfl dX4_fraction_370 ?_
                    refine lv_iload_n hx hb dX4_fraction_373 rfl (lv_at hl 8 rfl) ?_
                    refine mw_iald hx hb hK hP 0 (show M_50 (A 1) = some (.inl (gI G, 120, .inl (g51 1))) from hT.2.1 1 (by decide)) rfl (by exact vp_in_nI (show (fIx n) < 120 by have := hle; omega) (by decide)) dX4_fraction_374 ?_
                    refine W.eq (g2 := F0 m 375 ls [.int (bW S (fIx n)), .int (fMx (bW S (fIx n)) (bW S (fIx d))), .int (nI (fIx n)), .ref o]) (by rw [nI_clamp (show (fIx n) < 2 ^ 31 by have := hle; omega), hB.W (show (fIx n) < sN (fs_push S ((fMx (bW S (fIx n)) (bW S (fIx d))), ((pV S (fIx st) 2) + (bH S (fIx n))), ((bD S (fIx d)) + (pV S (fIx st) 5)), [], 0, 0)) by rw [sN_push]; omega), bW_push _ h_n]) ?_
                    refine lv_isub hx hb dX4_fraction_375 ?_
                    refine mw_callS (As := [.int ((fMx (bW S (fIx n)) (bW S (fIx d))) - (bW S (fIx n)))]) (rest := [.int (nI (fIx n)), .ref o]) hx hb hml hown hl (kX4_half l htr G H.size M_50 ((fMx (bW S (fIx n)) (bW S (fIx d))) - (bW S (fIx n)))) (g_B (n := 1) htb wd682 wd3 wd680 (by decide +kernel) ⟨Nat.le_of_ble_eq_true rfl, Nat.le_of_ble_eq_true rfl⟩) (htb _ wd681) hE hP hS rfl rfl (Nat.le_of_ble_eq_true rfl) dX4_fraction_376 ⟨Nat.le_of_ble_eq_true rfl, Nat.le_of_ble_eq_true rfl⟩ (fun v9 M9 H locs hpo hP hz hS => ?_) (fun x9 E9 cell9 H9 locs9 hE9 => hE9.elim)
                    obtain ⟨rfl, rfl⟩ := hpo
                    refine W.eq (g2 := F0 m 379 ls [.int (fHf ((fMx (bW S (fIx n)) (bW S (fIx d))) - (bW S (fIx n)))), .int (nI (fIx n)), .ref o]) rfl ?_
                    refine lv_iload hx hb dX4_fraction_379 (lv_at hl 3 rfl) ?_
                    refine mw_callV (C := RX4) (As := [.int (nI (fIx n)), .int (fHf ((fMx (bW S (fIx n)) (bW S (fIx d))) - (bW S (fIx n)))), .int (pV S (fIx st) 2)]) (rest := []) hx hb hml hown hl (kX4_lay l htr G H.size M_50 o A 0 (nI (fSz (fIx st))) S (fMx (bW S (fIx n)) (bW S (fIx d))) ((pV S (fIx st) 2) + (bH S (fIx n))) ((bD S (fIx d)) + (pV S (fIx st) 5)) ([]) 0 0 (md_R.of (np := np51) hT hB : md_R G o A M_50 0 (nI (fSz (fIx st))) (fs_push S ((fMx (bW S (fIx n)) (bW S (fIx d))), ((pV S (fIx st) 2) + (bH S (fIx n))), ((bD S (fIx d)) + (pV S (fIx st) 5)), [], 0, 0))) (by simp) (nI (fIx n)) (fHf ((fMx (bW S (fIx n)) (bW S (fIx d))) - (bW S (fIx n)))) (pV S (fIx st) 2)) (g_B (n := 3) htb wd661 wd3 wd658 (by decide +kernel) ⟨Nat.le_of_ble_eq_true rfl, Nat.le_of_ble_eq_true rfl⟩) (htb _ wd660) (htb _ ws34) hE hP hS hT.1 rfl rfl rfl (Nat.le_of_ble_eq_true rfl) dX4_fraction_381 ⟨Nat.le_of_ble_eq_true rfl, Nat.le_of_ble_eq_true rfl⟩ (fun v9 M9 H locs hpo hP hz hS => ?_) (fun x9 E9 cell9 H9 locs9 hE9 => hE9.elim)
                    obtain ⟨rfl, hRn, hkn⟩ := hpo
                    obtain ⟨M_52, hM_52⟩ : ∃ z9 : mw_M, z9 = M9 := ⟨_, rfl⟩
                    rw [← hM_52] at hP hRn hkn
                    have hk := md_keeps.tr hk hkn
                    have hRn : md_R G o A M_52 0 (nI (fSz (fIx st))) (fs_push S ((fMx (bW S (fIx n)) (bW S (fIx d))), ((pV S (fIx st) 2) + (bH S (fIx n))), ((bD S (fIx d)) + (pV S (fIx st) 5)), [(nI (fIx n)), (fHf ((fMx (bW S (fIx n)) (bW S (fIx d))) - (bW S (fIx n)))), (pV S (fIx st) 2)], 0, 0)) := hRn
                    obtain ⟨np53, bg53, g53, hT, hB⟩ := id hRn
                    rw [sN_push] at hT
                    have hT : md_at G o A M_52 0 (sSp S) (sSh S) (nI (sN S + 1)) (nI np53) (nI (fSz (fIx st))) g53 := hT
                    refine W.eq (g2 := F0 m 384 ls []) rfl ?_
                    refine lv_aload_n hx hb dX4_fraction_384 rfl (lv_at hl 6 rfl) ?_
                    refine lv_iload_n hx hb dX4_fraction_385 rfl (lv_at hl 9 rfl) ?_
                    refine lv_iload hx hb dX4_fraction_386 (lv_at hl 1 rfl) ?_
                    refine lv_aload_n hx hb dX4_fraction_388 rfl (lv_at hl 6 rfl) ?_
                    refine mw_get (D := gD G) (ci := 4) (v := .ref (A 1)) (C := RX4) (T := TX4) (N := 21) hx hb htb inX4 hown hK hP hT.1 rfl 5 (by decide) (htb _ wd529) (fun _ h9 => h9) rfl dX4_fraction_389 ?_
                    refine lv_iload_n hx hb dX4_fraction_392 rfl (lv_at hl 9 rfl) ?_
                    refine mw_iald hx hb hK hP 0 (show M_52 (A 1) = some (.inl (gI G, 120, .inl (g53 1))) from hT.2.1 1 (by decide)) rfl (by exact vp_in_nI (show (fIx d) < 120 by have := hle; omega) (by decide)) dX4_fraction_393 ?_
                    refine W.eq (g2 := F0 m 394 ls [.int (bW S (fIx d)), .int (fMx (bW S (fIx n)) (bW S (fIx d))), .int (nI (fIx d)), .ref o]) (by rw [nI_clamp (show (fIx d) < 2 ^ 31 by have := hle; omega), hB.W (show (fIx d) < sN (fs_push S ((fMx (bW S (fIx n)) (bW S (fIx d))), ((pV S (fIx st) 2) + (bH S (fIx n))), ((bD S (fIx d)) + (pV S (fIx st) 5)), [(nI (fIx n)), (fHf ((fMx (bW S (fIx n)) (bW S (fIx d))) - (bW S (fIx n)))), (pV S (fIx st) 2)], 0, 0)) by rw [sN_push]; omega), bW_push _ h_d]) ?_
                    refine lv_isub hx hb dX4_fraction_394 ?_
                    refine mw_callS (As := [.int ((fMx (bW S (fIx n)) (bW S (fIx d))) - (bW S (fIx d)))]) (rest := [.int (nI (fIx d)), .ref o]) hx hb hml hown hl (kX4_half l htr G H.size M_52 ((fMx (bW S (fIx n)) (bW S (fIx d))) - (bW S (fIx d)))) (g_B (n := 1) htb wd682 wd3 wd680 (by decide +kernel) ⟨Nat.le_of_ble_eq_true rfl, Nat.le_of_ble_eq_true rfl⟩) (htb _ wd681) hE hP hS rfl rfl (Nat.le_of_ble_eq_true rfl) dX4_fraction_395 ⟨Nat.le_of_ble_eq_true rfl, Nat.le_of_ble_eq_true rfl⟩ (fun v9 M9 H locs hpo hP hz hS => ?_) (fun x9 E9 cell9 H9 locs9 hE9 => hE9.elim)
                    obtain ⟨rfl, rfl⟩ := hpo
                    refine W.eq (g2 := F0 m 398 ls [.int (fHf ((fMx (bW S (fIx n)) (bW S (fIx d))) - (bW S (fIx d)))), .int (nI (fIx d)), .ref o]) rfl ?_
                    refine lv_iload hx hb dX4_fraction_398 (lv_at hl 2 rfl) ?_
                    refine lv_ineg hx hb dX4_fraction_400 ?_
                    refine mw_callV (C := RX4) (As := [.int (nI (fIx d)), .int (fHf ((fMx (bW S (fIx n)) (bW S (fIx d))) - (bW S (fIx d)))), .int (-(pV S (fIx st) 5))]) (rest := []) hx hb hml hown hl (kX4_lay l htr G H.size M_52 o A 0 (nI (fSz (fIx st))) S (fMx (bW S (fIx n)) (bW S (fIx d))) ((pV S (fIx st) 2) + (bH S (fIx n))) ((bD S (fIx d)) + (pV S (fIx st) 5)) ([(nI (fIx n)), (fHf ((fMx (bW S (fIx n)) (bW S (fIx d))) - (bW S (fIx n)))), (pV S (fIx st) 2)]) 0 0 (md_R.of (np := np53) hT hB : md_R G o A M_52 0 (nI (fSz (fIx st))) (fs_push S ((fMx (bW S (fIx n)) (bW S (fIx d))), ((pV S (fIx st) 2) + (bH S (fIx n))), ((bD S (fIx d)) + (pV S (fIx st) 5)), [(nI (fIx n)), (fHf ((fMx (bW S (fIx n)) (bW S (fIx d))) - (bW S (fIx n)))), (pV S (fIx st) 2)], 0, 0))) (by simp) (nI (fIx d)) (fHf ((fMx (bW S (fIx n)) (bW S (fIx d))) - (bW S (fIx d)))) (-(pV S (fIx st) 5))) (g_B (n := 3) htb wd661 wd3 wd658 (by decide +kernel) ⟨Nat.le_of_ble_eq_true rfl, Nat.le_of_ble_eq_true rfl⟩) (htb _ wd660) (htb _ ws34) hE hP hS hT.1 rfl rfl rfl (Nat.le_of_ble_eq_true rfl) dX4_fraction_401 ⟨Nat.le_of_ble_eq_true rfl, Nat.le_of_ble_eq_true rfl⟩ (fun v9 M9 H locs hpo hP hz hS => ?_) (fun x9 E9 cell9 H9 locs9 hE9 => hE9.elim)
                    obtain ⟨rfl, hRn, hkn⟩ := hpo
                    obtain ⟨M_54, hM_54⟩ : ∃ z9 : mw_M, z9 = M9 := ⟨_, rfl⟩
                    rw [← hM_54] at hP hRn hkn
                    have hk := md_keeps.tr hk hkn
                    have hRn : md_R G o A M_54 0 (nI (fSz (fIx st))) (fs_push S ((fMx (bW S (fIx n)) (bW S (fIx d))), ((pV S (fIx st) 2) + (bH S (fIx n))), ((bD S (fIx d)) + (pV S (fIx st) 5)), [(nI (fIx n)), (fHf ((fMx (bW S (fIx n)) (bW S (fIx d))) - (bW S (fIx n)))), (pV S (fIx st) 2), (nI (fIx d)), (fHf ((fMx (bW S (fIx n)) (bW S (fIx d))) - (bW S (fIx d)))), (-(pV S (fIx st) 5))], 0, 0)) := hRn
                    obtain ⟨np55, bg55, g55, hT, hB⟩ := id hRn
                    rw [sN_push] at hT
                    have hT : md_at G o A M_54 0 (sSp S) (sSh S) (nI (sN S + 1)) (nI np55) (nI (fSz (fIx st))) g55 := hT
                    refine W.eq (g2 := F0 m 404 ls []) rfl ?_
                    refine lv_iload hx hb dX4_fraction_404 (lv_at hl 10 rfl) ?_
                    refine lv_if_le (tgt := 444) hx hb dX4_fraction_406 (by decide) (fun c_56 => absurd c_56 c_22) (fun c_56 => ?_)
                    refine lv_aload_n hx hb dX4_fraction_409 rfl (lv_at hl 6 rfl) ?_
                    refine lv_iconst (v := (-1)) hx hb dX4_fraction_410 (by decide) ?_
                    refine lv_iconst (v := 0) hx hb dX4_fraction_411 (by decide) ?_
                    refine lv_aload_n hx hb dX4_fraction_412 rfl (lv_at hl 6 rfl) ?_
                    refine lv_iconst (v := 0) hx hb dX4_fraction_413 (by decide) ?_
                    refine mw_callV (C := RX4) (As := [.int 0]) (rest := [.int 0, .int (-1), .ref o]) hx hb hml hown hl (kX4_p l htr G H.size M_54 o A 0 (fs_push S ((fMx (bW S (fIx n)) (bW S (fIx d))), ((pV S (fIx st) 2) + (bH S (fIx n))), ((bD S (fIx d)) + (pV S (fIx st) 5)), [(nI (fIx n)), (fHf ((fMx (bW S (fIx n)) (bW S (fIx d))) - (bW S (fIx n)))), (pV S (fIx st) 2), (nI (fIx d)), (fHf ((fMx (bW S (fIx n)) (bW S (fIx d))) - (bW S (fIx d)))), (-(pV S (fIx st) 5))], 0, 0)) (fIx st) 0 h_st (by decide) (md_R.of (np := np55) hT hB : md_R G o A M_54 0 (nI (fSz (fIx st))) (fs_push S ((fMx (bW S (fIx n)) (bW S (fIx d))), ((pV S (fIx st) 2) + (bH S (fIx n))), ((bD S (fIx d)) + (pV S (fIx st) 5)), [(nI (fIx n)), (fHf ((fMx (bW S (fIx n)) (bW S (fIx d))) - (bW S (fIx n)))), (pV S (fIx st) 2), (nI (fIx d)), (fHf ((fMx (bW S (fIx n)) (bW S (fIx d))) - (bW S (fIx d)))), (-(pV S (fIx st) 5))], 0, 0)))) (g_B (n := 1) htb wd679 wd3 wd676 (by decide +kernel) ⟨Nat.le_of_ble_eq_true rfl, Nat.le_of_ble_eq_true rfl⟩) (htb _ wd678) (htb _ ws36) hE hP hS hT.1 rfl rfl rfl (Nat.le_of_ble_eq_true rfl) dX4_fraction_414 ⟨Nat.le_of_ble_eq_true rfl, Nat.le_of_ble_eq_true rfl⟩ (fun v9 M9 H locs hpo hP hz hS => ?_) (fun x9 E9 cell9 H9 locs9 hE9 => hE9.elim)
                    obtain ⟨rfl, rfl⟩ := hpo
                    refine W.eq (g2 := F0 m 417 ls [.int (pV S (fIx st) 0), .int 0, .int (-1), .ref o]) rfl ?_
                    refine lv_iload hx hb dX4_fraction_417 (lv_at hl 5 rfl) ?_
                    refine lv_iadd hx hb dX4_fraction_419 ?_
                    refine lv_iload hx hb dX4_fraction_420 (lv_at hl 10 rfl) ?_
                    refine lv_isub hx hb dX4_fraction_422 ?_
                    refine mw_callV (C := RX4) (As := [.int (-1), .int 0, .int (((pV S (fIx st) 0) + (fHf t)) - t)]) (rest := []) hx hb hml hown hl (kX4_lay l htr G H.size M_54 o A 0 (nI (fSz (fIx st))) S (fMx (bW S (fIx n)) (bW S (fIx d))) ((pV S (fIx st) 2) + (bH S (fIx n))) ((bD S (fIx d)) + (pV S (fIx st) 5)) ([(nI (fIx n)), (fHf ((fMx (bW S (fIx n)) (bW S (fIx d))) - (bW S (fIx n)))), (pV S (fIx st) 2), (nI (fIx d)), (fHf ((fMx (bW S (fIx n)) (bW S (fIx d))) - (bW S (fIx d)))), (-(pV S (fIx st) 5))]) 0 0 (md_R.of (np := np55) hT hB : md_R G o A M_54 0 (nI (fSz (fIx st))) (fs_push S ((fMx (bW S (fIx n)) (bW S (fIx d))), ((pV S (fIx st) 2) + (bH S (fIx n))), ((bD S (fIx d)) + (pV S (fIx st) 5)), [(nI (fIx n)), (fHf ((fMx (bW S (fIx n)) (bW S (fIx d))) - (bW S (fIx n)))), (pV S (fIx st) 2), (nI (fIx d)), (fHf ((fMx (bW S (fIx n)) (bW S (fIx d))) - (bW S (fIx d)))), (-(pV S (fIx st) 5))], 0, 0))) (by simp) (-1) 0 (((pV S (fIx st) 0) + (fHf t)) - t)) (g_B (n := 3) htb wd661 wd3 wd658 (by decide +kernel) ⟨Nat.le_of_ble_eq_true rfl, Nat.le_of_ble_eq_true rfl⟩) (htb _ wd660) (htb _ ws34) hE hP hS hT.1 rfl rfl rfl (Nat.le_of_ble_eq_true rfl) dX4_fraction_423 ⟨Nat.le_of_ble_eq_true rfl, Nat.le_of_ble_eq_true rfl⟩ (fun v9 M9 H locs hpo hP hz hS => ?_) (fun x9 E9 cell9 H9 locs9 hE9 => hE9.elim)
                    obtain ⟨rfl, hRn, hkn⟩ := hpo
                    obtain ⟨M_57, hM_57⟩ : ∃ z9 : mw_M, z9 = M9 := ⟨_, rfl⟩
                    rw [← hM_57] at hP hRn hkn
                    have hk := md_keeps.tr hk hkn
                    have hRn : md_R G o A M_57 0 (nI (fSz (fIx st))) (fs_push S ((fMx (bW S (fIx n)) (bW S (fIx d))), ((pV S (fIx st) 2) + (bH S (fIx n))), ((bD S (fIx d)) + (pV S (fIx st) 5)), [(nI (fIx n)), (fHf ((fMx (bW S (fIx n)) (bW S (fIx d))) - (bW S (fIx n)))), (pV S (fIx st) 2), (nI (fIx d)), (fHf ((fMx (bW S (fIx n)) (bW S (fIx d))) - (bW S (fIx d)))), (-(pV S (fIx st) 5)), (-1), 0, (((pV S (fIx st) 0) + (fHf t)) - t)], 0, 0)) := hRn
                    obtain ⟨np58, bg58, g58, hT, hB⟩ := id hRn
                    rw [sN_push] at hT
                    have hT : md_at G o A M_57 0 (sSp S) (sSh S) (nI (sN S + 1)) (nI np58) (nI (fSz (fIx st))) g58 := hT
                    refine W.eq (g2 := F0 m 426 ls []) rfl ?_
                    refine lv_aload_n hx hb dX4_fraction_426 rfl (lv_at hl 6 rfl) ?_
                    refine mw_get (D := gD G) (ci := 4) (v := .ref (A 6)) (C := RX4) (T := TX4) (N := 21) hx hb htb inX4 hown hK hP hT.1 rfl 10 (by decide) (htb _ wd534) (fun _ h9 => h9) rfl dX4_fraction_427 ?_
                    refine lv_iload hx hb dX4_fraction_430 (lv_at hl 0 rfl) ?_
                    refine lv_iload hx hb dX4_fraction_432 (lv_at hl 1 rfl) ?_
                    refine mw_iast hx hb hK hP hS 0 (show M_57 (A 6) = some (.inl (gI G, 120, .inl (g58 6))) from hT.2.1 6 (by decide)) (hT.2.2.2.2 6 (by decide)) rfl (by exact vp_in_nI (show (sN S) < 120 by have := hle; omega) (by decide)) dX4_fraction_434 (fun H locs hP hS => ?_)
                    rw [nI_clamp (show (sN S) < 2 ^ 31 by have := hle; omega)] at hP
                    obtain ⟨M_59, hM_59⟩ : ∃ z9 : mw_M, z9 = mw_up M_57 (A 6) (.inl (gI G, 120, .inl (upd (g58 6) (sN S) (fMx (bW S (fIx n)) (bW S (fIx d)))))) := ⟨_, rfl⟩
                    have hP : mw_P (gD G) gx_cl M_59 H := by rw [hM_59]; exact hP
                    obtain ⟨g_60, hg_60⟩ : ∃ z9, z9 = ug g58 6 (sN S) (fMx (bW S (fIx n)) (bW S (fIx d))) := ⟨_, rfl⟩
                    have hT : md_at G o A M_59 0 (sSp S) (sSh S) (nI (sN S + 1)) (nI np58) (nI (fSz (fIx st))) g_60 := by rw [hg_60]; exact md_at.put hT (by decide) rfl rfl hM_59
                    have hk : md_keeps o A M M_59 := md_keeps.arr (j := 6) hk (by decide) hM_59
                    have hB : md_ab np58 bg58 g_60 (fs_push S ((fMx (bW S (fIx n)) (bW S (fIx d))), ((pV S (fIx st) 2) + (bH S (fIx n))), ((bD S (fIx d)) + (pV S (fIx st) 5)), [(nI (fIx n)), (fHf ((fMx (bW S (fIx n)) (bW S (fIx d))) - (bW S (fIx n)))), (pV S (fIx st) 2), (nI (fIx d)), (fHf ((fMx (bW S (fIx n)) (bW S (fIx d))) - (bW S (fIx d)))), (-(pV S (fIx st) 5)), (-1), 0, (((pV S (fIx st) 0) + (fHf t)) - t)], (fMx (bW S (fIx n)) (bW S (fIx d))), 0)) := by rw [hg_60]; exact md_ab.set6 hB _
                    refine lv_aload_n hx hb dX4_fraction_435 rfl (lv_at hl 6 rfl) ?_
                    refine mw_get (D := gD G) (ci := 4) (v := .ref (A 7)) (C := RX4) (T := TX4) (N := 21) hx hb htb inX4 hown hK hP hT.1 rfl 11 (by decide) (htb _ wd535) (fun _ h9 => h9) rfl dX4_fraction_436 ?_
                    refine lv_iload hx hb dX4_fraction_439 (lv_at hl 0 rfl) ?_
                    refine lv_iload hx hb dX4_fraction_441 (lv_at hl 10 rfl) ?_
                    refine mw_iast hx hb hK hP hS 0 (show M_59 (A 7) = some (.inl (gI G, 120, .inl (g_60 7))) from hT.2.1 7 (by decide)) (hT.2.2.2.2 7 (by decide)) rfl (by exact vp_in_nI (show (sN S) < 120 by have := hle; omega) (by decide)) dX4_fraction_443 (fun H locs hP hS => ?_)
                    rw [nI_clamp (show (sN S) < 2 ^ 31 by have := hle; omega)] at hP
                    obtain ⟨M_61, hM_61⟩ : ∃ z9 : mw_M, z9 = mw_up M_59 (A 7) (.inl (gI G, 120, .inl (upd (g_60 7) (sN S) t))) := ⟨_, rfl⟩
                    have hP : mw_P (gD G) gx_cl M_61 H := by rw [hM_61]; exact hP
                    obtain ⟨g_62, hg_62⟩ : ∃ z9, z9 = ug g_60 7 (sN S) t := ⟨_, rfl⟩
                    have hT : md_at G o A M_61 0 (sSp S) (sSh S) (nI (sN S + 1)) (nI np58) (nI (fSz (fIx st))) g_62 := by rw [hg_62]; exact md_at.put hT (by decide) rfl rfl hM_61
                    have hk : md_keeps o A M M_61 := md_keeps.arr (j := 7) hk (by decide) hM_61
                    have hB : md_ab np58 bg58 g_62 (fs_push S ((fMx (bW S (fIx n)) (bW S (fIx d))), ((pV S (fIx st) 2) + (bH S (fIx n))), ((bD S (fIx d)) + (pV S (fIx st) 5)), [(nI (fIx n)), (fHf ((fMx (bW S (fIx n)) (bW S (fIx d))) - (bW S (fIx n)))), (pV S (fIx st) 2), (nI (fIx d)), (fHf ((fMx (bW S (fIx n)) (bW S (fIx d))) - (bW S (fIx d)))), (-(pV S (fIx st) 5)), (-1), 0, (((pV S (fIx st) 0) + (fHf t)) - t)], (fMx (bW S (fIx n)) (bW S (fIx d))), t)) := by rw [hg_62]; exact md_ab.set7 hB _
                    refine lv_iload hx hb dX4_fraction_444 (lv_at hl 0 rfl) ?_
                    have hex : ex_fraction S st n d t = 0 := by rw [ex_fraction, if_neg (fun z9 => z9 ⟨kb_5, kb_7⟩), if_neg (fun z9 => z9 ⟨kb_12, kb_14⟩), if_neg (fun z9 => z9 kb_16)]
                    have hre : re_fraction S st n d t = ((fMx (bW S (fIx n)) (bW S (fIx d))), ((pV S (fIx st) 2) + (bH S (fIx n))), ((bD S (fIx d)) + (pV S (fIx st) 5)), [(nI (fIx n)), (fHf ((fMx (bW S (fIx n)) (bW S (fIx d))) - (bW S (fIx n)))), (pV S (fIx st) 2), (nI (fIx d)), (fHf ((fMx (bW S (fIx n)) (bW S (fIx d))) - (bW S (fIx d)))), (-(pV S (fIx st) 5)), (-1), 0, (((pV S (fIx st) 0) + (fHf t)) - t)], (fMx (bW S (fIx n)) (bW S (fIx d))), t) := by simp only [re_fraction, fs_fb, fs_fb1, fs_fb2, fs_fb3, fs_fl, fs_fl1, fs_fl3, if_neg c_15, if_neg c_21, if_neg c_22, if_pos c_48, if_pos c_49, fMx0p c_48, fMx0p c_49, Int32.add_zero]
                    exact mx_iret (v := (nI (sN S))) (M' := M_61) hx hb hr hlocks hP hS ⟨by rw [hex]; rfl, ⟨_, by rw [hex, if_pos rfl, hre]; exact (md_R.of (np := np58) hT hB : md_R G o A M_61 0 (nI (fSz (fIx st))) (fs_push S ((fMx (bW S (fIx n)) (bW S (fIx d))), ((pV S (fIx st) 2) + (bH S (fIx n))), ((bD S (fIx d)) + (pV S (fIx st) 5)), [(nI (fIx n)), (fHf ((fMx (bW S (fIx n)) (bW S (fIx d))) - (bW S (fIx n)))), (pV S (fIx st) 2), (nI (fIx d)), (fHf ((fMx (bW S (fIx n)) (bW S (fIx d))) - (bW S (fIx d)))), (-(pV S (fIx st) 5)), (-1), 0, (((pV S (fIx st) 0) + (fHf t)) - t)], (fMx (bW S (fIx n)) (bW S (fIx d))), t)))⟩, hk⟩ dX4_fraction_446 (Nat.le_of_ble_eq_true rfl) (Nat.le_of_ble_eq_true rfl)
                  · refine lv_iload hx hb dX4_fraction_310 (lv_at hl 5 rfl) ?_
                    refine lv_iload hx hb dX4_fraction_312 (lv_at hl 1 rfl) ?_
                    refine lv_iadd hx hb dX4_fraction_314 ?_
                    refine lv_goto (tgt := 320) hx hb dX4_fraction_315 (by decide) ?_
                    refine lv_istore (lv' := [(6, .int ((pV S (fIx st) 5) + (t - (((pV S (fIx st) 0) - (fHf t)) - ((bH S (fIx d)) - (pV S (fIx st) 5)))))), (5, .int (pV S (fIx st) 2)), (10, .int (t - (((pV S (fIx st) 0) - (fHf t)) - ((bH S (fIx d)) - (pV S (fIx st) 5))))), (9, .int (t - (((pV S (fIx st) 2) - (bD S (fIx n))) - ((pV S (fIx st) 0) + (fHf t))))), (8, .int t), (7, .int (fHf t)), (0, .ref o), (1, .int (nI (fIx st))), (2, .int (nI (fIx n))), (3, .int (nI (fIx d))), (4, .int t)]) hx hb dX4_fraction_320 hl (by decide) rfl (fun ls hl => ?_)
                    refine lv_aload_n hx hb dX4_fraction_322 rfl (lv_at hl 6 rfl) ?_
                    refine mw_get (D := gD G) (ci := 4) (v := .ref (A 1)) (C := RX4) (T := TX4) (N := 21) hx hb htb inX4 hown hK hP hT.1 rfl 5 (by decide) (htb _ wd529) (fun _ h9 => h9) rfl dX4_fraction_323 ?_
                    refine lv_iload_n hx hb dX4_fraction_326 rfl (lv_at hl 8 rfl) ?_
                    refine mw_iald hx hb hK hP 0 (show M_19 (A 1) = some (.inl (gI G, 120, .inl (g20 1))) from hT.2.1 1 (by decide)) rfl (by exact vp_in_nI (show (fIx n) < 120 by have := hle; omega) (by decide)) dX4_fraction_327 ?_
                    refine W.eq (g2 := F0 m 328 ls [.int (bW S (fIx n))]) (by rw [nI_clamp (show (fIx n) < 2 ^ 31 by have := hle; omega), hB.W h_n]) ?_
                    refine lv_aload_n hx hb dX4_fraction_328 rfl (lv_at hl 6 rfl) ?_
                    refine mw_get (D := gD G) (ci := 4) (v := .ref (A 1)) (C := RX4) (T := TX4) (N := 21) hx hb htb inX4 hown hK hP hT.1 rfl 5 (by decide) (htb _ wd529) (fun _ h9 => h9) rfl dX4_fraction_329 ?_
                    refine lv_iload_n hx hb dX4_fraction_332 rfl (lv_at hl 9 rfl) ?_
                    refine mw_iald hx hb hK hP 0 (show M_19 (A 1) = some (.inl (gI G, 120, .inl (g20 1))) from hT.2.1 1 (by decide)) rfl (by exact vp_in_nI (show (fIx d) < 120 by have := hle; omega) (by decide)) dX4_fraction_333 ?_
                    refine W.eq (g2 := F0 m 334 ls [.int (bW S (fIx d)), .int (bW S (fIx n))]) (by rw [nI_clamp (show (fIx d) < 2 ^ 31 by have := hle; omega), hB.W h_d]) ?_
                    refine mw_callS (As := [.int (bW S (fIx n)), .int (bW S (fIx d))]) (rest := []) hx hb hml hown hl (kX4_greater l htr G H.size M_19 (bW S (fIx n)) (bW S (fIx d))) (g_B (n := 2) htb wd664 wd3 wd662 (by decide +kernel) ⟨Nat.le_of_ble_eq_true rfl, Nat.le_of_ble_eq_true rfl⟩) (htb _ wd663) hE hP hS rfl rfl (Nat.le_of_ble_eq_true rfl) dX4_fraction_334 ⟨Nat.le_of_ble_eq_true rfl, Nat.le_of_ble_eq_true rfl⟩ (fun v9 M9 H locs hpo hP hz hS => ?_) (fun x9 E9 cell9 H9 locs9 hE9 => hE9.elim)
                    obtain ⟨rfl, rfl⟩ := hpo
                    refine W.eq (g2 := F0 m 337 ls [.int (fMx (bW S (fIx n)) (bW S (fIx d)))]) rfl ?_
                    refine lv_istore (lv' := [(8, .int (fMx (bW S (fIx n)) (bW S (fIx d)))), (6, .int ((pV S (fIx st) 5) + (t - (((pV S (fIx st) 0) - (fHf t)) - ((bH S (fIx d)) - (pV S (fIx st) 5)))))), (5, .int (pV S (fIx st) 2)), (10, .int (t - (((pV S (fIx st) 0) - (fHf t)) - ((bH S (fIx d)) - (pV S (fIx st) 5))))), (9, .int (t - (((pV S (fIx st) 2) - (bD S (fIx n))) - ((pV S (fIx st) 0) + (fHf t))))), (7, .int (fHf t)), (0, .ref o), (1, .int (nI (fIx st))), (2, .int (nI (fIx n))), (3, .int (nI (fIx d))), (4, .int t)]) hx hb dX4_fraction_337 hl (by decide) rfl (fun ls hl => ?_)
                    refine lv_aload_n hx hb dX4_fraction_339 rfl (lv_at hl 6 rfl) ?_
                    refine lv_iload hx hb dX4_fraction_340 (lv_at hl 0 rfl) ?_
                    refine lv_iload hx hb dX4_fraction_342 (lv_at hl 2 rfl) ?_
                    refine lv_aload_n hx hb dX4_fraction_344 rfl (lv_at hl 6 rfl) ?_
                    refine mw_get (D := gD G) (ci := 4) (v := .ref (A 2)) (C := RX4) (T := TX4) (N := 21) hx hb htb inX4 hown hK hP hT.1 rfl 6 (by decide) (htb _ wd530) (fun _ h9 => h9) rfl dX4_fraction_345 ?_
                    refine lv_iload_n hx hb dX4_fraction_348 rfl (lv_at hl 8 rfl) ?_
                    refine mw_iald hx hb hK hP 0 (show M_19 (A 2) = some (.inl (gI G, 120, .inl (g20 2))) from hT.2.1 2 (by decide)) rfl (by exact vp_in_nI (show (fIx n) < 120 by have := hle; omega) (by decide)) dX4_fraction_349 ?_
                    refine W.eq (g2 := F0 m 350 ls [.int (bH S (fIx n)), .int (pV S (fIx st) 2), .int (fMx (bW S (fIx n)) (bW S (fIx d))), .ref o]) (by rw [nI_clamp (show (fIx n) < 2 ^ 31 by have := hle; omega), hB.H h_n]) ?_
                    refine lv_iadd hx hb dX4_fraction_350 ?_
                    refine lv_aload_n hx hb dX4_fraction_351 rfl (lv_at hl 6 rfl) ?_
                    refine mw_get (D := gD G) (ci := 4) (v := .ref (A 3)) (C := RX4) (T := TX4) (N := 21) hx hb htb inX4 hown hK hP hT.1 rfl 7 (by decide) (htb _ wd531) (fun _ h9 => h9) rfl dX4_fraction_352 ?_
                    refine lv_iload_n hx hb dX4_fraction_355 rfl (lv_at hl 9 rfl) ?_
                    refine mw_iald hx hb hK hP 0 (show M_19 (A 3) = some (.inl (gI G, 120, .inl (g20 3))) from hT.2.1 3 (by decide)) rfl (by exact vp_in_nI (show (fIx d) < 120 by have := hle; omega) (by decide)) dX4_fraction_356 ?_
                    refine W.eq (g2 := F0 m 357 ls [.int (bD S (fIx d)), .int ((pV S (fIx st) 2) + (bH S (fIx n))), .int (fMx (bW S (fIx n)) (bW S (fIx d))), .ref o]) (by rw [nI_clamp (show (fIx d) < 2 ^ 31 by have := hle; omega), hB.D h_d]) ?_
                    refine lv_iload hx hb dX4_fraction_357 (lv_at hl 1 rfl) ?_
                    refine lv_iadd hx hb dX4_fraction_359 ?_
                    refine mw_callV (C := RX4) (As := [.int (fMx (bW S (fIx n)) (bW S (fIx d))), .int ((pV S (fIx st) 2) + (bH S (fIx n))), .int ((bD S (fIx d)) + ((pV S (fIx st) 5) + (t - (((pV S (fIx st) 0) - (fHf t)) - ((bH S (fIx d)) - (pV S (fIx st) 5))))))]) (rest := []) hx hb hml hown hl (kX4_make l htr G H.size M_19 o A 0 (nI (fSz (fIx st))) S (⟨np20, bg20, g20, hT, hB⟩ : md_R G o A M_19 0 (nI (fSz (fIx st))) S) (rmk_lt kb_16 hle) (fMx (bW S (fIx n)) (bW S (fIx d))) ((pV S (fIx st) 2) + (bH S (fIx n))) ((bD S (fIx d)) + ((pV S (fIx st) 5) + (t - (((pV S (fIx st) 0) - (fHf t)) - ((bH S (fIx d)) - (pV S (fIx st) 5))))))) (g_B (n := 3) htb wd613 wd3 wd610 (by decide +kernel) ⟨Nat.le_of_ble_eq_true rfl, Nat.le_of_ble_eq_true rfl⟩) (htb _ wd612) (htb _ ws26) hE hP hS hT.1 rfl rfl rfl (Nat.le_of_ble_eq_true rfl) dX4_fraction_360 ⟨Nat.le_of_ble_eq_true rfl, Nat.le_of_ble_eq_true rfl⟩ (fun v9 M9 H locs hpo hP hz hS => ?_) (fun x9 E9 cell9 H9 locs9 hE9 => hE9.elim)
                    have hle0 := hle
                    obtain ⟨rfl, hRn, hkn⟩ := hpo
                    obtain ⟨M_63, hM_63⟩ : ∃ z9 : mw_M, z9 = M9 := ⟨_, rfl⟩
                    rw [← hM_63] at hP hRn hkn
                    have hk := md_keeps.tr hk hkn
                    have hRn : md_R G o A M_63 0 (nI (fSz (fIx st))) (fs_push S ((fMx (bW S (fIx n)) (bW S (fIx d))), ((pV S (fIx st) 2) + (bH S (fIx n))), ((bD S (fIx d)) + ((pV S (fIx st) 5) + (t - (((pV S (fIx st) 0) - (fHf t)) - ((bH S (fIx d)) - (pV S (fIx st) 5)))))), [], 0, 0)) := hRn
                    obtain ⟨np64, bg64, g64, hT, hB⟩ := id hRn
                    rw [sN_push] at hT
                    have hT : md_at G o A M_63 0 (sSp S) (sSh S) (nI (sN S + 1)) (nI np64) (nI (fSz (fIx st))) g64 := hT
                    have hle : sN S + 1 ≤ 120 := by have := hB.1; rw [sN_push] at this; exact this
                    refine W.eq (g2 := F0 m 363 ls [.int (nI (sN S))]) rfl ?_
                    refine lv_istore (lv' := [(9, .int (nI (sN S))), (8, .int (fMx (bW S (fIx n)) (bW S (fIx d)))), (6, .int ((pV S (fIx st) 5) + (t - (((pV S (fIx st) 0) - (fHf t)) - ((bH S (fIx d)) - (pV S (fIx st) 5)))))), (5, .int (pV S (fIx st) 2)), (10, .int (t - (((pV S (fIx st) 0) - (fHf t)) - ((bH S (fIx d)) - (pV S (fIx st) 5))))), (7, .int (fHf t)), (0, .ref o), (1, .int (nI (fIx st))), (2, .int (nI (fIx n))), (3, .int (nI (fIx d))), (4, .int t)]) hx hb dX4_fraction_363 hl (by decide) rfl (fun ls hl => ?_)
                    refine lv_aload_n hx hb dX4_fraction_365 rfl (lv_at hl 6 rfl) ?_
                    refine lv_iload_n hx hb dX4_fraction_366 rfl (lv_at hl 8 rfl) ?_
                    refine lv_iload hx hb dX4_fraction_367 (lv_at hl 1 rfl) ?_
                    refine lv_aload_n hx hb dX4_fraction_369 rfl (lv_at hl 6 rfl) ?_
                    refine mw_get (D := gD G) (ci := 4) (v := .ref (A 1)) (C := RX4) (T := TX4) (N := 21) hx hb htb inX4 hown hK hP hT.1 rfl 5 (by decide) (htb _ wd529) (fun _ h9 => h9) rfl dX4_fraction_370 ?_
                    refine lv_iload_n hx hb dX4_fraction_373 rfl (lv_at hl 8 rfl) ?_
                    refine mw_iald hx hb hK hP 0 (show M_63 (A 1) = some (.inl (gI G, 120, .inl (g64 1))) from hT.2.1 1 (by decide)) rfl (by exact vp_in_nI (show (fIx n) < 120 by have := hle; omega) (by decide)) dX4_fraction_374 ?_
                    refine W.eq (g2 := F0 m 375 ls [.int (bW S (fIx n)), .int (fMx (bW S (fIx n)) (bW S (fIx d))), .int (nI (fIx n)), .ref o]) (by rw [nI_clamp (show (fIx n) < 2 ^ 31 by have := hle; omega), hB.W (show (fIx n) < sN (fs_push S ((fMx (bW S (fIx n)) (bW S (fIx d))), ((pV S (fIx st) 2) + (bH S (fIx n))), ((bD S (fIx d)) + ((pV S (fIx st) 5) + (t - (((pV S (fIx st) 0) - (fHf t)) - ((bH S (fIx d)) - (pV S (fIx st) 5)))))), [], 0, 0)) by rw [sN_push]; omega), bW_push _ h_n]) ?_
                    refine lv_isub hx hb dX4_fraction_375 ?_
                    refine mw_callS (As := [.int ((fMx (bW S (fIx n)) (bW S (fIx d))) - (bW S (fIx n)))]) (rest := [.int (nI (fIx n)), .ref o]) hx hb hml hown hl (kX4_half l htr G H.size M_63 ((fMx (bW S (fIx n)) (bW S (fIx d))) - (bW S (fIx n)))) (g_B (n := 1) htb wd682 wd3 wd680 (by decide +kernel) ⟨Nat.le_of_ble_eq_true rfl, Nat.le_of_ble_eq_true rfl⟩) (htb _ wd681) hE hP hS rfl rfl (Nat.le_of_ble_eq_true rfl) dX4_fraction_376 ⟨Nat.le_of_ble_eq_true rfl, Nat.le_of_ble_eq_true rfl⟩ (fun v9 M9 H locs hpo hP hz hS => ?_) (fun x9 E9 cell9 H9 locs9 hE9 => hE9.elim)
                    obtain ⟨rfl, rfl⟩ := hpo
                    refine W.eq (g2 := F0 m 379 ls [.int (fHf ((fMx (bW S (fIx n)) (bW S (fIx d))) - (bW S (fIx n)))), .int (nI (fIx n)), .ref o]) rfl ?_
                    refine lv_iload hx hb dX4_fraction_379 (lv_at hl 3 rfl) ?_
                    refine mw_callV (C := RX4) (As := [.int (nI (fIx n)), .int (fHf ((fMx (bW S (fIx n)) (bW S (fIx d))) - (bW S (fIx n)))), .int (pV S (fIx st) 2)]) (rest := []) hx hb hml hown hl (kX4_lay l htr G H.size M_63 o A 0 (nI (fSz (fIx st))) S (fMx (bW S (fIx n)) (bW S (fIx d))) ((pV S (fIx st) 2) + (bH S (fIx n))) ((bD S (fIx d)) + ((pV S (fIx st) 5) + (t - (((pV S (fIx st) 0) - (fHf t)) - ((bH S (fIx d)) - (pV S (fIx st) 5)))))) ([]) 0 0 (md_R.of (np := np64) hT hB : md_R G o A M_63 0 (nI (fSz (fIx st))) (fs_push S ((fMx (bW S (fIx n)) (bW S (fIx d))), ((pV S (fIx st) 2) + (bH S (fIx n))), ((bD S (fIx d)) + ((pV S (fIx st) 5) + (t - (((pV S (fIx st) 0) - (fHf t)) - ((bH S (fIx d)) - (pV S (fIx st) 5)))))), [], 0, 0))) (by simp) (nI (fIx n)) (fHf ((fMx (bW S (fIx n)) (bW S (fIx d))) - (bW S (fIx n)))) (pV S (fIx st) 2)) (g_B (n := 3) htb wd661 wd3 wd658 (by decide +kernel) ⟨Nat.le_of_ble_eq_true rfl, Nat.le_of_ble_eq_true rfl⟩) (htb _ wd660) (htb _ ws34) hE hP hS hT.1 rfl rfl rfl (Nat.le_of_ble_eq_true rfl) dX4_fraction_381 ⟨Nat.le_of_ble_eq_true rfl, Nat.le_of_ble_eq_true rfl⟩ (fun v9 M9 H locs hpo hP hz hS => ?_) (fun x9 E9 cell9 H9 locs9 hE9 => hE9.elim)
                    obtain ⟨rfl, hRn, hkn⟩ := hpo
                    obtain ⟨M_65, hM_65⟩ : ∃ z9 : mw_M, z9 = M9 := ⟨_, rfl⟩
                    rw [← hM_65] at hP hRn hkn
                    have hk := md_keeps.tr hk hkn
                    have hRn : md_R G o A M_65 0 (nI (fSz (fIx st))) (fs_push S ((fMx (bW S (fIx n)) (bW S (fIx d))), ((pV S (fIx st) 2) + (bH S (fIx n))), ((bD S (fIx d)) + ((pV S (fIx st) 5) + (t - (((pV S (fIx st) 0) - (fHf t)) - ((bH S (fIx d)) - (pV S (fIx st) 5)))))), [(nI (fIx n)), (fHf ((fMx (bW S (fIx n)) (bW S (fIx d))) - (bW S (fIx n)))), (pV S (fIx st) 2)], 0, 0)) := hRn
                    obtain ⟨np66, bg66, g66, hT, hB⟩ := id hRn
                    rw [sN_push] at hT
                    have hT : md_at G o A M_65 0 (sSp S) (sSh S) (nI (sN S + 1)) (nI np66) (nI (fSz (fIx st))) g66 := hT
                    refine W.eq (g2 := F0 m 384 ls []) rfl ?_
                    refine lv_aload_n hx hb dX4_fraction_384 rfl (lv_at hl 6 rfl) ?_
                    refine lv_iload_n hx hb dX4_fraction_385 rfl (lv_at hl 9 rfl) ?_
                    refine lv_iload hx hb dX4_fraction_386 (lv_at hl 1 rfl) ?_
                    refine lv_aload_n hx hb dX4_fraction_388 rfl (lv_at hl 6 rfl) ?_
                    refine mw_get (D := gD G) (ci := 4) (v := .ref (A 1)) (C := RX4) (T := TX4) (N := 21) hx hb htb inX4 hown hK hP hT.1 rfl 5 (by decide) (htb _ wd529) (fun _ h9 => h9) rfl dX4_fraction_389 ?_
                    refine lv_iload_n hx hb dX4_fraction_392 rfl (lv_at hl 9 rfl) ?_
                    refine mw_iald hx hb hK hP 0 (show M_65 (A 1) = some (.inl (gI G, 120, .inl (g66 1))) from hT.2.1 1 (by decide)) rfl (by exact vp_in_nI (show (fIx d) < 120 by have := hle; omega) (by decide)) dX4_fraction_393 ?_
                    refine W.eq (g2 := F0 m 394 ls [.int (bW S (fIx d)), .int (fMx (bW S (fIx n)) (bW S (fIx d))), .int (nI (fIx d)), .ref o]) (by rw [nI_clamp (show (fIx d) < 2 ^ 31 by have := hle; omega), hB.W (show (fIx d) < sN (fs_push S ((fMx (bW S (fIx n)) (bW S (fIx d))), ((pV S (fIx st) 2) + (bH S (fIx n))), ((bD S (fIx d)) + ((pV S (fIx st) 5) + (t - (((pV S (fIx st) 0) - (fHf t)) - ((bH S (fIx d)) - (pV S (fIx st) 5)))))), [(nI (fIx n)), (fHf ((fMx (bW S (fIx n)) (bW S (fIx d))) - (bW S (fIx n)))), (pV S (fIx st) 2)], 0, 0)) by rw [sN_push]; omega), bW_push _ h_d]) ?_
                    refine lv_isub hx hb dX4_fraction_394 ?_
                    refine mw_callS (As := [.int ((fMx (bW S (fIx n)) (bW S (fIx d))) - (bW S (fIx d)))]) (rest := [.int (nI (fIx d)), .ref o]) hx hb hml hown hl (kX4_half l htr G H.size M_65 ((fMx (bW S (fIx n)) (bW S (fIx d))) - (bW S (fIx d)))) (g_B (n := 1) htb wd682 wd3 wd680 (by decide +kernel) ⟨Nat.le_of_ble_eq_true rfl, Nat.le_of_ble_eq_true rfl⟩) (htb _ wd681) hE hP hS rfl rfl (Nat.le_of_ble_eq_true rfl) dX4_fraction_395 ⟨Nat.le_of_ble_eq_true rfl, Nat.le_of_ble_eq_true rfl⟩ (fun v9 M9 H locs hpo hP hz hS => ?_) (fun x9 E9 cell9 H9 locs9 hE9 => hE9.elim)
                    obtain ⟨rfl, rfl⟩ := hpo
                    refine W.eq (g2 := F0 m 398 ls [.int (fHf ((fMx (bW S (fIx n)) (bW S (fIx d))) - (bW S (fIx d)))), .int (nI (fIx d)), .ref o]) rfl ?_
                    refine lv_iload hx hb dX4_fraction_398 (lv_at hl 2 rfl) ?_
                    refine lv_ineg hx hb dX4_fraction_400 ?_
                    refine mw_callV (C := RX4) (As := [.int (nI (fIx d)), .int (fHf ((fMx (bW S (fIx n)) (bW S (fIx d))) - (bW S (fIx d)))), .int (-((pV S (fIx st) 5) + (t - (((pV S (fIx st) 0) - (fHf t)) - ((bH S (fIx d)) - (pV S (fIx st) 5))))))]) (rest := []) hx hb hml hown hl (kX4_lay l htr G H.size M_65 o A 0 (nI (fSz (fIx st))) S (fMx (bW S (fIx n)) (bW S (fIx d))) ((pV S (fIx st) 2) + (bH S (fIx n))) ((bD S (fIx d)) + ((pV S (fIx st) 5) + (t - (((pV S (fIx st) 0) - (fHf t)) - ((bH S (fIx d)) - (pV S (fIx st) 5)))))) ([(nI (fIx n)), (fHf ((fMx (bW S (fIx n)) (bW S (fIx d))) - (bW S (fIx n)))), (pV S (fIx st) 2)]) 0 0 (md_R.of (np := np66) hT hB : md_R G o A M_65 0 (nI (fSz (fIx st))) (fs_push S ((fMx (bW S (fIx n)) (bW S (fIx d))), ((pV S (fIx st) 2) + (bH S (fIx n))), ((bD S (fIx d)) + ((pV S (fIx st) 5) + (t - (((pV S (fIx st) 0) - (fHf t)) - ((bH S (fIx d)) - (pV S (fIx st) 5)))))), [(nI (fIx n)), (fHf ((fMx (bW S (fIx n)) (bW S (fIx d))) - (bW S (fIx n)))), (pV S (fIx st) 2)], 0, 0))) (by simp) (nI (fIx d)) (fHf ((fMx (bW S (fIx n)) (bW S (fIx d))) - (bW S (fIx d)))) (-((pV S (fIx st) 5) + (t - (((pV S (fIx st) 0) - (fHf t)) - ((bH S (fIx d)) - (pV S (fIx st) 5))))))) (g_B (n := 3) htb wd661 wd3 wd658 (by decide +kernel) ⟨Nat.le_of_ble_eq_true rfl, Nat.le_of_ble_eq_true rfl⟩) (htb _ wd660) (htb _ ws34) hE hP hS hT.1 rfl rfl rfl (Nat.le_of_ble_eq_true rfl) dX4_fraction_401 ⟨Nat.le_of_ble_eq_true rfl, Nat.le_of_ble_eq_true rfl⟩ (fun v9 M9 H locs hpo hP hz hS => ?_) (fun x9 E9 cell9 H9 locs9 hE9 => hE9.elim)
                    obtain ⟨rfl, hRn, hkn⟩ := hpo
                    obtain ⟨M_67, hM_67⟩ : ∃ z9 : mw_M, z9 = M9 := ⟨_, rfl⟩
                    rw [← hM_67] at hP hRn hkn
                    have hk := md_keeps.tr hk hkn
                    have hRn : md_R G o A M_67 0 (nI (fSz (fIx st))) (fs_push S ((fMx (bW S (fIx n)) (bW S (fIx d))), ((pV S (fIx st) 2) + (bH S (fIx n))), ((bD S (fIx d)) + ((pV S (fIx st) 5) + (t - (((pV S (fIx st) 0) - (fHf t)) - ((bH S (fIx d)) - (pV S (fIx st) 5)))))), [(nI (fIx n)), (fHf ((fMx (bW S (fIx n)) (bW S (fIx d))) - (bW S (fIx n)))), (pV S (fIx st) 2), (nI (fIx d)), (fHf ((fMx (bW S (fIx n)) (bW S (fIx d))) - (bW S (fIx d)))), (-((pV S (fIx st) 5) + (t - (((pV S (fIx st) 0) - (fHf t)) - ((bH S (fIx d)) - (pV S (fIx st) 5))))))], 0, 0)) := hRn
                    obtain ⟨np68, bg68, g68, hT, hB⟩ := id hRn
                    rw [sN_push] at hT
                    have hT : md_at G o A M_67 0 (sSp S) (sSh S) (nI (sN S + 1)) (nI np68) (nI (fSz (fIx st))) g68 := hT
                    refine W.eq (g2 := F0 m 404 ls []) rfl ?_
                    refine lv_iload hx hb dX4_fraction_404 (lv_at hl 10 rfl) ?_
                    refine lv_if_le (tgt := 444) hx hb dX4_fraction_406 (by decide) (fun c_69 => absurd c_69 c_22) (fun c_69 => ?_)
                    refine lv_aload_n hx hb dX4_fraction_409 rfl (lv_at hl 6 rfl) ?_
                    refine lv_iconst (v := (-1)) hx hb dX4_fraction_410 (by decide) ?_
                    refine lv_iconst (v := 0) hx hb dX4_fraction_411 (by decide) ?_
                    refine lv_aload_n hx hb dX4_fraction_412 rfl (lv_at hl 6 rfl) ?_
                    refine lv_iconst (v := 0) hx hb dX4_fraction_413 (by decide) ?_
                    refine mw_callV (C := RX4) (As := [.int 0]) (rest := [.int 0, .int (-1), .ref o]) hx hb hml hown hl (kX4_p l htr G H.size M_67 o A 0 (fs_push S ((fMx (bW S (fIx n)) (bW S (fIx d))), ((pV S (fIx st) 2) + (bH S (fIx n))), ((bD S (fIx d)) + ((pV S (fIx st) 5) + (t - (((pV S (fIx st) 0) - (fHf t)) - ((bH S (fIx d)) - (pV S (fIx st) 5)))))), [(nI (fIx n)), (fHf ((fMx (bW S (fIx n)) (bW S (fIx d))) - (bW S (fIx n)))), (pV S (fIx st) 2), (nI (fIx d)), (fHf ((fMx (bW S (fIx n)) (bW S (fIx d))) - (bW S (fIx d)))), (-((pV S (fIx st) 5) + (t - (((pV S (fIx st) 0) - (fHf t)) - ((bH S (fIx d)) - (pV S (fIx st) 5))))))], 0, 0)) (fIx st) 0 h_st (by decide) (md_R.of (np := np68) hT hB : md_R G o A M_67 0 (nI (fSz (fIx st))) (fs_push S ((fMx (bW S (fIx n)) (bW S (fIx d))), ((pV S (fIx st) 2) + (bH S (fIx n))), ((bD S (fIx d)) + ((pV S (fIx st) 5) + (t - (((pV S (fIx st) 0) - (fHf t)) - ((bH S (fIx d)) - (pV S (fIx st) 5)))))), [(nI (fIx n)), (fHf ((fMx (bW S (fIx n)) (bW S (fIx d))) - (bW S (fIx n)))), (pV S (fIx st) 2), (nI (fIx d)), (fHf ((fMx (bW S (fIx n)) (bW S (fIx d))) - (bW S (fIx d)))), (-((pV S (fIx st) 5) + (t - (((pV S (fIx st) 0) - (fHf t)) - ((bH S (fIx d)) - (pV S (fIx st) 5))))))], 0, 0)))) (g_B (n := 1) htb wd679 wd3 wd676 (by decide +kernel) ⟨Nat.le_of_ble_eq_true rfl, Nat.le_of_ble_eq_true rfl⟩) (htb _ wd678) (htb _ ws36) hE hP hS hT.1 rfl rfl rfl (Nat.le_of_ble_eq_true rfl) dX4_fraction_414 ⟨Nat.le_of_ble_eq_true rfl, Nat.le_of_ble_eq_true rfl⟩ (fun v9 M9 H locs hpo hP hz hS => ?_) (fun x9 E9 cell9 H9 locs9 hE9 => hE9.elim)
                    obtain ⟨rfl, rfl⟩ := hpo
                    refine W.eq (g2 := F0 m 417 ls [.int (pV S (fIx st) 0), .int 0, .int (-1), .ref o]) rfl ?_
                    refine lv_iload hx hb dX4_fraction_417 (lv_at hl 5 rfl) ?_
                    refine lv_iadd hx hb dX4_fraction_419 ?_
                    refine lv_iload hx hb dX4_fraction_420 (lv_at hl 10 rfl) ?_
                    refine lv_isub hx hb dX4_fraction_422 ?_
                    refine mw_callV (C := RX4) (As := [.int (-1), .int 0, .int (((pV S (fIx st) 0) + (fHf t)) - t)]) (rest := []) hx hb hml hown hl (kX4_lay l htr G H.size M_67 o A 0 (nI (fSz (fIx st))) S (fMx (bW S (fIx n)) (bW S (fIx d))) ((pV S (fIx st) 2) + (bH S (fIx n))) ((bD S (fIx d)) + ((pV S (fIx st) 5) + (t - (((pV S (fIx st) 0) - (fHf t)) - ((bH S (fIx d)) - (pV S (fIx st) 5)))))) ([(nI (fIx n)), (fHf ((fMx (bW S (fIx n)) (bW S (fIx d))) - (bW S (fIx n)))), (pV S (fIx st) 2), (nI (fIx d)), (fHf ((fMx (bW S (fIx n)) (bW S (fIx d))) - (bW S (fIx d)))), (-((pV S (fIx st) 5) + (t - (((pV S (fIx st) 0) - (fHf t)) - ((bH S (fIx d)) - (pV S (fIx st) 5))))))]) 0 0 (md_R.of (np := np68) hT hB : md_R G o A M_67 0 (nI (fSz (fIx st))) (fs_push S ((fMx (bW S (fIx n)) (bW S (fIx d))), ((pV S (fIx st) 2) + (bH S (fIx n))), ((bD S (fIx d)) + ((pV S (fIx st) 5) + (t - (((pV S (fIx st) 0) - (fHf t)) - ((bH S (fIx d)) - (pV S (fIx st) 5)))))), [(nI (fIx n)), (fHf ((fMx (bW S (fIx n)) (bW S (fIx d))) - (bW S (fIx n)))), (pV S (fIx st) 2), (nI (fIx d)), (fHf ((fMx (bW S (fIx n)) (bW S (fIx d))) - (bW S (fIx d)))), (-((pV S (fIx st) 5) + (t - (((pV S (fIx st) 0) - (fHf t)) - ((bH S (fIx d)) - (pV S (fIx st) 5))))))], 0, 0))) (by simp) (-1) 0 (((pV S (fIx st) 0) + (fHf t)) - t)) (g_B (n := 3) htb wd661 wd3 wd658 (by decide +kernel) ⟨Nat.le_of_ble_eq_true rfl, Nat.le_of_ble_eq_true rfl⟩) (htb _ wd660) (htb _ ws34) hE hP hS hT.1 rfl rfl rfl (Nat.le_of_ble_eq_true rfl) dX4_fraction_423 ⟨Nat.le_of_ble_eq_true rfl, Nat.le_of_ble_eq_true rfl⟩ (fun v9 M9 H locs hpo hP hz hS => ?_) (fun x9 E9 cell9 H9 locs9 hE9 => hE9.elim)
                    obtain ⟨rfl, hRn, hkn⟩ := hpo
                    obtain ⟨M_70, hM_70⟩ : ∃ z9 : mw_M, z9 = M9 := ⟨_, rfl⟩
                    rw [← hM_70] at hP hRn hkn
                    have hk := md_keeps.tr hk hkn
                    have hRn : md_R G o A M_70 0 (nI (fSz (fIx st))) (fs_push S ((fMx (bW S (fIx n)) (bW S (fIx d))), ((pV S (fIx st) 2) + (bH S (fIx n))), ((bD S (fIx d)) + ((pV S (fIx st) 5) + (t - (((pV S (fIx st) 0) - (fHf t)) - ((bH S (fIx d)) - (pV S (fIx st) 5)))))), [(nI (fIx n)), (fHf ((fMx (bW S (fIx n)) (bW S (fIx d))) - (bW S (fIx n)))), (pV S (fIx st) 2), (nI (fIx d)), (fHf ((fMx (bW S (fIx n)) (bW S (fIx d))) - (bW S (fIx d)))), (-((pV S (fIx st) 5) + (t - (((pV S (fIx st) 0) - (fHf t)) - ((bH S (fIx d)) - (pV S (fIx st) 5)))))), (-1), 0, (((pV S (fIx st) 0) + (fHf t)) - t)], 0, 0)) := hRn
                    obtain ⟨np71, bg71, g71, hT, hB⟩ := id hRn
                    rw [sN_push] at hT
                    have hT : md_at G o A M_70 0 (sSp S) (sSh S) (nI (sN S + 1)) (nI np71) (nI (fSz (fIx st))) g71 := hT
                    refine W.eq (g2 := F0 m 426 ls []) rfl ?_
                    refine lv_aload_n hx hb dX4_fraction_426 rfl (lv_at hl 6 rfl) ?_
                    refine mw_get (D := gD G) (ci := 4) (v := .ref (A 6)) (C := RX4) (T := TX4) (N := 21) hx hb htb inX4 hown hK hP hT.1 rfl 10 (by decide) (htb _ wd534) (fun _ h9 => h9) rfl dX4_fraction_427 ?_
                    refine lv_iload hx hb dX4_fraction_430 (lv_at hl 0 rfl) ?_
                    refine lv_iload hx hb dX4_fraction_432 (lv_at hl 1 rfl) ?_
                    refine mw_iast hx hb hK hP hS 0 (show M_70 (A 6) = some (.inl (gI G, 120, .inl (g71 6))) from hT.2.1 6 (by decide)) (hT.2.2.2.2 6 (by decide)) rfl (by exact vp_in_nI (show (sN S) < 120 by have := hle; omega) (by decide)) dX4_fraction_434 (fun H locs hP hS => ?_)
                    rw [nI_clamp (show (sN S) < 2 ^ 31 by have := hle; omega)] at hP
                    obtain ⟨M_72, hM_72⟩ : ∃ z9 : mw_M, z9 = mw_up M_70 (A 6) (.inl (gI G, 120, .inl (upd (g71 6) (sN S) (fMx (bW S (fIx n)) (bW S (fIx d)))))) := ⟨_, rfl⟩
                    have hP : mw_P (gD G) gx_cl M_72 H := by rw [hM_72]; exact hP
                    obtain ⟨g_73, hg_73⟩ : ∃ z9, z9 = ug g71 6 (sN S) (fMx (bW S (fIx n)) (bW S (fIx d))) := ⟨_, rfl⟩
                    have hT : md_at G o A M_72 0 (sSp S) (sSh S) (nI (sN S + 1)) (nI np71) (nI (fSz (fIx st))) g_73 := by rw [hg_73]; exact md_at.put hT (by decide) rfl rfl hM_72
                    have hk : md_keeps o A M M_72 := md_keeps.arr (j := 6) hk (by decide) hM_72
                    have hB : md_ab np71 bg71 g_73 (fs_push S ((fMx (bW S (fIx n)) (bW S (fIx d))), ((pV S (fIx st) 2) + (bH S (fIx n))), ((bD S (fIx d)) + ((pV S (fIx st) 5) + (t - (((pV S (fIx st) 0) - (fHf t)) - ((bH S (fIx d)) - (pV S (fIx st) 5)))))), [(nI (fIx n)), (fHf ((fMx (bW S (fIx n)) (bW S (fIx d))) - (bW S (fIx n)))), (pV S (fIx st) 2), (nI (fIx d)), (fHf ((fMx (bW S (fIx n)) (bW S (fIx d))) - (bW S (fIx d)))), (-((pV S (fIx st) 5) + (t - (((pV S (fIx st) 0) - (fHf t)) - ((bH S (fIx d)) - (pV S (fIx st) 5)))))), (-1), 0, (((pV S (fIx st) 0) + (fHf t)) - t)], (fMx (bW S (fIx n)) (bW S (fIx d))), 0)) := by rw [hg_73]; exact md_ab.set6 hB _
                    refine lv_aload_n hx hb dX4_fraction_435 rfl (lv_at hl 6 rfl) ?_
                    refine mw_get (D := gD G) (ci := 4) (v := .ref (A 7)) (C := RX4) (T := TX4) (N := 21) hx hb htb inX4 hown hK hP hT.1 rfl 11 (by decide) (htb _ wd535) (fun _ h9 => h9) rfl dX4_fraction_436 ?_
                    refine lv_iload hx hb dX4_fraction_439 (lv_at hl 0 rfl) ?_
                    refine lv_iload hx hb dX4_fraction_441 (lv_at hl 10 rfl) ?_
                    refine mw_iast hx hb hK hP hS 0 (show M_72 (A 7) = some (.inl (gI G, 120, .inl (g_73 7))) from hT.2.1 7 (by decide)) (hT.2.2.2.2 7 (by decide)) rfl (by exact vp_in_nI (show (sN S) < 120 by have := hle; omega) (by decide)) dX4_fraction_443 (fun H locs hP hS => ?_)
                    rw [nI_clamp (show (sN S) < 2 ^ 31 by have := hle; omega)] at hP
                    obtain ⟨M_74, hM_74⟩ : ∃ z9 : mw_M, z9 = mw_up M_72 (A 7) (.inl (gI G, 120, .inl (upd (g_73 7) (sN S) t))) := ⟨_, rfl⟩
                    have hP : mw_P (gD G) gx_cl M_74 H := by rw [hM_74]; exact hP
                    obtain ⟨g_75, hg_75⟩ : ∃ z9, z9 = ug g_73 7 (sN S) t := ⟨_, rfl⟩
                    have hT : md_at G o A M_74 0 (sSp S) (sSh S) (nI (sN S + 1)) (nI np71) (nI (fSz (fIx st))) g_75 := by rw [hg_75]; exact md_at.put hT (by decide) rfl rfl hM_74
                    have hk : md_keeps o A M M_74 := md_keeps.arr (j := 7) hk (by decide) hM_74
                    have hB : md_ab np71 bg71 g_75 (fs_push S ((fMx (bW S (fIx n)) (bW S (fIx d))), ((pV S (fIx st) 2) + (bH S (fIx n))), ((bD S (fIx d)) + ((pV S (fIx st) 5) + (t - (((pV S (fIx st) 0) - (fHf t)) - ((bH S (fIx d)) - (pV S (fIx st) 5)))))), [(nI (fIx n)), (fHf ((fMx (bW S (fIx n)) (bW S (fIx d))) - (bW S (fIx n)))), (pV S (fIx st) 2), (nI (fIx d)), (fHf ((fMx (bW S (fIx n)) (bW S (fIx d))) - (bW S (fIx d)))), (-((pV S (fIx st) 5) + (t - (((pV S (fIx st) 0) - (fHf t)) - ((bH S (fIx d)) - (pV S (fIx st) 5)))))), (-1), 0, (((pV S (fIx st) 0) + (fHf t)) - t)], (fMx (bW S (fIx n)) (bW S (fIx d))), t)) := by rw [hg_75]; exact md_ab.set7 hB _
                    refine lv_iload hx hb dX4_fraction_444 (lv_at hl 0 rfl) ?_
                    have hex : ex_fraction S st n d t = 0 := by rw [ex_fraction, if_neg (fun z9 => z9 ⟨kb_5, kb_7⟩), if_neg (fun z9 => z9 ⟨kb_12, kb_14⟩), if_neg (fun z9 => z9 kb_16)]
                    have hre : re_fraction S st n d t = ((fMx (bW S (fIx n)) (bW S (fIx d))), ((pV S (fIx st) 2) + (bH S (fIx n))), ((bD S (fIx d)) + ((pV S (fIx st) 5) + (t - (((pV S (fIx st) 0) - (fHf t)) - ((bH S (fIx d)) - (pV S (fIx st) 5)))))), [(nI (fIx n)), (fHf ((fMx (bW S (fIx n)) (bW S (fIx d))) - (bW S (fIx n)))), (pV S (fIx st) 2), (nI (fIx d)), (fHf ((fMx (bW S (fIx n)) (bW S (fIx d))) - (bW S (fIx d)))), (-((pV S (fIx st) 5) + (t - (((pV S (fIx st) 0) - (fHf t)) - ((bH S (fIx d)) - (pV S (fIx st) 5)))))), (-1), 0, (((pV S (fIx st) 0) + (fHf t)) - t)], (fMx (bW S (fIx n)) (bW S (fIx d))), t) := by simp only [re_fraction, fs_fb, fs_fb1, fs_fb2, fs_fb3, fs_fl, fs_fl1, fs_fl3, if_neg c_15, if_neg c_21, if_neg c_22, if_pos c_48, if_neg c_49, fMx0p c_48, fMx0n c_49, Int32.add_zero]
                    exact mx_iret (v := (nI (sN S))) (M' := M_74) hx hb hr hlocks hP hS ⟨by rw [hex]; rfl, ⟨_, by rw [hex, if_pos rfl, hre]; exact (md_R.of (np := np71) hT hB : md_R G o A M_74 0 (nI (fSz (fIx st))) (fs_push S ((fMx (bW S (fIx n)) (bW S (fIx d))), ((pV S (fIx st) 2) + (bH S (fIx n))), ((bD S (fIx d)) + ((pV S (fIx st) 5) + (t - (((pV S (fIx st) 0) - (fHf t)) - ((bH S (fIx d)) - (pV S (fIx st) 5)))))), [(nI (fIx n)), (fHf ((fMx (bW S (fIx n)) (bW S (fIx d))) - (bW S (fIx n)))), (pV S (fIx st) 2), (nI (fIx d)), (fHf ((fMx (bW S (fIx n)) (bW S (fIx d))) - (bW S (fIx d)))), (-((pV S (fIx st) 5) + (t - (((pV S (fIx st) 0) - (fHf t)) - ((bH S (fIx d)) - (pV S (fIx st) 5)))))), (-1), 0, (((pV S (fIx st) 0) + (fHf t)) - t)], (fMx (bW S (fIx n)) (bW S (fIx d))), t)))⟩, hk⟩ dX4_fraction_446 (Nat.le_of_ble_eq_true rfl) (Nat.le_of_ble_eq_true rfl)
                · refine lv_iload hx hb dX4_fraction_293 (lv_at hl 5 rfl) ?_
                  refine lv_iload hx hb dX4_fraction_295 (lv_at hl 1 rfl) ?_
                  refine lv_iadd hx hb dX4_fraction_297 ?_
                  refine lv_goto (tgt := 303) hx hb dX4_fraction_298 (by decide) ?_
                  refine lv_istore (lv' := [(5, .int ((pV S (fIx st) 2) + (t - (((pV S (fIx st) 2) - (bD S (fIx n))) - ((pV S (fIx st) 0) + (fHf t)))))), (10, .int (t - (((pV S (fIx st) 0) - (fHf t)) - ((bH S (fIx d)) - (pV S (fIx st) 5))))), (9, .int (t - (((pV S (fIx st) 2) - (bD S (fIx n))) - ((pV S (fIx st) 0) + (fHf t))))), (8, .int t), (7, .int (fHf t)), (6, .int (pV S (fIx st) 5)), (0, .ref o), (1, .int (nI (fIx st))), (2, .int (nI (fIx n))), (3, .int (nI (fIx d))), (4, .int t)]) hx hb dX4_fraction_303 hl (by decide) rfl (fun ls hl => ?_)
                  refine lv_iload hx hb dX4_fraction_305 (lv_at hl 1 rfl) ?_
                  refine lv_if_le (tgt := 318) hx hb dX4_fraction_307 (by decide) (fun c_76 => ?_) (fun c_76 => ?_)
                  · refine lv_iload hx hb dX4_fraction_318 (lv_at hl 5 rfl) ?_
                    refine lv_istore (lv' := [(6, .int (pV S (fIx st) 5)), (5, .int ((pV S (fIx st) 2) + (t - (((pV S (fIx st) 2) - (bD S (fIx n))) - ((pV S (fIx st) 0) + (fHf t)))))), (10, .int (t - (((pV S (fIx st) 0) - (fHf t)) - ((bH S (fIx d)) - (pV S (fIx st) 5))))), (9, .int (t - (((pV S (fIx st) 2) - (bD S (fIx n))) - ((pV S (fIx st) 0) + (fHf t))))), (8, .int t), (7, .int (fHf t)), (0, .ref o), (1, .int (nI (fIx st))), (2, .int (nI (fIx n))), (3, .int (nI (fIx d))), (4, .int t)]) hx hb dX4_fraction_320 hl (by decide) rfl (fun ls hl => ?_)
                    refine lv_aload_n hx hb dX4_fraction_322 rfl (lv_at hl 6 rfl) ?_
                    refine mw_get (D := gD G) (ci := 4) (v := .ref (A 1)) (C := RX4) (T := TX4) (N := 21) hx hb htb inX4 hown hK hP hT.1 rfl 5 (by decide) (htb _ wd529) (fun _ h9 => h9) rfl dX4_fraction_323 ?_
                    refine lv_iload_n hx hb dX4_fraction_326 rfl (lv_at hl 8 rfl) ?_
                    refine mw_iald hx hb hK hP 0 (show M_19 (A 1) = some (.inl (gI G, 120, .inl (g20 1))) from hT.2.1 1 (by decide)) rfl (by exact vp_in_nI (show (fIx n) < 120 by have := hle; omega) (by decide)) dX4_fraction_327 ?_
                    refine W.eq (g2 := F0 m 328 ls [.int (bW S (fIx n))]) (by rw [nI_clamp (show (fIx n) < 2 ^ 31 by have := hle; omega), hB.W h_n]) ?_
                    refine lv_aload_n hx hb dX4_fraction_328 rfl (lv_at hl 6 rfl) ?_
                    refine mw_get (D := gD G) (ci := 4) (v := .ref (A 1)) (C := RX4) (T := TX4) (N := 21) hx hb htb inX4 hown hK hP hT.1 rfl 5 (by decide) (htb _ wd529) (fun _ h9 => h9) rfl dX4_fraction_329 ?_
                    refine lv_iload_n hx hb dX4_fraction_332 rfl (lv_at hl 9 rfl) ?_
                    refine mw_iald hx hb hK hP 0 (show M_19 (A 1) = some (.inl (gI G, 120, .inl (g20 1))) from hT.2.1 1 (by decide)) rfl (by exact vp_in_nI (show (fIx d) < 120 by have := hle; omega) (by decide)) dX4_fraction_333 ?_
                    refine W.eq (g2 := F0 m 334 ls [.int (bW S (fIx d)), .int (bW S (fIx n))]) (by rw [nI_clamp (show (fIx d) < 2 ^ 31 by have := hle; omega), hB.W h_d]) ?_
                    refine mw_callS (As := [.int (bW S (fIx n)), .int (bW S (fIx d))]) (rest := []) hx hb hml hown hl (kX4_greater l htr G H.size M_19 (bW S (fIx n)) (bW S (fIx d))) (g_B (n := 2) htb wd664 wd3 wd662 (by decide +kernel) ⟨Nat.le_of_ble_eq_true rfl, Nat.le_of_ble_eq_true rfl⟩) (htb _ wd663) hE hP hS rfl rfl (Nat.le_of_ble_eq_true rfl) dX4_fraction_334 ⟨Nat.le_of_ble_eq_true rfl, Nat.le_of_ble_eq_true rfl⟩ (fun v9 M9 H locs hpo hP hz hS => ?_) (fun x9 E9 cell9 H9 locs9 hE9 => hE9.elim)
                    obtain ⟨rfl, rfl⟩ := hpo
                    refine W.eq (g2 := F0 m 337 ls [.int (fMx (bW S (fIx n)) (bW S (fIx d)))]) rfl ?_
                    refine lv_istore (lv' := [(8, .int (fMx (bW S (fIx n)) (bW S (fIx d)))), (6, .int (pV S (fIx st) 5)), (5, .int ((pV S (fIx st) 2) + (t - (((pV S (fIx st) 2) - (bD S (fIx n))) - ((pV S (fIx st) 0) + (fHf t)))))), (10, .int (t - (((pV S (fIx st) 0) - (fHf t)) - ((bH S (fIx d)) - (pV S (fIx st) 5))))), (9, .int (t - (((pV S (fIx st) 2) - (bD S (fIx n))) - ((pV S (fIx st) 0) + (fHf t))))), (7, .int (fHf t)), (0, .ref o), (1, .int (nI (fIx st))), (2, .int (nI (fIx n))), (3, .int (nI (fIx d))), (4, .int t)]) hx hb dX4_fraction_337 hl (by decide) rfl (fun ls hl => ?_)
                    refine lv_aload_n hx hb dX4_fraction_339 rfl (lv_at hl 6 rfl) ?_
                    refine lv_iload hx hb dX4_fraction_340 (lv_at hl 0 rfl) ?_
                    refine lv_iload hx hb dX4_fraction_342 (lv_at hl 2 rfl) ?_
                    refine lv_aload_n hx hb dX4_fraction_344 rfl (lv_at hl 6 rfl) ?_
                    refine mw_get (D := gD G) (ci := 4) (v := .ref (A 2)) (C := RX4) (T := TX4) (N := 21) hx hb htb inX4 hown hK hP hT.1 rfl 6 (by decide) (htb _ wd530) (fun _ h9 => h9) rfl dX4_fraction_345 ?_
                    refine lv_iload_n hx hb dX4_fraction_348 rfl (lv_at hl 8 rfl) ?_
                    refine mw_iald hx hb hK hP 0 (show M_19 (A 2) = some (.inl (gI G, 120, .inl (g20 2))) from hT.2.1 2 (by decide)) rfl (by exact vp_in_nI (show (fIx n) < 120 by have := hle; omega) (by decide)) dX4_fraction_349 ?_
                    refine W.eq (g2 := F0 m 350 ls [.int (bH S (fIx n)), .int ((pV S (fIx st) 2) + (t - (((pV S (fIx st) 2) - (bD S (fIx n))) - ((pV S (fIx st) 0) + (fHf t))))), .int (fMx (bW S (fIx n)) (bW S (fIx d))), .ref o]) (by rw [nI_clamp (show (fIx n) < 2 ^ 31 by have := hle; omega), hB.H h_n]) ?_
                    refine lv_iadd hx hb dX4_fraction_350 ?_
                    refine lv_aload_n hx hb dX4_fraction_351 rfl (lv_at hl 6 rfl) ?_
                    refine mw_get (D := gD G) (ci := 4) (v := .ref (A 3)) (C := RX4) (T := TX4) (N := 21) hx hb htb inX4 hown hK hP hT.1 rfl 7 (by decide) (htb _ wd531) (fun _ h9 => h9) rfl dX4_fraction_352 ?_
                    refine lv_iload_n hx hb dX4_fraction_355 rfl (lv_at hl 9 rfl) ?_
                    refine mw_iald hx hb hK hP 0 (show M_19 (A 3) = some (.inl (gI G, 120, .inl (g20 3))) from hT.2.1 3 (by decide)) rfl (by exact vp_in_nI (show (fIx d) < 120 by have := hle; omega) (by decide)) dX4_fraction_356 ?_
                    refine W.eq (g2 := F0 m 357 ls [.int (bD S (fIx d)), .int (((pV S (fIx st) 2) + (t - (((pV S (fIx st) 2) - (bD S (fIx n))) - ((pV S (fIx st) 0) + (fHf t))))) + (bH S (fIx n))), .int (fMx (bW S (fIx n)) (bW S (fIx d))), .ref o]) (by rw [nI_clamp (show (fIx d) < 2 ^ 31 by have := hle; omega), hB.D h_d]) ?_
                    refine lv_iload hx hb dX4_fraction_357 (lv_at hl 1 rfl) ?_
                    refine lv_iadd hx hb dX4_fraction_359 ?_
                    refine mw_callV (C := RX4) (As := [.int (fMx (bW S (fIx n)) (bW S (fIx d))), .int (((pV S (fIx st) 2) + (t - (((pV S (fIx st) 2) - (bD S (fIx n))) - ((pV S (fIx st) 0) + (fHf t))))) + (bH S (fIx n))), .int ((bD S (fIx d)) + (pV S (fIx st) 5))]) (rest := []) hx hb hml hown hl (kX4_make l htr G H.size M_19 o A 0 (nI (fSz (fIx st))) S (⟨np20, bg20, g20, hT, hB⟩ : md_R G o A M_19 0 (nI (fSz (fIx st))) S) (rmk_lt kb_16 hle) (fMx (bW S (fIx n)) (bW S (fIx d))) (((pV S (fIx st) 2) + (t - (((pV S (fIx st) 2) - (bD S (fIx n))) - ((pV S (fIx st) 0) + (fHf t))))) + (bH S (fIx n))) ((bD S (fIx d)) + (pV S (fIx st) 5))) (g_B (n := 3) htb wd613 wd3 wd610 (by decide +kernel) ⟨Nat.le_of_ble_eq_true rfl, Nat.le_of_ble_eq_true rfl⟩) (htb _ wd612) (htb _ ws26) hE hP hS hT.1 rfl rfl rfl (Nat.le_of_ble_eq_true rfl) dX4_fraction_360 ⟨Nat.le_of_ble_eq_true rfl, Nat.le_of_ble_eq_true rfl⟩ (fun v9 M9 H locs hpo hP hz hS => ?_) (fun x9 E9 cell9 H9 locs9 hE9 => hE9.elim)
                    have hle0 := hle
                    obtain ⟨rfl, hRn, hkn⟩ := hpo
                    obtain ⟨M_77, hM_77⟩ : ∃ z9 : mw_M, z9 = M9 := ⟨_, rfl⟩
                    rw [← hM_77] at hP hRn hkn
                    have hk := md_keeps.tr hk hkn
                    have hRn : md_R G o A M_77 0 (nI (fSz (fIx st))) (fs_push S ((fMx (bW S (fIx n)) (bW S (fIx d))), (((pV S (fIx st) 2) + (t - (((pV S (fIx st) 2) - (bD S (fIx n))) - ((pV S (fIx st) 0) + (fHf t))))) + (bH S (fIx n))), ((bD S (fIx d)) + (pV S (fIx st) 5)), [], 0, 0)) := hRn
                    obtain ⟨np78, bg78, g78, hT, hB⟩ := id hRn
                    rw [sN_push] at hT
                    have hT : md_at G o A M_77 0 (sSp S) (sSh S) (nI (sN S + 1)) (nI np78) (nI (fSz (fIx st))) g78 := hT
                    have hle : sN S + 1 ≤ 120 := by have := hB.1; rw [sN_push] at this; exact this
                    refine W.eq (g2 := F0 m 363 ls [.int (nI (sN S))]) rfl ?_
                    refine lv_istore (lv' := [(9, .int (nI (sN S))), (8, .int (fMx (bW S (fIx n)) (bW S (fIx d)))), (6, .int (pV S (fIx st) 5)), (5, .int ((pV S (fIx st) 2) + (t - (((pV S (fIx st) 2) - (bD S (fIx n))) - ((pV S (fIx st) 0) + (fHf t)))))), (10, .int (t - (((pV S (fIx st) 0) - (fHf t)) - ((bH S (fIx d)) - (pV S (fIx st) 5))))), (7, .int (fHf t)), (0, .ref o), (1, .int (nI (fIx st))), (2, .int (nI (fIx n))), (3, .int (nI (fIx d))), (4, .int t)]) hx hb dX4_fraction_363 hl (by decide) rfl (fun ls hl => ?_)
                    refine lv_aload_n hx hb dX4_fraction_365 rfl (lv_at hl 6 rfl) ?_
                    refine lv_iload_n hx hb dX4_fraction_366 rfl (lv_at hl 8 rfl) ?_
                    refine lv_iload hx hb dX4_fraction_367 (lv_at hl 1 rfl) ?_
                    refine lv_aload_n hx hb dX4_fraction_369 rfl (lv_at hl 6 rfl) ?_
                    refine mw_get (D := gD G) (ci := 4) (v := .ref (A 1)) (C := RX4) (T := TX4) (N := 21) hx hb htb inX4 hown hK hP hT.1 rfl 5 (by decide) (htb _ wd529) (fun _ h9 => h9) rfl dX4_fraction_370 ?_
                    refine lv_iload_n hx hb dX4_fraction_373 rfl (lv_at hl 8 rfl) ?_
                    refine mw_iald hx hb hK hP 0 (show M_77 (A 1) = some (.inl (gI G, 120, .inl (g78 1))) from hT.2.1 1 (by decide)) rfl (by exact vp_in_nI (show (fIx n) < 120 by have := hle; omega) (by decide)) dX4_fraction_374 ?_
                    refine W.eq (g2 := F0 m 375 ls [.int (bW S (fIx n)), .int (fMx (bW S (fIx n)) (bW S (fIx d))), .int (nI (fIx n)), .ref o]) (by rw [nI_clamp (show (fIx n) < 2 ^ 31 by have := hle; omega), hB.W (show (fIx n) < sN (fs_push S ((fMx (bW S (fIx n)) (bW S (fIx d))), (((pV S (fIx st) 2) + (t - (((pV S (fIx st) 2) - (bD S (fIx n))) - ((pV S (fIx st) 0) + (fHf t))))) + (bH S (fIx n))), ((bD S (fIx d)) + (pV S (fIx st) 5)), [], 0, 0)) by rw [sN_push]; omega), bW_push _ h_n]) ?_
                    refine lv_isub hx hb dX4_fraction_375 ?_
                    refine mw_callS (As := [.int ((fMx (bW S (fIx n)) (bW S (fIx d))) - (bW S (fIx n)))]) (rest := [.int (nI (fIx n)), .ref o]) hx hb hml hown hl (kX4_half l htr G H.size M_77 ((fMx (bW S (fIx n)) (bW S (fIx d))) - (bW S (fIx n)))) (g_B (n := 1) htb wd682 wd3 wd680 (by decide +kernel) ⟨Nat.le_of_ble_eq_true rfl, Nat.le_of_ble_eq_true rfl⟩) (htb _ wd681) hE hP hS rfl rfl (Nat.le_of_ble_eq_true rfl) dX4_fraction_376 ⟨Nat.le_of_ble_eq_true rfl, Nat.le_of_ble_eq_true rfl⟩ (fun v9 M9 H locs hpo hP hz hS => ?_) (fun x9 E9 cell9 H9 locs9 hE9 => hE9.elim)
                    obtain ⟨rfl, rfl⟩ := hpo
                    refine W.eq (g2 := F0 m 379 ls [.int (fHf ((fMx (bW S (fIx n)) (bW S (fIx d))) - (bW S (fIx n)))), .int (nI (fIx n)), .ref o]) rfl ?_
                    refine lv_iload hx hb dX4_fraction_379 (lv_at hl 3 rfl) ?_
                    refine mw_callV (C := RX4) (As := [.int (nI (fIx n)), .int (fHf ((fMx (bW S (fIx n)) (bW S (fIx d))) - (bW S (fIx n)))), .int ((pV S (fIx st) 2) + (t - (((pV S (fIx st) 2) - (bD S (fIx n))) - ((pV S (fIx st) 0) + (fHf t)))))]) (rest := []) hx hb hml hown hl (kX4_lay l htr G H.size M_77 o A 0 (nI (fSz (fIx st))) S (fMx (bW S (fIx n)) (bW S (fIx d))) (((pV S (fIx st) 2) + (t - (((pV S (fIx st) 2) - (bD S (fIx n))) - ((pV S (fIx st) 0) + (fHf t))))) + (bH S (fIx n))) ((bD S (fIx d)) + (pV S (fIx st) 5)) ([]) 0 0 (md_R.of (np := np78) hT hB : md_R G o A M_77 0 (nI (fSz (fIx st))) (fs_push S ((fMx (bW S (fIx n)) (bW S (fIx d))), (((pV S (fIx st) 2) + (t - (((pV S (fIx st) 2) - (bD S (fIx n))) - ((pV S (fIx st) 0) + (fHf t))))) + (bH S (fIx n))), ((bD S (fIx d)) + (pV S (fIx st) 5)), [], 0, 0))) (by simp) (nI (fIx n)) (fHf ((fMx (bW S (fIx n)) (bW S (fIx d))) - (bW S (fIx n)))) ((pV S (fIx st) 2) + (t - (((pV S (fIx st) 2) - (bD S (fIx n))) - ((pV S (fIx st) 0) + (fHf t)))))) (g_B (n := 3) htb wd661 wd3 wd658 (by decide +kernel) ⟨Nat.le_of_ble_eq_true rfl, Nat.le_of_ble_eq_true rfl⟩) (htb _ wd660) (htb _ ws34) hE hP hS hT.1 rfl rfl rfl (Nat.le_of_ble_eq_true rfl) dX4_fraction_381 ⟨Nat.le_of_ble_eq_true rfl, Nat.le_of_ble_eq_true rfl⟩ (fun v9 M9 H locs hpo hP hz hS => ?_) (fun x9 E9 cell9 H9 locs9 hE9 => hE9.elim)
                    obtain ⟨rfl, hRn, hkn⟩ := hpo
                    obtain ⟨M_79, hM_79⟩ : ∃ z9 : mw_M, z9 = M9 := ⟨_, rfl⟩
                    rw [← hM_79] at hP hRn hkn
                    have hk := md_keeps.tr hk hkn
                    have hRn : md_R G o A M_79 0 (nI (fSz (fIx st))) (fs_push S ((fMx (bW S (fIx n)) (bW S (fIx d))), (((pV S (fIx st) 2) + (t - (((pV S (fIx st) 2) - (bD S (fIx n))) - ((pV S (fIx st) 0) + (fHf t))))) + (bH S (fIx n))), ((bD S (fIx d)) + (pV S (fIx st) 5)), [(nI (fIx n)), (fHf ((fMx (bW S (fIx n)) (bW S (fIx d))) - (bW S (fIx n)))), ((pV S (fIx st) 2) + (t - (((pV S (fIx st) 2) - (bD S (fIx n))) - ((pV S (fIx st) 0) + (fHf t)))))], 0, 0)) := hRn
                    obtain ⟨np80, bg80, g80, hT, hB⟩ := id hRn
                    rw [sN_push] at hT
                    have hT : md_at G o A M_79 0 (sSp S) (sSh S) (nI (sN S + 1)) (nI np80) (nI (fSz (fIx st))) g80 := hT
                    refine W.eq (g2 := F0 m 384 ls []) rfl ?_
                    refine lv_aload_n hx hb dX4_fraction_384 rfl (lv_at hl 6 rfl) ?_
                    refine lv_iload_n hx hb dX4_fraction_385 rfl (lv_at hl 9 rfl) ?_
                    refine lv_iload hx hb dX4_fraction_386 (lv_at hl 1 rfl) ?_
                    refine lv_aload_n hx hb dX4_fraction_388 rfl (lv_at hl 6 rfl) ?_
                    refine mw_get (D := gD G) (ci := 4) (v := .ref (A 1)) (C := RX4) (T := TX4) (N := 21) hx hb htb inX4 hown hK hP hT.1 rfl 5 (by decide) (htb _ wd529) (fun _ h9 => h9) rfl dX4_fraction_389 ?_
                    refine lv_iload_n hx hb dX4_fraction_392 rfl (lv_at hl 9 rfl) ?_
                    refine mw_iald hx hb hK hP 0 (show M_79 (A 1) = some (.inl (gI G, 120, .inl (g80 1))) from hT.2.1 1 (by decide)) rfl (by exact vp_in_nI (show (fIx d) < 120 by have := hle; omega) (by decide)) dX4_fraction_393 ?_
                    refine W.eq (g2 := F0 m 394 ls [.int (bW S (fIx d)), .int (fMx (bW S (fIx n)) (bW S (fIx d))), .int (nI (fIx d)), .ref o]) (by rw [nI_clamp (show (fIx d) < 2 ^ 31 by have := hle; omega), hB.W (show (fIx d) < sN (fs_push S ((fMx (bW S (fIx n)) (bW S (fIx d))), (((pV S (fIx st) 2) + (t - (((pV S (fIx st) 2) - (bD S (fIx n))) - ((pV S (fIx st) 0) + (fHf t))))) + (bH S (fIx n))), ((bD S (fIx d)) + (pV S (fIx st) 5)), [(nI (fIx n)), (fHf ((fMx (bW S (fIx n)) (bW S (fIx d))) - (bW S (fIx n)))), ((pV S (fIx st) 2) + (t - (((pV S (fIx st) 2) - (bD S (fIx n))) - ((pV S (fIx st) 0) + (fHf t)))))], 0, 0)) by rw [sN_push]; omega), bW_push _ h_d]) ?_
                    refine lv_isub hx hb dX4_fraction_394 ?_
                    refine mw_callS (As := [.int ((fMx (bW S (fIx n)) (bW S (fIx d))) - (bW S (fIx d)))]) (rest := [.int (nI (fIx d)), .ref o]) hx hb hml hown hl (kX4_half l htr G H.size M_79 ((fMx (bW S (fIx n)) (bW S (fIx d))) - (bW S (fIx d)))) (g_B (n := 1) htb wd682 wd3 wd680 (by decide +kernel) ⟨Nat.le_of_ble_eq_true rfl, Nat.le_of_ble_eq_true rfl⟩) (htb _ wd681) hE hP hS rfl rfl (Nat.le_of_ble_eq_true rfl) dX4_fraction_395 ⟨Nat.le_of_ble_eq_true rfl, Nat.le_of_ble_eq_true rfl⟩ (fun v9 M9 H locs hpo hP hz hS => ?_) (fun x9 E9 cell9 H9 locs9 hE9 => hE9.elim)
                    obtain ⟨rfl, rfl⟩ := hpo
                    refine W.eq (g2 := F0 m 398 ls [.int (fHf ((fMx (bW S (fIx n)) (bW S (fIx d))) - (bW S (fIx d)))), .int (nI (fIx d)), .ref o]) rfl ?_
                    refine lv_iload hx hb dX4_fraction_398 (lv_at hl 2 rfl) ?_
                    refine lv_ineg hx hb dX4_fraction_400 ?_
                    refine mw_callV (C := RX4) (As := [.int (nI (fIx d)), .int (fHf ((fMx (bW S (fIx n)) (bW S (fIx d))) - (bW S (fIx d)))), .int (-(pV S (fIx st) 5))]) (rest := []) hx hb hml hown hl (kX4_lay l htr G H.size M_79 o A 0 (nI (fSz (fIx st))) S (fMx (bW S (fIx n)) (bW S (fIx d))) (((pV S (fIx st) 2) + (t - (((pV S (fIx st) 2) - (bD S (fIx n))) - ((pV S (fIx st) 0) + (fHf t))))) + (bH S (fIx n))) ((bD S (fIx d)) + (pV S (fIx st) 5)) ([(nI (fIx n)), (fHf ((fMx (bW S (fIx n)) (bW S (fIx d))) - (bW S (fIx n)))), ((pV S (fIx st) 2) + (t - (((pV S (fIx st) 2) - (bD S (fIx n))) - ((pV S (fIx st) 0) + (fHf t)))))]) 0 0 (md_R.of (np := np80) hT hB : md_R G o A M_79 0 (nI (fSz (fIx st))) (fs_push S ((fMx (bW S (fIx n)) (bW S (fIx d))), (((pV S (fIx st) 2) + (t - (((pV S (fIx st) 2) - (bD S (fIx n))) - ((pV S (fIx st) 0) + (fHf t))))) + (bH S (fIx n))), ((bD S (fIx d)) + (pV S (fIx st) 5)), [(nI (fIx n)), (fHf ((fMx (bW S (fIx n)) (bW S (fIx d))) - (bW S (fIx n)))), ((pV S (fIx st) 2) + (t - (((pV S (fIx st) 2) - (bD S (fIx n))) - ((pV S (fIx st) 0) + (fHf t)))))], 0, 0))) (by simp) (nI (fIx d)) (fHf ((fMx (bW S (fIx n)) (bW S (fIx d))) - (bW S (fIx d)))) (-(pV S (fIx st) 5))) (g_B (n := 3) htb wd661 wd3 wd658 (by decide +kernel) ⟨Nat.le_of_ble_eq_true rfl, Nat.le_of_ble_eq_true rfl⟩) (htb _ wd660) (htb _ ws34) hE hP hS hT.1 rfl rfl rfl (Nat.le_of_ble_eq_true rfl) dX4_fraction_401 ⟨Nat.le_of_ble_eq_true rfl, Nat.le_of_ble_eq_true rfl⟩ (fun v9 M9 H locs hpo hP hz hS => ?_) (fun x9 E9 cell9 H9 locs9 hE9 => hE9.elim)
                    obtain ⟨rfl, hRn, hkn⟩ := hpo
                    obtain ⟨M_81, hM_81⟩ : ∃ z9 : mw_M, z9 = M9 := ⟨_, rfl⟩
                    rw [← hM_81] at hP hRn hkn
                    have hk := md_keeps.tr hk hkn
                    have hRn : md_R G o A M_81 0 (nI (fSz (fIx st))) (fs_push S ((fMx (bW S (fIx n)) (bW S (fIx d))), (((pV S (fIx st) 2) + (t - (((pV S (fIx st) 2) - (bD S (fIx n))) - ((pV S (fIx st) 0) + (fHf t))))) + (bH S (fIx n))), ((bD S (fIx d)) + (pV S (fIx st) 5)), [(nI (fIx n)), (fHf ((fMx (bW S (fIx n)) (bW S (fIx d))) - (bW S (fIx n)))), ((pV S (fIx st) 2) + (t - (((pV S (fIx st) 2) - (bD S (fIx n))) - ((pV S (fIx st) 0) + (fHf t))))), (nI (fIx d)), (fHf ((fMx (bW S (fIx n)) (bW S (fIx d))) - (bW S (fIx d)))), (-(pV S (fIx st) 5))], 0, 0)) := hRn
                    obtain ⟨np82, bg82, g82, hT, hB⟩ := id hRn
                    rw [sN_push] at hT
                    have hT : md_at G o A M_81 0 (sSp S) (sSh S) (nI (sN S + 1)) (nI np82) (nI (fSz (fIx st))) g82 := hT
                    refine W.eq (g2 := F0 m 404 ls []) rfl ?_
                    refine lv_iload hx hb dX4_fraction_404 (lv_at hl 10 rfl) ?_
                    refine lv_if_le (tgt := 444) hx hb dX4_fraction_406 (by decide) (fun c_83 => absurd c_83 c_22) (fun c_83 => ?_)
                    refine lv_aload_n hx hb dX4_fraction_409 rfl (lv_at hl 6 rfl) ?_
                    refine lv_iconst (v := (-1)) hx hb dX4_fraction_410 (by decide) ?_
                    refine lv_iconst (v := 0) hx hb dX4_fraction_411 (by decide) ?_
                    refine lv_aload_n hx hb dX4_fraction_412 rfl (lv_at hl 6 rfl) ?_
                    refine lv_iconst (v := 0) hx hb dX4_fraction_413 (by decide) ?_
                    refine mw_callV (C := RX4) (As := [.int 0]) (rest := [.int 0, .int (-1), .ref o]) hx hb hml hown hl (kX4_p l htr G H.size M_81 o A 0 (fs_push S ((fMx (bW S (fIx n)) (bW S (fIx d))), (((pV S (fIx st) 2) + (t - (((pV S (fIx st) 2) - (bD S (fIx n))) - ((pV S (fIx st) 0) + (fHf t))))) + (bH S (fIx n))), ((bD S (fIx d)) + (pV S (fIx st) 5)), [(nI (fIx n)), (fHf ((fMx (bW S (fIx n)) (bW S (fIx d))) - (bW S (fIx n)))), ((pV S (fIx st) 2) + (t - (((pV S (fIx st) 2) - (bD S (fIx n))) - ((pV S (fIx st) 0) + (fHf t))))), (nI (fIx d)), (fHf ((fMx (bW S (fIx n)) (bW S (fIx d))) - (bW S (fIx d)))), (-(pV S (fIx st) 5))], 0, 0)) (fIx st) 0 h_st (by decide) (md_R.of (np := np82) hT hB : md_R G o A M_81 0 (nI (fSz (fIx st))) (fs_push S ((fMx (bW S (fIx n)) (bW S (fIx d))), (((pV S (fIx st) 2) + (t - (((pV S (fIx st) 2) - (bD S (fIx n))) - ((pV S (fIx st) 0) + (fHf t))))) + (bH S (fIx n))), ((bD S (fIx d)) + (pV S (fIx st) 5)), [(nI (fIx n)), (fHf ((fMx (bW S (fIx n)) (bW S (fIx d))) - (bW S (fIx n)))), ((pV S (fIx st) 2) + (t - (((pV S (fIx st) 2) - (bD S (fIx n))) - ((pV S (fIx st) 0) + (fHf t))))), (nI (fIx d)), (fHf ((fMx (bW S (fIx n)) (bW S (fIx d))) - (bW S (fIx d)))), (-(pV S (fIx st) 5))], 0, 0)))) (g_B (n := 1) htb wd679 wd3 wd676 (by decide +kernel) ⟨Nat.le_of_ble_eq_true rfl, Nat.le_of_ble_eq_true rfl⟩) (htb _ wd678) (htb _ ws36) hE hP hS hT.1 rfl rfl rfl (Nat.le_of_ble_eq_true rfl) dX4_fraction_414 ⟨Nat.le_of_ble_eq_true rfl, Nat.le_of_ble_eq_true rfl⟩ (fun v9 M9 H locs hpo hP hz hS => ?_) (fun x9 E9 cell9 H9 locs9 hE9 => hE9.elim)
                    obtain ⟨rfl, rfl⟩ := hpo
                    refine W.eq (g2 := F0 m 417 ls [.int (pV S (fIx st) 0), .int 0, .int (-1), .ref o]) rfl ?_
                    refine lv_iload hx hb dX4_fraction_417 (lv_at hl 5 rfl) ?_
                    refine lv_iadd hx hb dX4_fraction_419 ?_
                    refine lv_iload hx hb dX4_fraction_420 (lv_at hl 10 rfl) ?_
                    refine lv_isub hx hb dX4_fraction_422 ?_
                    refine mw_callV (C := RX4) (As := [.int (-1), .int 0, .int (((pV S (fIx st) 0) + (fHf t)) - t)]) (rest := []) hx hb hml hown hl (kX4_lay l htr G H.size M_81 o A 0 (nI (fSz (fIx st))) S (fMx (bW S (fIx n)) (bW S (fIx d))) (((pV S (fIx st) 2) + (t - (((pV S (fIx st) 2) - (bD S (fIx n))) - ((pV S (fIx st) 0) + (fHf t))))) + (bH S (fIx n))) ((bD S (fIx d)) + (pV S (fIx st) 5)) ([(nI (fIx n)), (fHf ((fMx (bW S (fIx n)) (bW S (fIx d))) - (bW S (fIx n)))), ((pV S (fIx st) 2) + (t - (((pV S (fIx st) 2) - (bD S (fIx n))) - ((pV S (fIx st) 0) + (fHf t))))), (nI (fIx d)), (fHf ((fMx (bW S (fIx n)) (bW S (fIx d))) - (bW S (fIx d)))), (-(pV S (fIx st) 5))]) 0 0 (md_R.of (np := np82) hT hB : md_R G o A M_81 0 (nI (fSz (fIx st))) (fs_push S ((fMx (bW S (fIx n)) (bW S (fIx d))), (((pV S (fIx st) 2) + (t - (((pV S (fIx st) 2) - (bD S (fIx n))) - ((pV S (fIx st) 0) + (fHf t))))) + (bH S (fIx n))), ((bD S (fIx d)) + (pV S (fIx st) 5)), [(nI (fIx n)), (fHf ((fMx (bW S (fIx n)) (bW S (fIx d))) - (bW S (fIx n)))), ((pV S (fIx st) 2) + (t - (((pV S (fIx st) 2) - (bD S (fIx n))) - ((pV S (fIx st) 0) + (fHf t))))), (nI (fIx d)), (fHf ((fMx (bW S (fIx n)) (bW S (fIx d))) - (bW S (fIx d)))), (-(pV S (fIx st) 5))], 0, 0))) (by simp) (-1) 0 (((pV S (fIx st) 0) + (fHf t)) - t)) (g_B (n := 3) htb wd661 wd3 wd658 (by decide +kernel) ⟨Nat.le_of_ble_eq_true rfl, Nat.le_of_ble_eq_true rfl⟩) (htb _ wd660) (htb _ ws34) hE hP hS hT.1 rfl rfl rfl (Nat.le_of_ble_eq_true rfl) dX4_fraction_423 ⟨Nat.le_of_ble_eq_true rfl, Nat.le_of_ble_eq_true rfl⟩ (fun v9 M9 H locs hpo hP hz hS => ?_) (fun x9 E9 cell9 H9 locs9 hE9 => hE9.elim)
                    obtain ⟨rfl, hRn, hkn⟩ := hpo
                    obtain ⟨M_84, hM_84⟩ : ∃ z9 : mw_M, z9 = M9 := ⟨_, rfl⟩
                    rw [← hM_84] at hP hRn hkn
                    have hk := md_keeps.tr hk hkn
                    have hRn : md_R G o A M_84 0 (nI (fSz (fIx st))) (fs_push S ((fMx (bW S (fIx n)) (bW S (fIx d))), (((pV S (fIx st) 2) + (t - (((pV S (fIx st) 2) - (bD S (fIx n))) - ((pV S (fIx st) 0) + (fHf t))))) + (bH S (fIx n))), ((bD S (fIx d)) + (pV S (fIx st) 5)), [(nI (fIx n)), (fHf ((fMx (bW S (fIx n)) (bW S (fIx d))) - (bW S (fIx n)))), ((pV S (fIx st) 2) + (t - (((pV S (fIx st) 2) - (bD S (fIx n))) - ((pV S (fIx st) 0) + (fHf t))))), (nI (fIx d)), (fHf ((fMx (bW S (fIx n)) (bW S (fIx d))) - (bW S (fIx d)))), (-(pV S (fIx st) 5)), (-1), 0, (((pV S (fIx st) 0) + (fHf t)) - t)], 0, 0)) := hRn
                    obtain ⟨np85, bg85, g85, hT, hB⟩ := id hRn
                    rw [sN_push] at hT
                    have hT : md_at G o A M_84 0 (sSp S) (sSh S) (nI (sN S + 1)) (nI np85) (nI (fSz (fIx st))) g85 := hT
                    refine W.eq (g2 := F0 m 426 ls []) rfl ?_
                    refine lv_aload_n hx hb dX4_fraction_426 rfl (lv_at hl 6 rfl) ?_
                    refine mw_get (D := gD G) (ci := 4) (v := .ref (A 6)) (C := RX4) (T := TX4) (N := 21) hx hb htb inX4 hown hK hP hT.1 rfl 10 (by decide) (htb _ wd534) (fun _ h9 => h9) rfl dX4_fraction_427 ?_
                    refine lv_iload hx hb dX4_fraction_430 (lv_at hl 0 rfl) ?_
                    refine lv_iload hx hb dX4_fraction_432 (lv_at hl 1 rfl) ?_
                    refine mw_iast hx hb hK hP hS 0 (show M_84 (A 6) = some (.inl (gI G, 120, .inl (g85 6))) from hT.2.1 6 (by decide)) (hT.2.2.2.2 6 (by decide)) rfl (by exact vp_in_nI (show (sN S) < 120 by have := hle; omega) (by decide)) dX4_fraction_434 (fun H locs hP hS => ?_)
                    rw [nI_clamp (show (sN S) < 2 ^ 31 by have := hle; omega)] at hP
                    obtain ⟨M_86, hM_86⟩ : ∃ z9 : mw_M, z9 = mw_up M_84 (A 6) (.inl (gI G, 120, .inl (upd (g85 6) (sN S) (fMx (bW S (fIx n)) (bW S (fIx d)))))) := ⟨_, rfl⟩
                    have hP : mw_P (gD G) gx_cl M_86 H := by rw [hM_86]; exact hP
                    obtain ⟨g_87, hg_87⟩ : ∃ z9, z9 = ug g85 6 (sN S) (fMx (bW S (fIx n)) (bW S (fIx d))) := ⟨_, rfl⟩
                    have hT : md_at G o A M_86 0 (sSp S) (sSh S) (nI (sN S + 1)) (nI np85) (nI (fSz (fIx st))) g_87 := by rw [hg_87]; exact md_at.put hT (by decide) rfl rfl hM_86
                    have hk : md_keeps o A M M_86 := md_keeps.arr (j := 6) hk (by decide) hM_86
                    have hB : md_ab np85 bg85 g_87 (fs_push S ((fMx (bW S (fIx n)) (bW S (fIx d))), (((pV S (fIx st) 2) + (t - (((pV S (fIx st) 2) - (bD S (fIx n))) - ((pV S (fIx st) 0) + (fHf t))))) + (bH S (fIx n))), ((bD S (fIx d)) + (pV S (fIx st) 5)), [(nI (fIx n)), (fHf ((fMx (bW S (fIx n)) (bW S (fIx d))) - (bW S (fIx n)))), ((pV S (fIx st) 2) + (t - (((pV S (fIx st) 2) - (bD S (fIx n))) - ((pV S (fIx st) 0) + (fHf t))))), (nI (fIx d)), (fHf ((fMx (bW S (fIx n)) (bW S (fIx d))) - (bW S (fIx d)))), (-(pV S (fIx st) 5)), (-1), 0, (((pV S (fIx st) 0) + (fHf t)) - t)], (fMx (bW S (fIx n)) (bW S (fIx d))), 0)) := by rw [hg_87]; exact md_ab.set6 hB _
                    refine lv_aload_n hx hb dX4_fraction_435 rfl (lv_at hl 6 rfl) ?_
                    refine mw_get (D := gD G) (ci := 4) (v := .ref (A 7)) (C := RX4) (T := TX4) (N := 21) hx hb htb inX4 hown hK hP hT.1 rfl 11 (by decide) (htb _ wd535) (fun _ h9 => h9) rfl dX4_fraction_436 ?_
                    refine lv_iload hx hb dX4_fraction_439 (lv_at hl 0 rfl) ?_
                    refine lv_iload hx hb dX4_fraction_441 (lv_at hl 10 rfl) ?_
                    refine mw_iast hx hb hK hP hS 0 (show M_86 (A 7) = some (.inl (gI G, 120, .inl (g_87 7))) from hT.2.1 7 (by decide)) (hT.2.2.2.2 7 (by decide)) rfl (by exact vp_in_nI (show (sN S) < 120 by have := hle; omega) (by decide)) dX4_fraction_443 (fun H locs hP hS => ?_)
                    rw [nI_clamp (show (sN S) < 2 ^ 31 by have := hle; omega)] at hP
                    obtain ⟨M_88, hM_88⟩ : ∃ z9 : mw_M, z9 = mw_up M_86 (A 7) (.inl (gI G, 120, .inl (upd (g_87 7) (sN S) t))) := ⟨_, rfl⟩
                    have hP : mw_P (gD G) gx_cl M_88 H := by rw [hM_88]; exact hP
                    obtain ⟨g_89, hg_89⟩ : ∃ z9, z9 = ug g_87 7 (sN S) t := ⟨_, rfl⟩
                    have hT : md_at G o A M_88 0 (sSp S) (sSh S) (nI (sN S + 1)) (nI np85) (nI (fSz (fIx st))) g_89 := by rw [hg_89]; exact md_at.put hT (by decide) rfl rfl hM_88
                    have hk : md_keeps o A M M_88 := md_keeps.arr (j := 7) hk (by decide) hM_88
                    have hB : md_ab np85 bg85 g_89 (fs_push S ((fMx (bW S (fIx n)) (bW S (fIx d))), (((pV S (fIx st) 2) + (t - (((pV S (fIx st) 2) - (bD S (fIx n))) - ((pV S (fIx st) 0) + (fHf t))))) + (bH S (fIx n))), ((bD S (fIx d)) + (pV S (fIx st) 5)), [(nI (fIx n)), (fHf ((fMx (bW S (fIx n)) (bW S (fIx d))) - (bW S (fIx n)))), ((pV S (fIx st) 2) + (t - (((pV S (fIx st) 2) - (bD S (fIx n))) - ((pV S (fIx st) 0) + (fHf t))))), (nI (fIx d)), (fHf ((fMx (bW S (fIx n)) (bW S (fIx d))) - (bW S (fIx d)))), (-(pV S (fIx st) 5)), (-1), 0, (((pV S (fIx st) 0) + (fHf t)) - t)], (fMx (bW S (fIx n)) (bW S (fIx d))), t)) := by rw [hg_89]; exact md_ab.set7 hB _
                    refine lv_iload hx hb dX4_fraction_444 (lv_at hl 0 rfl) ?_
                    have hex : ex_fraction S st n d t = 0 := by rw [ex_fraction, if_neg (fun z9 => z9 ⟨kb_5, kb_7⟩), if_neg (fun z9 => z9 ⟨kb_12, kb_14⟩), if_neg (fun z9 => z9 kb_16)]
                    have hre : re_fraction S st n d t = ((fMx (bW S (fIx n)) (bW S (fIx d))), (((pV S (fIx st) 2) + (t - (((pV S (fIx st) 2) - (bD S (fIx n))) - ((pV S (fIx st) 0) + (fHf t))))) + (bH S (fIx n))), ((bD S (fIx d)) + (pV S (fIx st) 5)), [(nI (fIx n)), (fHf ((fMx (bW S (fIx n)) (bW S (fIx d))) - (bW S (fIx n)))), ((pV S (fIx st) 2) + (t - (((pV S (fIx st) 2) - (bD S (fIx n))) - ((pV S (fIx st) 0) + (fHf t))))), (nI (fIx d)), (fHf ((fMx (bW S (fIx n)) (bW S (fIx d))) - (bW S (fIx d)))), (-(pV S (fIx st) 5)), (-1), 0, (((pV S (fIx st) 0) + (fHf t)) - t)], (fMx (bW S (fIx n)) (bW S (fIx d))), t) := by simp only [re_fraction, fs_fb, fs_fb1, fs_fb2, fs_fb3, fs_fl, fs_fl1, fs_fl3, if_neg c_15, if_neg c_21, if_neg c_22, if_neg c_48, if_pos c_76, fMx0n c_48, fMx0p c_76, Int32.add_zero]
                    exact mx_iret (v := (nI (sN S))) (M' := M_88) hx hb hr hlocks hP hS ⟨by rw [hex]; rfl, ⟨_, by rw [hex, if_pos rfl, hre]; exact (md_R.of (np := np85) hT hB : md_R G o A M_88 0 (nI (fSz (fIx st))) (fs_push S ((fMx (bW S (fIx n)) (bW S (fIx d))), (((pV S (fIx st) 2) + (t - (((pV S (fIx st) 2) - (bD S (fIx n))) - ((pV S (fIx st) 0) + (fHf t))))) + (bH S (fIx n))), ((bD S (fIx d)) + (pV S (fIx st) 5)), [(nI (fIx n)), (fHf ((fMx (bW S (fIx n)) (bW S (fIx d))) - (bW S (fIx n)))), ((pV S (fIx st) 2) + (t - (((pV S (fIx st) 2) - (bD S (fIx n))) - ((pV S (fIx st) 0) + (fHf t))))), (nI (fIx d)), (fHf ((fMx (bW S (fIx n)) (bW S (fIx d))) - (bW S (fIx d)))), (-(pV S (fIx st) 5)), (-1), 0, (((pV S (fIx st) 0) + (fHf t)) - t)], (fMx (bW S (fIx n)) (bW S (fIx d))), t)))⟩, hk⟩ dX4_fraction_446 (Nat.le_of_ble_eq_true rfl) (Nat.le_of_ble_eq_true rfl)
                  · refine lv_iload hx hb dX4_fraction_310 (lv_at hl 5 rfl) ?_
                    refine lv_iload hx hb dX4_fraction_312 (lv_at hl 1 rfl) ?_
                    refine lv_iadd hx hb dX4_fraction_314 ?_
                    refine lv_goto (tgt := 320) hx hb dX4_fraction_315 (by decide) ?_
                    refine lv_istore (lv' := [(6, .int ((pV S (fIx st) 5) + (t - (((pV S (fIx st) 0) - (fHf t)) - ((bH S (fIx d)) - (pV S (fIx st) 5)))))), (5, .int ((pV S (fIx st) 2) + (t - (((pV S (fIx st) 2) - (bD S (fIx n))) - ((pV S (fIx st) 0) + (fHf t)))))), (10, .int (t - (((pV S (fIx st) 0) - (fHf t)) - ((bH S (fIx d)) - (pV S (fIx st) 5))))), (9, .int (t - (((pV S (fIx st) 2) - (bD S (fIx n))) - ((pV S (fIx st) 0) + (fHf t))))), (8, .int t), (7, .int (fHf t)), (0, .ref o), (1, .int (nI (fIx st))), (2, .int (nI (fIx n))), (3, .int (nI (fIx d))), (4, .int t)]) hx hb dX4_fraction_320 hl (by decide) rfl (fun ls hl => ?_)
                    refine lv_aload_n hx hb dX4_fraction_322 rfl (lv_at hl 6 rfl) ?_
                    refine mw_get (D := gD G) (ci := 4) (v := .ref (A 1)) (C := RX4) (T := TX4) (N := 21) hx hb htb inX4 hown hK hP hT.1 rfl 5 (by decide) (htb _ wd529) (fun _ h9 => h9) rfl dX4_fraction_323 ?_
                    refine lv_iload_n hx hb dX4_fraction_326 rfl (lv_at hl 8 rfl) ?_
                    refine mw_iald hx hb hK hP 0 (show M_19 (A 1) = some (.inl (gI G, 120, .inl (g20 1))) from hT.2.1 1 (by decide)) rfl (by exact vp_in_nI (show (fIx n) < 120 by have := hle; omega) (by decide)) dX4_fraction_327 ?_
                    refine W.eq (g2 := F0 m 328 ls [.int (bW S (fIx n))]) (by rw [nI_clamp (show (fIx n) < 2 ^ 31 by have := hle; omega), hB.W h_n]) ?_
                    refine lv_aload_n hx hb dX4_fraction_328 rfl (lv_at hl 6 rfl) ?_
                    refine mw_get (D := gD G) (ci := 4) (v := .ref (A 1)) (C := RX4) (T := TX4) (N := 21) hx hb htb inX4 hown hK hP hT.1 rfl 5 (by decide) (htb _ wd529) (fun _ h9 => h9) rfl dX4_fraction_329 ?_
                    refine lv_iload_n hx hb dX4_fraction_332 rfl (lv_at hl 9 rfl) ?_
                    refine mw_iald hx hb hK hP 0 (show M_19 (A 1) = some (.inl (gI G, 120, .inl (g20 1))) from hT.2.1 1 (by decide)) rfl (by exact vp_in_nI (show (fIx d) < 120 by have := hle; omega) (by decide)) dX4_fraction_333 ?_
                    refine W.eq (g2 := F0 m 334 ls [.int (bW S (fIx d)), .int (bW S (fIx n))]) (by rw [nI_clamp (show (fIx d) < 2 ^ 31 by have := hle; omega), hB.W h_d]) ?_
                    refine mw_callS (As := [.int (bW S (fIx n)), .int (bW S (fIx d))]) (rest := []) hx hb hml hown hl (kX4_greater l htr G H.size M_19 (bW S (fIx n)) (bW S (fIx d))) (g_B (n := 2) htb wd664 wd3 wd662 (by decide +kernel) ⟨Nat.le_of_ble_eq_true rfl, Nat.le_of_ble_eq_true rfl⟩) (htb _ wd663) hE hP hS rfl rfl (Nat.le_of_ble_eq_true rfl) dX4_fraction_334 ⟨Nat.le_of_ble_eq_true rfl, Nat.le_of_ble_eq_true rfl⟩ (fun v9 M9 H locs hpo hP hz hS => ?_) (fun x9 E9 cell9 H9 locs9 hE9 => hE9.elim)
                    obtain ⟨rfl, rfl⟩ := hpo
                    refine W.eq (g2 := F0 m 337 ls [.int (fMx (bW S (fIx n)) (bW S (fIx d)))]) rfl ?_
                    refine lv_istore (lv' := [(8, .int (fMx (bW S (fIx n)) (bW S (fIx d)))), (6, .int ((pV S (fIx st) 5) + (t - (((pV S (fIx st) 0) - (fHf t)) - ((bH S (fIx d)) - (pV S (fIx st) 5)))))), (5, .int ((pV S (fIx st) 2) + (t - (((pV S (fIx st) 2) - (bD S (fIx n))) - ((pV S (fIx st) 0) + (fHf t)))))), (10, .int (t - (((pV S (fIx st) 0) - (fHf t)) - ((bH S (fIx d)) - (pV S (fIx st) 5))))), (9, .int (t - (((pV S (fIx st) 2) - (bD S (fIx n))) - ((pV S (fIx st) 0) + (fHf t))))), (7, .int (fHf t)), (0, .ref o), (1, .int (nI (fIx st))), (2, .int (nI (fIx n))), (3, .int (nI (fIx d))), (4, .int t)]) hx hb dX4_fraction_337 hl (by decide) rfl (fun ls hl => ?_)
                    refine lv_aload_n hx hb dX4_fraction_339 rfl (lv_at hl 6 rfl) ?_
                    refine lv_iload hx hb dX4_fraction_340 (lv_at hl 0 rfl) ?_
                    refine lv_iload hx hb dX4_fraction_342 (lv_at hl 2 rfl) ?_
                    refine lv_aload_n hx hb dX4_fraction_344 rfl (lv_at hl 6 rfl) ?_
                    refine mw_get (D := gD G) (ci := 4) (v := .ref (A 2)) (C := RX4) (T := TX4) (N := 21) hx hb htb inX4 hown hK hP hT.1 rfl 6 (by decide) (htb _ wd530) (fun _ h9 => h9) rfl dX4_fraction_345 ?_
                    refine lv_iload_n hx hb dX4_fraction_348 rfl (lv_at hl 8 rfl) ?_
                    refine mw_iald hx hb hK hP 0 (show M_19 (A 2) = some (.inl (gI G, 120, .inl (g20 2))) from hT.2.1 2 (by decide)) rfl (by exact vp_in_nI (show (fIx n) < 120 by have := hle; omega) (by decide)) dX4_fraction_349 ?_
                    refine W.eq (g2 := F0 m 350 ls [.int (bH S (fIx n)), .int ((pV S (fIx st) 2) + (t - (((pV S (fIx st) 2) - (bD S (fIx n))) - ((pV S (fIx st) 0) + (fHf t))))), .int (fMx (bW S (fIx n)) (bW S (fIx d))), .ref o]) (by rw [nI_clamp (show (fIx n) < 2 ^ 31 by have := hle; omega), hB.H h_n]) ?_
                    refine lv_iadd hx hb dX4_fraction_350 ?_
                    refine lv_aload_n hx hb dX4_fraction_351 rfl (lv_at hl 6 rfl) ?_
                    refine mw_get (D := gD G) (ci := 4) (v := .ref (A 3)) (C := RX4) (T := TX4) (N := 21) hx hb htb inX4 hown hK hP hT.1 rfl 7 (by decide) (htb _ wd531) (fun _ h9 => h9) rfl dX4_fraction_352 ?_
                    refine lv_iload_n hx hb dX4_fraction_355 rfl (lv_at hl 9 rfl) ?_
                    refine mw_iald hx hb hK hP 0 (show M_19 (A 3) = some (.inl (gI G, 120, .inl (g20 3))) from hT.2.1 3 (by decide)) rfl (by exact vp_in_nI (show (fIx d) < 120 by have := hle; omega) (by decide)) dX4_fraction_356 ?_
                    refine W.eq (g2 := F0 m 357 ls [.int (bD S (fIx d)), .int (((pV S (fIx st) 2) + (t - (((pV S (fIx st) 2) - (bD S (fIx n))) - ((pV S (fIx st) 0) + (fHf t))))) + (bH S (fIx n))), .int (fMx (bW S (fIx n)) (bW S (fIx d))), .ref o]) (by rw [nI_clamp (show (fIx d) < 2 ^ 31 by have := hle; omega), hB.D h_d]) ?_
                    refine lv_iload hx hb dX4_fraction_357 (lv_at hl 1 rfl) ?_
                    refine lv_iadd hx hb dX4_fraction_359 ?_
                    refine mw_callV (C := RX4) (As := [.int (fMx (bW S (fIx n)) (bW S (fIx d))), .int (((pV S (fIx st) 2) + (t - (((pV S (fIx st) 2) - (bD S (fIx n))) - ((pV S (fIx st) 0) + (fHf t))))) + (bH S (fIx n))), .int ((bD S (fIx d)) + ((pV S (fIx st) 5) + (t - (((pV S (fIx st) 0) - (fHf t)) - ((bH S (fIx d)) - (pV S (fIx st) 5))))))]) (rest := []) hx hb hml hown hl (kX4_make l htr G H.size M_19 o A 0 (nI (fSz (fIx st))) S (⟨np20, bg20, g20, hT, hB⟩ : md_R G o A M_19 0 (nI (fSz (fIx st))) S) (rmk_lt kb_16 hle) (fMx (bW S (fIx n)) (bW S (fIx d))) (((pV S (fIx st) 2) + (t - (((pV S (fIx st) 2) - (bD S (fIx n))) - ((pV S (fIx st) 0) + (fHf t))))) + (bH S (fIx n))) ((bD S (fIx d)) + ((pV S (fIx st) 5) + (t - (((pV S (fIx st) 0) - (fHf t)) - ((bH S (fIx d)) - (pV S (fIx st) 5))))))) (g_B (n := 3) htb wd613 wd3 wd610 (by decide +kernel) ⟨Nat.le_of_ble_eq_true rfl, Nat.le_of_ble_eq_true rfl⟩) (htb _ wd612) (htb _ ws26) hE hP hS hT.1 rfl rfl rfl (Nat.le_of_ble_eq_true rfl) dX4_fraction_360 ⟨Nat.le_of_ble_eq_true rfl, Nat.le_of_ble_eq_true rfl⟩ (fun v9 M9 H locs hpo hP hz hS => ?_) (fun x9 E9 cell9 H9 locs9 hE9 => hE9.elim)
                    have hle0 := hle
                    obtain ⟨rfl, hRn, hkn⟩ := hpo
                    obtain ⟨M_90, hM_90⟩ : ∃ z9 : mw_M, z9 = M9 := ⟨_, rfl⟩
                    rw [← hM_90] at hP hRn hkn
                    have hk := md_keeps.tr hk hkn
                    have hRn : md_R G o A M_90 0 (nI (fSz (fIx st))) (fs_push S ((fMx (bW S (fIx n)) (bW S (fIx d))), (((pV S (fIx st) 2) + (t - (((pV S (fIx st) 2) - (bD S (fIx n))) - ((pV S (fIx st) 0) + (fHf t))))) + (bH S (fIx n))), ((bD S (fIx d)) + ((pV S (fIx st) 5) + (t - (((pV S (fIx st) 0) - (fHf t)) - ((bH S (fIx d)) - (pV S (fIx st) 5)))))), [], 0, 0)) := hRn
                    obtain ⟨np91, bg91, g91, hT, hB⟩ := id hRn
                    rw [sN_push] at hT
                    have hT : md_at G o A M_90 0 (sSp S) (sSh S) (nI (sN S + 1)) (nI np91) (nI (fSz (fIx st))) g91 := hT
                    have hle : sN S + 1 ≤ 120 := by have := hB.1; rw [sN_push] at this; exact this
                    refine W.eq (g2 := F0 m 363 ls [.int (nI (sN S))]) rfl ?_
                    refine lv_istore (lv' := [(9, .int (nI (sN S))), (8, .int (fMx (bW S (fIx n)) (bW S (fIx d)))), (6, .int ((pV S (fIx st) 5) + (t - (((pV S (fIx st) 0) - (fHf t)) - ((bH S (fIx d)) - (pV S (fIx st) 5)))))), (5, .int ((pV S (fIx st) 2) + (t - (((pV S (fIx st) 2) - (bD S (fIx n))) - ((pV S (fIx st) 0) + (fHf t)))))), (10, .int (t - (((pV S (fIx st) 0) - (fHf t)) - ((bH S (fIx d)) - (pV S (fIx st) 5))))), (7, .int (fHf t)), (0, .ref o), (1, .int (nI (fIx st))), (2, .int (nI (fIx n))), (3, .int (nI (fIx d))), (4, .int t)]) hx hb dX4_fraction_363 hl (by decide) rfl (fun ls hl => ?_)
                    refine lv_aload_n hx hb dX4_fraction_365 rfl (lv_at hl 6 rfl) ?_
                    refine lv_iload_n hx hb dX4_fraction_366 rfl (lv_at hl 8 rfl) ?_
                    refine lv_iload hx hb dX4_fraction_367 (lv_at hl 1 rfl) ?_
                    refine lv_aload_n hx hb dX4_fraction_369 rfl (lv_at hl 6 rfl) ?_
                    refine mw_get (D := gD G) (ci := 4) (v := .ref (A 1)) (C := RX4) (T := TX4) (N := 21) hx hb htb inX4 hown hK hP hT.1 rfl 5 (by decide) (htb _ wd529) (fun _ h9 => h9) rfl dX4_fraction_370 ?_
                    refine lv_iload_n hx hb dX4_fraction_373 rfl (lv_at hl 8 rfl) ?_
                    refine mw_iald hx hb hK hP 0 (show M_90 (A 1) = some (.inl (gI G, 120, .inl (g91 1))) from hT.2.1 1 (by decide)) rfl (by exact vp_in_nI (show (fIx n) < 120 by have := hle; omega) (by decide)) dX4_fraction_374 ?_
                    refine W.eq (g2 := F0 m 375 ls [.int (bW S (fIx n)), .int (fMx (bW S (fIx n)) (bW S (fIx d))), .int (nI (fIx n)), .ref o]) (by rw [nI_clamp (show (fIx n) < 2 ^ 31 by have := hle; omega), hB.W (show (fIx n) < sN (fs_push S ((fMx (bW S (fIx n)) (bW S (fIx d))), (((pV S (fIx st) 2) + (t - (((pV S (fIx st) 2) - (bD S (fIx n))) - ((pV S (fIx st) 0) + (fHf t))))) + (bH S (fIx n))), ((bD S (fIx d)) + ((pV S (fIx st) 5) + (t - (((pV S (fIx st) 0) - (fHf t)) - ((bH S (fIx d)) - (pV S (fIx st) 5)))))), [], 0, 0)) by rw [sN_push]; omega), bW_push _ h_n]) ?_
                    refine lv_isub hx hb dX4_fraction_375 ?_
                    refine mw_callS (As := [.int ((fMx (bW S (fIx n)) (bW S (fIx d))) - (bW S (fIx n)))]) (rest := [.int (nI (fIx n)), .ref o]) hx hb hml hown hl (kX4_half l htr G H.size M_90 ((fMx (bW S (fIx n)) (bW S (fIx d))) - (bW S (fIx n)))) (g_B (n := 1) htb wd682 wd3 wd680 (by decide +kernel) ⟨Nat.le_of_ble_eq_true rfl, Nat.le_of_ble_eq_true rfl⟩) (htb _ wd681) hE hP hS rfl rfl (Nat.le_of_ble_eq_true rfl) dX4_fraction_376 ⟨Nat.le_of_ble_eq_true rfl, Nat.le_of_ble_eq_true rfl⟩ (fun v9 M9 H locs hpo hP hz hS => ?_) (fun x9 E9 cell9 H9 locs9 hE9 => hE9.elim)
                    obtain ⟨rfl, rfl⟩ := hpo
                    refine W.eq (g2 := F0 m 379 ls [.int (fHf ((fMx (bW S (fIx n)) (bW S (fIx d))) - (bW S (fIx n)))), .int (nI (fIx n)), .ref o]) rfl ?_
                    refine lv_iload hx hb dX4_fraction_379 (lv_at hl 3 rfl) ?_
                    refine mw_callV (C := RX4) (As := [.int (nI (fIx n)), .int (fHf ((fMx (bW S (fIx n)) (bW S (fIx d))) - (bW S (fIx n)))), .int ((pV S (fIx st) 2) + (t - (((pV S (fIx st) 2) - (bD S (fIx n))) - ((pV S (fIx st) 0) + (fHf t)))))]) (rest := []) hx hb hml hown hl (kX4_lay l htr G H.size M_90 o A 0 (nI (fSz (fIx st))) S (fMx (bW S (fIx n)) (bW S (fIx d))) (((pV S (fIx st) 2) + (t - (((pV S (fIx st) 2) - (bD S (fIx n))) - ((pV S (fIx st) 0) + (fHf t))))) + (bH S (fIx n))) ((bD S (fIx d)) + ((pV S (fIx st) 5) + (t - (((pV S (fIx st) 0) - (fHf t)) - ((bH S (fIx d)) - (pV S (fIx st) 5)))))) ([]) 0 0 (md_R.of (np := np91) hT hB : md_R G o A M_90 0 (nI (fSz (fIx st))) (fs_push S ((fMx (bW S (fIx n)) (bW S (fIx d))), (((pV S (fIx st) 2) + (t - (((pV S (fIx st) 2) - (bD S (fIx n))) - ((pV S (fIx st) 0) + (fHf t))))) + (bH S (fIx n))), ((bD S (fIx d)) + ((pV S (fIx st) 5) + (t - (((pV S (fIx st) 0) - (fHf t)) - ((bH S (fIx d)) - (pV S (fIx st) 5)))))), [], 0, 0))) (by simp) (nI (fIx n)) (fHf ((fMx (bW S (fIx n)) (bW S (fIx d))) - (bW S (fIx n)))) ((pV S (fIx st) 2) + (t - (((pV S (fIx st) 2) - (bD S (fIx n))) - ((pV S (fIx st) 0) + (fHf t)))))) (g_B (n := 3) htb wd661 wd3 wd658 (by decide +kernel) ⟨Nat.le_of_ble_eq_true rfl, Nat.le_of_ble_eq_true rfl⟩) (htb _ wd660) (htb _ ws34) hE hP hS hT.1 rfl rfl rfl (Nat.le_of_ble_eq_true rfl) dX4_fraction_381 ⟨Nat.le_of_ble_eq_true rfl, Nat.le_of_ble_eq_true rfl⟩ (fun v9 M9 H locs hpo hP hz hS => ?_) (fun x9 E9 cell9 H9 locs9 hE9 => hE9.elim)
                    obtain ⟨rfl, hRn, hkn⟩ := hpo
                    obtain ⟨M_92, hM_92⟩ : ∃ z9 : mw_M, z9 = M9 := ⟨_, rfl⟩
                    rw [← hM_92] at hP hRn hkn
                    have hk := md_keeps.tr hk hkn
                    have hRn : md_R G o A M_92 0 (nI (fSz (fIx st))) (fs_push S ((fMx (bW S (fIx n)) (bW S (fIx d))), (((pV S (fIx st) 2) + (t - (((pV S (fIx st) 2) - (bD S (fIx n))) - ((pV S (fIx st) 0) + (fHf t))))) + (bH S (fIx n))), ((bD S (fIx d)) + ((pV S (fIx st) 5) + (t - (((pV S (fIx st) 0) - (fHf t)) - ((bH S (fIx d)) - (pV S (fIx st) 5)))))), [(nI (fIx n)), (fHf ((fMx (bW S (fIx n)) (bW S (fIx d))) - (bW S (fIx n)))), ((pV S (fIx st) 2) + (t - (((pV S (fIx st) 2) - (bD S (fIx n))) - ((pV S (fIx st) 0) + (fHf t)))))], 0, 0)) := hRn
                    obtain ⟨np93, bg93, g93, hT, hB⟩ := id hRn
                    rw [sN_push] at hT
                    have hT : md_at G o A M_92 0 (sSp S) (sSh S) (nI (sN S + 1)) (nI np93) (nI (fSz (fIx st))) g93 := hT
                    refine W.eq (g2 := F0 m 384 ls []) rfl ?_
                    refine lv_aload_n hx hb dX4_fraction_384 rfl (lv_at hl 6 rfl) ?_
                    refine lv_iload_n hx hb dX4_fraction_385 rfl (lv_at hl 9 rfl) ?_
                    refine lv_iload hx hb dX4_fraction_386 (lv_at hl 1 rfl) ?_
                    refine lv_aload_n hx hb dX4_fraction_388 rfl (lv_at hl 6 rfl) ?_
                    refine mw_get (D := gD G) (ci := 4) (v := .ref (A 1)) (C := RX4) (T := TX4) (N := 21) hx hb htb inX4 hown hK hP hT.1 rfl 5 (by decide) (htb _ wd529) (fun _ h9 => h9) rfl dX4_fraction_389 ?_
                    refine lv_iload_n hx hb dX4_fraction_392 rfl (lv_at hl 9 rfl) ?_
                    refine mw_iald hx hb hK hP 0 (show M_92 (A 1) = some (.inl (gI G, 120, .inl (g93 1))) from hT.2.1 1 (by decide)) rfl (by exact vp_in_nI (show (fIx d) < 120 by have := hle; omega) (by decide)) dX4_fraction_393 ?_
                    refine W.eq (g2 := F0 m 394 ls [.int (bW S (fIx d)), .int (fMx (bW S (fIx n)) (bW S (fIx d))), .int (nI (fIx d)), .ref o]) (by rw [nI_clamp (show (fIx d) < 2 ^ 31 by have := hle; omega), hB.W (show (fIx d) < sN (fs_push S ((fMx (bW S (fIx n)) (bW S (fIx d))), (((pV S (fIx st) 2) + (t - (((pV S (fIx st) 2) - (bD S (fIx n))) - ((pV S (fIx st) 0) + (fHf t))))) + (bH S (fIx n))), ((bD S (fIx d)) + ((pV S (fIx st) 5) + (t - (((pV S (fIx st) 0) - (fHf t)) - ((bH S (fIx d)) - (pV S (fIx st) 5)))))), [(nI (fIx n)), (fHf ((fMx (bW S (fIx n)) (bW S (fIx d))) - (bW S (fIx n)))), ((pV S (fIx st) 2) + (t - (((pV S (fIx st) 2) - (bD S (fIx n))) - ((pV S (fIx st) 0) + (fHf t)))))], 0, 0)) by rw [sN_push]; omega), bW_push _ h_d]) ?_
                    refine lv_isub hx hb dX4_fraction_394 ?_
                    refine mw_callS (As := [.int ((fMx (bW S (fIx n)) (bW S (fIx d))) - (bW S (fIx d)))]) (rest := [.int (nI (fIx d)), .ref o]) hx hb hml hown hl (kX4_half l htr G H.size M_92 ((fMx (bW S (fIx n)) (bW S (fIx d))) - (bW S (fIx d)))) (g_B (n := 1) htb wd682 wd3 wd680 (by decide +kernel) ⟨Nat.le_of_ble_eq_true rfl, Nat.le_of_ble_eq_true rfl⟩) (htb _ wd681) hE hP hS rfl rfl (Nat.le_of_ble_eq_true rfl) dX4_fraction_395 ⟨Nat.le_of_ble_eq_true rfl, Nat.le_of_ble_eq_true rfl⟩ (fun v9 M9 H locs hpo hP hz hS => ?_) (fun x9 E9 cell9 H9 locs9 hE9 => hE9.elim)
                    obtain ⟨rfl, rfl⟩ := hpo
                    refine W.eq (g2 := F0 m 398 ls [.int (fHf ((fMx (bW S (fIx n)) (bW S (fIx d))) - (bW S (fIx d)))), .int (nI (fIx d)), .ref o]) rfl ?_
                    refine lv_iload hx hb dX4_fraction_398 (lv_at hl 2 rfl) ?_
                    refine lv_ineg hx hb dX4_fraction_400 ?_
                    refine mw_callV (C := RX4) (As := [.int (nI (fIx d)), .int (fHf ((fMx (bW S (fIx n)) (bW S (fIx d))) - (bW S (fIx d)))), .int (-((pV S (fIx st) 5) + (t - (((pV S (fIx st) 0) - (fHf t)) - ((bH S (fIx d)) - (pV S (fIx st) 5))))))]) (rest := []) hx hb hml hown hl (kX4_lay l htr G H.size M_92 o A 0 (nI (fSz (fIx st))) S (fMx (bW S (fIx n)) (bW S (fIx d))) (((pV S (fIx st) 2) + (t - (((pV S (fIx st) 2) - (bD S (fIx n))) - ((pV S (fIx st) 0) + (fHf t))))) + (bH S (fIx n))) ((bD S (fIx d)) + ((pV S (fIx st) 5) + (t - (((pV S (fIx st) 0) - (fHf t)) - ((bH S (fIx d)) - (pV S (fIx st) 5)))))) ([(nI (fIx n)), (fHf ((fMx (bW S (fIx n)) (bW S (fIx d))) - (bW S (fIx n)))), ((pV S (fIx st) 2) + (t - (((pV S (fIx st) 2) - (bD S (fIx n))) - ((pV S (fIx st) 0) + (fHf t)))))]) 0 0 (md_R.of (np := np93) hT hB : md_R G o A M_92 0 (nI (fSz (fIx st))) (fs_push S ((fMx (bW S (fIx n)) (bW S (fIx d))), (((pV S (fIx st) 2) + (t - (((pV S (fIx st) 2) - (bD S (fIx n))) - ((pV S (fIx st) 0) + (fHf t))))) + (bH S (fIx n))), ((bD S (fIx d)) + ((pV S (fIx st) 5) + (t - (((pV S (fIx st) 0) - (fHf t)) - ((bH S (fIx d)) - (pV S (fIx st) 5)))))), [(nI (fIx n)), (fHf ((fMx (bW S (fIx n)) (bW S (fIx d))) - (bW S (fIx n)))), ((pV S (fIx st) 2) + (t - (((pV S (fIx st) 2) - (bD S (fIx n))) - ((pV S (fIx st) 0) + (fHf t)))))], 0, 0))) (by simp) (nI (fIx d)) (fHf ((fMx (bW S (fIx n)) (bW S (fIx d))) - (bW S (fIx d)))) (-((pV S (fIx st) 5) + (t - (((pV S (fIx st) 0) - (fHf t)) - ((bH S (fIx d)) - (pV S (fIx st) 5))))))) (g_B (n := 3) htb wd661 wd3 wd658 (by decide +kernel) ⟨Nat.le_of_ble_eq_true rfl, Nat.le_of_ble_eq_true rfl⟩) (htb _ wd660) (htb _ ws34) hE hP hS hT.1 rfl rfl rfl (Nat.le_of_ble_eq_true rfl) dX4_fraction_401 ⟨Nat.le_of_ble_eq_true rfl, Nat.le_of_ble_eq_true rfl⟩ (fun v9 M9 H locs hpo hP hz hS => ?_) (fun x9 E9 cell9 H9 locs9 hE9 => hE9.elim)
                    obtain ⟨rfl, hRn, hkn⟩ := hpo
                    obtain ⟨M_94, hM_94⟩ : ∃ z9 : mw_M, z9 = M9 := ⟨_, rfl⟩
                    rw [← hM_94] at hP hRn hkn
                    have hk := md_keeps.tr hk hkn
                    have hRn : md_R G o A M_94 0 (nI (fSz (fIx st))) (fs_push S ((fMx (bW S (fIx n)) (bW S (fIx d))), (((pV S (fIx st) 2) + (t - (((pV S (fIx st) 2) - (bD S (fIx n))) - ((pV S (fIx st) 0) + (fHf t))))) + (bH S (fIx n))), ((bD S (fIx d)) + ((pV S (fIx st) 5) + (t - (((pV S (fIx st) 0) - (fHf t)) - ((bH S (fIx d)) - (pV S (fIx st) 5)))))), [(nI (fIx n)), (fHf ((fMx (bW S (fIx n)) (bW S (fIx d))) - (bW S (fIx n)))), ((pV S (fIx st) 2) + (t - (((pV S (fIx st) 2) - (bD S (fIx n))) - ((pV S (fIx st) 0) + (fHf t))))), (nI (fIx d)), (fHf ((fMx (bW S (fIx n)) (bW S (fIx d))) - (bW S (fIx d)))), (-((pV S (fIx st) 5) + (t - (((pV S (fIx st) 0) - (fHf t)) - ((bH S (fIx d)) - (pV S (fIx st) 5))))))], 0, 0)) := hRn
                    obtain ⟨np95, bg95, g95, hT, hB⟩ := id hRn
                    rw [sN_push] at hT
                    have hT : md_at G o A M_94 0 (sSp S) (sSh S) (nI (sN S + 1)) (nI np95) (nI (fSz (fIx st))) g95 := hT
                    refine W.eq (g2 := F0 m 404 ls []) rfl ?_
                    refine lv_iload hx hb dX4_fraction_404 (lv_at hl 10 rfl) ?_
                    refine lv_if_le (tgt := 444) hx hb dX4_fraction_406 (by decide) (fun c_96 => absurd c_96 c_22) (fun c_96 => ?_)
                    refine lv_aload_n hx hb dX4_fraction_409 rfl (lv_at hl 6 rfl) ?_
                    refine lv_iconst (v := (-1)) hx hb dX4_fraction_410 (by decide) ?_
                    refine lv_iconst (v := 0) hx hb dX4_fraction_411 (by decide) ?_
                    refine lv_aload_n hx hb dX4_fraction_412 rfl (lv_at hl 6 rfl) ?_
                    refine lv_iconst (v := 0) hx hb dX4_fraction_413 (by decide) ?_
                    refine mw_callV (C := RX4) (As := [.int 0]) (rest := [.int 0, .int (-1), .ref o]) hx hb hml hown hl (kX4_p l htr G H.size M_94 o A 0 (fs_push S ((fMx (bW S (fIx n)) (bW S (fIx d))), (((pV S (fIx st) 2) + (t - (((pV S (fIx st) 2) - (bD S (fIx n))) - ((pV S (fIx st) 0) + (fHf t))))) + (bH S (fIx n))), ((bD S (fIx d)) + ((pV S (fIx st) 5) + (t - (((pV S (fIx st) 0) - (fHf t)) - ((bH S (fIx d)) - (pV S (fIx st) 5)))))), [(nI (fIx n)), (fHf ((fMx (bW S (fIx n)) (bW S (fIx d))) - (bW S (fIx n)))), ((pV S (fIx st) 2) + (t - (((pV S (fIx st) 2) - (bD S (fIx n))) - ((pV S (fIx st) 0) + (fHf t))))), (nI (fIx d)), (fHf ((fMx (bW S (fIx n)) (bW S (fIx d))) - (bW S (fIx d)))), (-((pV S (fIx st) 5) + (t - (((pV S (fIx st) 0) - (fHf t)) - ((bH S (fIx d)) - (pV S (fIx st) 5))))))], 0, 0)) (fIx st) 0 h_st (by decide) (md_R.of (np := np95) hT hB : md_R G o A M_94 0 (nI (fSz (fIx st))) (fs_push S ((fMx (bW S (fIx n)) (bW S (fIx d))), (((pV S (fIx st) 2) + (t - (((pV S (fIx st) 2) - (bD S (fIx n))) - ((pV S (fIx st) 0) + (fHf t))))) + (bH S (fIx n))), ((bD S (fIx d)) + ((pV S (fIx st) 5) + (t - (((pV S (fIx st) 0) - (fHf t)) - ((bH S (fIx d)) - (pV S (fIx st) 5)))))), [(nI (fIx n)), (fHf ((fMx (bW S (fIx n)) (bW S (fIx d))) - (bW S (fIx n)))), ((pV S (fIx st) 2) + (t - (((pV S (fIx st) 2) - (bD S (fIx n))) - ((pV S (fIx st) 0) + (fHf t))))), (nI (fIx d)), (fHf ((fMx (bW S (fIx n)) (bW S (fIx d))) - (bW S (fIx d)))), (-((pV S (fIx st) 5) + (t - (((pV S (fIx st) 0) - (fHf t)) - ((bH S (fIx d)) - (pV S (fIx st) 5))))))], 0, 0)))) (g_B (n := 1) htb wd679 wd3 wd676 (by decide +kernel) ⟨Nat.le_of_ble_eq_true rfl, Nat.le_of_ble_eq_true rfl⟩) (htb _ wd678) (htb _ ws36) hE hP hS hT.1 rfl rfl rfl (Nat.le_of_ble_eq_true rfl) dX4_fraction_414 ⟨Nat.le_of_ble_eq_true rfl, Nat.le_of_ble_eq_true rfl⟩ (fun v9 M9 H locs hpo hP hz hS => ?_) (fun x9 E9 cell9 H9 locs9 hE9 => hE9.elim)
                    obtain ⟨rfl, rfl⟩ := hpo
                    refine W.eq (g2 := F0 m 417 ls [.int (pV S (fIx st) 0), .int 0, .int (-1), .ref o]) rfl ?_
                    refine lv_iload hx hb dX4_fraction_417 (lv_at hl 5 rfl) ?_
                    refine lv_iadd hx hb dX4_fraction_419 ?_
                    refine lv_iload hx hb dX4_fraction_420 (lv_at hl 10 rfl) ?_
                    refine lv_isub hx hb dX4_fraction_422 ?_
                    refine mw_callV (C := RX4) (As := [.int (-1), .int 0, .int (((pV S (fIx st) 0) + (fHf t)) - t)]) (rest := []) hx hb hml hown hl (kX4_lay l htr G H.size M_94 o A 0 (nI (fSz (fIx st))) S (fMx (bW S (fIx n)) (bW S (fIx d))) (((pV S (fIx st) 2) + (t - (((pV S (fIx st) 2) - (bD S (fIx n))) - ((pV S (fIx st) 0) + (fHf t))))) + (bH S (fIx n))) ((bD S (fIx d)) + ((pV S (fIx st) 5) + (t - (((pV S (fIx st) 0) - (fHf t)) - ((bH S (fIx d)) - (pV S (fIx st) 5)))))) ([(nI (fIx n)), (fHf ((fMx (bW S (fIx n)) (bW S (fIx d))) - (bW S (fIx n)))), ((pV S (fIx st) 2) + (t - (((pV S (fIx st) 2) - (bD S (fIx n))) - ((pV S (fIx st) 0) + (fHf t))))), (nI (fIx d)), (fHf ((fMx (bW S (fIx n)) (bW S (fIx d))) - (bW S (fIx d)))), (-((pV S (fIx st) 5) + (t - (((pV S (fIx st) 0) - (fHf t)) - ((bH S (fIx d)) - (pV S (fIx st) 5))))))]) 0 0 (md_R.of (np := np95) hT hB : md_R G o A M_94 0 (nI (fSz (fIx st))) (fs_push S ((fMx (bW S (fIx n)) (bW S (fIx d))), (((pV S (fIx st) 2) + (t - (((pV S (fIx st) 2) - (bD S (fIx n))) - ((pV S (fIx st) 0) + (fHf t))))) + (bH S (fIx n))), ((bD S (fIx d)) + ((pV S (fIx st) 5) + (t - (((pV S (fIx st) 0) - (fHf t)) - ((bH S (fIx d)) - (pV S (fIx st) 5)))))), [(nI (fIx n)), (fHf ((fMx (bW S (fIx n)) (bW S (fIx d))) - (bW S (fIx n)))), ((pV S (fIx st) 2) + (t - (((pV S (fIx st) 2) - (bD S (fIx n))) - ((pV S (fIx st) 0) + (fHf t))))), (nI (fIx d)), (fHf ((fMx (bW S (fIx n)) (bW S (fIx d))) - (bW S (fIx d)))), (-((pV S (fIx st) 5) + (t - (((pV S (fIx st) 0) - (fHf t)) - ((bH S (fIx d)) - (pV S (fIx st) 5))))))], 0, 0))) (by simp) (-1) 0 (((pV S (fIx st) 0) + (fHf t)) - t)) (g_B (n := 3) htb wd661 wd3 wd658 (by decide +kernel) ⟨Nat.le_of_ble_eq_true rfl, Nat.le_of_ble_eq_true rfl⟩) (htb _ wd660) (htb _ ws34) hE hP hS hT.1 rfl rfl rfl (Nat.le_of_ble_eq_true rfl) dX4_fraction_423 ⟨Nat.le_of_ble_eq_true rfl, Nat.le_of_ble_eq_true rfl⟩ (fun v9 M9 H locs hpo hP hz hS => ?_) (fun x9 E9 cell9 H9 locs9 hE9 => hE9.elim)
                    obtain ⟨rfl, hRn, hkn⟩ := hpo
                    obtain ⟨M_97, hM_97⟩ : ∃ z9 : mw_M, z9 = M9 := ⟨_, rfl⟩
                    rw [← hM_97] at hP hRn hkn
                    have hk := md_keeps.tr hk hkn
                    have hRn : md_R G o A M_97 0 (nI (fSz (fIx st))) (fs_push S ((fMx (bW S (fIx n)) (bW S (fIx d))), (((pV S (fIx st) 2) + (t - (((pV S (fIx st) 2) - (bD S (fIx n))) - ((pV S (fIx st) 0) + (fHf t))))) + (bH S (fIx n))), ((bD S (fIx d)) + ((pV S (fIx st) 5) + (t - (((pV S (fIx st) 0) - (fHf t)) - ((bH S (fIx d)) - (pV S (fIx st) 5)))))), [(nI (fIx n)), (fHf ((fMx (bW S (fIx n)) (bW S (fIx d))) - (bW S (fIx n)))), ((pV S (fIx st) 2) + (t - (((pV S (fIx st) 2) - (bD S (fIx n))) - ((pV S (fIx st) 0) + (fHf t))))), (nI (fIx d)), (fHf ((fMx (bW S (fIx n)) (bW S (fIx d))) - (bW S (fIx d)))), (-((pV S (fIx st) 5) + (t - (((pV S (fIx st) 0) - (fHf t)) - ((bH S (fIx d)) - (pV S (fIx st) 5)))))), (-1), 0, (((pV S (fIx st) 0) + (fHf t)) - t)], 0, 0)) := hRn
                    obtain ⟨np98, bg98, g98, hT, hB⟩ := id hRn
                    rw [sN_push] at hT
                    have hT : md_at G o A M_97 0 (sSp S) (sSh S) (nI (sN S + 1)) (nI np98) (nI (fSz (fIx st))) g98 := hT
                    refine W.eq (g2 := F0 m 426 ls []) rfl ?_
                    refine lv_aload_n hx hb dX4_fraction_426 rfl (lv_at hl 6 rfl) ?_
                    refine mw_get (D := gD G) (ci := 4) (v := .ref (A 6)) (C := RX4) (T := TX4) (N := 21) hx hb htb inX4 hown hK hP hT.1 rfl 10 (by decide) (htb _ wd534) (fun _ h9 => h9) rfl dX4_fraction_427 ?_
                    refine lv_iload hx hb dX4_fraction_430 (lv_at hl 0 rfl) ?_
                    refine lv_iload hx hb dX4_fraction_432 (lv_at hl 1 rfl) ?_
                    refine mw_iast hx hb hK hP hS 0 (show M_97 (A 6) = some (.inl (gI G, 120, .inl (g98 6))) from hT.2.1 6 (by decide)) (hT.2.2.2.2 6 (by decide)) rfl (by exact vp_in_nI (show (sN S) < 120 by have := hle; omega) (by decide)) dX4_fraction_434 (fun H locs hP hS => ?_)
                    rw [nI_clamp (show (sN S) < 2 ^ 31 by have := hle; omega)] at hP
                    obtain ⟨M_99, hM_99⟩ : ∃ z9 : mw_M, z9 = mw_up M_97 (A 6) (.inl (gI G, 120, .inl (upd (g98 6) (sN S) (fMx (bW S (fIx n)) (bW S (fIx d)))))) := ⟨_, rfl⟩
                    have hP : mw_P (gD G) gx_cl M_99 H := by rw [hM_99]; exact hP
                    obtain ⟨g_100, hg_100⟩ : ∃ z9, z9 = ug g98 6 (sN S) (fMx (bW S (fIx n)) (bW S (fIx d))) := ⟨_, rfl⟩
                    have hT : md_at G o A M_99 0 (sSp S) (sSh S) (nI (sN S + 1)) (nI np98) (nI (fSz (fIx st))) g_100 := by rw [hg_100]; exact md_at.put hT (by decide) rfl rfl hM_99
                    have hk : md_keeps o A M M_99 := md_keeps.arr (j := 6) hk (by decide) hM_99
                    have hB : md_ab np98 bg98 g_100 (fs_push S ((fMx (bW S (fIx n)) (bW S (fIx d))), (((pV S (fIx st) 2) + (t - (((pV S (fIx st) 2) - (bD S (fIx n))) - ((pV S (fIx st) 0) + (fHf t))))) + (bH S (fIx n))), ((bD S (fIx d)) + ((pV S (fIx st) 5) + (t - (((pV S (fIx st) 0) - (fHf t)) - ((bH S (fIx d)) - (pV S (fIx st) 5)))))), [(nI (fIx n)), (fHf ((fMx (bW S (fIx n)) (bW S (fIx d))) - (bW S (fIx n)))), ((pV S (fIx st) 2) + (t - (((pV S (fIx st) 2) - (bD S (fIx n))) - ((pV S (fIx st) 0) + (fHf t))))), (nI (fIx d)), (fHf ((fMx (bW S (fIx n)) (bW S (fIx d))) - (bW S (fIx d)))), (-((pV S (fIx st) 5) + (t - (((pV S (fIx st) 0) - (fHf t)) - ((bH S (fIx d)) - (pV S (fIx st) 5)))))), (-1), 0, (((pV S (fIx st) 0) + (fHf t)) - t)], (fMx (bW S (fIx n)) (bW S (fIx d))), 0)) := by rw [hg_100]; exact md_ab.set6 hB _
                    refine lv_aload_n hx hb dX4_fraction_435 rfl (lv_at hl 6 rfl) ?_
                    refine mw_get (D := gD G) (ci := 4) (v := .ref (A 7)) (C := RX4) (T := TX4) (N := 21) hx hb htb inX4 hown hK hP hT.1 rfl 11 (by decide) (htb _ wd535) (fun _ h9 => h9) rfl dX4_fraction_436 ?_
                    refine lv_iload hx hb dX4_fraction_439 (lv_at hl 0 rfl) ?_
                    refine lv_iload hx hb dX4_fraction_441 (lv_at hl 10 rfl) ?_
                    refine mw_iast hx hb hK hP hS 0 (show M_99 (A 7) = some (.inl (gI G, 120, .inl (g_100 7))) from hT.2.1 7 (by decide)) (hT.2.2.2.2 7 (by decide)) rfl (by exact vp_in_nI (show (sN S) < 120 by have := hle; omega) (by decide)) dX4_fraction_443 (fun H locs hP hS => ?_)
                    rw [nI_clamp (show (sN S) < 2 ^ 31 by have := hle; omega)] at hP
                    obtain ⟨M_101, hM_101⟩ : ∃ z9 : mw_M, z9 = mw_up M_99 (A 7) (.inl (gI G, 120, .inl (upd (g_100 7) (sN S) t))) := ⟨_, rfl⟩
                    have hP : mw_P (gD G) gx_cl M_101 H := by rw [hM_101]; exact hP
                    obtain ⟨g_102, hg_102⟩ : ∃ z9, z9 = ug g_100 7 (sN S) t := ⟨_, rfl⟩
                    have hT : md_at G o A M_101 0 (sSp S) (sSh S) (nI (sN S + 1)) (nI np98) (nI (fSz (fIx st))) g_102 := by rw [hg_102]; exact md_at.put hT (by decide) rfl rfl hM_101
                    have hk : md_keeps o A M M_101 := md_keeps.arr (j := 7) hk (by decide) hM_101
                    have hB : md_ab np98 bg98 g_102 (fs_push S ((fMx (bW S (fIx n)) (bW S (fIx d))), (((pV S (fIx st) 2) + (t - (((pV S (fIx st) 2) - (bD S (fIx n))) - ((pV S (fIx st) 0) + (fHf t))))) + (bH S (fIx n))), ((bD S (fIx d)) + ((pV S (fIx st) 5) + (t - (((pV S (fIx st) 0) - (fHf t)) - ((bH S (fIx d)) - (pV S (fIx st) 5)))))), [(nI (fIx n)), (fHf ((fMx (bW S (fIx n)) (bW S (fIx d))) - (bW S (fIx n)))), ((pV S (fIx st) 2) + (t - (((pV S (fIx st) 2) - (bD S (fIx n))) - ((pV S (fIx st) 0) + (fHf t))))), (nI (fIx d)), (fHf ((fMx (bW S (fIx n)) (bW S (fIx d))) - (bW S (fIx d)))), (-((pV S (fIx st) 5) + (t - (((pV S (fIx st) 0) - (fHf t)) - ((bH S (fIx d)) - (pV S (fIx st) 5)))))), (-1), 0, (((pV S (fIx st) 0) + (fHf t)) - t)], (fMx (bW S (fIx n)) (bW S (fIx d))), t)) := by rw [hg_102]; exact md_ab.set7 hB _
                    refine lv_iload hx hb dX4_fraction_444 (lv_at hl 0 rfl) ?_
                    have hex : ex_fraction S st n d t = 0 := by rw [ex_fraction, if_neg (fun z9 => z9 ⟨kb_5, kb_7⟩), if_neg (fun z9 => z9 ⟨kb_12, kb_14⟩), if_neg (fun z9 => z9 kb_16)]
                    have hre : re_fraction S st n d t = ((fMx (bW S (fIx n)) (bW S (fIx d))), (((pV S (fIx st) 2) + (t - (((pV S (fIx st) 2) - (bD S (fIx n))) - ((pV S (fIx st) 0) + (fHf t))))) + (bH S (fIx n))), ((bD S (fIx d)) + ((pV S (fIx st) 5) + (t - (((pV S (fIx st) 0) - (fHf t)) - ((bH S (fIx d)) - (pV S (fIx st) 5)))))), [(nI (fIx n)), (fHf ((fMx (bW S (fIx n)) (bW S (fIx d))) - (bW S (fIx n)))), ((pV S (fIx st) 2) + (t - (((pV S (fIx st) 2) - (bD S (fIx n))) - ((pV S (fIx st) 0) + (fHf t))))), (nI (fIx d)), (fHf ((fMx (bW S (fIx n)) (bW S (fIx d))) - (bW S (fIx d)))), (-((pV S (fIx st) 5) + (t - (((pV S (fIx st) 0) - (fHf t)) - ((bH S (fIx d)) - (pV S (fIx st) 5)))))), (-1), 0, (((pV S (fIx st) 0) + (fHf t)) - t)], (fMx (bW S (fIx n)) (bW S (fIx d))), t) := by simp only [re_fraction, fs_fb, fs_fb1, fs_fb2, fs_fb3, fs_fl, fs_fl1, fs_fl3, if_neg c_15, if_neg c_21, if_neg c_22, if_neg c_48, if_neg c_76, fMx0n c_48, fMx0n c_76, Int32.add_zero]
                    exact mx_iret (v := (nI (sN S))) (M' := M_101) hx hb hr hlocks hP hS ⟨by rw [hex]; rfl, ⟨_, by rw [hex, if_pos rfl, hre]; exact (md_R.of (np := np98) hT hB : md_R G o A M_101 0 (nI (fSz (fIx st))) (fs_push S ((fMx (bW S (fIx n)) (bW S (fIx d))), (((pV S (fIx st) 2) + (t - (((pV S (fIx st) 2) - (bD S (fIx n))) - ((pV S (fIx st) 0) + (fHf t))))) + (bH S (fIx n))), ((bD S (fIx d)) + ((pV S (fIx st) 5) + (t - (((pV S (fIx st) 0) - (fHf t)) - ((bH S (fIx d)) - (pV S (fIx st) 5)))))), [(nI (fIx n)), (fHf ((fMx (bW S (fIx n)) (bW S (fIx d))) - (bW S (fIx n)))), ((pV S (fIx st) 2) + (t - (((pV S (fIx st) 2) - (bD S (fIx n))) - ((pV S (fIx st) 0) + (fHf t))))), (nI (fIx d)), (fHf ((fMx (bW S (fIx n)) (bW S (fIx d))) - (bW S (fIx d)))), (-((pV S (fIx st) 5) + (t - (((pV S (fIx st) 0) - (fHf t)) - ((bH S (fIx d)) - (pV S (fIx st) 5)))))), (-1), 0, (((pV S (fIx st) 0) + (fHf t)) - t)], (fMx (bW S (fIx n)) (bW S (fIx d))), t)))⟩, hk⟩ dX4_fraction_446 (Nat.le_of_ble_eq_true rfl) (Nat.le_of_ble_eq_true rfl)
            · refine lv_aload_n hx hb dX4_fraction_78 rfl (lv_at hl 0 rfl) ?_
              refine lv_iconst (v := 1) hx hb dX4_fraction_79 (by decide) ?_
              refine mw_callV (C := RX4) (As := [.int 1]) (rest := []) hx hb hml hown hl (kX4_p l htr G H.size M_19 o A 0 S (fIx st) 1 h_st (by decide) (⟨np20, bg20, g20, hT, hB⟩ : md_R G o A M_19 0 (nI (fSz (fIx st))) S)) (g_B (n := 1) htb wd679 wd3 wd676 (by decide +kernel) ⟨Nat.le_of_ble_eq_true rfl, Nat.le_of_ble_eq_true rfl⟩) (htb _ wd678) (htb _ ws36) hE hP hS hT.1 rfl rfl rfl (Nat.le_of_ble_eq_true rfl) dX4_fraction_80 ⟨Nat.le_of_ble_eq_true rfl, Nat.le_of_ble_eq_true rfl⟩ (fun v9 M9 H locs hpo hP hz hS => ?_) (fun x9 E9 cell9 H9 locs9 hE9 => hE9.elim)
              obtain ⟨rfl, rfl⟩ := hpo
              refine W.eq (g2 := F0 m 83 ls [.int (pV S (fIx st) 1)]) rfl ?_
              refine lv_goto (tgt := 104) hx hb dX4_fraction_83 (by decide) ?_
              refine lv_istore (lv' := [(5, .int (pV S (fIx st) 1)), (0, .ref o), (1, .int (nI (fIx st))), (2, .int (nI (fIx n))), (3, .int (nI (fIx d))), (4, .int t)]) hx hb dX4_fraction_104 hl (by decide) rfl (fun ls hl => ?_)
              refine lv_iload_n hx hb dX4_fraction_106 rfl (lv_at hl 2 rfl) ?_
              refine lv_if_ne (tgt := 118) hx hb dX4_fraction_107 (by decide) (fun c_103 => absurd c_21 c_103) (fun c_103 => ?_)
              refine lv_aload_n hx hb dX4_fraction_110 rfl (lv_at hl 1 rfl) ?_
              refine lv_iconst (v := 4) hx hb dX4_fraction_111 (by decide) ?_
              refine mw_callV (C := RX4) (As := [.int 4]) (rest := []) hx hb hml hown hl (kX4_p l htr G H.size M_19 o A 0 S (fIx st) 4 h_st (by decide) (⟨np20, bg20, g20, hT, hB⟩ : md_R G o A M_19 0 (nI (fSz (fIx st))) S)) (g_B (n := 1) htb wd679 wd3 wd676 (by decide +kernel) ⟨Nat.le_of_ble_eq_true rfl, Nat.le_of_ble_eq_true rfl⟩) (htb _ wd678) (htb _ ws36) hE hP hS hT.1 rfl rfl rfl (Nat.le_of_ble_eq_true rfl) dX4_fraction_112 ⟨Nat.le_of_ble_eq_true rfl, Nat.le_of_ble_eq_true rfl⟩ (fun v9 M9 H locs hpo hP hz hS => ?_) (fun x9 E9 cell9 H9 locs9 hE9 => hE9.elim)
              obtain ⟨rfl, rfl⟩ := hpo
              refine W.eq (g2 := F0 m 115 ls [.int (pV S (fIx st) 4)]) rfl ?_
              refine lv_goto (tgt := 123) hx hb dX4_fraction_115 (by decide) ?_
              refine lv_istore (lv' := [(6, .int (pV S (fIx st) 4)), (5, .int (pV S (fIx st) 1)), (0, .ref o), (1, .int (nI (fIx st))), (2, .int (nI (fIx n))), (3, .int (nI (fIx d))), (4, .int t)]) hx hb dX4_fraction_123 hl (by decide) rfl (fun ls hl => ?_)
              refine lv_iload hx hb dX4_fraction_125 (lv_at hl 6 rfl) ?_
              refine mw_callS (As := [.int t]) (rest := []) hx hb hml hown hl (kX4_half l htr G H.size M_19 t) (g_B (n := 1) htb wd682 wd3 wd680 (by decide +kernel) ⟨Nat.le_of_ble_eq_true rfl, Nat.le_of_ble_eq_true rfl⟩) (htb _ wd681) hE hP hS rfl rfl (Nat.le_of_ble_eq_true rfl) dX4_fraction_127 ⟨Nat.le_of_ble_eq_true rfl, Nat.le_of_ble_eq_true rfl⟩ (fun v9 M9 H locs hpo hP hz hS => ?_) (fun x9 E9 cell9 H9 locs9 hE9 => hE9.elim)
              obtain ⟨rfl, rfl⟩ := hpo
              refine W.eq (g2 := F0 m 130 ls [.int (fHf t)]) rfl ?_
              refine lv_istore (lv' := [(7, .int (fHf t)), (6, .int (pV S (fIx st) 4)), (5, .int (pV S (fIx st) 1)), (0, .ref o), (1, .int (nI (fIx st))), (2, .int (nI (fIx n))), (3, .int (nI (fIx d))), (4, .int t)]) hx hb dX4_fraction_130 hl (by decide) rfl (fun ls hl => ?_)
              refine lv_iload hx hb dX4_fraction_132 (lv_at hl 7 rfl) ?_
              refine lv_if_ne (tgt := 227) hx hb dX4_fraction_134 (by decide) (fun c_104 => ?_) (fun c_104 => ?_)
              · have t0_105 : ¬ t ≤ 0 := fun z9 => c_104 (Int32.le_antisymm z9 (Int32.not_lt.mp kb_14.1))
                refine lv_iload_n hx hb dX4_fraction_227 rfl (lv_at hl 4 rfl) ?_
                refine lv_if_ne (tgt := 238) hx hb dX4_fraction_228 (by decide) (fun c_106 => absurd c_21 c_106) (fun c_106 => ?_)
                refine lv_iconst (v := 3) hx hb dX4_fraction_231 (by decide) ?_
                refine lv_iload hx hb dX4_fraction_232 (lv_at hl 7 rfl) ?_
                refine lv_imul hx hb dX4_fraction_234 ?_
                refine lv_goto (tgt := 240) hx hb dX4_fraction_235 (by decide) ?_
                refine lv_istore (lv' := [(8, .int (3 * t)), (7, .int (fHf t)), (6, .int (pV S (fIx st) 4)), (5, .int (pV S (fIx st) 1)), (0, .ref o), (1, .int (nI (fIx st))), (2, .int (nI (fIx n))), (3, .int (nI (fIx d))), (4, .int t)]) hx hb dX4_fraction_240 hl (by decide) rfl (fun ls hl => ?_)
                refine lv_iload hx hb dX4_fraction_242 (lv_at hl 0 rfl) ?_
                refine lv_iload hx hb dX4_fraction_244 (lv_at hl 3 rfl) ?_
                refine lv_aload_n hx hb dX4_fraction_246 rfl (lv_at hl 4 rfl) ?_
                refine mw_get (D := gD G) (ci := 4) (v := .ref (A 3)) (C := RX4) (T := TX4) (N := 21) hx hb htb inX4 hown hK hP hT.1 rfl 7 (by decide) (htb _ wd531) (fun _ h9 => h9) rfl dX4_fraction_247 ?_
                refine lv_iload_n hx hb dX4_fraction_250 rfl (lv_at hl 6 rfl) ?_
                refine mw_iald hx hb hK hP 0 (show M_19 (A 3) = some (.inl (gI G, 120, .inl (g20 3))) from hT.2.1 3 (by decide)) rfl (by exact vp_in_nI (show (fIx n) < 120 by have := hle; omega) (by decide)) dX4_fraction_251 ?_
                refine W.eq (g2 := F0 m 252 ls [.int (bD S (fIx n)), .int (pV S (fIx st) 1), .int (3 * t)]) (by rw [nI_clamp (show (fIx n) < 2 ^ 31 by have := hle; omega), hB.D h_n]) ?_
                refine lv_isub hx hb dX4_fraction_252 ?_
                refine lv_aload_n hx hb dX4_fraction_253 rfl (lv_at hl 4 rfl) ?_
                refine lv_iconst (v := 0) hx hb dX4_fraction_254 (by decide) ?_
                refine mw_callV (C := RX4) (As := [.int 0]) (rest := [.int ((pV S (fIx st) 1) - (bD S (fIx n))), .int (3 * t)]) hx hb hml hown hl (kX4_p l htr G H.size M_19 o A 0 S (fIx st) 0 h_st (by decide) (⟨np20, bg20, g20, hT, hB⟩ : md_R G o A M_19 0 (nI (fSz (fIx st))) S)) (g_B (n := 1) htb wd679 wd3 wd676 (by decide +kernel) ⟨Nat.le_of_ble_eq_true rfl, Nat.le_of_ble_eq_true rfl⟩) (htb _ wd678) (htb _ ws36) hE hP hS hT.1 rfl rfl rfl (Nat.le_of_ble_eq_true rfl) dX4_fraction_255 ⟨Nat.le_of_ble_eq_true rfl, Nat.le_of_ble_eq_true rfl⟩ (fun v9 M9 H locs hpo hP hz hS => ?_) (fun x9 E9 cell9 H9 locs9 hE9 => hE9.elim)
                obtain ⟨rfl, rfl⟩ := hpo
                refine W.eq (g2 := F0 m 258 ls [.int (pV S (fIx st) 0), .int ((pV S (fIx st) 1) - (bD S (fIx n))), .int (3 * t)]) rfl ?_
                refine lv_iload hx hb dX4_fraction_258 (lv_at hl 1 rfl) ?_
                refine lv_iadd hx hb dX4_fraction_260 ?_
                refine lv_isub hx hb dX4_fraction_261 ?_
                refine lv_isub hx hb dX4_fraction_262 ?_
                refine lv_istore (lv' := [(9, .int ((3 * t) - (((pV S (fIx st) 1) - (bD S (fIx n))) - ((pV S (fIx st) 0) + (fHf t))))), (8, .int (3 * t)), (7, .int (fHf t)), (6, .int (pV S (fIx st) 4)), (5, .int (pV S (fIx st) 1)), (0, .ref o), (1, .int (nI (fIx st))), (2, .int (nI (fIx n))), (3, .int (nI (fIx d))), (4, .int t)]) hx hb dX4_fraction_263 hl (by decide) rfl (fun ls hl => ?_)
                refine lv_iload hx hb dX4_fraction_265 (lv_at hl 1 rfl) ?_
                refine lv_aload_n hx hb dX4_fraction_267 rfl (lv_at hl 5 rfl) ?_
                refine lv_iconst (v := 0) hx hb dX4_fraction_268 (by decide) ?_
                refine mw_callV (C := RX4) (As := [.int 0]) (rest := [.int (3 * t)]) hx hb hml hown hl (kX4_p l htr G H.size M_19 o A 0 S (fIx st) 0 h_st (by decide) (⟨np20, bg20, g20, hT, hB⟩ : md_R G o A M_19 0 (nI (fSz (fIx st))) S)) (g_B (n := 1) htb wd679 wd3 wd676 (by decide +kernel) ⟨Nat.le_of_ble_eq_true rfl, Nat.le_of_ble_eq_true rfl⟩) (htb _ wd678) (htb _ ws36) hE hP hS hT.1 rfl rfl rfl (Nat.le_of_ble_eq_true rfl) dX4_fraction_269 ⟨Nat.le_of_ble_eq_true rfl, Nat.le_of_ble_eq_true rfl⟩ (fun v9 M9 H locs hpo hP hz hS => ?_) (fun x9 E9 cell9 H9 locs9 hE9 => hE9.elim)
                obtain ⟨rfl, rfl⟩ := hpo
                refine W.eq (g2 := F0 m 272 ls [.int (pV S (fIx st) 0), .int (3 * t)]) rfl ?_
                refine lv_iload hx hb dX4_fraction_272 (lv_at hl 2 rfl) ?_
                refine lv_isub hx hb dX4_fraction_274 ?_
                refine lv_aload_n hx hb dX4_fraction_275 rfl (lv_at hl 5 rfl) ?_
                refine mw_get (D := gD G) (ci := 4) (v := .ref (A 2)) (C := RX4) (T := TX4) (N := 21) hx hb htb inX4 hown hK hP hT.1 rfl 6 (by decide) (htb _ wd530) (fun _ h9 => h9) rfl dX4_fraction_276 ?_
                refine lv_iload_n hx hb dX4_fraction_279 rfl (lv_at hl 8 rfl) ?_
                refine mw_iald hx hb hK hP 0 (show M_19 (A 2) = some (.inl (gI G, 120, .inl (g20 2))) from hT.2.1 2 (by decide)) rfl (by exact vp_in_nI (show (fIx d) < 120 by have := hle; omega) (by decide)) dX4_fraction_280 ?_
                refine W.eq (g2 := F0 m 281 ls [.int (bH S (fIx d)), .int ((pV S (fIx st) 0) - (fHf t)), .int (3 * t)]) (by rw [nI_clamp (show (fIx d) < 2 ^ 31 by have := hle; omega), hB.H h_d]) ?_
                refine lv_iload hx hb dX4_fraction_281 (lv_at hl 3 rfl) ?_
                refine lv_isub hx hb dX4_fraction_283 ?_
                refine lv_isub hx hb dX4_fraction_284 ?_
                refine lv_isub hx hb dX4_fraction_285 ?_
                refine lv_istore (lv' := [(10, .int ((3 * t) - (((pV S (fIx st) 0) - (fHf t)) - ((bH S (fIx d)) - (pV S (fIx st) 4))))), (9, .int ((3 * t) - (((pV S (fIx st) 1) - (bD S (fIx n))) - ((pV S (fIx st) 0) + (fHf t))))), (8, .int (3 * t)), (7, .int (fHf t)), (6, .int (pV S (fIx st) 4)), (5, .int (pV S (fIx st) 1)), (0, .ref o), (1, .int (nI (fIx st))), (2, .int (nI (fIx n))), (3, .int (nI (fIx d))), (4, .int t)]) hx hb dX4_fraction_286 hl (by decide) rfl (fun ls hl => ?_)
                refine lv_iload hx hb dX4_fraction_288 (lv_at hl 1 rfl) ?_
                refine lv_if_le (tgt := 301) hx hb dX4_fraction_290 (by decide) (fun c_107 => ?_) (fun c_107 => ?_)
                · refine lv_iload hx hb dX4_fraction_301 (lv_at hl 5 rfl) ?_
                  refine lv_istore (lv' := [(5, .int (pV S (fIx st) 1)), (10, .int ((3 * t) - (((pV S (fIx st) 0) - (fHf t)) - ((bH S (fIx d)) - (pV S (fIx st) 4))))), (9, .int ((3 * t) - (((pV S (fIx st) 1) - (bD S (fIx n))) - ((pV S (fIx st) 0) + (fHf t))))), (8, .int (3 * t)), (7, .int (fHf t)), (6, .int (pV S (fIx st) 4)), (0, .ref o), (1, .int (nI (fIx st))), (2, .int (nI (fIx n))), (3, .int (nI (fIx d))), (4, .int t)]) hx hb dX4_fraction_303 hl (by decide) rfl (fun ls hl => ?_)
                  refine lv_iload hx hb dX4_fraction_305 (lv_at hl 1 rfl) ?_
                  refine lv_if_le (tgt := 318) hx hb dX4_fraction_307 (by decide) (fun c_108 => ?_) (fun c_108 => ?_)
                  · refine lv_iload hx hb dX4_fraction_318 (lv_at hl 5 rfl) ?_
                    refine lv_istore (lv' := [(6, .int (pV S (fIx st) 4)), (5, .int (pV S (fIx st) 1)), (10, .int ((3 * t) - (((pV S (fIx st) 0) - (fHf t)) - ((bH S (fIx d)) - (pV S (fIx st) 4))))), (9, .int ((3 * t) - (((pV S (fIx st) 1) - (bD S (fIx n))) - ((pV S (fIx st) 0) + (fHf t))))), (8, .int (3 * t)), (7, .int (fHf t)), (0, .ref o), (1, .int (nI (fIx st))), (2, .int (nI (fIx n))), (3, .int (nI (fIx d))), (4, .int t)]) hx hb dX4_fraction_320 hl (by decide) rfl (fun ls hl => ?_)
                    refine lv_aload_n hx hb dX4_fraction_322 rfl (lv_at hl 6 rfl) ?_
                    refine mw_get (D := gD G) (ci := 4) (v := .ref (A 1)) (C := RX4) (T := TX4) (N := 21) hx hb htb inX4 hown hK hP hT.1 rfl 5 (by decide) (htb _ wd529) (fun _ h9 => h9) rfl dX4_fraction_323 ?_
                    refine lv_iload_n hx hb dX4_fraction_326 rfl (lv_at hl 8 rfl) ?_
                    refine mw_iald hx hb hK hP 0 (show M_19 (A 1) = some (.inl (gI G, 120, .inl (g20 1))) from hT.2.1 1 (by decide)) rfl (by exact vp_in_nI (show (fIx n) < 120 by have := hle; omega) (by decide)) dX4_fraction_327 ?_
                    refine W.eq (g2 := F0 m 328 ls [.int (bW S (fIx n))]) (by rw [nI_clamp (show (fIx n) < 2 ^ 31 by have := hle; omega), hB.W h_n]) ?_
                    refine lv_aload_n hx hb dX4_fraction_328 rfl (lv_at hl 6 rfl) ?_
                    refine mw_get (D := gD G) (ci := 4) (v := .ref (A 1)) (C := RX4) (T := TX4) (N := 21) hx hb htb inX4 hown hK hP hT.1 rfl 5 (by decide) (htb _ wd529) (fun _ h9 => h9) rfl dX4_fraction_329 ?_
                    refine lv_iload_n hx hb dX4_fraction_332 rfl (lv_at hl 9 rfl) ?_
                    refine mw_iald hx hb hK hP 0 (show M_19 (A 1) = some (.inl (gI G, 120, .inl (g20 1))) from hT.2.1 1 (by decide)) rfl (by exact vp_in_nI (show (fIx d) < 120 by have := hle; omega) (by decide)) dX4_fraction_333 ?_
                    refine W.eq (g2 := F0 m 334 ls [.int (bW S (fIx d)), .int (bW S (fIx n))]) (by rw [nI_clamp (show (fIx d) < 2 ^ 31 by have := hle; omega), hB.W h_d]) ?_
                    refine mw_callS (As := [.int (bW S (fIx n)), .int (bW S (fIx d))]) (rest := []) hx hb hml hown hl (kX4_greater l htr G H.size M_19 (bW S (fIx n)) (bW S (fIx d))) (g_B (n := 2) htb wd664 wd3 wd662 (by decide +kernel) ⟨Nat.le_of_ble_eq_true rfl, Nat.le_of_ble_eq_true rfl⟩) (htb _ wd663) hE hP hS rfl rfl (Nat.le_of_ble_eq_true rfl) dX4_fraction_334 ⟨Nat.le_of_ble_eq_true rfl, Nat.le_of_ble_eq_true rfl⟩ (fun v9 M9 H locs hpo hP hz hS => ?_) (fun x9 E9 cell9 H9 locs9 hE9 => hE9.elim)
                    obtain ⟨rfl, rfl⟩ := hpo
                    refine W.eq (g2 := F0 m 337 ls [.int (fMx (bW S (fIx n)) (bW S (fIx d)))]) rfl ?_
                    refine lv_istore (lv' := [(8, .int (fMx (bW S (fIx n)) (bW S (fIx d)))), (6, .int (pV S (fIx st) 4)), (5, .int (pV S (fIx st) 1)), (10, .int ((3 * t) - (((pV S (fIx st) 0) - (fHf t)) - ((bH S (fIx d)) - (pV S (fIx st) 4))))), (9, .int ((3 * t) - (((pV S (fIx st) 1) - (bD S (fIx n))) - ((pV S (fIx st) 0) + (fHf t))))), (7, .int (fHf t)), (0, .ref o), (1, .int (nI (fIx st))), (2, .int (nI (fIx n))), (3, .int (nI (fIx d))), (4, .int t)]) hx hb dX4_fraction_337 hl (by decide) rfl (fun ls hl => ?_)
                    refine lv_aload_n hx hb dX4_fraction_339 rfl (lv_at hl 6 rfl) ?_
                    refine lv_iload hx hb dX4_fraction_340 (lv_at hl 0 rfl) ?_
                    refine lv_iload hx hb dX4_fraction_342 (lv_at hl 2 rfl) ?_
                    refine lv_aload_n hx hb dX4_fraction_344 rfl (lv_at hl 6 rfl) ?_
                    refine mw_get (D := gD G) (ci := 4) (v := .ref (A 2)) (C := RX4) (T := TX4) (N := 21) hx hb htb inX4 hown hK hP hT.1 rfl 6 (by decide) (htb _ wd530) (fun _ h9 => h9) rfl dX4_fraction_345 ?_
                    refine lv_iload_n hx hb dX4_fraction_348 rfl (lv_at hl 8 rfl) ?_
                    refine mw_iald hx hb hK hP 0 (show M_19 (A 2) = some (.inl (gI G, 120, .inl (g20 2))) from hT.2.1 2 (by decide)) rfl (by exact vp_in_nI (show (fIx n) < 120 by have := hle; omega) (by decide)) dX4_fraction_349 ?_
                    refine W.eq (g2 := F0 m 350 ls [.int (bH S (fIx n)), .int (pV S (fIx st) 1), .int (fMx (bW S (fIx n)) (bW S (fIx d))), .ref o]) (by rw [nI_clamp (show (fIx n) < 2 ^ 31 by have := hle; omega), hB.H h_n]) ?_
                    refine lv_iadd hx hb dX4_fraction_350 ?_
                    refine lv_aload_n hx hb dX4_fraction_351 rfl (lv_at hl 6 rfl) ?_
                    refine mw_get (D := gD G) (ci := 4) (v := .ref (A 3)) (C := RX4) (T := TX4) (N := 21) hx hb htb inX4 hown hK hP hT.1 rfl 7 (by decide) (htb _ wd531) (fun _ h9 => h9) rfl dX4_fraction_352 ?_
                    refine lv_iload_n hx hb dX4_fraction_355 rfl (lv_at hl 9 rfl) ?_
                    refine mw_iald hx hb hK hP 0 (show M_19 (A 3) = some (.inl (gI G, 120, .inl (g20 3))) from hT.2.1 3 (by decide)) rfl (by exact vp_in_nI (show (fIx d) < 120 by have := hle; omega) (by decide)) dX4_fraction_356 ?_
                    refine W.eq (g2 := F0 m 357 ls [.int (bD S (fIx d)), .int ((pV S (fIx st) 1) + (bH S (fIx n))), .int (fMx (bW S (fIx n)) (bW S (fIx d))), .ref o]) (by rw [nI_clamp (show (fIx d) < 2 ^ 31 by have := hle; omega), hB.D h_d]) ?_
                    refine lv_iload hx hb dX4_fraction_357 (lv_at hl 1 rfl) ?_
                    refine lv_iadd hx hb dX4_fraction_359 ?_
                    refine mw_callV (C := RX4) (As := [.int (fMx (bW S (fIx n)) (bW S (fIx d))), .int ((pV S (fIx st) 1) + (bH S (fIx n))), .int ((bD S (fIx d)) + (pV S (fIx st) 4))]) (rest := []) hx hb hml hown hl (kX4_make l htr G H.size M_19 o A 0 (nI (fSz (fIx st))) S (⟨np20, bg20, g20, hT, hB⟩ : md_R G o A M_19 0 (nI (fSz (fIx st))) S) (rmk_lt kb_16 hle) (fMx (bW S (fIx n)) (bW S (fIx d))) ((pV S (fIx st) 1) + (bH S (fIx n))) ((bD S (fIx d)) + (pV S (fIx st) 4))) (g_B (n := 3) htb wd613 wd3 wd610 (by decide +kernel) ⟨Nat.le_of_ble_eq_true rfl, Nat.le_of_ble_eq_true rfl⟩) (htb _ wd612) (htb _ ws26) hE hP hS hT.1 rfl rfl rfl (Nat.le_of_ble_eq_true rfl) dX4_fraction_360 ⟨Nat.le_of_ble_eq_true rfl, Nat.le_of_ble_eq_true rfl⟩ (fun v9 M9 H locs hpo hP hz hS => ?_) (fun x9 E9 cell9 H9 locs9 hE9 => hE9.elim)
                    have hle0 := hle
                    obtain ⟨rfl, hRn, hkn⟩ := hpo
                    obtain ⟨M_109, hM_109⟩ : ∃ z9 : mw_M, z9 = M9 := ⟨_, rfl⟩
                    rw [← hM_109] at hP hRn hkn
                    have hk := md_keeps.tr hk hkn
                    have hRn : md_R G o A M_109 0 (nI (fSz (fIx st))) (fs_push S ((fMx (bW S (fIx n)) (bW S (fIx d))), ((pV S (fIx st) 1) + (bH S (fIx n))), ((bD S (fIx d)) + (pV S (fIx st) 4)), [], 0, 0)) := hRn
                    obtain ⟨np110, bg110, g110, hT, hB⟩ := id hRn
                    rw [sN_push] at hT
                    have hT : md_at G o A M_109 0 (sSp S) (sSh S) (nI (sN S + 1)) (nI np110) (nI (fSz (fIx st))) g110 := hT
                    have hle : sN S + 1 ≤ 120 := by have := hB.1; rw [sN_push] at this; exact this
                    refine W.eq (g2 := F0 m 363 ls [.int (nI (sN S))]) rfl ?_
                    refine lv_istore (lv' := [(9, .int (nI (sN S))), (8, .int (fMx (bW S (fIx n)) (bW S (fIx d)))), (6, .int (pV S (fIx st) 4)), (5, .int (pV S (fIx st) 1)), (10, .int ((3 * t) - (((pV S (fIx st) 0) - (fHf t)) - ((bH S (fIx d)) - (pV S (fIx st) 4))))), (7, .int (fHf t)), (0, .ref o), (1, .int (nI (fIx st))), (2, .int (nI (fIx n))), (3, .int (nI (fIx d))), (4, .int t)]) hx hb dX4_fraction_363 hl (by decide) rfl (fun ls hl => ?_)
                    refine lv_aload_n hx hb dX4_fraction_365 rfl (lv_at hl 6 rfl) ?_
                    refine lv_iload_n hx hb dX4_fraction_366 rfl (lv_at hl 8 rfl) ?_
                    refine lv_iload hx hb dX4_fraction_367 (lv_at hl 1 rfl) ?_
                    refine lv_aload_n hx hb dX4_fraction_369 rfl (lv_at hl 6 rfl) ?_
                    refine mw_get (D := gD G) (ci := 4) (v := .ref (A 1)) (C := RX4) (T := TX4) (N := 21) hx hb htb inX4 hown hK hP hT.1 rfl 5 (by decide) (htb _ wd529) (fun _ h9 => h9) rfl dX4_fraction_370 ?_
                    refine lv_iload_n hx hb dX4_fraction_373 rfl (lv_at hl 8 rfl) ?_
                    refine mw_iald hx hb hK hP 0 (show M_109 (A 1) = some (.inl (gI G, 120, .inl (g110 1))) from hT.2.1 1 (by decide)) rfl (by exact vp_in_nI (show (fIx n) < 120 by have := hle; omega) (by decide)) dX4_fraction_374 ?_
                    refine W.eq (g2 := F0 m 375 ls [.int (bW S (fIx n)), .int (fMx (bW S (fIx n)) (bW S (fIx d))), .int (nI (fIx n)), .ref o]) (by rw [nI_clamp (show (fIx n) < 2 ^ 31 by have := hle; omega), hB.W (show (fIx n) < sN (fs_push S ((fMx (bW S (fIx n)) (bW S (fIx d))), ((pV S (fIx st) 1) + (bH S (fIx n))), ((bD S (fIx d)) + (pV S (fIx st) 4)), [], 0, 0)) by rw [sN_push]; omega), bW_push _ h_n]) ?_
                    refine lv_isub hx hb dX4_fraction_375 ?_
                    refine mw_callS (As := [.int ((fMx (bW S (fIx n)) (bW S (fIx d))) - (bW S (fIx n)))]) (rest := [.int (nI (fIx n)), .ref o]) hx hb hml hown hl (kX4_half l htr G H.size M_109 ((fMx (bW S (fIx n)) (bW S (fIx d))) - (bW S (fIx n)))) (g_B (n := 1) htb wd682 wd3 wd680 (by decide +kernel) ⟨Nat.le_of_ble_eq_true rfl, Nat.le_of_ble_eq_true rfl⟩) (htb _ wd681) hE hP hS rfl rfl (Nat.le_of_ble_eq_true rfl) dX4_fraction_376 ⟨Nat.le_of_ble_eq_true rfl, Nat.le_of_ble_eq_true rfl⟩ (fun v9 M9 H locs hpo hP hz hS => ?_) (fun x9 E9 cell9 H9 locs9 hE9 => hE9.elim)
                    obtain ⟨rfl, rfl⟩ := hpo
                    refine W.eq (g2 := F0 m 379 ls [.int (fHf ((fMx (bW S (fIx n)) (bW S (fIx d))) - (bW S (fIx n)))), .int (nI (fIx n)), .ref o]) rfl ?_
                    refine lv_iload hx hb dX4_fraction_379 (lv_at hl 3 rfl) ?_
                    refine mw_callV (C := RX4) (As := [.int (nI (fIx n)), .int (fHf ((fMx (bW S (fIx n)) (bW S (fIx d))) - (bW S (fIx n)))), .int (pV S (fIx st) 1)]) (rest := []) hx hb hml hown hl (kX4_lay l htr G H.size M_109 o A 0 (nI (fSz (fIx st))) S (fMx (bW S (fIx n)) (bW S (fIx d))) ((pV S (fIx st) 1) + (bH S (fIx n))) ((bD S (fIx d)) + (pV S (fIx st) 4)) ([]) 0 0 (md_R.of (np := np110) hT hB : md_R G o A M_109 0 (nI (fSz (fIx st))) (fs_push S ((fMx (bW S (fIx n)) (bW S (fIx d))), ((pV S (fIx st) 1) + (bH S (fIx n))), ((bD S (fIx d)) + (pV S (fIx st) 4)), [], 0, 0))) (by simp) (nI (fIx n)) (fHf ((fMx (bW S (fIx n)) (bW S (fIx d))) - (bW S (fIx n)))) (pV S (fIx st) 1)) (g_B (n := 3) htb wd661 wd3 wd658 (by decide +kernel) ⟨Nat.le_of_ble_eq_true rfl, Nat.le_of_ble_eq_true rfl⟩) (htb _ wd660) (htb _ ws34) hE hP hS hT.1 rfl rfl rfl (Nat.le_of_ble_eq_true rfl) dX4_fraction_381 ⟨Nat.le_of_ble_eq_true rfl, Nat.le_of_ble_eq_true rfl⟩ (fun v9 M9 H locs hpo hP hz hS => ?_) (fun x9 E9 cell9 H9 locs9 hE9 => hE9.elim)
                    obtain ⟨rfl, hRn, hkn⟩ := hpo
                    obtain ⟨M_111, hM_111⟩ : ∃ z9 : mw_M, z9 = M9 := ⟨_, rfl⟩
                    rw [← hM_111] at hP hRn hkn
                    have hk := md_keeps.tr hk hkn
                    have hRn : md_R G o A M_111 0 (nI (fSz (fIx st))) (fs_push S ((fMx (bW S (fIx n)) (bW S (fIx d))), ((pV S (fIx st) 1) + (bH S (fIx n))), ((bD S (fIx d)) + (pV S (fIx st) 4)), [(nI (fIx n)), (fHf ((fMx (bW S (fIx n)) (bW S (fIx d))) - (bW S (fIx n)))), (pV S (fIx st) 1)], 0, 0)) := hRn
                    obtain ⟨np112, bg112, g112, hT, hB⟩ := id hRn
                    rw [sN_push] at hT
                    have hT : md_at G o A M_111 0 (sSp S) (sSh S) (nI (sN S + 1)) (nI np112) (nI (fSz (fIx st))) g112 := hT
                    refine W.eq (g2 := F0 m 384 ls []) rfl ?_
                    refine lv_aload_n hx hb dX4_fraction_384 rfl (lv_at hl 6 rfl) ?_
                    refine lv_iload_n hx hb dX4_fraction_385 rfl (lv_at hl 9 rfl) ?_
                    refine lv_iload hx hb dX4_fraction_386 (lv_at hl 1 rfl) ?_
                    refine lv_aload_n hx hb dX4_fraction_388 rfl (lv_at hl 6 rfl) ?_
                    refine mw_get (D := gD G) (ci := 4) (v := .ref (A 1)) (C := RX4) (T := TX4) (N := 21) hx hb htb inX4 hown hK hP hT.1 rfl 5 (by decide) (htb _ wd529) (fun _ h9 => h9) rfl dX4_fraction_389 ?_
                    refine lv_iload_n hx hb dX4_fraction_392 rfl (lv_at hl 9 rfl) ?_
                    refine mw_iald hx hb hK hP 0 (show M_111 (A 1) = some (.inl (gI G, 120, .inl (g112 1))) from hT.2.1 1 (by decide)) rfl (by exact vp_in_nI (show (fIx d) < 120 by have := hle; omega) (by decide)) dX4_fraction_393 ?_
                    refine W.eq (g2 := F0 m 394 ls [.int (bW S (fIx d)), .int (fMx (bW S (fIx n)) (bW S (fIx d))), .int (nI (fIx d)), .ref o]) (by rw [nI_clamp (show (fIx d) < 2 ^ 31 by have := hle; omega), hB.W (show (fIx d) < sN (fs_push S ((fMx (bW S (fIx n)) (bW S (fIx d))), ((pV S (fIx st) 1) + (bH S (fIx n))), ((bD S (fIx d)) + (pV S (fIx st) 4)), [(nI (fIx n)), (fHf ((fMx (bW S (fIx n)) (bW S (fIx d))) - (bW S (fIx n)))), (pV S (fIx st) 1)], 0, 0)) by rw [sN_push]; omega), bW_push _ h_d]) ?_
                    refine lv_isub hx hb dX4_fraction_394 ?_
                    refine mw_callS (As := [.int ((fMx (bW S (fIx n)) (bW S (fIx d))) - (bW S (fIx d)))]) (rest := [.int (nI (fIx d)), .ref o]) hx hb hml hown hl (kX4_half l htr G H.size M_111 ((fMx (bW S (fIx n)) (bW S (fIx d))) - (bW S (fIx d)))) (g_B (n := 1) htb wd682 wd3 wd680 (by decide +kernel) ⟨Nat.le_of_ble_eq_true rfl, Nat.le_of_ble_eq_true rfl⟩) (htb _ wd681) hE hP hS rfl rfl (Nat.le_of_ble_eq_true rfl) dX4_fraction_395 ⟨Nat.le_of_ble_eq_true rfl, Nat.le_of_ble_eq_true rfl⟩ (fun v9 M9 H locs hpo hP hz hS => ?_) (fun x9 E9 cell9 H9 locs9 hE9 => hE9.elim)
                    obtain ⟨rfl, rfl⟩ := hpo
                    refine W.eq (g2 := F0 m 398 ls [.int (fHf ((fMx (bW S (fIx n)) (bW S (fIx d))) - (bW S (fIx d)))), .int (nI (fIx d)), .ref o]) rfl ?_
                    refine lv_iload hx hb dX4_fraction_398 (lv_at hl 2 rfl) ?_
                    refine lv_ineg hx hb dX4_fraction_400 ?_
                    refine mw_callV (C := RX4) (As := [.int (nI (fIx d)), .int (fHf ((fMx (bW S (fIx n)) (bW S (fIx d))) - (bW S (fIx d)))), .int (-(pV S (fIx st) 4))]) (rest := []) hx hb hml hown hl (kX4_lay l htr G H.size M_111 o A 0 (nI (fSz (fIx st))) S (fMx (bW S (fIx n)) (bW S (fIx d))) ((pV S (fIx st) 1) + (bH S (fIx n))) ((bD S (fIx d)) + (pV S (fIx st) 4)) ([(nI (fIx n)), (fHf ((fMx (bW S (fIx n)) (bW S (fIx d))) - (bW S (fIx n)))), (pV S (fIx st) 1)]) 0 0 (md_R.of (np := np112) hT hB : md_R G o A M_111 0 (nI (fSz (fIx st))) (fs_push S ((fMx (bW S (fIx n)) (bW S (fIx d))), ((pV S (fIx st) 1) + (bH S (fIx n))), ((bD S (fIx d)) + (pV S (fIx st) 4)), [(nI (fIx n)), (fHf ((fMx (bW S (fIx n)) (bW S (fIx d))) - (bW S (fIx n)))), (pV S (fIx st) 1)], 0, 0))) (by simp) (nI (fIx d)) (fHf ((fMx (bW S (fIx n)) (bW S (fIx d))) - (bW S (fIx d)))) (-(pV S (fIx st) 4))) (g_B (n := 3) htb wd661 wd3 wd658 (by decide +kernel) ⟨Nat.le_of_ble_eq_true rfl, Nat.le_of_ble_eq_true rfl⟩) (htb _ wd660) (htb _ ws34) hE hP hS hT.1 rfl rfl rfl (Nat.le_of_ble_eq_true rfl) dX4_fraction_401 ⟨Nat.le_of_ble_eq_true rfl, Nat.le_of_ble_eq_true rfl⟩ (fun v9 M9 H locs hpo hP hz hS => ?_) (fun x9 E9 cell9 H9 locs9 hE9 => hE9.elim)
                    obtain ⟨rfl, hRn, hkn⟩ := hpo
                    obtain ⟨M_113, hM_113⟩ : ∃ z9 : mw_M, z9 = M9 := ⟨_, rfl⟩
                    rw [← hM_113] at hP hRn hkn
                    have hk := md_keeps.tr hk hkn
                    have hRn : md_R G o A M_113 0 (nI (fSz (fIx st))) (fs_push S ((fMx (bW S (fIx n)) (bW S (fIx d))), ((pV S (fIx st) 1) + (bH S (fIx n))), ((bD S (fIx d)) + (pV S (fIx st) 4)), [(nI (fIx n)), (fHf ((fMx (bW S (fIx n)) (bW S (fIx d))) - (bW S (fIx n)))), (pV S (fIx st) 1), (nI (fIx d)), (fHf ((fMx (bW S (fIx n)) (bW S (fIx d))) - (bW S (fIx d)))), (-(pV S (fIx st) 4))], 0, 0)) := hRn
                    obtain ⟨np114, bg114, g114, hT, hB⟩ := id hRn
                    rw [sN_push] at hT
                    have hT : md_at G o A M_113 0 (sSp S) (sSh S) (nI (sN S + 1)) (nI np114) (nI (fSz (fIx st))) g114 := hT
                    refine W.eq (g2 := F0 m 404 ls []) rfl ?_
                    refine lv_iload hx hb dX4_fraction_404 (lv_at hl 10 rfl) ?_
                    refine lv_if_le (tgt := 444) hx hb dX4_fraction_406 (by decide) (fun c_115 => absurd c_115 t0_105) (fun c_115 => ?_)
                    refine lv_aload_n hx hb dX4_fraction_409 rfl (lv_at hl 6 rfl) ?_
                    refine lv_iconst (v := (-1)) hx hb dX4_fraction_410 (by decide) ?_
                    refine lv_iconst (v := 0) hx hb dX4_fraction_411 (by decide) ?_
                    refine lv_aload_n hx hb dX4_fraction_412 rfl (lv_at hl 6 rfl) ?_
                    refine lv_iconst (v := 0) hx hb dX4_fraction_413 (by decide) ?_
                    refine mw_callV (C := RX4) (As := [.int 0]) (rest := [.int 0, .int (-1), .ref o]) hx hb hml hown hl (kX4_p l htr G H.size M_113 o A 0 (fs_push S ((fMx (bW S (fIx n)) (bW S (fIx d))), ((pV S (fIx st) 1) + (bH S (fIx n))), ((bD S (fIx d)) + (pV S (fIx st) 4)), [(nI (fIx n)), (fHf ((fMx (bW S (fIx n)) (bW S (fIx d))) - (bW S (fIx n)))), (pV S (fIx st) 1), (nI (fIx d)), (fHf ((fMx (bW S (fIx n)) (bW S (fIx d))) - (bW S (fIx d)))), (-(pV S (fIx st) 4))], 0, 0)) (fIx st) 0 h_st (by decide) (md_R.of (np := np114) hT hB : md_R G o A M_113 0 (nI (fSz (fIx st))) (fs_push S ((fMx (bW S (fIx n)) (bW S (fIx d))), ((pV S (fIx st) 1) + (bH S (fIx n))), ((bD S (fIx d)) + (pV S (fIx st) 4)), [(nI (fIx n)), (fHf ((fMx (bW S (fIx n)) (bW S (fIx d))) - (bW S (fIx n)))), (pV S (fIx st) 1), (nI (fIx d)), (fHf ((fMx (bW S (fIx n)) (bW S (fIx d))) - (bW S (fIx d)))), (-(pV S (fIx st) 4))], 0, 0)))) (g_B (n := 1) htb wd679 wd3 wd676 (by decide +kernel) ⟨Nat.le_of_ble_eq_true rfl, Nat.le_of_ble_eq_true rfl⟩) (htb _ wd678) (htb _ ws36) hE hP hS hT.1 rfl rfl rfl (Nat.le_of_ble_eq_true rfl) dX4_fraction_414 ⟨Nat.le_of_ble_eq_true rfl, Nat.le_of_ble_eq_true rfl⟩ (fun v9 M9 H locs hpo hP hz hS => ?_) (fun x9 E9 cell9 H9 locs9 hE9 => hE9.elim)
                    obtain ⟨rfl, rfl⟩ := hpo
                    refine W.eq (g2 := F0 m 417 ls [.int (pV S (fIx st) 0), .int 0, .int (-1), .ref o]) rfl ?_
                    refine lv_iload hx hb dX4_fraction_417 (lv_at hl 5 rfl) ?_
                    refine lv_iadd hx hb dX4_fraction_419 ?_
                    refine lv_iload hx hb dX4_fraction_420 (lv_at hl 10 rfl) ?_
                    refine lv_isub hx hb dX4_fraction_422 ?_
                    refine mw_callV (C := RX4) (As := [.int (-1), .int 0, .int (((pV S (fIx st) 0) + (fHf t)) - t)]) (rest := []) hx hb hml hown hl (kX4_lay l htr G H.size M_113 o A 0 (nI (fSz (fIx st))) S (fMx (bW S (fIx n)) (bW S (fIx d))) ((pV S (fIx st) 1) + (bH S (fIx n))) ((bD S (fIx d)) + (pV S (fIx st) 4)) ([(nI (fIx n)), (fHf ((fMx (bW S (fIx n)) (bW S (fIx d))) - (bW S (fIx n)))), (pV S (fIx st) 1), (nI (fIx d)), (fHf ((fMx (bW S (fIx n)) (bW S (fIx d))) - (bW S (fIx d)))), (-(pV S (fIx st) 4))]) 0 0 (md_R.of (np := np114) hT hB : md_R G o A M_113 0 (nI (fSz (fIx st))) (fs_push S ((fMx (bW S (fIx n)) (bW S (fIx d))), ((pV S (fIx st) 1) + (bH S (fIx n))), ((bD S (fIx d)) + (pV S (fIx st) 4)), [(nI (fIx n)), (fHf ((fMx (bW S (fIx n)) (bW S (fIx d))) - (bW S (fIx n)))), (pV S (fIx st) 1), (nI (fIx d)), (fHf ((fMx (bW S (fIx n)) (bW S (fIx d))) - (bW S (fIx d)))), (-(pV S (fIx st) 4))], 0, 0))) (by simp) (-1) 0 (((pV S (fIx st) 0) + (fHf t)) - t)) (g_B (n := 3) htb wd661 wd3 wd658 (by decide +kernel) ⟨Nat.le_of_ble_eq_true rfl, Nat.le_of_ble_eq_true rfl⟩) (htb _ wd660) (htb _ ws34) hE hP hS hT.1 rfl rfl rfl (Nat.le_of_ble_eq_true rfl) dX4_fraction_423 ⟨Nat.le_of_ble_eq_true rfl, Nat.le_of_ble_eq_true rfl⟩ (fun v9 M9 H locs hpo hP hz hS => ?_) (fun x9 E9 cell9 H9 locs9 hE9 => hE9.elim)
                    obtain ⟨rfl, hRn, hkn⟩ := hpo
                    obtain ⟨M_116, hM_116⟩ : ∃ z9 : mw_M, z9 = M9 := ⟨_, rfl⟩
                    rw [← hM_116] at hP hRn hkn
                    have hk := md_keeps.tr hk hkn
                    have hRn : md_R G o A M_116 0 (nI (fSz (fIx st))) (fs_push S ((fMx (bW S (fIx n)) (bW S (fIx d))), ((pV S (fIx st) 1) + (bH S (fIx n))), ((bD S (fIx d)) + (pV S (fIx st) 4)), [(nI (fIx n)), (fHf ((fMx (bW S (fIx n)) (bW S (fIx d))) - (bW S (fIx n)))), (pV S (fIx st) 1), (nI (fIx d)), (fHf ((fMx (bW S (fIx n)) (bW S (fIx d))) - (bW S (fIx d)))), (-(pV S (fIx st) 4)), (-1), 0, (((pV S (fIx st) 0) + (fHf t)) - t)], 0, 0)) := hRn
                    obtain ⟨np117, bg117, g117, hT, hB⟩ := id hRn
                    rw [sN_push] at hT
                    have hT : md_at G o A M_116 0 (sSp S) (sSh S) (nI (sN S + 1)) (nI np117) (nI (fSz (fIx st))) g117 := hT
                    refine W.eq (g2 := F0 m 426 ls []) rfl ?_
                    refine lv_aload_n hx hb dX4_fraction_426 rfl (lv_at hl 6 rfl) ?_
                    refine mw_get (D := gD G) (ci := 4) (v := .ref (A 6)) (C := RX4) (T := TX4) (N := 21) hx hb htb inX4 hown hK hP hT.1 rfl 10 (by decide) (htb _ wd534) (fun _ h9 => h9) rfl dX4_fraction_427 ?_
                    refine lv_iload hx hb dX4_fraction_430 (lv_at hl 0 rfl) ?_
                    refine lv_iload hx hb dX4_fraction_432 (lv_at hl 1 rfl) ?_
                    refine mw_iast hx hb hK hP hS 0 (show M_116 (A 6) = some (.inl (gI G, 120, .inl (g117 6))) from hT.2.1 6 (by decide)) (hT.2.2.2.2 6 (by decide)) rfl (by exact vp_in_nI (show (sN S) < 120 by have := hle; omega) (by decide)) dX4_fraction_434 (fun H locs hP hS => ?_)
                    rw [nI_clamp (show (sN S) < 2 ^ 31 by have := hle; omega)] at hP
                    obtain ⟨M_118, hM_118⟩ : ∃ z9 : mw_M, z9 = mw_up M_116 (A 6) (.inl (gI G, 120, .inl (upd (g117 6) (sN S) (fMx (bW S (fIx n)) (bW S (fIx d)))))) := ⟨_, rfl⟩
                    have hP : mw_P (gD G) gx_cl M_118 H := by rw [hM_118]; exact hP
                    obtain ⟨g_119, hg_119⟩ : ∃ z9, z9 = ug g117 6 (sN S) (fMx (bW S (fIx n)) (bW S (fIx d))) := ⟨_, rfl⟩
                    have hT : md_at G o A M_118 0 (sSp S) (sSh S) (nI (sN S + 1)) (nI np117) (nI (fSz (fIx st))) g_119 := by rw [hg_119]; exact md_at.put hT (by decide) rfl rfl hM_118
                    have hk : md_keeps o A M M_118 := md_keeps.arr (j := 6) hk (by decide) hM_118
                    have hB : md_ab np117 bg117 g_119 (fs_push S ((fMx (bW S (fIx n)) (bW S (fIx d))), ((pV S (fIx st) 1) + (bH S (fIx n))), ((bD S (fIx d)) + (pV S (fIx st) 4)), [(nI (fIx n)), (fHf ((fMx (bW S (fIx n)) (bW S (fIx d))) - (bW S (fIx n)))), (pV S (fIx st) 1), (nI (fIx d)), (fHf ((fMx (bW S (fIx n)) (bW S (fIx d))) - (bW S (fIx d)))), (-(pV S (fIx st) 4)), (-1), 0, (((pV S (fIx st) 0) + (fHf t)) - t)], (fMx (bW S (fIx n)) (bW S (fIx d))), 0)) := by rw [hg_119]; exact md_ab.set6 hB _
                    refine lv_aload_n hx hb dX4_fraction_435 rfl (lv_at hl 6 rfl) ?_
                    refine mw_get (D := gD G) (ci := 4) (v := .ref (A 7)) (C := RX4) (T := TX4) (N := 21) hx hb htb inX4 hown hK hP hT.1 rfl 11 (by decide) (htb _ wd535) (fun _ h9 => h9) rfl dX4_fraction_436 ?_
                    refine lv_iload hx hb dX4_fraction_439 (lv_at hl 0 rfl) ?_
                    refine lv_iload hx hb dX4_fraction_441 (lv_at hl 10 rfl) ?_
                    refine mw_iast hx hb hK hP hS 0 (show M_118 (A 7) = some (.inl (gI G, 120, .inl (g_119 7))) from hT.2.1 7 (by decide)) (hT.2.2.2.2 7 (by decide)) rfl (by exact vp_in_nI (show (sN S) < 120 by have := hle; omega) (by decide)) dX4_fraction_443 (fun H locs hP hS => ?_)
                    rw [nI_clamp (show (sN S) < 2 ^ 31 by have := hle; omega)] at hP
                    obtain ⟨M_120, hM_120⟩ : ∃ z9 : mw_M, z9 = mw_up M_118 (A 7) (.inl (gI G, 120, .inl (upd (g_119 7) (sN S) t))) := ⟨_, rfl⟩
                    have hP : mw_P (gD G) gx_cl M_120 H := by rw [hM_120]; exact hP
                    obtain ⟨g_121, hg_121⟩ : ∃ z9, z9 = ug g_119 7 (sN S) t := ⟨_, rfl⟩
                    have hT : md_at G o A M_120 0 (sSp S) (sSh S) (nI (sN S + 1)) (nI np117) (nI (fSz (fIx st))) g_121 := by rw [hg_121]; exact md_at.put hT (by decide) rfl rfl hM_120
                    have hk : md_keeps o A M M_120 := md_keeps.arr (j := 7) hk (by decide) hM_120
                    have hB : md_ab np117 bg117 g_121 (fs_push S ((fMx (bW S (fIx n)) (bW S (fIx d))), ((pV S (fIx st) 1) + (bH S (fIx n))), ((bD S (fIx d)) + (pV S (fIx st) 4)), [(nI (fIx n)), (fHf ((fMx (bW S (fIx n)) (bW S (fIx d))) - (bW S (fIx n)))), (pV S (fIx st) 1), (nI (fIx d)), (fHf ((fMx (bW S (fIx n)) (bW S (fIx d))) - (bW S (fIx d)))), (-(pV S (fIx st) 4)), (-1), 0, (((pV S (fIx st) 0) + (fHf t)) - t)], (fMx (bW S (fIx n)) (bW S (fIx d))), t)) := by rw [hg_121]; exact md_ab.set7 hB _
                    refine lv_iload hx hb dX4_fraction_444 (lv_at hl 0 rfl) ?_
                    have hex : ex_fraction S st n d t = 0 := by rw [ex_fraction, if_neg (fun z9 => z9 ⟨kb_5, kb_7⟩), if_neg (fun z9 => z9 ⟨kb_12, kb_14⟩), if_neg (fun z9 => z9 kb_16)]
                    have hre : re_fraction S st n d t = ((fMx (bW S (fIx n)) (bW S (fIx d))), ((pV S (fIx st) 1) + (bH S (fIx n))), ((bD S (fIx d)) + (pV S (fIx st) 4)), [(nI (fIx n)), (fHf ((fMx (bW S (fIx n)) (bW S (fIx d))) - (bW S (fIx n)))), (pV S (fIx st) 1), (nI (fIx d)), (fHf ((fMx (bW S (fIx n)) (bW S (fIx d))) - (bW S (fIx d)))), (-(pV S (fIx st) 4)), (-1), 0, (((pV S (fIx st) 0) + (fHf t)) - t)], (fMx (bW S (fIx n)) (bW S (fIx d))), t) := by simp only [re_fraction, fs_fb, fs_fb1, fs_fb2, fs_fb3, fs_fl, fs_fl1, fs_fl3, if_neg c_15, if_pos c_21, if_neg c_104, if_pos c_107, if_pos c_108, if_neg t0_105, fMx0p c_107, fMx0p c_108, Int32.add_zero]
                    exact mx_iret (v := (nI (sN S))) (M' := M_120) hx hb hr hlocks hP hS ⟨by rw [hex]; rfl, ⟨_, by rw [hex, if_pos rfl, hre]; exact (md_R.of (np := np117) hT hB : md_R G o A M_120 0 (nI (fSz (fIx st))) (fs_push S ((fMx (bW S (fIx n)) (bW S (fIx d))), ((pV S (fIx st) 1) + (bH S (fIx n))), ((bD S (fIx d)) + (pV S (fIx st) 4)), [(nI (fIx n)), (fHf ((fMx (bW S (fIx n)) (bW S (fIx d))) - (bW S (fIx n)))), (pV S (fIx st) 1), (nI (fIx d)), (fHf ((fMx (bW S (fIx n)) (bW S (fIx d))) - (bW S (fIx d)))), (-(pV S (fIx st) 4)), (-1), 0, (((pV S (fIx st) 0) + (fHf t)) - t)], (fMx (bW S (fIx n)) (bW S (fIx d))), t)))⟩, hk⟩ dX4_fraction_446 (Nat.le_of_ble_eq_true rfl) (Nat.le_of_ble_eq_true rfl)
                  · refine lv_iload hx hb dX4_fraction_310 (lv_at hl 5 rfl) ?_
                    refine lv_iload hx hb dX4_fraction_312 (lv_at hl 1 rfl) ?_
                    refine lv_iadd hx hb dX4_fraction_314 ?_
                    refine lv_goto (tgt := 320) hx hb dX4_fraction_315 (by decide) ?_
                    refine lv_istore (lv' := [(6, .int ((pV S (fIx st) 4) + ((3 * t) - (((pV S (fIx st) 0) - (fHf t)) - ((bH S (fIx d)) - (pV S (fIx st) 4)))))), (5, .int (pV S (fIx st) 1)), (10, .int ((3 * t) - (((pV S (fIx st) 0) - (fHf t)) - ((bH S (fIx d)) - (pV S (fIx st) 4))))), (9, .int ((3 * t) - (((pV S (fIx st) 1) - (bD S (fIx n))) - ((pV S (fIx st) 0) + (fHf t))))), (8, .int (3 * t)), (7, .int (fHf t)), (0, .ref o), (1, .int (nI (fIx st))), (2, .int (nI (fIx n))), (3, .int (nI (fIx d))), (4, .int t)]) hx hb dX4_fraction_320 hl (by decide) rfl (fun ls hl => ?_)
                    refine lv_aload_n hx hb dX4_fraction_322 rfl (lv_at hl 6 rfl) ?_
                    refine mw_get (D := gD G) (ci := 4) (v := .ref (A 1)) (C := RX4) (T := TX4) (N := 21) hx hb htb inX4 hown hK hP hT.1 rfl 5 (by decide) (htb _ wd529) (fun _ h9 => h9) rfl dX4_fraction_323 ?_
                    refine lv_iload_n hx hb dX4_fraction_326 rfl (lv_at hl 8 rfl) ?_
                    refine mw_iald hx hb hK hP 0 (show M_19 (A 1) = some (.inl (gI G, 120, .inl (g20 1))) from hT.2.1 1 (by decide)) rfl (by exact vp_in_nI (show (fIx n) < 120 by have := hle; omega) (by decide)) dX4_fraction_327 ?_
                    refine W.eq (g2 := F0 m 328 ls [.int (bW S (fIx n))]) (by rw [nI_clamp (show (fIx n) < 2 ^ 31 by have := hle; omega), hB.W h_n]) ?_
                    refine lv_aload_n hx hb dX4_fraction_328 rfl (lv_at hl 6 rfl) ?_
                    refine mw_get (D := gD G) (ci := 4) (v := .ref (A 1)) (C := RX4) (T := TX4) (N := 21) hx hb htb inX4 hown hK hP hT.1 rfl 5 (by decide) (htb _ wd529) (fun _ h9 => h9) rfl dX4_fraction_329 ?_
                    refine lv_iload_n hx hb dX4_fraction_332 rfl (lv_at hl 9 rfl) ?_
                    refine mw_iald hx hb hK hP 0 (show M_19 (A 1) = some (.inl (gI G, 120, .inl (g20 1))) from hT.2.1 1 (by decide)) rfl (by exact vp_in_nI (show (fIx d) < 120 by have := hle; omega) (by decide)) dX4_fraction_333 ?_
                    refine W.eq (g2 := F0 m 334 ls [.int (bW S (fIx d)), .int (bW S (fIx n))]) (by rw [nI_clamp (show (fIx d) < 2 ^ 31 by have := hle; omega), hB.W h_d]) ?_
                    refine mw_callS (As := [.int (bW S (fIx n)), .int (bW S (fIx d))]) (rest := []) hx hb hml hown hl (kX4_greater l htr G H.size M_19 (bW S (fIx n)) (bW S (fIx d))) (g_B (n := 2) htb wd664 wd3 wd662 (by decide +kernel) ⟨Nat.le_of_ble_eq_true rfl, Nat.le_of_ble_eq_true rfl⟩) (htb _ wd663) hE hP hS rfl rfl (Nat.le_of_ble_eq_true rfl) dX4_fraction_334 ⟨Nat.le_of_ble_eq_true rfl, Nat.le_of_ble_eq_true rfl⟩ (fun v9 M9 H locs hpo hP hz hS => ?_) (fun x9 E9 cell9 H9 locs9 hE9 => hE9.elim)
                    obtain ⟨rfl, rfl⟩ := hpo
                    refine W.eq (g2 := F0 m 337 ls [.int (fMx (bW S (fIx n)) (bW S (fIx d)))]) rfl ?_
                    refine lv_istore (lv' := [(8, .int (fMx (bW S (fIx n)) (bW S (fIx d)))), (6, .int ((pV S (fIx st) 4) + ((3 * t) - (((pV S (fIx st) 0) - (fHf t)) - ((bH S (fIx d)) - (pV S (fIx st) 4)))))), (5, .int (pV S (fIx st) 1)), (10, .int ((3 * t) - (((pV S (fIx st) 0) - (fHf t)) - ((bH S (fIx d)) - (pV S (fIx st) 4))))), (9, .int ((3 * t) - (((pV S (fIx st) 1) - (bD S (fIx n))) - ((pV S (fIx st) 0) + (fHf t))))), (7, .int (fHf t)), (0, .ref o), (1, .int (nI (fIx st))), (2, .int (nI (fIx n))), (3, .int (nI (fIx d))), (4, .int t)]) hx hb dX4_fraction_337 hl (by decide) rfl (fun ls hl => ?_)
                    refine lv_aload_n hx hb dX4_fraction_339 rfl (lv_at hl 6 rfl) ?_
                    refine lv_iload hx hb dX4_fraction_340 (lv_at hl 0 rfl) ?_
                    refine lv_iload hx hb dX4_fraction_342 (lv_at hl 2 rfl) ?_
                    refine lv_aload_n hx hb dX4_fraction_344 rfl (lv_at hl 6 rfl) ?_
                    refine mw_get (D := gD G) (ci := 4) (v := .ref (A 2)) (C := RX4) (T := TX4) (N := 21) hx hb htb inX4 hown hK hP hT.1 rfl 6 (by decide) (htb _ wd530) (fun _ h9 => h9) rfl dX4_fraction_345 ?_
                    refine lv_iload_n hx hb dX4_fraction_348 rfl (lv_at hl 8 rfl) ?_
                    refine mw_iald hx hb hK hP 0 (show M_19 (A 2) = some (.inl (gI G, 120, .inl (g20 2))) from hT.2.1 2 (by decide)) rfl (by exact vp_in_nI (show (fIx n) < 120 by have := hle; omega) (by decide)) dX4_fraction_349 ?_
                    refine W.eq (g2 := F0 m 350 ls [.int (bH S (fIx n)), .int (pV S (fIx st) 1), .int (fMx (bW S (fIx n)) (bW S (fIx d))), .ref o]) (by rw [nI_clamp (show (fIx n) < 2 ^ 31 by have := hle; omega), hB.H h_n]) ?_
                    refine lv_iadd hx hb dX4_fraction_350 ?_
                    refine lv_aload_n hx hb dX4_fraction_351 rfl (lv_at hl 6 rfl) ?_
                    refine mw_get (D := gD G) (ci := 4) (v := .ref (A 3)) (C := RX4) (T := TX4) (N := 21) hx hb htb inX4 hown hK hP hT.1 rfl 7 (by decide) (htb _ wd531) (fun _ h9 => h9) rfl dX4_fraction_352 ?_
                    refine lv_iload_n hx hb dX4_fraction_355 rfl (lv_at hl 9 rfl) ?_
                    refine mw_iald hx hb hK hP 0 (show M_19 (A 3) = some (.inl (gI G, 120, .inl (g20 3))) from hT.2.1 3 (by decide)) rfl (by exact vp_in_nI (show (fIx d) < 120 by have := hle; omega) (by decide)) dX4_fraction_356 ?_
                    refine W.eq (g2 := F0 m 357 ls [.int (bD S (fIx d)), .int ((pV S (fIx st) 1) + (bH S (fIx n))), .int (fMx (bW S (fIx n)) (bW S (fIx d))), .ref o]) (by rw [nI_clamp (show (fIx d) < 2 ^ 31 by have := hle; omega), hB.D h_d]) ?_
                    refine lv_iload hx hb dX4_fraction_357 (lv_at hl 1 rfl) ?_
                    refine lv_iadd hx hb dX4_fraction_359 ?_
                    refine mw_callV (C := RX4) (As := [.int (fMx (bW S (fIx n)) (bW S (fIx d))), .int ((pV S (fIx st) 1) + (bH S (fIx n))), .int ((bD S (fIx d)) + ((pV S (fIx st) 4) + ((3 * t) - (((pV S (fIx st) 0) - (fHf t)) - ((bH S (fIx d)) - (pV S (fIx st) 4))))))]) (rest := []) hx hb hml hown hl (kX4_make l htr G H.size M_19 o A 0 (nI (fSz (fIx st))) S (⟨np20, bg20, g20, hT, hB⟩ : md_R G o A M_19 0 (nI (fSz (fIx st))) S) (rmk_lt kb_16 hle) (fMx (bW S (fIx n)) (bW S (fIx d))) ((pV S (fIx st) 1) + (bH S (fIx n))) ((bD S (fIx d)) + ((pV S (fIx st) 4) + ((3 * t) - (((pV S (fIx st) 0) - (fHf t)) - ((bH S (fIx d)) - (pV S (fIx st) 4))))))) (g_B (n := 3) htb wd613 wd3 wd610 (by decide +kernel) ⟨Nat.le_of_ble_eq_true rfl, Nat.le_of_ble_eq_true rfl⟩) (htb _ wd612) (htb _ ws26) hE hP hS hT.1 rfl rfl rfl (Nat.le_of_ble_eq_true rfl) dX4_fraction_360 ⟨Nat.le_of_ble_eq_true rfl, Nat.le_of_ble_eq_true rfl⟩ (fun v9 M9 H locs hpo hP hz hS => ?_) (fun x9 E9 cell9 H9 locs9 hE9 => hE9.elim)
                    have hle0 := hle
                    obtain ⟨rfl, hRn, hkn⟩ := hpo
                    obtain ⟨M_122, hM_122⟩ : ∃ z9 : mw_M, z9 = M9 := ⟨_, rfl⟩
                    rw [← hM_122] at hP hRn hkn
                    have hk := md_keeps.tr hk hkn
                    have hRn : md_R G o A M_122 0 (nI (fSz (fIx st))) (fs_push S ((fMx (bW S (fIx n)) (bW S (fIx d))), ((pV S (fIx st) 1) + (bH S (fIx n))), ((bD S (fIx d)) + ((pV S (fIx st) 4) + ((3 * t) - (((pV S (fIx st) 0) - (fHf t)) - ((bH S (fIx d)) - (pV S (fIx st) 4)))))), [], 0, 0)) := hRn
                    obtain ⟨np123, bg123, g123, hT, hB⟩ := id hRn
                    rw [sN_push] at hT
                    have hT : md_at G o A M_122 0 (sSp S) (sSh S) (nI (sN S + 1)) (nI np123) (nI (fSz (fIx st))) g123 := hT
                    have hle : sN S + 1 ≤ 120 := by have := hB.1; rw [sN_push] at this; exact this
                    refine W.eq (g2 := F0 m 363 ls [.int (nI (sN S))]) rfl ?_
                    refine lv_istore (lv' := [(9, .int (nI (sN S))), (8, .int (fMx (bW S (fIx n)) (bW S (fIx d)))), (6, .int ((pV S (fIx st) 4) + ((3 * t) - (((pV S (fIx st) 0) - (fHf t)) - ((bH S (fIx d)) - (pV S (fIx st) 4)))))), (5, .int (pV S (fIx st) 1)), (10, .int ((3 * t) - (((pV S (fIx st) 0) - (fHf t)) - ((bH S (fIx d)) - (pV S (fIx st) 4))))), (7, .int (fHf t)), (0, .ref o), (1, .int (nI (fIx st))), (2, .int (nI (fIx n))), (3, .int (nI (fIx d))), (4, .int t)]) hx hb dX4_fraction_363 hl (by decide) rfl (fun ls hl => ?_)
                    refine lv_aload_n hx hb dX4_fraction_365 rfl (lv_at hl 6 rfl) ?_
                    refine lv_iload_n hx hb dX4_fraction_366 rfl (lv_at hl 8 rfl) ?_
                    refine lv_iload hx hb dX4_fraction_367 (lv_at hl 1 rfl) ?_
                    refine lv_aload_n hx hb dX4_fraction_369 rfl (lv_at hl 6 rfl) ?_
                    refine mw_get (D := gD G) (ci := 4) (v := .ref (A 1)) (C := RX4) (T := TX4) (N := 21) hx hb htb inX4 hown hK hP hT.1 rfl 5 (by decide) (htb _ wd529) (fun _ h9 => h9) rfl dX4_fraction_370 ?_
                    refine lv_iload_n hx hb dX4_fraction_373 rfl (lv_at hl 8 rfl) ?_
                    refine mw_iald hx hb hK hP 0 (show M_122 (A 1) = some (.inl (gI G, 120, .inl (g123 1))) from hT.2.1 1 (by decide)) rfl (by exact vp_in_nI (show (fIx n) < 120 by have := hle; omega) (by decide)) dX4_fraction_374 ?_
                    refine W.eq (g2 := F0 m 375 ls [.int (bW S (fIx n)), .int (fMx (bW S (fIx n)) (bW S (fIx d))), .int (nI (fIx n)), .ref o]) (by rw [nI_clamp (show (fIx n) < 2 ^ 31 by have := hle; omega), hB.W (show (fIx n) < sN (fs_push S ((fMx (bW S (fIx n)) (bW S (fIx d))), ((pV S (fIx st) 1) + (bH S (fIx n))), ((bD S (fIx d)) + ((pV S (fIx st) 4) + ((3 * t) - (((pV S (fIx st) 0) - (fHf t)) - ((bH S (fIx d)) - (pV S (fIx st) 4)))))), [], 0, 0)) by rw [sN_push]; omega), bW_push _ h_n]) ?_
                    refine lv_isub hx hb dX4_fraction_375 ?_
                    refine mw_callS (As := [.int ((fMx (bW S (fIx n)) (bW S (fIx d))) - (bW S (fIx n)))]) (rest := [.int (nI (fIx n)), .ref o]) hx hb hml hown hl (kX4_half l htr G H.size M_122 ((fMx (bW S (fIx n)) (bW S (fIx d))) - (bW S (fIx n)))) (g_B (n := 1) htb wd682 wd3 wd680 (by decide +kernel) ⟨Nat.le_of_ble_eq_true rfl, Nat.le_of_ble_eq_true rfl⟩) (htb _ wd681) hE hP hS rfl rfl (Nat.le_of_ble_eq_true rfl) dX4_fraction_376 ⟨Nat.le_of_ble_eq_true rfl, Nat.le_of_ble_eq_true rfl⟩ (fun v9 M9 H locs hpo hP hz hS => ?_) (fun x9 E9 cell9 H9 locs9 hE9 => hE9.elim)
                    obtain ⟨rfl, rfl⟩ := hpo
                    refine W.eq (g2 := F0 m 379 ls [.int (fHf ((fMx (bW S (fIx n)) (bW S (fIx d))) - (bW S (fIx n)))), .int (nI (fIx n)), .ref o]) rfl ?_
                    refine lv_iload hx hb dX4_fraction_379 (lv_at hl 3 rfl) ?_
                    refine mw_callV (C := RX4) (As := [.int (nI (fIx n)), .int (fHf ((fMx (bW S (fIx n)) (bW S (fIx d))) - (bW S (fIx n)))), .int (pV S (fIx st) 1)]) (rest := []) hx hb hml hown hl (kX4_lay l htr G H.size M_122 o A 0 (nI (fSz (fIx st))) S (fMx (bW S (fIx n)) (bW S (fIx d))) ((pV S (fIx st) 1) + (bH S (fIx n))) ((bD S (fIx d)) + ((pV S (fIx st) 4) + ((3 * t) - (((pV S (fIx st) 0) - (fHf t)) - ((bH S (fIx d)) - (pV S (fIx st) 4)))))) ([]) 0 0 (md_R.of (np := np123) hT hB : md_R G o A M_122 0 (nI (fSz (fIx st))) (fs_push S ((fMx (bW S (fIx n)) (bW S (fIx d))), ((pV S (fIx st) 1) + (bH S (fIx n))), ((bD S (fIx d)) + ((pV S (fIx st) 4) + ((3 * t) - (((pV S (fIx st) 0) - (fHf t)) - ((bH S (fIx d)) - (pV S (fIx st) 4)))))), [], 0, 0))) (by simp) (nI (fIx n)) (fHf ((fMx (bW S (fIx n)) (bW S (fIx d))) - (bW S (fIx n)))) (pV S (fIx st) 1)) (g_B (n := 3) htb wd661 wd3 wd658 (by decide +kernel) ⟨Nat.le_of_ble_eq_true rfl, Nat.le_of_ble_eq_true rfl⟩) (htb _ wd660) (htb _ ws34) hE hP hS hT.1 rfl rfl rfl (Nat.le_of_ble_eq_true rfl) dX4_fraction_381 ⟨Nat.le_of_ble_eq_true rfl, Nat.le_of_ble_eq_true rfl⟩ (fun v9 M9 H locs hpo hP hz hS => ?_) (fun x9 E9 cell9 H9 locs9 hE9 => hE9.elim)
                    obtain ⟨rfl, hRn, hkn⟩ := hpo
                    obtain ⟨M_124, hM_124⟩ : ∃ z9 : mw_M, z9 = M9 := ⟨_, rfl⟩
                    rw [← hM_124] at hP hRn hkn
                    have hk := md_keeps.tr hk hkn
                    have hRn : md_R G o A M_124 0 (nI (fSz (fIx st))) (fs_push S ((fMx (bW S (fIx n)) (bW S (fIx d))), ((pV S (fIx st) 1) + (bH S (fIx n))), ((bD S (fIx d)) + ((pV S (fIx st) 4) + ((3 * t) - (((pV S (fIx st) 0) - (fHf t)) - ((bH S (fIx d)) - (pV S (fIx st) 4)))))), [(nI (fIx n)), (fHf ((fMx (bW S (fIx n)) (bW S (fIx d))) - (bW S (fIx n)))), (pV S (fIx st) 1)], 0, 0)) := hRn
                    obtain ⟨np125, bg125, g125, hT, hB⟩ := id hRn
                    rw [sN_push] at hT
                    have hT : md_at G o A M_124 0 (sSp S) (sSh S) (nI (sN S + 1)) (nI np125) (nI (fSz (fIx st))) g125 := hT
                    refine W.eq (g2 := F0 m 384 ls []) rfl ?_
                    refine lv_aload_n hx hb dX4_fraction_384 rfl (lv_at hl 6 rfl) ?_
                    refine lv_iload_n hx hb dX4_fraction_385 rfl (lv_at hl 9 rfl) ?_
                    refine lv_iload hx hb dX4_fraction_386 (lv_at hl 1 rfl) ?_
                    refine lv_aload_n hx hb dX4_fraction_388 rfl (lv_at hl 6 rfl) ?_
                    refine mw_get (D := gD G) (ci := 4) (v := .ref (A 1)) (C := RX4) (T := TX4) (N := 21) hx hb htb inX4 hown hK hP hT.1 rfl 5 (by decide) (htb _ wd529) (fun _ h9 => h9) rfl dX4_fraction_389 ?_
                    refine lv_iload_n hx hb dX4_fraction_392 rfl (lv_at hl 9 rfl) ?_
                    refine mw_iald hx hb hK hP 0 (show M_124 (A 1) = some (.inl (gI G, 120, .inl (g125 1))) from hT.2.1 1 (by decide)) rfl (by exact vp_in_nI (show (fIx d) < 120 by have := hle; omega) (by decide)) dX4_fraction_393 ?_
                    refine W.eq (g2 := F0 m 394 ls [.int (bW S (fIx d)), .int (fMx (bW S (fIx n)) (bW S (fIx d))), .int (nI (fIx d)), .ref o]) (by rw [nI_clamp (show (fIx d) < 2 ^ 31 by have := hle; omega), hB.W (show (fIx d) < sN (fs_push S ((fMx (bW S (fIx n)) (bW S (fIx d))), ((pV S (fIx st) 1) + (bH S (fIx n))), ((bD S (fIx d)) + ((pV S (fIx st) 4) + ((3 * t) - (((pV S (fIx st) 0) - (fHf t)) - ((bH S (fIx d)) - (pV S (fIx st) 4)))))), [(nI (fIx n)), (fHf ((fMx (bW S (fIx n)) (bW S (fIx d))) - (bW S (fIx n)))), (pV S (fIx st) 1)], 0, 0)) by rw [sN_push]; omega), bW_push _ h_d]) ?_
                    refine lv_isub hx hb dX4_fraction_394 ?_
                    refine mw_callS (As := [.int ((fMx (bW S (fIx n)) (bW S (fIx d))) - (bW S (fIx d)))]) (rest := [.int (nI (fIx d)), .ref o]) hx hb hml hown hl (kX4_half l htr G H.size M_124 ((fMx (bW S (fIx n)) (bW S (fIx d))) - (bW S (fIx d)))) (g_B (n := 1) htb wd682 wd3 wd680 (by decide +kernel) ⟨Nat.le_of_ble_eq_true rfl, Nat.le_of_ble_eq_true rfl⟩) (htb _ wd681) hE hP hS rfl rfl (Nat.le_of_ble_eq_true rfl) dX4_fraction_395 ⟨Nat.le_of_ble_eq_true rfl, Nat.le_of_ble_eq_true rfl⟩ (fun v9 M9 H locs hpo hP hz hS => ?_) (fun x9 E9 cell9 H9 locs9 hE9 => hE9.elim)
                    obtain ⟨rfl, rfl⟩ := hpo
                    refine W.eq (g2 := F0 m 398 ls [.int (fHf ((fMx (bW S (fIx n)) (bW S (fIx d))) - (bW S (fIx d)))), .int (nI (fIx d)), .ref o]) rfl ?_
                    refine lv_iload hx hb dX4_fraction_398 (lv_at hl 2 rfl) ?_
                    refine lv_ineg hx hb dX4_fraction_400 ?_
                    refine mw_callV (C := RX4) (As := [.int (nI (fIx d)), .int (fHf ((fMx (bW S (fIx n)) (bW S (fIx d))) - (bW S (fIx d)))), .int (-((pV S (fIx st) 4) + ((3 * t) - (((pV S (fIx st) 0) - (fHf t)) - ((bH S (fIx d)) - (pV S (fIx st) 4))))))]) (rest := []) hx hb hml hown hl (kX4_lay l htr G H.size M_124 o A 0 (nI (fSz (fIx st))) S (fMx (bW S (fIx n)) (bW S (fIx d))) ((pV S (fIx st) 1) + (bH S (fIx n))) ((bD S (fIx d)) + ((pV S (fIx st) 4) + ((3 * t) - (((pV S (fIx st) 0) - (fHf t)) - ((bH S (fIx d)) - (pV S (fIx st) 4)))))) ([(nI (fIx n)), (fHf ((fMx (bW S (fIx n)) (bW S (fIx d))) - (bW S (fIx n)))), (pV S (fIx st) 1)]) 0 0 (md_R.of (np := np125) hT hB : md_R G o A M_124 0 (nI (fSz (fIx st))) (fs_push S ((fMx (bW S (fIx n)) (bW S (fIx d))), ((pV S (fIx st) 1) + (bH S (fIx n))), ((bD S (fIx d)) + ((pV S (fIx st) 4) + ((3 * t) - (((pV S (fIx st) 0) - (fHf t)) - ((bH S (fIx d)) - (pV S (fIx st) 4)))))), [(nI (fIx n)), (fHf ((fMx (bW S (fIx n)) (bW S (fIx d))) - (bW S (fIx n)))), (pV S (fIx st) 1)], 0, 0))) (by simp) (nI (fIx d)) (fHf ((fMx (bW S (fIx n)) (bW S (fIx d))) - (bW S (fIx d)))) (-((pV S (fIx st) 4) + ((3 * t) - (((pV S (fIx st) 0) - (fHf t)) - ((bH S (fIx d)) - (pV S (fIx st) 4))))))) (g_B (n := 3) htb wd661 wd3 wd658 (by decide +kernel) ⟨Nat.le_of_ble_eq_true rfl, Nat.le_of_ble_eq_true rfl⟩) (htb _ wd660) (htb _ ws34) hE hP hS hT.1 rfl rfl rfl (Nat.le_of_ble_eq_true rfl) dX4_fraction_401 ⟨Nat.le_of_ble_eq_true rfl, Nat.le_of_ble_eq_true rfl⟩ (fun v9 M9 H locs hpo hP hz hS => ?_) (fun x9 E9 cell9 H9 locs9 hE9 => hE9.elim)
                    obtain ⟨rfl, hRn, hkn⟩ := hpo
                    obtain ⟨M_126, hM_126⟩ : ∃ z9 : mw_M, z9 = M9 := ⟨_, rfl⟩
                    rw [← hM_126] at hP hRn hkn
                    have hk := md_keeps.tr hk hkn
                    have hRn : md_R G o A M_126 0 (nI (fSz (fIx st))) (fs_push S ((fMx (bW S (fIx n)) (bW S (fIx d))), ((pV S (fIx st) 1) + (bH S (fIx n))), ((bD S (fIx d)) + ((pV S (fIx st) 4) + ((3 * t) - (((pV S (fIx st) 0) - (fHf t)) - ((bH S (fIx d)) - (pV S (fIx st) 4)))))), [(nI (fIx n)), (fHf ((fMx (bW S (fIx n)) (bW S (fIx d))) - (bW S (fIx n)))), (pV S (fIx st) 1), (nI (fIx d)), (fHf ((fMx (bW S (fIx n)) (bW S (fIx d))) - (bW S (fIx d)))), (-((pV S (fIx st) 4) + ((3 * t) - (((pV S (fIx st) 0) - (fHf t)) - ((bH S (fIx d)) - (pV S (fIx st) 4))))))], 0, 0)) := hRn
                    obtain ⟨np127, bg127, g127, hT, hB⟩ := id hRn
                    rw [sN_push] at hT
                    have hT : md_at G o A M_126 0 (sSp S) (sSh S) (nI (sN S + 1)) (nI np127) (nI (fSz (fIx st))) g127 := hT
                    refine W.eq (g2 := F0 m 404 ls []) rfl ?_
                    refine lv_iload hx hb dX4_fraction_404 (lv_at hl 10 rfl) ?_
                    refine lv_if_le (tgt := 444) hx hb dX4_fraction_406 (by decide) (fun c_128 => absurd c_128 t0_105) (fun c_128 => ?_)
                    refine lv_aload_n hx hb dX4_fraction_409 rfl (lv_at hl 6 rfl) ?_
                    refine lv_iconst (v := (-1)) hx hb dX4_fraction_410 (by decide) ?_
                    refine lv_iconst (v := 0) hx hb dX4_fraction_411 (by decide) ?_
                    refine lv_aload_n hx hb dX4_fraction_412 rfl (lv_at hl 6 rfl) ?_
                    refine lv_iconst (v := 0) hx hb dX4_fraction_413 (by decide) ?_
                    refine mw_callV (C := RX4) (As := [.int 0]) (rest := [.int 0, .int (-1), .ref o]) hx hb hml hown hl (kX4_p l htr G H.size M_126 o A 0 (fs_push S ((fMx (bW S (fIx n)) (bW S (fIx d))), ((pV S (fIx st) 1) + (bH S (fIx n))), ((bD S (fIx d)) + ((pV S (fIx st) 4) + ((3 * t) - (((pV S (fIx st) 0) - (fHf t)) - ((bH S (fIx d)) - (pV S (fIx st) 4)))))), [(nI (fIx n)), (fHf ((fMx (bW S (fIx n)) (bW S (fIx d))) - (bW S (fIx n)))), (pV S (fIx st) 1), (nI (fIx d)), (fHf ((fMx (bW S (fIx n)) (bW S (fIx d))) - (bW S (fIx d)))), (-((pV S (fIx st) 4) + ((3 * t) - (((pV S (fIx st) 0) - (fHf t)) - ((bH S (fIx d)) - (pV S (fIx st) 4))))))], 0, 0)) (fIx st) 0 h_st (by decide) (md_R.of (np := np127) hT hB : md_R G o A M_126 0 (nI (fSz (fIx st))) (fs_push S ((fMx (bW S (fIx n)) (bW S (fIx d))), ((pV S (fIx st) 1) + (bH S (fIx n))), ((bD S (fIx d)) + ((pV S (fIx st) 4) + ((3 * t) - (((pV S (fIx st) 0) - (fHf t)) - ((bH S (fIx d)) - (pV S (fIx st) 4)))))), [(nI (fIx n)), (fHf ((fMx (bW S (fIx n)) (bW S (fIx d))) - (bW S (fIx n)))), (pV S (fIx st) 1), (nI (fIx d)), (fHf ((fMx (bW S (fIx n)) (bW S (fIx d))) - (bW S (fIx d)))), (-((pV S (fIx st) 4) + ((3 * t) - (((pV S (fIx st) 0) - (fHf t)) - ((bH S (fIx d)) - (pV S (fIx st) 4))))))], 0, 0)))) (g_B (n := 1) htb wd679 wd3 wd676 (by decide +kernel) ⟨Nat.le_of_ble_eq_true rfl, Nat.le_of_ble_eq_true rfl⟩) (htb _ wd678) (htb _ ws36) hE hP hS hT.1 rfl rfl rfl (Nat.le_of_ble_eq_true rfl) dX4_fraction_414 ⟨Nat.le_of_ble_eq_true rfl, Nat.le_of_ble_eq_true rfl⟩ (fun v9 M9 H locs hpo hP hz hS => ?_) (fun x9 E9 cell9 H9 locs9 hE9 => hE9.elim)
                    obtain ⟨rfl, rfl⟩ := hpo
                    refine W.eq (g2 := F0 m 417 ls [.int (pV S (fIx st) 0), .int 0, .int (-1), .ref o]) rfl ?_
                    refine lv_iload hx hb dX4_fraction_417 (lv_at hl 5 rfl) ?_
                    refine lv_iadd hx hb dX4_fraction_419 ?_
                    refine lv_iload hx hb dX4_fraction_420 (lv_at hl 10 rfl) ?_
                    refine lv_isub hx hb dX4_fraction_422 ?_
                    refine mw_callV (C := RX4) (As := [.int (-1), .int 0, .int (((pV S (fIx st) 0) + (fHf t)) - t)]) (rest := []) hx hb hml hown hl (kX4_lay l htr G H.size M_126 o A 0 (nI (fSz (fIx st))) S (fMx (bW S (fIx n)) (bW S (fIx d))) ((pV S (fIx st) 1) + (bH S (fIx n))) ((bD S (fIx d)) + ((pV S (fIx st) 4) + ((3 * t) - (((pV S (fIx st) 0) - (fHf t)) - ((bH S (fIx d)) - (pV S (fIx st) 4)))))) ([(nI (fIx n)), (fHf ((fMx (bW S (fIx n)) (bW S (fIx d))) - (bW S (fIx n)))), (pV S (fIx st) 1), (nI (fIx d)), (fHf ((fMx (bW S (fIx n)) (bW S (fIx d))) - (bW S (fIx d)))), (-((pV S (fIx st) 4) + ((3 * t) - (((pV S (fIx st) 0) - (fHf t)) - ((bH S (fIx d)) - (pV S (fIx st) 4))))))]) 0 0 (md_R.of (np := np127) hT hB : md_R G o A M_126 0 (nI (fSz (fIx st))) (fs_push S ((fMx (bW S (fIx n)) (bW S (fIx d))), ((pV S (fIx st) 1) + (bH S (fIx n))), ((bD S (fIx d)) + ((pV S (fIx st) 4) + ((3 * t) - (((pV S (fIx st) 0) - (fHf t)) - ((bH S (fIx d)) - (pV S (fIx st) 4)))))), [(nI (fIx n)), (fHf ((fMx (bW S (fIx n)) (bW S (fIx d))) - (bW S (fIx n)))), (pV S (fIx st) 1), (nI (fIx d)), (fHf ((fMx (bW S (fIx n)) (bW S (fIx d))) - (bW S (fIx d)))), (-((pV S (fIx st) 4) + ((3 * t) - (((pV S (fIx st) 0) - (fHf t)) - ((bH S (fIx d)) - (pV S (fIx st) 4))))))], 0, 0))) (by simp) (-1) 0 (((pV S (fIx st) 0) + (fHf t)) - t)) (g_B (n := 3) htb wd661 wd3 wd658 (by decide +kernel) ⟨Nat.le_of_ble_eq_true rfl, Nat.le_of_ble_eq_true rfl⟩) (htb _ wd660) (htb _ ws34) hE hP hS hT.1 rfl rfl rfl (Nat.le_of_ble_eq_true rfl) dX4_fraction_423 ⟨Nat.le_of_ble_eq_true rfl, Nat.le_of_ble_eq_true rfl⟩ (fun v9 M9 H locs hpo hP hz hS => ?_) (fun x9 E9 cell9 H9 locs9 hE9 => hE9.elim)
                    obtain ⟨rfl, hRn, hkn⟩ := hpo
                    obtain ⟨M_129, hM_129⟩ : ∃ z9 : mw_M, z9 = M9 := ⟨_, rfl⟩
                    rw [← hM_129] at hP hRn hkn
                    have hk := md_keeps.tr hk hkn
                    have hRn : md_R G o A M_129 0 (nI (fSz (fIx st))) (fs_push S ((fMx (bW S (fIx n)) (bW S (fIx d))), ((pV S (fIx st) 1) + (bH S (fIx n))), ((bD S (fIx d)) + ((pV S (fIx st) 4) + ((3 * t) - (((pV S (fIx st) 0) - (fHf t)) - ((bH S (fIx d)) - (pV S (fIx st) 4)))))), [(nI (fIx n)), (fHf ((fMx (bW S (fIx n)) (bW S (fIx d))) - (bW S (fIx n)))), (pV S (fIx st) 1), (nI (fIx d)), (fHf ((fMx (bW S (fIx n)) (bW S (fIx d))) - (bW S (fIx d)))), (-((pV S (fIx st) 4) + ((3 * t) - (((pV S (fIx st) 0) - (fHf t)) - ((bH S (fIx d)) - (pV S (fIx st) 4)))))), (-1), 0, (((pV S (fIx st) 0) + (fHf t)) - t)], 0, 0)) := hRn
                    obtain ⟨np130, bg130, g130, hT, hB⟩ := id hRn
                    rw [sN_push] at hT
                    have hT : md_at G o A M_129 0 (sSp S) (sSh S) (nI (sN S + 1)) (nI np130) (nI (fSz (fIx st))) g130 := hT
                    refine W.eq (g2 := F0 m 426 ls []) rfl ?_
                    refine lv_aload_n hx hb dX4_fraction_426 rfl (lv_at hl 6 rfl) ?_
                    refine mw_get (D := gD G) (ci := 4) (v := .ref (A 6)) (C := RX4) (T := TX4) (N := 21) hx hb htb inX4 hown hK hP hT.1 rfl 10 (by decide) (htb _ wd534) (fun _ h9 => h9) rfl dX4_fraction_427 ?_
                    refine lv_iload hx hb dX4_fraction_430 (lv_at hl 0 rfl) ?_
                    refine lv_iload hx hb dX4_fraction_432 (lv_at hl 1 rfl) ?_
                    refine mw_iast hx hb hK hP hS 0 (show M_129 (A 6) = some (.inl (gI G, 120, .inl (g130 6))) from hT.2.1 6 (by decide)) (hT.2.2.2.2 6 (by decide)) rfl (by exact vp_in_nI (show (sN S) < 120 by have := hle; omega) (by decide)) dX4_fraction_434 (fun H locs hP hS => ?_)
                    rw [nI_clamp (show (sN S) < 2 ^ 31 by have := hle; omega)] at hP
                    obtain ⟨M_131, hM_131⟩ : ∃ z9 : mw_M, z9 = mw_up M_129 (A 6) (.inl (gI G, 120, .inl (upd (g130 6) (sN S) (fMx (bW S (fIx n)) (bW S (fIx d)))))) := ⟨_, rfl⟩
                    have hP : mw_P (gD G) gx_cl M_131 H := by rw [hM_131]; exact hP
                    obtain ⟨g_132, hg_132⟩ : ∃ z9, z9 = ug g130 6 (sN S) (fMx (bW S (fIx n)) (bW S (fIx d))) := ⟨_, rfl⟩
                    have hT : md_at G o A M_131 0 (sSp S) (sSh S) (nI (sN S + 1)) (nI np130) (nI (fSz (fIx st))) g_132 := by rw [hg_132]; exact md_at.put hT (by decide) rfl rfl hM_131
                    have hk : md_keeps o A M M_131 := md_keeps.arr (j := 6) hk (by decide) hM_131
                    have hB : md_ab np130 bg130 g_132 (fs_push S ((fMx (bW S (fIx n)) (bW S (fIx d))), ((pV S (fIx st) 1) + (bH S (fIx n))), ((bD S (fIx d)) + ((pV S (fIx st) 4) + ((3 * t) - (((pV S (fIx st) 0) - (fHf t)) - ((bH S (fIx d)) - (pV S (fIx st) 4)))))), [(nI (fIx n)), (fHf ((fMx (bW S (fIx n)) (bW S (fIx d))) - (bW S (fIx n)))), (pV S (fIx st) 1), (nI (fIx d)), (fHf ((fMx (bW S (fIx n)) (bW S (fIx d))) - (bW S (fIx d)))), (-((pV S (fIx st) 4) + ((3 * t) - (((pV S (fIx st) 0) - (fHf t)) - ((bH S (fIx d)) - (pV S (fIx st) 4)))))), (-1), 0, (((pV S (fIx st) 0) + (fHf t)) - t)], (fMx (bW S (fIx n)) (bW S (fIx d))), 0)) := by rw [hg_132]; exact md_ab.set6 hB _
                    refine lv_aload_n hx hb dX4_fraction_435 rfl (lv_at hl 6 rfl) ?_
                    refine mw_get (D := gD G) (ci := 4) (v := .ref (A 7)) (C := RX4) (T := TX4) (N := 21) hx hb htb inX4 hown hK hP hT.1 rfl 11 (by decide) (htb _ wd535) (fun _ h9 => h9) rfl dX4_fraction_436 ?_
                    refine lv_iload hx hb dX4_fraction_439 (lv_at hl 0 rfl) ?_
                    refine lv_iload hx hb dX4_fraction_441 (lv_at hl 10 rfl) ?_
                    refine mw_iast hx hb hK hP hS 0 (show M_131 (A 7) = some (.inl (gI G, 120, .inl (g_132 7))) from hT.2.1 7 (by decide)) (hT.2.2.2.2 7 (by decide)) rfl (by exact vp_in_nI (show (sN S) < 120 by have := hle; omega) (by decide)) dX4_fraction_443 (fun H locs hP hS => ?_)
                    rw [nI_clamp (show (sN S) < 2 ^ 31 by have := hle; omega)] at hP
                    obtain ⟨M_133, hM_133⟩ : ∃ z9 : mw_M, z9 = mw_up M_131 (A 7) (.inl (gI G, 120, .inl (upd (g_132 7) (sN S) t))) := ⟨_, rfl⟩
                    have hP : mw_P (gD G) gx_cl M_133 H := by rw [hM_133]; exact hP
                    obtain ⟨g_134, hg_134⟩ : ∃ z9, z9 = ug g_132 7 (sN S) t := ⟨_, rfl⟩
                    have hT : md_at G o A M_133 0 (sSp S) (sSh S) (nI (sN S + 1)) (nI np130) (nI (fSz (fIx st))) g_134 := by rw [hg_134]; exact md_at.put hT (by decide) rfl rfl hM_133
                    have hk : md_keeps o A M M_133 := md_keeps.arr (j := 7) hk (by decide) hM_133
                    have hB : md_ab np130 bg130 g_134 (fs_push S ((fMx (bW S (fIx n)) (bW S (fIx d))), ((pV S (fIx st) 1) + (bH S (fIx n))), ((bD S (fIx d)) + ((pV S (fIx st) 4) + ((3 * t) - (((pV S (fIx st) 0) - (fHf t)) - ((bH S (fIx d)) - (pV S (fIx st) 4)))))), [(nI (fIx n)), (fHf ((fMx (bW S (fIx n)) (bW S (fIx d))) - (bW S (fIx n)))), (pV S (fIx st) 1), (nI (fIx d)), (fHf ((fMx (bW S (fIx n)) (bW S (fIx d))) - (bW S (fIx d)))), (-((pV S (fIx st) 4) + ((3 * t) - (((pV S (fIx st) 0) - (fHf t)) - ((bH S (fIx d)) - (pV S (fIx st) 4)))))), (-1), 0, (((pV S (fIx st) 0) + (fHf t)) - t)], (fMx (bW S (fIx n)) (bW S (fIx d))), t)) := by rw [hg_134]; exact md_ab.set7 hB _
                    refine lv_iload hx hb dX4_fraction_444 (lv_at hl 0 rfl) ?_
                    have hex : ex_fraction S st n d t = 0 := by rw [ex_fraction, if_neg (fun z9 => z9 ⟨kb_5, kb_7⟩), if_neg (fun z9 => z9 ⟨kb_12, kb_14⟩), if_neg (fun z9 => z9 kb_16)]
                    have hre : re_fraction S st n d t = ((fMx (bW S (fIx n)) (bW S (fIx d))), ((pV S (fIx st) 1) + (bH S (fIx n))), ((bD S (fIx d)) + ((pV S (fIx st) 4) + ((3 * t) - (((pV S (fIx st) 0) - (fHf t)) - ((bH S (fIx d)) - (pV S (fIx st) 4)))))), [(nI (fIx n)), (fHf ((fMx (bW S (fIx n)) (bW S (fIx d))) - (bW S (fIx n)))), (pV S (fIx st) 1), (nI (fIx d)), (fHf ((fMx (bW S (fIx n)) (bW S (fIx d))) - (bW S (fIx d)))), (-((pV S (fIx st) 4) + ((3 * t) - (((pV S (fIx st) 0) - (fHf t)) - ((bH S (fIx d)) - (pV S (fIx st) 4)))))), (-1), 0, (((pV S (fIx st) 0) + (fHf t)) - t)], (fMx (bW S (fIx n)) (bW S (fIx d))), t) := by simp only [re_fraction, fs_fb, fs_fb1, fs_fb2, fs_fb3, fs_fl, fs_fl1, fs_fl3, if_neg c_15, if_pos c_21, if_neg c_104, if_pos c_107, if_neg c_108, if_neg t0_105, fMx0p c_107, fMx0n c_108, Int32.add_zero]
                    exact mx_iret (v := (nI (sN S))) (M' := M_133) hx hb hr hlocks hP hS ⟨by rw [hex]; rfl, ⟨_, by rw [hex, if_pos rfl, hre]; exact (md_R.of (np := np130) hT hB : md_R G o A M_133 0 (nI (fSz (fIx st))) (fs_push S ((fMx (bW S (fIx n)) (bW S (fIx d))), ((pV S (fIx st) 1) + (bH S (fIx n))), ((bD S (fIx d)) + ((pV S (fIx st) 4) + ((3 * t) - (((pV S (fIx st) 0) - (fHf t)) - ((bH S (fIx d)) - (pV S (fIx st) 4)))))), [(nI (fIx n)), (fHf ((fMx (bW S (fIx n)) (bW S (fIx d))) - (bW S (fIx n)))), (pV S (fIx st) 1), (nI (fIx d)), (fHf ((fMx (bW S (fIx n)) (bW S (fIx d))) - (bW S (fIx d)))), (-((pV S (fIx st) 4) + ((3 * t) - (((pV S (fIx st) 0) - (fHf t)) - ((bH S (fIx d)) - (pV S (fIx st) 4)))))), (-1), 0, (((pV S (fIx st) 0) + (fHf t)) - t)], (fMx (bW S (fIx n)) (bW S (fIx d))), t)))⟩, hk⟩ dX4_fraction_446 (Nat.le_of_ble_eq_true rfl) (Nat.le_of_ble_eq_true rfl)
                · refine lv_iload hx hb dX4_fraction_293 (lv_at hl 5 rfl) ?_
                  refine lv_iload hx hb dX4_fraction_295 (lv_at hl 1 rfl) ?_
                  refine lv_iadd hx hb dX4_fraction_297 ?_
                  refine lv_goto (tgt := 303) hx hb dX4_fraction_298 (by decide) ?_
                  refine lv_istore (lv' := [(5, .int ((pV S (fIx st) 1) + ((3 * t) - (((pV S (fIx st) 1) - (bD S (fIx n))) - ((pV S (fIx st) 0) + (fHf t)))))), (10, .int ((3 * t) - (((pV S (fIx st) 0) - (fHf t)) - ((bH S (fIx d)) - (pV S (fIx st) 4))))), (9, .int ((3 * t) - (((pV S (fIx st) 1) - (bD S (fIx n))) - ((pV S (fIx st) 0) + (fHf t))))), (8, .int (3 * t)), (7, .int (fHf t)), (6, .int (pV S (fIx st) 4)), (0, .ref o), (1, .int (nI (fIx st))), (2, .int (nI (fIx n))), (3, .int (nI (fIx d))), (4, .int t)]) hx hb dX4_fraction_303 hl (by decide) rfl (fun ls hl => ?_)
                  refine lv_iload hx hb dX4_fraction_305 (lv_at hl 1 rfl) ?_
                  refine lv_if_le (tgt := 318) hx hb dX4_fraction_307 (by decide) (fun c_135 => ?_) (fun c_135 => ?_)
                  · refine lv_iload hx hb dX4_fraction_318 (lv_at hl 5 rfl) ?_
                    refine lv_istore (lv' := [(6, .int (pV S (fIx st) 4)), (5, .int ((pV S (fIx st) 1) + ((3 * t) - (((pV S (fIx st) 1) - (bD S (fIx n))) - ((pV S (fIx st) 0) + (fHf t)))))), (10, .int ((3 * t) - (((pV S (fIx st) 0) - (fHf t)) - ((bH S (fIx d)) - (pV S (fIx st) 4))))), (9, .int ((3 * t) - (((pV S (fIx st) 1) - (bD S (fIx n))) - ((pV S (fIx st) 0) + (fHf t))))), (8, .int (3 * t)), (7, .int (fHf t)), (0, .ref o), (1, .int (nI (fIx st))), (2, .int (nI (fIx n))), (3, .int (nI (fIx d))), (4, .int t)]) hx hb dX4_fraction_320 hl (by decide) rfl (fun ls hl => ?_)
                    refine lv_aload_n hx hb dX4_fraction_322 rfl (lv_at hl 6 rfl) ?_
                    refine mw_get (D := gD G) (ci := 4) (v := .ref (A 1)) (C := RX4) (T := TX4) (N := 21) hx hb htb inX4 hown hK hP hT.1 rfl 5 (by decide) (htb _ wd529) (fun _ h9 => h9) rfl dX4_fraction_323 ?_
                    refine lv_iload_n hx hb dX4_fraction_326 rfl (lv_at hl 8 rfl) ?_
                    refine mw_iald hx hb hK hP 0 (show M_19 (A 1) = some (.inl (gI G, 120, .inl (g20 1))) from hT.2.1 1 (by decide)) rfl (by exact vp_in_nI (show (fIx n) < 120 by have := hle; omega) (by decide)) dX4_fraction_327 ?_
                    refine W.eq (g2 := F0 m 328 ls [.int (bW S (fIx n))]) (by rw [nI_clamp (show (fIx n) < 2 ^ 31 by have := hle; omega), hB.W h_n]) ?_
                    refine lv_aload_n hx hb dX4_fraction_328 rfl (lv_at hl 6 rfl) ?_
                    refine mw_get (D := gD G) (ci := 4) (v := .ref (A 1)) (C := RX4) (T := TX4) (N := 21) hx hb htb inX4 hown hK hP hT.1 rfl 5 (by decide) (htb _ wd529) (fun _ h9 => h9) rfl dX4_fraction_329 ?_
                    refine lv_iload_n hx hb dX4_fraction_332 rfl (lv_at hl 9 rfl) ?_
                    refine mw_iald hx hb hK hP 0 (show M_19 (A 1) = some (.inl (gI G, 120, .inl (g20 1))) from hT.2.1 1 (by decide)) rfl (by exact vp_in_nI (show (fIx d) < 120 by have := hle; omega) (by decide)) dX4_fraction_333 ?_
                    refine W.eq (g2 := F0 m 334 ls [.int (bW S (fIx d)), .int (bW S (fIx n))]) (by rw [nI_clamp (show (fIx d) < 2 ^ 31 by have := hle; omega), hB.W h_d]) ?_
                    refine mw_callS (As := [.int (bW S (fIx n)), .int (bW S (fIx d))]) (rest := []) hx hb hml hown hl (kX4_greater l htr G H.size M_19 (bW S (fIx n)) (bW S (fIx d))) (g_B (n := 2) htb wd664 wd3 wd662 (by decide +kernel) ⟨Nat.le_of_ble_eq_true rfl, Nat.le_of_ble_eq_true rfl⟩) (htb _ wd663) hE hP hS rfl rfl (Nat.le_of_ble_eq_true rfl) dX4_fraction_334 ⟨Nat.le_of_ble_eq_true rfl, Nat.le_of_ble_eq_true rfl⟩ (fun v9 M9 H locs hpo hP hz hS => ?_) (fun x9 E9 cell9 H9 locs9 hE9 => hE9.elim)
                    obtain ⟨rfl, rfl⟩ := hpo
                    refine W.eq (g2 := F0 m 337 ls [.int (fMx (bW S (fIx n)) (bW S (fIx d)))]) rfl ?_
                    refine lv_istore (lv' := [(8, .int (fMx (bW S (fIx n)) (bW S (fIx d)))), (6, .int (pV S (fIx st) 4)), (5, .int ((pV S (fIx st) 1) + ((3 * t) - (((pV S (fIx st) 1) - (bD S (fIx n))) - ((pV S (fIx st) 0) + (fHf t)))))), (10, .int ((3 * t) - (((pV S (fIx st) 0) - (fHf t)) - ((bH S (fIx d)) - (pV S (fIx st) 4))))), (9, .int ((3 * t) - (((pV S (fIx st) 1) - (bD S (fIx n))) - ((pV S (fIx st) 0) + (fHf t))))), (7, .int (fHf t)), (0, .ref o), (1, .int (nI (fIx st))), (2, .int (nI (fIx n))), (3, .int (nI (fIx d))), (4, .int t)]) hx hb dX4_fraction_337 hl (by decide) rfl (fun ls hl => ?_)
                    refine lv_aload_n hx hb dX4_fraction_339 rfl (lv_at hl 6 rfl) ?_
                    refine lv_iload hx hb dX4_fraction_340 (lv_at hl 0 rfl) ?_
                    refine lv_iload hx hb dX4_fraction_342 (lv_at hl 2 rfl) ?_
                    refine lv_aload_n hx hb dX4_fraction_344 rfl (lv_at hl 6 rfl) ?_
                    refine mw_get (D := gD G) (ci := 4) (v := .ref (A 2)) (C := RX4) (T := TX4) (N := 21) hx hb htb inX4 hown hK hP hT.1 rfl 6 (by decide) (htb _ wd530) (fun _ h9 => h9) rfl dX4_fraction_345 ?_
                    refine lv_iload_n hx hb dX4_fraction_348 rfl (lv_at hl 8 rfl) ?_
                    refine mw_iald hx hb hK hP 0 (show M_19 (A 2) = some (.inl (gI G, 120, .inl (g20 2))) from hT.2.1 2 (by decide)) rfl (by exact vp_in_nI (show (fIx n) < 120 by have := hle; omega) (by decide)) dX4_fraction_349 ?_
                    refine W.eq (g2 := F0 m 350 ls [.int (bH S (fIx n)), .int ((pV S (fIx st) 1) + ((3 * t) - (((pV S (fIx st) 1) - (bD S (fIx n))) - ((pV S (fIx st) 0) + (fHf t))))), .int (fMx (bW S (fIx n)) (bW S (fIx d))), .ref o]) (by rw [nI_clamp (show (fIx n) < 2 ^ 31 by have := hle; omega), hB.H h_n]) ?_
                    refine lv_iadd hx hb dX4_fraction_350 ?_
                    refine lv_aload_n hx hb dX4_fraction_351 rfl (lv_at hl 6 rfl) ?_
                    refine mw_get (D := gD G) (ci := 4) (v := .ref (A 3)) (C := RX4) (T := TX4) (N := 21) hx hb htb inX4 hown hK hP hT.1 rfl 7 (by decide) (htb _ wd531) (fun _ h9 => h9) rfl dX4_fraction_352 ?_
                    refine lv_iload_n hx hb dX4_fraction_355 rfl (lv_at hl 9 rfl) ?_
                    refine mw_iald hx hb hK hP 0 (show M_19 (A 3) = some (.inl (gI G, 120, .inl (g20 3))) from hT.2.1 3 (by decide)) rfl (by exact vp_in_nI (show (fIx d) < 120 by have := hle; omega) (by decide)) dX4_fraction_356 ?_
                    refine W.eq (g2 := F0 m 357 ls [.int (bD S (fIx d)), .int (((pV S (fIx st) 1) + ((3 * t) - (((pV S (fIx st) 1) - (bD S (fIx n))) - ((pV S (fIx st) 0) + (fHf t))))) + (bH S (fIx n))), .int (fMx (bW S (fIx n)) (bW S (fIx d))), .ref o]) (by rw [nI_clamp (show (fIx d) < 2 ^ 31 by have := hle; omega), hB.D h_d]) ?_
                    refine lv_iload hx hb dX4_fraction_357 (lv_at hl 1 rfl) ?_
                    refine lv_iadd hx hb dX4_fraction_359 ?_
                    refine mw_callV (C := RX4) (As := [.int (fMx (bW S (fIx n)) (bW S (fIx d))), .int (((pV S (fIx st) 1) + ((3 * t) - (((pV S (fIx st) 1) - (bD S (fIx n))) - ((pV S (fIx st) 0) + (fHf t))))) + (bH S (fIx n))), .int ((bD S (fIx d)) + (pV S (fIx st) 4))]) (rest := []) hx hb hml hown hl (kX4_make l htr G H.size M_19 o A 0 (nI (fSz (fIx st))) S (⟨np20, bg20, g20, hT, hB⟩ : md_R G o A M_19 0 (nI (fSz (fIx st))) S) (rmk_lt kb_16 hle) (fMx (bW S (fIx n)) (bW S (fIx d))) (((pV S (fIx st) 1) + ((3 * t) - (((pV S (fIx st) 1) - (bD S (fIx n))) - ((pV S (fIx st) 0) + (fHf t))))) + (bH S (fIx n))) ((bD S (fIx d)) + (pV S (fIx st) 4))) (g_B (n := 3) htb wd613 wd3 wd610 (by decide +kernel) ⟨Nat.le_of_ble_eq_true rfl, Nat.le_of_ble_eq_true rfl⟩) (htb _ wd612) (htb _ ws26) hE hP hS hT.1 rfl rfl rfl (Nat.le_of_ble_eq_true rfl) dX4_fraction_360 ⟨Nat.le_of_ble_eq_true rfl, Nat.le_of_ble_eq_true rfl⟩ (fun v9 M9 H locs hpo hP hz hS => ?_) (fun x9 E9 cell9 H9 locs9 hE9 => hE9.elim)
                    have hle0 := hle
                    obtain ⟨rfl, hRn, hkn⟩ := hpo
                    obtain ⟨M_136, hM_136⟩ : ∃ z9 : mw_M, z9 = M9 := ⟨_, rfl⟩
                    rw [← hM_136] at hP hRn hkn
                    have hk := md_keeps.tr hk hkn
                    have hRn : md_R G o A M_136 0 (nI (fSz (fIx st))) (fs_push S ((fMx (bW S (fIx n)) (bW S (fIx d))), (((pV S (fIx st) 1) + ((3 * t) - (((pV S (fIx st) 1) - (bD S (fIx n))) - ((pV S (fIx st) 0) + (fHf t))))) + (bH S (fIx n))), ((bD S (fIx d)) + (pV S (fIx st) 4)), [], 0, 0)) := hRn
                    obtain ⟨np137, bg137, g137, hT, hB⟩ := id hRn
                    rw [sN_push] at hT
                    have hT : md_at G o A M_136 0 (sSp S) (sSh S) (nI (sN S + 1)) (nI np137) (nI (fSz (fIx st))) g137 := hT
                    have hle : sN S + 1 ≤ 120 := by have := hB.1; rw [sN_push] at this; exact this
                    refine W.eq (g2 := F0 m 363 ls [.int (nI (sN S))]) rfl ?_
                    refine lv_istore (lv' := [(9, .int (nI (sN S))), (8, .int (fMx (bW S (fIx n)) (bW S (fIx d)))), (6, .int (pV S (fIx st) 4)), (5, .int ((pV S (fIx st) 1) + ((3 * t) - (((pV S (fIx st) 1) - (bD S (fIx n))) - ((pV S (fIx st) 0) + (fHf t)))))), (10, .int ((3 * t) - (((pV S (fIx st) 0) - (fHf t)) - ((bH S (fIx d)) - (pV S (fIx st) 4))))), (7, .int (fHf t)), (0, .ref o), (1, .int (nI (fIx st))), (2, .int (nI (fIx n))), (3, .int (nI (fIx d))), (4, .int t)]) hx hb dX4_fraction_363 hl (by decide) rfl (fun ls hl => ?_)
                    refine lv_aload_n hx hb dX4_fraction_365 rfl (lv_at hl 6 rfl) ?_
                    refine lv_iload_n hx hb dX4_fraction_366 rfl (lv_at hl 8 rfl) ?_
                    refine lv_iload hx hb dX4_fraction_367 (lv_at hl 1 rfl) ?_
                    refine lv_aload_n hx hb dX4_fraction_369 rfl (lv_at hl 6 rfl) ?_
                    refine mw_get (D := gD G) (ci := 4) (v := .ref (A 1)) (C := RX4) (T := TX4) (N := 21) hx hb htb inX4 hown hK hP hT.1 rfl 5 (by decide) (htb _ wd529) (fun _ h9 => h9) rfl dX4_fraction_370 ?_
                    refine lv_iload_n hx hb dX4_fraction_373 rfl (lv_at hl 8 rfl) ?_
                    refine mw_iald hx hb hK hP 0 (show M_136 (A 1) = some (.inl (gI G, 120, .inl (g137 1))) from hT.2.1 1 (by decide)) rfl (by exact vp_in_nI (show (fIx n) < 120 by have := hle; omega) (by decide)) dX4_fraction_374 ?_
                    refine W.eq (g2 := F0 m 375 ls [.int (bW S (fIx n)), .int (fMx (bW S (fIx n)) (bW S (fIx d))), .int (nI (fIx n)), .ref o]) (by rw [nI_clamp (show (fIx n) < 2 ^ 31 by have := hle; omega), hB.W (show (fIx n) < sN (fs_push S ((fMx (bW S (fIx n)) (bW S (fIx d))), (((pV S (fIx st) 1) + ((3 * t) - (((pV S (fIx st) 1) - (bD S (fIx n))) - ((pV S (fIx st) 0) + (fHf t))))) + (bH S (fIx n))), ((bD S (fIx d)) + (pV S (fIx st) 4)), [], 0, 0)) by rw [sN_push]; omega), bW_push _ h_n]) ?_
                    refine lv_isub hx hb dX4_fraction_375 ?_
                    refine mw_callS (As := [.int ((fMx (bW S (fIx n)) (bW S (fIx d))) - (bW S (fIx n)))]) (rest := [.int (nI (fIx n)), .ref o]) hx hb hml hown hl (kX4_half l htr G H.size M_136 ((fMx (bW S (fIx n)) (bW S (fIx d))) - (bW S (fIx n)))) (g_B (n := 1) htb wd682 wd3 wd680 (by decide +kernel) ⟨Nat.le_of_ble_eq_true rfl, Nat.le_of_ble_eq_true rfl⟩) (htb _ wd681) hE hP hS rfl rfl (Nat.le_of_ble_eq_true rfl) dX4_fraction_376 ⟨Nat.le_of_ble_eq_true rfl, Nat.le_of_ble_eq_true rfl⟩ (fun v9 M9 H locs hpo hP hz hS => ?_) (fun x9 E9 cell9 H9 locs9 hE9 => hE9.elim)
                    obtain ⟨rfl, rfl⟩ := hpo
                    refine W.eq (g2 := F0 m 379 ls [.int (fHf ((fMx (bW S (fIx n)) (bW S (fIx d))) - (bW S (fIx n)))), .int (nI (fIx n)), .ref o]) rfl ?_
                    refine lv_iload hx hb dX4_fraction_379 (lv_at hl 3 rfl) ?_
                    refine mw_callV (C := RX4) (As := [.int (nI (fIx n)), .int (fHf ((fMx (bW S (fIx n)) (bW S (fIx d))) - (bW S (fIx n)))), .int ((pV S (fIx st) 1) + ((3 * t) - (((pV S (fIx st) 1) - (bD S (fIx n))) - ((pV S (fIx st) 0) + (fHf t)))))]) (rest := []) hx hb hml hown hl (kX4_lay l htr G H.size M_136 o A 0 (nI (fSz (fIx st))) S (fMx (bW S (fIx n)) (bW S (fIx d))) (((pV S (fIx st) 1) + ((3 * t) - (((pV S (fIx st) 1) - (bD S (fIx n))) - ((pV S (fIx st) 0) + (fHf t))))) + (bH S (fIx n))) ((bD S (fIx d)) + (pV S (fIx st) 4)) ([]) 0 0 (md_R.of (np := np137) hT hB : md_R G o A M_136 0 (nI (fSz (fIx st))) (fs_push S ((fMx (bW S (fIx n)) (bW S (fIx d))), (((pV S (fIx st) 1) + ((3 * t) - (((pV S (fIx st) 1) - (bD S (fIx n))) - ((pV S (fIx st) 0) + (fHf t))))) + (bH S (fIx n))), ((bD S (fIx d)) + (pV S (fIx st) 4)), [], 0, 0))) (by simp) (nI (fIx n)) (fHf ((fMx (bW S (fIx n)) (bW S (fIx d))) - (bW S (fIx n)))) ((pV S (fIx st) 1) + ((3 * t) - (((pV S (fIx st) 1) - (bD S (fIx n))) - ((pV S (fIx st) 0) + (fHf t)))))) (g_B (n := 3) htb wd661 wd3 wd658 (by decide +kernel) ⟨Nat.le_of_ble_eq_true rfl, Nat.le_of_ble_eq_true rfl⟩) (htb _ wd660) (htb _ ws34) hE hP hS hT.1 rfl rfl rfl (Nat.le_of_ble_eq_true rfl) dX4_fraction_381 ⟨Nat.le_of_ble_eq_true rfl, Nat.le_of_ble_eq_true rfl⟩ (fun v9 M9 H locs hpo hP hz hS => ?_) (fun x9 E9 cell9 H9 locs9 hE9 => hE9.elim)
                    obtain ⟨rfl, hRn, hkn⟩ := hpo
                    obtain ⟨M_138, hM_138⟩ : ∃ z9 : mw_M, z9 = M9 := ⟨_, rfl⟩
                    rw [← hM_138] at hP hRn hkn
                    have hk := md_keeps.tr hk hkn
                    have hRn : md_R G o A M_138 0 (nI (fSz (fIx st))) (fs_push S ((fMx (bW S (fIx n)) (bW S (fIx d))), (((pV S (fIx st) 1) + ((3 * t) - (((pV S (fIx st) 1) - (bD S (fIx n))) - ((pV S (fIx st) 0) + (fHf t))))) + (bH S (fIx n))), ((bD S (fIx d)) + (pV S (fIx st) 4)), [(nI (fIx n)), (fHf ((fMx (bW S (fIx n)) (bW S (fIx d))) - (bW S (fIx n)))), ((pV S (fIx st) 1) + ((3 * t) - (((pV S (fIx st) 1) - (bD S (fIx n))) - ((pV S (fIx st) 0) + (fHf t)))))], 0, 0)) := hRn
                    obtain ⟨np139, bg139, g139, hT, hB⟩ := id hRn
                    rw [sN_push] at hT
                    have hT : md_at G o A M_138 0 (sSp S) (sSh S) (nI (sN S + 1)) (nI np139) (nI (fSz (fIx st))) g139 := hT
                    refine W.eq (g2 := F0 m 384 ls []) rfl ?_
                    refine lv_aload_n hx hb dX4_fraction_384 rfl (lv_at hl 6 rfl) ?_
                    refine lv_iload_n hx hb dX4_fraction_385 rfl (lv_at hl 9 rfl) ?_
                    refine lv_iload hx hb dX4_fraction_386 (lv_at hl 1 rfl) ?_
                    refine lv_aload_n hx hb dX4_fraction_388 rfl (lv_at hl 6 rfl) ?_
                    refine mw_get (D := gD G) (ci := 4) (v := .ref (A 1)) (C := RX4) (T := TX4) (N := 21) hx hb htb inX4 hown hK hP hT.1 rfl 5 (by decide) (htb _ wd529) (fun _ h9 => h9) rfl dX4_fraction_389 ?_
                    refine lv_iload_n hx hb dX4_fraction_392 rfl (lv_at hl 9 rfl) ?_
                    refine mw_iald hx hb hK hP 0 (show M_138 (A 1) = some (.inl (gI G, 120, .inl (g139 1))) from hT.2.1 1 (by decide)) rfl (by exact vp_in_nI (show (fIx d) < 120 by have := hle; omega) (by decide)) dX4_fraction_393 ?_
                    refine W.eq (g2 := F0 m 394 ls [.int (bW S (fIx d)), .int (fMx (bW S (fIx n)) (bW S (fIx d))), .int (nI (fIx d)), .ref o]) (by rw [nI_clamp (show (fIx d) < 2 ^ 31 by have := hle; omega), hB.W (show (fIx d) < sN (fs_push S ((fMx (bW S (fIx n)) (bW S (fIx d))), (((pV S (fIx st) 1) + ((3 * t) - (((pV S (fIx st) 1) - (bD S (fIx n))) - ((pV S (fIx st) 0) + (fHf t))))) + (bH S (fIx n))), ((bD S (fIx d)) + (pV S (fIx st) 4)), [(nI (fIx n)), (fHf ((fMx (bW S (fIx n)) (bW S (fIx d))) - (bW S (fIx n)))), ((pV S (fIx st) 1) + ((3 * t) - (((pV S (fIx st) 1) - (bD S (fIx n))) - ((pV S (fIx st) 0) + (fHf t)))))], 0, 0)) by rw [sN_push]; omega), bW_push _ h_d]) ?_
                    refine lv_isub hx hb dX4_fraction_394 ?_
                    refine mw_callS (As := [.int ((fMx (bW S (fIx n)) (bW S (fIx d))) - (bW S (fIx d)))]) (rest := [.int (nI (fIx d)), .ref o]) hx hb hml hown hl (kX4_half l htr G H.size M_138 ((fMx (bW S (fIx n)) (bW S (fIx d))) - (bW S (fIx d)))) (g_B (n := 1) htb wd682 wd3 wd680 (by decide +kernel) ⟨Nat.le_of_ble_eq_true rfl, Nat.le_of_ble_eq_true rfl⟩) (htb _ wd681) hE hP hS rfl rfl (Nat.le_of_ble_eq_true rfl) dX4_fraction_395 ⟨Nat.le_of_ble_eq_true rfl, Nat.le_of_ble_eq_true rfl⟩ (fun v9 M9 H locs hpo hP hz hS => ?_) (fun x9 E9 cell9 H9 locs9 hE9 => hE9.elim)
                    obtain ⟨rfl, rfl⟩ := hpo
                    refine W.eq (g2 := F0 m 398 ls [.int (fHf ((fMx (bW S (fIx n)) (bW S (fIx d))) - (bW S (fIx d)))), .int (nI (fIx d)), .ref o]) rfl ?_
                    refine lv_iload hx hb dX4_fraction_398 (lv_at hl 2 rfl) ?_
                    refine lv_ineg hx hb dX4_fraction_400 ?_
                    refine mw_callV (C := RX4) (As := [.int (nI (fIx d)), .int (fHf ((fMx (bW S (fIx n)) (bW S (fIx d))) - (bW S (fIx d)))), .int (-(pV S (fIx st) 4))]) (rest := []) hx hb hml hown hl (kX4_lay l htr G H.size M_138 o A 0 (nI (fSz (fIx st))) S (fMx (bW S (fIx n)) (bW S (fIx d))) (((pV S (fIx st) 1) + ((3 * t) - (((pV S (fIx st) 1) - (bD S (fIx n))) - ((pV S (fIx st) 0) + (fHf t))))) + (bH S (fIx n))) ((bD S (fIx d)) + (pV S (fIx st) 4)) ([(nI (fIx n)), (fHf ((fMx (bW S (fIx n)) (bW S (fIx d))) - (bW S (fIx n)))), ((pV S (fIx st) 1) + ((3 * t) - (((pV S (fIx st) 1) - (bD S (fIx n))) - ((pV S (fIx st) 0) + (fHf t)))))]) 0 0 (md_R.of (np := np139) hT hB : md_R G o A M_138 0 (nI (fSz (fIx st))) (fs_push S ((fMx (bW S (fIx n)) (bW S (fIx d))), (((pV S (fIx st) 1) + ((3 * t) - (((pV S (fIx st) 1) - (bD S (fIx n))) - ((pV S (fIx st) 0) + (fHf t))))) + (bH S (fIx n))), ((bD S (fIx d)) + (pV S (fIx st) 4)), [(nI (fIx n)), (fHf ((fMx (bW S (fIx n)) (bW S (fIx d))) - (bW S (fIx n)))), ((pV S (fIx st) 1) + ((3 * t) - (((pV S (fIx st) 1) - (bD S (fIx n))) - ((pV S (fIx st) 0) + (fHf t)))))], 0, 0))) (by simp) (nI (fIx d)) (fHf ((fMx (bW S (fIx n)) (bW S (fIx d))) - (bW S (fIx d)))) (-(pV S (fIx st) 4))) (g_B (n := 3) htb wd661 wd3 wd658 (by decide +kernel) ⟨Nat.le_of_ble_eq_true rfl, Nat.le_of_ble_eq_true rfl⟩) (htb _ wd660) (htb _ ws34) hE hP hS hT.1 rfl rfl rfl (Nat.le_of_ble_eq_true rfl) dX4_fraction_401 ⟨Nat.le_of_ble_eq_true rfl, Nat.le_of_ble_eq_true rfl⟩ (fun v9 M9 H locs hpo hP hz hS => ?_) (fun x9 E9 cell9 H9 locs9 hE9 => hE9.elim)
                    obtain ⟨rfl, hRn, hkn⟩ := hpo
                    obtain ⟨M_140, hM_140⟩ : ∃ z9 : mw_M, z9 = M9 := ⟨_, rfl⟩
                    rw [← hM_140] at hP hRn hkn
                    have hk := md_keeps.tr hk hkn
                    have hRn : md_R G o A M_140 0 (nI (fSz (fIx st))) (fs_push S ((fMx (bW S (fIx n)) (bW S (fIx d))), (((pV S (fIx st) 1) + ((3 * t) - (((pV S (fIx st) 1) - (bD S (fIx n))) - ((pV S (fIx st) 0) + (fHf t))))) + (bH S (fIx n))), ((bD S (fIx d)) + (pV S (fIx st) 4)), [(nI (fIx n)), (fHf ((fMx (bW S (fIx n)) (bW S (fIx d))) - (bW S (fIx n)))), ((pV S (fIx st) 1) + ((3 * t) - (((pV S (fIx st) 1) - (bD S (fIx n))) - ((pV S (fIx st) 0) + (fHf t))))), (nI (fIx d)), (fHf ((fMx (bW S (fIx n)) (bW S (fIx d))) - (bW S (fIx d)))), (-(pV S (fIx st) 4))], 0, 0)) := hRn
                    obtain ⟨np141, bg141, g141, hT, hB⟩ := id hRn
                    rw [sN_push] at hT
                    have hT : md_at G o A M_140 0 (sSp S) (sSh S) (nI (sN S + 1)) (nI np141) (nI (fSz (fIx st))) g141 := hT
                    refine W.eq (g2 := F0 m 404 ls []) rfl ?_
                    refine lv_iload hx hb dX4_fraction_404 (lv_at hl 10 rfl) ?_
                    refine lv_if_le (tgt := 444) hx hb dX4_fraction_406 (by decide) (fun c_142 => absurd c_142 t0_105) (fun c_142 => ?_)
                    refine lv_aload_n hx hb dX4_fraction_409 rfl (lv_at hl 6 rfl) ?_
                    refine lv_iconst (v := (-1)) hx hb dX4_fraction_410 (by decide) ?_
                    refine lv_iconst (v := 0) hx hb dX4_fraction_411 (by decide) ?_
                    refine lv_aload_n hx hb dX4_fraction_412 rfl (lv_at hl 6 rfl) ?_
                    refine lv_iconst (v := 0) hx hb dX4_fraction_413 (by decide) ?_
                    refine mw_callV (C := RX4) (As := [.int 0]) (rest := [.int 0, .int (-1), .ref o]) hx hb hml hown hl (kX4_p l htr G H.size M_140 o A 0 (fs_push S ((fMx (bW S (fIx n)) (bW S (fIx d))), (((pV S (fIx st) 1) + ((3 * t) - (((pV S (fIx st) 1) - (bD S (fIx n))) - ((pV S (fIx st) 0) + (fHf t))))) + (bH S (fIx n))), ((bD S (fIx d)) + (pV S (fIx st) 4)), [(nI (fIx n)), (fHf ((fMx (bW S (fIx n)) (bW S (fIx d))) - (bW S (fIx n)))), ((pV S (fIx st) 1) + ((3 * t) - (((pV S (fIx st) 1) - (bD S (fIx n))) - ((pV S (fIx st) 0) + (fHf t))))), (nI (fIx d)), (fHf ((fMx (bW S (fIx n)) (bW S (fIx d))) - (bW S (fIx d)))), (-(pV S (fIx st) 4))], 0, 0)) (fIx st) 0 h_st (by decide) (md_R.of (np := np141) hT hB : md_R G o A M_140 0 (nI (fSz (fIx st))) (fs_push S ((fMx (bW S (fIx n)) (bW S (fIx d))), (((pV S (fIx st) 1) + ((3 * t) - (((pV S (fIx st) 1) - (bD S (fIx n))) - ((pV S (fIx st) 0) + (fHf t))))) + (bH S (fIx n))), ((bD S (fIx d)) + (pV S (fIx st) 4)), [(nI (fIx n)), (fHf ((fMx (bW S (fIx n)) (bW S (fIx d))) - (bW S (fIx n)))), ((pV S (fIx st) 1) + ((3 * t) - (((pV S (fIx st) 1) - (bD S (fIx n))) - ((pV S (fIx st) 0) + (fHf t))))), (nI (fIx d)), (fHf ((fMx (bW S (fIx n)) (bW S (fIx d))) - (bW S (fIx d)))), (-(pV S (fIx st) 4))], 0, 0)))) (g_B (n := 1) htb wd679 wd3 wd676 (by decide +kernel) ⟨Nat.le_of_ble_eq_true rfl, Nat.le_of_ble_eq_true rfl⟩) (htb _ wd678) (htb _ ws36) hE hP hS hT.1 rfl rfl rfl (Nat.le_of_ble_eq_true rfl) dX4_fraction_414 ⟨Nat.le_of_ble_eq_true rfl, Nat.le_of_ble_eq_true rfl⟩ (fun v9 M9 H locs hpo hP hz hS => ?_) (fun x9 E9 cell9 H9 locs9 hE9 => hE9.elim)
                    obtain ⟨rfl, rfl⟩ := hpo
                    refine W.eq (g2 := F0 m 417 ls [.int (pV S (fIx st) 0), .int 0, .int (-1), .ref o]) rfl ?_
                    refine lv_iload hx hb dX4_fraction_417 (lv_at hl 5 rfl) ?_
                    refine lv_iadd hx hb dX4_fraction_419 ?_
                    refine lv_iload hx hb dX4_fraction_420 (lv_at hl 10 rfl) ?_
                    refine lv_isub hx hb dX4_fraction_422 ?_
                    refine mw_callV (C := RX4) (As := [.int (-1), .int 0, .int (((pV S (fIx st) 0) + (fHf t)) - t)]) (rest := []) hx hb hml hown hl (kX4_lay l htr G H.size M_140 o A 0 (nI (fSz (fIx st))) S (fMx (bW S (fIx n)) (bW S (fIx d))) (((pV S (fIx st) 1) + ((3 * t) - (((pV S (fIx st) 1) - (bD S (fIx n))) - ((pV S (fIx st) 0) + (fHf t))))) + (bH S (fIx n))) ((bD S (fIx d)) + (pV S (fIx st) 4)) ([(nI (fIx n)), (fHf ((fMx (bW S (fIx n)) (bW S (fIx d))) - (bW S (fIx n)))), ((pV S (fIx st) 1) + ((3 * t) - (((pV S (fIx st) 1) - (bD S (fIx n))) - ((pV S (fIx st) 0) + (fHf t))))), (nI (fIx d)), (fHf ((fMx (bW S (fIx n)) (bW S (fIx d))) - (bW S (fIx d)))), (-(pV S (fIx st) 4))]) 0 0 (md_R.of (np := np141) hT hB : md_R G o A M_140 0 (nI (fSz (fIx st))) (fs_push S ((fMx (bW S (fIx n)) (bW S (fIx d))), (((pV S (fIx st) 1) + ((3 * t) - (((pV S (fIx st) 1) - (bD S (fIx n))) - ((pV S (fIx st) 0) + (fHf t))))) + (bH S (fIx n))), ((bD S (fIx d)) + (pV S (fIx st) 4)), [(nI (fIx n)), (fHf ((fMx (bW S (fIx n)) (bW S (fIx d))) - (bW S (fIx n)))), ((pV S (fIx st) 1) + ((3 * t) - (((pV S (fIx st) 1) - (bD S (fIx n))) - ((pV S (fIx st) 0) + (fHf t))))), (nI (fIx d)), (fHf ((fMx (bW S (fIx n)) (bW S (fIx d))) - (bW S (fIx d)))), (-(pV S (fIx st) 4))], 0, 0))) (by simp) (-1) 0 (((pV S (fIx st) 0) + (fHf t)) - t)) (g_B (n := 3) htb wd661 wd3 wd658 (by decide +kernel) ⟨Nat.le_of_ble_eq_true rfl, Nat.le_of_ble_eq_true rfl⟩) (htb _ wd660) (htb _ ws34) hE hP hS hT.1 rfl rfl rfl (Nat.le_of_ble_eq_true rfl) dX4_fraction_423 ⟨Nat.le_of_ble_eq_true rfl, Nat.le_of_ble_eq_true rfl⟩ (fun v9 M9 H locs hpo hP hz hS => ?_) (fun x9 E9 cell9 H9 locs9 hE9 => hE9.elim)
                    obtain ⟨rfl, hRn, hkn⟩ := hpo
                    obtain ⟨M_143, hM_143⟩ : ∃ z9 : mw_M, z9 = M9 := ⟨_, rfl⟩
                    rw [← hM_143] at hP hRn hkn
                    have hk := md_keeps.tr hk hkn
                    have hRn : md_R G o A M_143 0 (nI (fSz (fIx st))) (fs_push S ((fMx (bW S (fIx n)) (bW S (fIx d))), (((pV S (fIx st) 1) + ((3 * t) - (((pV S (fIx st) 1) - (bD S (fIx n))) - ((pV S (fIx st) 0) + (fHf t))))) + (bH S (fIx n))), ((bD S (fIx d)) + (pV S (fIx st) 4)), [(nI (fIx n)), (fHf ((fMx (bW S (fIx n)) (bW S (fIx d))) - (bW S (fIx n)))), ((pV S (fIx st) 1) + ((3 * t) - (((pV S (fIx st) 1) - (bD S (fIx n))) - ((pV S (fIx st) 0) + (fHf t))))), (nI (fIx d)), (fHf ((fMx (bW S (fIx n)) (bW S (fIx d))) - (bW S (fIx d)))), (-(pV S (fIx st) 4)), (-1), 0, (((pV S (fIx st) 0) + (fHf t)) - t)], 0, 0)) := hRn
                    obtain ⟨np144, bg144, g144, hT, hB⟩ := id hRn
                    rw [sN_push] at hT
                    have hT : md_at G o A M_143 0 (sSp S) (sSh S) (nI (sN S + 1)) (nI np144) (nI (fSz (fIx st))) g144 := hT
                    refine W.eq (g2 := F0 m 426 ls []) rfl ?_
                    refine lv_aload_n hx hb dX4_fraction_426 rfl (lv_at hl 6 rfl) ?_
                    refine mw_get (D := gD G) (ci := 4) (v := .ref (A 6)) (C := RX4) (T := TX4) (N := 21) hx hb htb inX4 hown hK hP hT.1 rfl 10 (by decide) (htb _ wd534) (fun _ h9 => h9) rfl dX4_fraction_427 ?_
                    refine lv_iload hx hb dX4_fraction_430 (lv_at hl 0 rfl) ?_
                    refine lv_iload hx hb dX4_fraction_432 (lv_at hl 1 rfl) ?_
                    refine mw_iast hx hb hK hP hS 0 (show M_143 (A 6) = some (.inl (gI G, 120, .inl (g144 6))) from hT.2.1 6 (by decide)) (hT.2.2.2.2 6 (by decide)) rfl (by exact vp_in_nI (show (sN S) < 120 by have := hle; omega) (by decide)) dX4_fraction_434 (fun H locs hP hS => ?_)
                    rw [nI_clamp (show (sN S) < 2 ^ 31 by have := hle; omega)] at hP
                    obtain ⟨M_145, hM_145⟩ : ∃ z9 : mw_M, z9 = mw_up M_143 (A 6) (.inl (gI G, 120, .inl (upd (g144 6) (sN S) (fMx (bW S (fIx n)) (bW S (fIx d)))))) := ⟨_, rfl⟩
                    have hP : mw_P (gD G) gx_cl M_145 H := by rw [hM_145]; exact hP
                    obtain ⟨g_146, hg_146⟩ : ∃ z9, z9 = ug g144 6 (sN S) (fMx (bW S (fIx n)) (bW S (fIx d))) := ⟨_, rfl⟩
                    have hT : md_at G o A M_145 0 (sSp S) (sSh S) (nI (sN S + 1)) (nI np144) (nI (fSz (fIx st))) g_146 := by rw [hg_146]; exact md_at.put hT (by decide) rfl rfl hM_145
                    have hk : md_keeps o A M M_145 := md_keeps.arr (j := 6) hk (by decide) hM_145
                    have hB : md_ab np144 bg144 g_146 (fs_push S ((fMx (bW S (fIx n)) (bW S (fIx d))), (((pV S (fIx st) 1) + ((3 * t) - (((pV S (fIx st) 1) - (bD S (fIx n))) - ((pV S (fIx st) 0) + (fHf t))))) + (bH S (fIx n))), ((bD S (fIx d)) + (pV S (fIx st) 4)), [(nI (fIx n)), (fHf ((fMx (bW S (fIx n)) (bW S (fIx d))) - (bW S (fIx n)))), ((pV S (fIx st) 1) + ((3 * t) - (((pV S (fIx st) 1) - (bD S (fIx n))) - ((pV S (fIx st) 0) + (fHf t))))), (nI (fIx d)), (fHf ((fMx (bW S (fIx n)) (bW S (fIx d))) - (bW S (fIx d)))), (-(pV S (fIx st) 4)), (-1), 0, (((pV S (fIx st) 0) + (fHf t)) - t)], (fMx (bW S (fIx n)) (bW S (fIx d))), 0)) := by rw [hg_146]; exact md_ab.set6 hB _
                    refine lv_aload_n hx hb dX4_fraction_435 rfl (lv_at hl 6 rfl) ?_
                    refine mw_get (D := gD G) (ci := 4) (v := .ref (A 7)) (C := RX4) (T := TX4) (N := 21) hx hb htb inX4 hown hK hP hT.1 rfl 11 (by decide) (htb _ wd535) (fun _ h9 => h9) rfl dX4_fraction_436 ?_
                    refine lv_iload hx hb dX4_fraction_439 (lv_at hl 0 rfl) ?_
                    refine lv_iload hx hb dX4_fraction_441 (lv_at hl 10 rfl) ?_
                    refine mw_iast hx hb hK hP hS 0 (show M_145 (A 7) = some (.inl (gI G, 120, .inl (g_146 7))) from hT.2.1 7 (by decide)) (hT.2.2.2.2 7 (by decide)) rfl (by exact vp_in_nI (show (sN S) < 120 by have := hle; omega) (by decide)) dX4_fraction_443 (fun H locs hP hS => ?_)
                    rw [nI_clamp (show (sN S) < 2 ^ 31 by have := hle; omega)] at hP
                    obtain ⟨M_147, hM_147⟩ : ∃ z9 : mw_M, z9 = mw_up M_145 (A 7) (.inl (gI G, 120, .inl (upd (g_146 7) (sN S) t))) := ⟨_, rfl⟩
                    have hP : mw_P (gD G) gx_cl M_147 H := by rw [hM_147]; exact hP
                    obtain ⟨g_148, hg_148⟩ : ∃ z9, z9 = ug g_146 7 (sN S) t := ⟨_, rfl⟩
                    have hT : md_at G o A M_147 0 (sSp S) (sSh S) (nI (sN S + 1)) (nI np144) (nI (fSz (fIx st))) g_148 := by rw [hg_148]; exact md_at.put hT (by decide) rfl rfl hM_147
                    have hk : md_keeps o A M M_147 := md_keeps.arr (j := 7) hk (by decide) hM_147
                    have hB : md_ab np144 bg144 g_148 (fs_push S ((fMx (bW S (fIx n)) (bW S (fIx d))), (((pV S (fIx st) 1) + ((3 * t) - (((pV S (fIx st) 1) - (bD S (fIx n))) - ((pV S (fIx st) 0) + (fHf t))))) + (bH S (fIx n))), ((bD S (fIx d)) + (pV S (fIx st) 4)), [(nI (fIx n)), (fHf ((fMx (bW S (fIx n)) (bW S (fIx d))) - (bW S (fIx n)))), ((pV S (fIx st) 1) + ((3 * t) - (((pV S (fIx st) 1) - (bD S (fIx n))) - ((pV S (fIx st) 0) + (fHf t))))), (nI (fIx d)), (fHf ((fMx (bW S (fIx n)) (bW S (fIx d))) - (bW S (fIx d)))), (-(pV S (fIx st) 4)), (-1), 0, (((pV S (fIx st) 0) + (fHf t)) - t)], (fMx (bW S (fIx n)) (bW S (fIx d))), t)) := by rw [hg_148]; exact md_ab.set7 hB _
                    refine lv_iload hx hb dX4_fraction_444 (lv_at hl 0 rfl) ?_
                    have hex : ex_fraction S st n d t = 0 := by rw [ex_fraction, if_neg (fun z9 => z9 ⟨kb_5, kb_7⟩), if_neg (fun z9 => z9 ⟨kb_12, kb_14⟩), if_neg (fun z9 => z9 kb_16)]
                    have hre : re_fraction S st n d t = ((fMx (bW S (fIx n)) (bW S (fIx d))), (((pV S (fIx st) 1) + ((3 * t) - (((pV S (fIx st) 1) - (bD S (fIx n))) - ((pV S (fIx st) 0) + (fHf t))))) + (bH S (fIx n))), ((bD S (fIx d)) + (pV S (fIx st) 4)), [(nI (fIx n)), (fHf ((fMx (bW S (fIx n)) (bW S (fIx d))) - (bW S (fIx n)))), ((pV S (fIx st) 1) + ((3 * t) - (((pV S (fIx st) 1) - (bD S (fIx n))) - ((pV S (fIx st) 0) + (fHf t))))), (nI (fIx d)), (fHf ((fMx (bW S (fIx n)) (bW S (fIx d))) - (bW S (fIx d)))), (-(pV S (fIx st) 4)), (-1), 0, (((pV S (fIx st) 0) + (fHf t)) - t)], (fMx (bW S (fIx n)) (bW S (fIx d))), t) := by simp only [re_fraction, fs_fb, fs_fb1, fs_fb2, fs_fb3, fs_fl, fs_fl1, fs_fl3, if_neg c_15, if_pos c_21, if_neg c_104, if_neg c_107, if_pos c_135, if_neg t0_105, fMx0n c_107, fMx0p c_135, Int32.add_zero]
                    exact mx_iret (v := (nI (sN S))) (M' := M_147) hx hb hr hlocks hP hS ⟨by rw [hex]; rfl, ⟨_, by rw [hex, if_pos rfl, hre]; exact (md_R.of (np := np144) hT hB : md_R G o A M_147 0 (nI (fSz (fIx st))) (fs_push S ((fMx (bW S (fIx n)) (bW S (fIx d))), (((pV S (fIx st) 1) + ((3 * t) - (((pV S (fIx st) 1) - (bD S (fIx n))) - ((pV S (fIx st) 0) + (fHf t))))) + (bH S (fIx n))), ((bD S (fIx d)) + (pV S (fIx st) 4)), [(nI (fIx n)), (fHf ((fMx (bW S (fIx n)) (bW S (fIx d))) - (bW S (fIx n)))), ((pV S (fIx st) 1) + ((3 * t) - (((pV S (fIx st) 1) - (bD S (fIx n))) - ((pV S (fIx st) 0) + (fHf t))))), (nI (fIx d)), (fHf ((fMx (bW S (fIx n)) (bW S (fIx d))) - (bW S (fIx d)))), (-(pV S (fIx st) 4)), (-1), 0, (((pV S (fIx st) 0) + (fHf t)) - t)], (fMx (bW S (fIx n)) (bW S (fIx d))), t)))⟩, hk⟩ dX4_fraction_446 (Nat.le_of_ble_eq_true rfl) (Nat.le_of_ble_eq_true rfl)
                  · refine lv_iload hx hb dX4_fraction_310 (lv_at hl 5 rfl) ?_
                    refine lv_iload hx hb dX4_fraction_312 (lv_at hl 1 rfl) ?_
                    refine lv_iadd hx hb dX4_fraction_314 ?_
                    refine lv_goto (tgt := 320) hx hb dX4_fraction_315 (by decide) ?_
                    refine lv_istore (lv' := [(6, .int ((pV S (fIx st) 4) + ((3 * t) - (((pV S (fIx st) 0) - (fHf t)) - ((bH S (fIx d)) - (pV S (fIx st) 4)))))), (5, .int ((pV S (fIx st) 1) + ((3 * t) - (((pV S (fIx st) 1) - (bD S (fIx n))) - ((pV S (fIx st) 0) + (fHf t)))))), (10, .int ((3 * t) - (((pV S (fIx st) 0) - (fHf t)) - ((bH S (fIx d)) - (pV S (fIx st) 4))))), (9, .int ((3 * t) - (((pV S (fIx st) 1) - (bD S (fIx n))) - ((pV S (fIx st) 0) + (fHf t))))), (8, .int (3 * t)), (7, .int (fHf t)), (0, .ref o), (1, .int (nI (fIx st))), (2, .int (nI (fIx n))), (3, .int (nI (fIx d))), (4, .int t)]) hx hb dX4_fraction_320 hl (by decide) rfl (fun ls hl => ?_)
                    refine lv_aload_n hx hb dX4_fraction_322 rfl (lv_at hl 6 rfl) ?_
                    refine mw_get (D := gD G) (ci := 4) (v := .ref (A 1)) (C := RX4) (T := TX4) (N := 21) hx hb htb inX4 hown hK hP hT.1 rfl 5 (by decide) (htb _ wd529) (fun _ h9 => h9) rfl dX4_fraction_323 ?_
                    refine lv_iload_n hx hb dX4_fraction_326 rfl (lv_at hl 8 rfl) ?_
                    refine mw_iald hx hb hK hP 0 (show M_19 (A 1) = some (.inl (gI G, 120, .inl (g20 1))) from hT.2.1 1 (by decide)) rfl (by exact vp_in_nI (show (fIx n) < 120 by have := hle; omega) (by decide)) dX4_fraction_327 ?_
                    refine W.eq (g2 := F0 m 328 ls [.int (bW S (fIx n))]) (by rw [nI_clamp (show (fIx n) < 2 ^ 31 by have := hle; omega), hB.W h_n]) ?_
                    refine lv_aload_n hx hb dX4_fraction_328 rfl (lv_at hl 6 rfl) ?_
                    refine mw_get (D := gD G) (ci := 4) (v := .ref (A 1)) (C := RX4) (T := TX4) (N := 21) hx hb htb inX4 hown hK hP hT.1 rfl 5 (by decide) (htb _ wd529) (fun _ h9 => h9) rfl dX4_fraction_329 ?_
                    refine lv_iload_n hx hb dX4_fraction_332 rfl (lv_at hl 9 rfl) ?_
                    refine mw_iald hx hb hK hP 0 (show M_19 (A 1) = some (.inl (gI G, 120, .inl (g20 1))) from hT.2.1 1 (by decide)) rfl (by exact vp_in_nI (show (fIx d) < 120 by have := hle; omega) (by decide)) dX4_fraction_333 ?_
                    refine W.eq (g2 := F0 m 334 ls [.int (bW S (fIx d)), .int (bW S (fIx n))]) (by rw [nI_clamp (show (fIx d) < 2 ^ 31 by have := hle; omega), hB.W h_d]) ?_
                    refine mw_callS (As := [.int (bW S (fIx n)), .int (bW S (fIx d))]) (rest := []) hx hb hml hown hl (kX4_greater l htr G H.size M_19 (bW S (fIx n)) (bW S (fIx d))) (g_B (n := 2) htb wd664 wd3 wd662 (by decide +kernel) ⟨Nat.le_of_ble_eq_true rfl, Nat.le_of_ble_eq_true rfl⟩) (htb _ wd663) hE hP hS rfl rfl (Nat.le_of_ble_eq_true rfl) dX4_fraction_334 ⟨Nat.le_of_ble_eq_true rfl, Nat.le_of_ble_eq_true rfl⟩ (fun v9 M9 H locs hpo hP hz hS => ?_) (fun x9 E9 cell9 H9 locs9 hE9 => hE9.elim)
                    obtain ⟨rfl, rfl⟩ := hpo
                    refine W.eq (g2 := F0 m 337 ls [.int (fMx (bW S (fIx n)) (bW S (fIx d)))]) rfl ?_
                    refine lv_istore (lv' := [(8, .int (fMx (bW S (fIx n)) (bW S (fIx d)))), (6, .int ((pV S (fIx st) 4) + ((3 * t) - (((pV S (fIx st) 0) - (fHf t)) - ((bH S (fIx d)) - (pV S (fIx st) 4)))))), (5, .int ((pV S (fIx st) 1) + ((3 * t) - (((pV S (fIx st) 1) - (bD S (fIx n))) - ((pV S (fIx st) 0) + (fHf t)))))), (10, .int ((3 * t) - (((pV S (fIx st) 0) - (fHf t)) - ((bH S (fIx d)) - (pV S (fIx st) 4))))), (9, .int ((3 * t) - (((pV S (fIx st) 1) - (bD S (fIx n))) - ((pV S (fIx st) 0) + (fHf t))))), (7, .int (fHf t)), (0, .ref o), (1, .int (nI (fIx st))), (2, .int (nI (fIx n))), (3, .int (nI (fIx d))), (4, .int t)]) hx hb dX4_fraction_337 hl (by decide) rfl (fun ls hl => ?_)
                    refine lv_aload_n hx hb dX4_fraction_339 rfl (lv_at hl 6 rfl) ?_
                    refine lv_iload hx hb dX4_fraction_340 (lv_at hl 0 rfl) ?_
                    refine lv_iload hx hb dX4_fraction_342 (lv_at hl 2 rfl) ?_
                    refine lv_aload_n hx hb dX4_fraction_344 rfl (lv_at hl 6 rfl) ?_
                    refine mw_get (D := gD G) (ci := 4) (v := .ref (A 2)) (C := RX4) (T := TX4) (N := 21) hx hb htb inX4 hown hK hP hT.1 rfl 6 (by decide) (htb _ wd530) (fun _ h9 => h9) rfl dX4_fraction_345 ?_
                    refine lv_iload_n hx hb dX4_fraction_348 rfl (lv_at hl 8 rfl) ?_
                    refine mw_iald hx hb hK hP 0 (show M_19 (A 2) = some (.inl (gI G, 120, .inl (g20 2))) from hT.2.1 2 (by decide)) rfl (by exact vp_in_nI (show (fIx n) < 120 by have := hle; omega) (by decide)) dX4_fraction_349 ?_
                    refine W.eq (g2 := F0 m 350 ls [.int (bH S (fIx n)), .int ((pV S (fIx st) 1) + ((3 * t) - (((pV S (fIx st) 1) - (bD S (fIx n))) - ((pV S (fIx st) 0) + (fHf t))))), .int (fMx (bW S (fIx n)) (bW S (fIx d))), .ref o]) (by rw [nI_clamp (show (fIx n) < 2 ^ 31 by have := hle; omega), hB.H h_n]) ?_
                    refine lv_iadd hx hb dX4_fraction_350 ?_
                    refine lv_aload_n hx hb dX4_fraction_351 rfl (lv_at hl 6 rfl) ?_
                    refine mw_get (D := gD G) (ci := 4) (v := .ref (A 3)) (C := RX4) (T := TX4) (N := 21) hx hb htb inX4 hown hK hP hT.1 rfl 7 (by decide) (htb _ wd531) (fun _ h9 => h9) rfl dX4_fraction_352 ?_
                    refine lv_iload_n hx hb dX4_fraction_355 rfl (lv_at hl 9 rfl) ?_
                    refine mw_iald hx hb hK hP 0 (show M_19 (A 3) = some (.inl (gI G, 120, .inl (g20 3))) from hT.2.1 3 (by decide)) rfl (by exact vp_in_nI (show (fIx d) < 120 by have := hle; omega) (by decide)) dX4_fraction_356 ?_
                    refine W.eq (g2 := F0 m 357 ls [.int (bD S (fIx d)), .int (((pV S (fIx st) 1) + ((3 * t) - (((pV S (fIx st) 1) - (bD S (fIx n))) - ((pV S (fIx st) 0) + (fHf t))))) + (bH S (fIx n))), .int (fMx (bW S (fIx n)) (bW S (fIx d))), .ref o]) (by rw [nI_clamp (show (fIx d) < 2 ^ 31 by have := hle; omega), hB.D h_d]) ?_
                    refine lv_iload hx hb dX4_fraction_357 (lv_at hl 1 rfl) ?_
                    refine lv_iadd hx hb dX4_fraction_359 ?_
                    refine mw_callV (C := RX4) (As := [.int (fMx (bW S (fIx n)) (bW S (fIx d))), .int (((pV S (fIx st) 1) + ((3 * t) - (((pV S (fIx st) 1) - (bD S (fIx n))) - ((pV S (fIx st) 0) + (fHf t))))) + (bH S (fIx n))), .int ((bD S (fIx d)) + ((pV S (fIx st) 4) + ((3 * t) - (((pV S (fIx st) 0) - (fHf t)) - ((bH S (fIx d)) - (pV S (fIx st) 4))))))]) (rest := []) hx hb hml hown hl (kX4_make l htr G H.size M_19 o A 0 (nI (fSz (fIx st))) S (⟨np20, bg20, g20, hT, hB⟩ : md_R G o A M_19 0 (nI (fSz (fIx st))) S) (rmk_lt kb_16 hle) (fMx (bW S (fIx n)) (bW S (fIx d))) (((pV S (fIx st) 1) + ((3 * t) - (((pV S (fIx st) 1) - (bD S (fIx n))) - ((pV S (fIx st) 0) + (fHf t))))) + (bH S (fIx n))) ((bD S (fIx d)) + ((pV S (fIx st) 4) + ((3 * t) - (((pV S (fIx st) 0) - (fHf t)) - ((bH S (fIx d)) - (pV S (fIx st) 4))))))) (g_B (n := 3) htb wd613 wd3 wd610 (by decide +kernel) ⟨Nat.le_of_ble_eq_true rfl, Nat.le_of_ble_eq_true rfl⟩) (htb _ wd612) (htb _ ws26) hE hP hS hT.1 rfl rfl rfl (Nat.le_of_ble_eq_true rfl) dX4_fraction_360 ⟨Nat.le_of_ble_eq_true rfl, Nat.le_of_ble_eq_true rfl⟩ (fun v9 M9 H locs hpo hP hz hS => ?_) (fun x9 E9 cell9 H9 locs9 hE9 => hE9.elim)
                    have hle0 := hle
                    obtain ⟨rfl, hRn, hkn⟩ := hpo
                    obtain ⟨M_149, hM_149⟩ : ∃ z9 : mw_M, z9 = M9 := ⟨_, rfl⟩
                    rw [← hM_149] at hP hRn hkn
                    have hk := md_keeps.tr hk hkn
                    have hRn : md_R G o A M_149 0 (nI (fSz (fIx st))) (fs_push S ((fMx (bW S (fIx n)) (bW S (fIx d))), (((pV S (fIx st) 1) + ((3 * t) - (((pV S (fIx st) 1) - (bD S (fIx n))) - ((pV S (fIx st) 0) + (fHf t))))) + (bH S (fIx n))), ((bD S (fIx d)) + ((pV S (fIx st) 4) + ((3 * t) - (((pV S (fIx st) 0) - (fHf t)) - ((bH S (fIx d)) - (pV S (fIx st) 4)))))), [], 0, 0)) := hRn
                    obtain ⟨np150, bg150, g150, hT, hB⟩ := id hRn
                    rw [sN_push] at hT
                    have hT : md_at G o A M_149 0 (sSp S) (sSh S) (nI (sN S + 1)) (nI np150) (nI (fSz (fIx st))) g150 := hT
                    have hle : sN S + 1 ≤ 120 := by have := hB.1; rw [sN_push] at this; exact this
                    refine W.eq (g2 := F0 m 363 ls [.int (nI (sN S))]) rfl ?_
                    refine lv_istore (lv' := [(9, .int (nI (sN S))), (8, .int (fMx (bW S (fIx n)) (bW S (fIx d)))), (6, .int ((pV S (fIx st) 4) + ((3 * t) - (((pV S (fIx st) 0) - (fHf t)) - ((bH S (fIx d)) - (pV S (fIx st) 4)))))), (5, .int ((pV S (fIx st) 1) + ((3 * t) - (((pV S (fIx st) 1) - (bD S (fIx n))) - ((pV S (fIx st) 0) + (fHf t)))))), (10, .int ((3 * t) - (((pV S (fIx st) 0) - (fHf t)) - ((bH S (fIx d)) - (pV S (fIx st) 4))))), (7, .int (fHf t)), (0, .ref o), (1, .int (nI (fIx st))), (2, .int (nI (fIx n))), (3, .int (nI (fIx d))), (4, .int t)]) hx hb dX4_fraction_363 hl (by decide) rfl (fun ls hl => ?_)
                    refine lv_aload_n hx hb dX4_fraction_365 rfl (lv_at hl 6 rfl) ?_
                    refine lv_iload_n hx hb dX4_fraction_366 rfl (lv_at hl 8 rfl) ?_
                    refine lv_iload hx hb dX4_fraction_367 (lv_at hl 1 rfl) ?_
                    refine lv_aload_n hx hb dX4_fraction_369 rfl (lv_at hl 6 rfl) ?_
                    refine mw_get (D := gD G) (ci := 4) (v := .ref (A 1)) (C := RX4) (T := TX4) (N := 21) hx hb htb inX4 hown hK hP hT.1 rfl 5 (by decide) (htb _ wd529) (fun _ h9 => h9) rfl dX4_fraction_370 ?_
                    refine lv_iload_n hx hb dX4_fraction_373 rfl (lv_at hl 8 rfl) ?_
                    refine mw_iald hx hb hK hP 0 (show M_149 (A 1) = some (.inl (gI G, 120, .inl (g150 1))) from hT.2.1 1 (by decide)) rfl (by exact vp_in_nI (show (fIx n) < 120 by have := hle; omega) (by decide)) dX4_fraction_374 ?_
                    refine W.eq (g2 := F0 m 375 ls [.int (bW S (fIx n)), .int (fMx (bW S (fIx n)) (bW S (fIx d))), .int (nI (fIx n)), .ref o]) (by rw [nI_clamp (show (fIx n) < 2 ^ 31 by have := hle; omega), hB.W (show (fIx n) < sN (fs_push S ((fMx (bW S (fIx n)) (bW S (fIx d))), (((pV S (fIx st) 1) + ((3 * t) - (((pV S (fIx st) 1) - (bD S (fIx n))) - ((pV S (fIx st) 0) + (fHf t))))) + (bH S (fIx n))), ((bD S (fIx d)) + ((pV S (fIx st) 4) + ((3 * t) - (((pV S (fIx st) 0) - (fHf t)) - ((bH S (fIx d)) - (pV S (fIx st) 4)))))), [], 0, 0)) by rw [sN_push]; omega), bW_push _ h_n]) ?_
                    refine lv_isub hx hb dX4_fraction_375 ?_
                    refine mw_callS (As := [.int ((fMx (bW S (fIx n)) (bW S (fIx d))) - (bW S (fIx n)))]) (rest := [.int (nI (fIx n)), .ref o]) hx hb hml hown hl (kX4_half l htr G H.size M_149 ((fMx (bW S (fIx n)) (bW S (fIx d))) - (bW S (fIx n)))) (g_B (n := 1) htb wd682 wd3 wd680 (by decide +kernel) ⟨Nat.le_of_ble_eq_true rfl, Nat.le_of_ble_eq_true rfl⟩) (htb _ wd681) hE hP hS rfl rfl (Nat.le_of_ble_eq_true rfl) dX4_fraction_376 ⟨Nat.le_of_ble_eq_true rfl, Nat.le_of_ble_eq_true rfl⟩ (fun v9 M9 H locs hpo hP hz hS => ?_) (fun x9 E9 cell9 H9 locs9 hE9 => hE9.elim)
                    obtain ⟨rfl, rfl⟩ := hpo
                    refine W.eq (g2 := F0 m 379 ls [.int (fHf ((fMx (bW S (fIx n)) (bW S (fIx d))) - (bW S (fIx n)))), .int (nI (fIx n)), .ref o]) rfl ?_
                    refine lv_iload hx hb dX4_fraction_379 (lv_at hl 3 rfl) ?_
                    refine mw_callV (C := RX4) (As := [.int (nI (fIx n)), .int (fHf ((fMx (bW S (fIx n)) (bW S (fIx d))) - (bW S (fIx n)))), .int ((pV S (fIx st) 1) + ((3 * t) - (((pV S (fIx st) 1) - (bD S (fIx n))) - ((pV S (fIx st) 0) + (fHf t)))))]) (rest := []) hx hb hml hown hl (kX4_lay l htr G H.size M_149 o A 0 (nI (fSz (fIx st))) S (fMx (bW S (fIx n)) (bW S (fIx d))) (((pV S (fIx st) 1) + ((3 * t) - (((pV S (fIx st) 1) - (bD S (fIx n))) - ((pV S (fIx st) 0) + (fHf t))))) + (bH S (fIx n))) ((bD S (fIx d)) + ((pV S (fIx st) 4) + ((3 * t) - (((pV S (fIx st) 0) - (fHf t)) - ((bH S (fIx d)) - (pV S (fIx st) 4)))))) ([]) 0 0 (md_R.of (np := np150) hT hB : md_R G o A M_149 0 (nI (fSz (fIx st))) (fs_push S ((fMx (bW S (fIx n)) (bW S (fIx d))), (((pV S (fIx st) 1) + ((3 * t) - (((pV S (fIx st) 1) - (bD S (fIx n))) - ((pV S (fIx st) 0) + (fHf t))))) + (bH S (fIx n))), ((bD S (fIx d)) + ((pV S (fIx st) 4) + ((3 * t) - (((pV S (fIx st) 0) - (fHf t)) - ((bH S (fIx d)) - (pV S (fIx st) 4)))))), [], 0, 0))) (by simp) (nI (fIx n)) (fHf ((fMx (bW S (fIx n)) (bW S (fIx d))) - (bW S (fIx n)))) ((pV S (fIx st) 1) + ((3 * t) - (((pV S (fIx st) 1) - (bD S (fIx n))) - ((pV S (fIx st) 0) + (fHf t)))))) (g_B (n := 3) htb wd661 wd3 wd658 (by decide +kernel) ⟨Nat.le_of_ble_eq_true rfl, Nat.le_of_ble_eq_true rfl⟩) (htb _ wd660) (htb _ ws34) hE hP hS hT.1 rfl rfl rfl (Nat.le_of_ble_eq_true rfl) dX4_fraction_381 ⟨Nat.le_of_ble_eq_true rfl, Nat.le_of_ble_eq_true rfl⟩ (fun v9 M9 H locs hpo hP hz hS => ?_) (fun x9 E9 cell9 H9 locs9 hE9 => hE9.elim)
                    obtain ⟨rfl, hRn, hkn⟩ := hpo
                    obtain ⟨M_151, hM_151⟩ : ∃ z9 : mw_M, z9 = M9 := ⟨_, rfl⟩
                    rw [← hM_151] at hP hRn hkn
                    have hk := md_keeps.tr hk hkn
                    have hRn : md_R G o A M_151 0 (nI (fSz (fIx st))) (fs_push S ((fMx (bW S (fIx n)) (bW S (fIx d))), (((pV S (fIx st) 1) + ((3 * t) - (((pV S (fIx st) 1) - (bD S (fIx n))) - ((pV S (fIx st) 0) + (fHf t))))) + (bH S (fIx n))), ((bD S (fIx d)) + ((pV S (fIx st) 4) + ((3 * t) - (((pV S (fIx st) 0) - (fHf t)) - ((bH S (fIx d)) - (pV S (fIx st) 4)))))), [(nI (fIx n)), (fHf ((fMx (bW S (fIx n)) (bW S (fIx d))) - (bW S (fIx n)))), ((pV S (fIx st) 1) + ((3 * t) - (((pV S (fIx st) 1) - (bD S (fIx n))) - ((pV S (fIx st) 0) + (fHf t)))))], 0, 0)) := hRn
                    obtain ⟨np152, bg152, g152, hT, hB⟩ := id hRn
                    rw [sN_push] at hT
                    have hT : md_at G o A M_151 0 (sSp S) (sSh S) (nI (sN S + 1)) (nI np152) (nI (fSz (fIx st))) g152 := hT
                    refine W.eq (g2 := F0 m 384 ls []) rfl ?_
                    refine lv_aload_n hx hb dX4_fraction_384 rfl (lv_at hl 6 rfl) ?_
                    refine lv_iload_n hx hb dX4_fraction_385 rfl (lv_at hl 9 rfl) ?_
                    refine lv_iload hx hb dX4_fraction_386 (lv_at hl 1 rfl) ?_
                    refine lv_aload_n hx hb dX4_fraction_388 rfl (lv_at hl 6 rfl) ?_
                    refine mw_get (D := gD G) (ci := 4) (v := .ref (A 1)) (C := RX4) (T := TX4) (N := 21) hx hb htb inX4 hown hK hP hT.1 rfl 5 (by decide) (htb _ wd529) (fun _ h9 => h9) rfl dX4_fraction_389 ?_
                    refine lv_iload_n hx hb dX4_fraction_392 rfl (lv_at hl 9 rfl) ?_
                    refine mw_iald hx hb hK hP 0 (show M_151 (A 1) = some (.inl (gI G, 120, .inl (g152 1))) from hT.2.1 1 (by decide)) rfl (by exact vp_in_nI (show (fIx d) < 120 by have := hle; omega) (by decide)) dX4_fraction_393 ?_
                    refine W.eq (g2 := F0 m 394 ls [.int (bW S (fIx d)), .int (fMx (bW S (fIx n)) (bW S (fIx d))), .int (nI (fIx d)), .ref o]) (by rw [nI_clamp (show (fIx d) < 2 ^ 31 by have := hle; omega), hB.W (show (fIx d) < sN (fs_push S ((fMx (bW S (fIx n)) (bW S (fIx d))), (((pV S (fIx st) 1) + ((3 * t) - (((pV S (fIx st) 1) - (bD S (fIx n))) - ((pV S (fIx st) 0) + (fHf t))))) + (bH S (fIx n))), ((bD S (fIx d)) + ((pV S (fIx st) 4) + ((3 * t) - (((pV S (fIx st) 0) - (fHf t)) - ((bH S (fIx d)) - (pV S (fIx st) 4)))))), [(nI (fIx n)), (fHf ((fMx (bW S (fIx n)) (bW S (fIx d))) - (bW S (fIx n)))), ((pV S (fIx st) 1) + ((3 * t) - (((pV S (fIx st) 1) - (bD S (fIx n))) - ((pV S (fIx st) 0) + (fHf t)))))], 0, 0)) by rw [sN_push]; omega), bW_push _ h_d]) ?_
                    refine lv_isub hx hb dX4_fraction_394 ?_
                    refine mw_callS (As := [.int ((fMx (bW S (fIx n)) (bW S (fIx d))) - (bW S (fIx d)))]) (rest := [.int (nI (fIx d)), .ref o]) hx hb hml hown hl (kX4_half l htr G H.size M_151 ((fMx (bW S (fIx n)) (bW S (fIx d))) - (bW S (fIx d)))) (g_B (n := 1) htb wd682 wd3 wd680 (by decide +kernel) ⟨Nat.le_of_ble_eq_true rfl, Nat.le_of_ble_eq_true rfl⟩) (htb _ wd681) hE hP hS rfl rfl (Nat.le_of_ble_eq_true rfl) dX4_fraction_395 ⟨Nat.le_of_ble_eq_true rfl, Nat.le_of_ble_eq_true rfl⟩ (fun v9 M9 H locs hpo hP hz hS => ?_) (fun x9 E9 cell9 H9 locs9 hE9 => hE9.elim)
                    obtain ⟨rfl, rfl⟩ := hpo
                    refine W.eq (g2 := F0 m 398 ls [.int (fHf ((fMx (bW S (fIx n)) (bW S (fIx d))) - (bW S (fIx d)))), .int (nI (fIx d)), .ref o]) rfl ?_
                    refine lv_iload hx hb dX4_fraction_398 (lv_at hl 2 rfl) ?_
                    refine lv_ineg hx hb dX4_fraction_400 ?_
                    refine mw_callV (C := RX4) (As := [.int (nI (fIx d)), .int (fHf ((fMx (bW S (fIx n)) (bW S (fIx d))) - (bW S (fIx d)))), .int (-((pV S (fIx st) 4) + ((3 * t) - (((pV S (fIx st) 0) - (fHf t)) - ((bH S (fIx d)) - (pV S (fIx st) 4))))))]) (rest := []) hx hb hml hown hl (kX4_lay l htr G H.size M_151 o A 0 (nI (fSz (fIx st))) S (fMx (bW S (fIx n)) (bW S (fIx d))) (((pV S (fIx st) 1) + ((3 * t) - (((pV S (fIx st) 1) - (bD S (fIx n))) - ((pV S (fIx st) 0) + (fHf t))))) + (bH S (fIx n))) ((bD S (fIx d)) + ((pV S (fIx st) 4) + ((3 * t) - (((pV S (fIx st) 0) - (fHf t)) - ((bH S (fIx d)) - (pV S (fIx st) 4)))))) ([(nI (fIx n)), (fHf ((fMx (bW S (fIx n)) (bW S (fIx d))) - (bW S (fIx n)))), ((pV S (fIx st) 1) + ((3 * t) - (((pV S (fIx st) 1) - (bD S (fIx n))) - ((pV S (fIx st) 0) + (fHf t)))))]) 0 0 (md_R.of (np := np152) hT hB : md_R G o A M_151 0 (nI (fSz (fIx st))) (fs_push S ((fMx (bW S (fIx n)) (bW S (fIx d))), (((pV S (fIx st) 1) + ((3 * t) - (((pV S (fIx st) 1) - (bD S (fIx n))) - ((pV S (fIx st) 0) + (fHf t))))) + (bH S (fIx n))), ((bD S (fIx d)) + ((pV S (fIx st) 4) + ((3 * t) - (((pV S (fIx st) 0) - (fHf t)) - ((bH S (fIx d)) - (pV S (fIx st) 4)))))), [(nI (fIx n)), (fHf ((fMx (bW S (fIx n)) (bW S (fIx d))) - (bW S (fIx n)))), ((pV S (fIx st) 1) + ((3 * t) - (((pV S (fIx st) 1) - (bD S (fIx n))) - ((pV S (fIx st) 0) + (fHf t)))))], 0, 0))) (by simp) (nI (fIx d)) (fHf ((fMx (bW S (fIx n)) (bW S (fIx d))) - (bW S (fIx d)))) (-((pV S (fIx st) 4) + ((3 * t) - (((pV S (fIx st) 0) - (fHf t)) - ((bH S (fIx d)) - (pV S (fIx st) 4))))))) (g_B (n := 3) htb wd661 wd3 wd658 (by decide +kernel) ⟨Nat.le_of_ble_eq_true rfl, Nat.le_of_ble_eq_true rfl⟩) (htb _ wd660) (htb _ ws34) hE hP hS hT.1 rfl rfl rfl (Nat.le_of_ble_eq_true rfl) dX4_fraction_401 ⟨Nat.le_of_ble_eq_true rfl, Nat.le_of_ble_eq_true rfl⟩ (fun v9 M9 H locs hpo hP hz hS => ?_) (fun x9 E9 cell9 H9 locs9 hE9 => hE9.elim)
                    obtain ⟨rfl, hRn, hkn⟩ := hpo
                    obtain ⟨M_153, hM_153⟩ : ∃ z9 : mw_M, z9 = M9 := ⟨_, rfl⟩
                    rw [← hM_153] at hP hRn hkn
                    have hk := md_keeps.tr hk hkn
                    have hRn : md_R G o A M_153 0 (nI (fSz (fIx st))) (fs_push S ((fMx (bW S (fIx n)) (bW S (fIx d))), (((pV S (fIx st) 1) + ((3 * t) - (((pV S (fIx st) 1) - (bD S (fIx n))) - ((pV S (fIx st) 0) + (fHf t))))) + (bH S (fIx n))), ((bD S (fIx d)) + ((pV S (fIx st) 4) + ((3 * t) - (((pV S (fIx st) 0) - (fHf t)) - ((bH S (fIx d)) - (pV S (fIx st) 4)))))), [(nI (fIx n)), (fHf ((fMx (bW S (fIx n)) (bW S (fIx d))) - (bW S (fIx n)))), ((pV S (fIx st) 1) + ((3 * t) - (((pV S (fIx st) 1) - (bD S (fIx n))) - ((pV S (fIx st) 0) + (fHf t))))), (nI (fIx d)), (fHf ((fMx (bW S (fIx n)) (bW S (fIx d))) - (bW S (fIx d)))), (-((pV S (fIx st) 4) + ((3 * t) - (((pV S (fIx st) 0) - (fHf t)) - ((bH S (fIx d)) - (pV S (fIx st) 4))))))], 0, 0)) := hRn
                    obtain ⟨np154, bg154, g154, hT, hB⟩ := id hRn
                    rw [sN_push] at hT
                    have hT : md_at G o A M_153 0 (sSp S) (sSh S) (nI (sN S + 1)) (nI np154) (nI (fSz (fIx st))) g154 := hT
                    refine W.eq (g2 := F0 m 404 ls []) rfl ?_
                    refine lv_iload hx hb dX4_fraction_404 (lv_at hl 10 rfl) ?_
                    refine lv_if_le (tgt := 444) hx hb dX4_fraction_406 (by decide) (fun c_155 => absurd c_155 t0_105) (fun c_155 => ?_)
                    refine lv_aload_n hx hb dX4_fraction_409 rfl (lv_at hl 6 rfl) ?_
                    refine lv_iconst (v := (-1)) hx hb dX4_fraction_410 (by decide) ?_
                    refine lv_iconst (v := 0) hx hb dX4_fraction_411 (by decide) ?_
                    refine lv_aload_n hx hb dX4_fraction_412 rfl (lv_at hl 6 rfl) ?_
                    refine lv_iconst (v := 0) hx hb dX4_fraction_413 (by decide) ?_
                    refine mw_callV (C := RX4) (As := [.int 0]) (rest := [.int 0, .int (-1), .ref o]) hx hb hml hown hl (kX4_p l htr G H.size M_153 o A 0 (fs_push S ((fMx (bW S (fIx n)) (bW S (fIx d))), (((pV S (fIx st) 1) + ((3 * t) - (((pV S (fIx st) 1) - (bD S (fIx n))) - ((pV S (fIx st) 0) + (fHf t))))) + (bH S (fIx n))), ((bD S (fIx d)) + ((pV S (fIx st) 4) + ((3 * t) - (((pV S (fIx st) 0) - (fHf t)) - ((bH S (fIx d)) - (pV S (fIx st) 4)))))), [(nI (fIx n)), (fHf ((fMx (bW S (fIx n)) (bW S (fIx d))) - (bW S (fIx n)))), ((pV S (fIx st) 1) + ((3 * t) - (((pV S (fIx st) 1) - (bD S (fIx n))) - ((pV S (fIx st) 0) + (fHf t))))), (nI (fIx d)), (fHf ((fMx (bW S (fIx n)) (bW S (fIx d))) - (bW S (fIx d)))), (-((pV S (fIx st) 4) + ((3 * t) - (((pV S (fIx st) 0) - (fHf t)) - ((bH S (fIx d)) - (pV S (fIx st) 4))))))], 0, 0)) (fIx st) 0 h_st (by decide) (md_R.of (np := np154) hT hB : md_R G o A M_153 0 (nI (fSz (fIx st))) (fs_push S ((fMx (bW S (fIx n)) (bW S (fIx d))), (((pV S (fIx st) 1) + ((3 * t) - (((pV S (fIx st) 1) - (bD S (fIx n))) - ((pV S (fIx st) 0) + (fHf t))))) + (bH S (fIx n))), ((bD S (fIx d)) + ((pV S (fIx st) 4) + ((3 * t) - (((pV S (fIx st) 0) - (fHf t)) - ((bH S (fIx d)) - (pV S (fIx st) 4)))))), [(nI (fIx n)), (fHf ((fMx (bW S (fIx n)) (bW S (fIx d))) - (bW S (fIx n)))), ((pV S (fIx st) 1) + ((3 * t) - (((pV S (fIx st) 1) - (bD S (fIx n))) - ((pV S (fIx st) 0) + (fHf t))))), (nI (fIx d)), (fHf ((fMx (bW S (fIx n)) (bW S (fIx d))) - (bW S (fIx d)))), (-((pV S (fIx st) 4) + ((3 * t) - (((pV S (fIx st) 0) - (fHf t)) - ((bH S (fIx d)) - (pV S (fIx st) 4))))))], 0, 0)))) (g_B (n := 1) htb wd679 wd3 wd676 (by decide +kernel) ⟨Nat.le_of_ble_eq_true rfl, Nat.le_of_ble_eq_true rfl⟩) (htb _ wd678) (htb _ ws36) hE hP hS hT.1 rfl rfl rfl (Nat.le_of_ble_eq_true rfl) dX4_fraction_414 ⟨Nat.le_of_ble_eq_true rfl, Nat.le_of_ble_eq_true rfl⟩ (fun v9 M9 H locs hpo hP hz hS => ?_) (fun x9 E9 cell9 H9 locs9 hE9 => hE9.elim)
                    obtain ⟨rfl, rfl⟩ := hpo
                    refine W.eq (g2 := F0 m 417 ls [.int (pV S (fIx st) 0), .int 0, .int (-1), .ref o]) rfl ?_
                    refine lv_iload hx hb dX4_fraction_417 (lv_at hl 5 rfl) ?_
                    refine lv_iadd hx hb dX4_fraction_419 ?_
                    refine lv_iload hx hb dX4_fraction_420 (lv_at hl 10 rfl) ?_
                    refine lv_isub hx hb dX4_fraction_422 ?_
                    refine mw_callV (C := RX4) (As := [.int (-1), .int 0, .int (((pV S (fIx st) 0) + (fHf t)) - t)]) (rest := []) hx hb hml hown hl (kX4_lay l htr G H.size M_153 o A 0 (nI (fSz (fIx st))) S (fMx (bW S (fIx n)) (bW S (fIx d))) (((pV S (fIx st) 1) + ((3 * t) - (((pV S (fIx st) 1) - (bD S (fIx n))) - ((pV S (fIx st) 0) + (fHf t))))) + (bH S (fIx n))) ((bD S (fIx d)) + ((pV S (fIx st) 4) + ((3 * t) - (((pV S (fIx st) 0) - (fHf t)) - ((bH S (fIx d)) - (pV S (fIx st) 4)))))) ([(nI (fIx n)), (fHf ((fMx (bW S (fIx n)) (bW S (fIx d))) - (bW S (fIx n)))), ((pV S (fIx st) 1) + ((3 * t) - (((pV S (fIx st) 1) - (bD S (fIx n))) - ((pV S (fIx st) 0) + (fHf t))))), (nI (fIx d)), (fHf ((fMx (bW S (fIx n)) (bW S (fIx d))) - (bW S (fIx d)))), (-((pV S (fIx st) 4) + ((3 * t) - (((pV S (fIx st) 0) - (fHf t)) - ((bH S (fIx d)) - (pV S (fIx st) 4))))))]) 0 0 (md_R.of (np := np154) hT hB : md_R G o A M_153 0 (nI (fSz (fIx st))) (fs_push S ((fMx (bW S (fIx n)) (bW S (fIx d))), (((pV S (fIx st) 1) + ((3 * t) - (((pV S (fIx st) 1) - (bD S (fIx n))) - ((pV S (fIx st) 0) + (fHf t))))) + (bH S (fIx n))), ((bD S (fIx d)) + ((pV S (fIx st) 4) + ((3 * t) - (((pV S (fIx st) 0) - (fHf t)) - ((bH S (fIx d)) - (pV S (fIx st) 4)))))), [(nI (fIx n)), (fHf ((fMx (bW S (fIx n)) (bW S (fIx d))) - (bW S (fIx n)))), ((pV S (fIx st) 1) + ((3 * t) - (((pV S (fIx st) 1) - (bD S (fIx n))) - ((pV S (fIx st) 0) + (fHf t))))), (nI (fIx d)), (fHf ((fMx (bW S (fIx n)) (bW S (fIx d))) - (bW S (fIx d)))), (-((pV S (fIx st) 4) + ((3 * t) - (((pV S (fIx st) 0) - (fHf t)) - ((bH S (fIx d)) - (pV S (fIx st) 4))))))], 0, 0))) (by simp) (-1) 0 (((pV S (fIx st) 0) + (fHf t)) - t)) (g_B (n := 3) htb wd661 wd3 wd658 (by decide +kernel) ⟨Nat.le_of_ble_eq_true rfl, Nat.le_of_ble_eq_true rfl⟩) (htb _ wd660) (htb _ ws34) hE hP hS hT.1 rfl rfl rfl (Nat.le_of_ble_eq_true rfl) dX4_fraction_423 ⟨Nat.le_of_ble_eq_true rfl, Nat.le_of_ble_eq_true rfl⟩ (fun v9 M9 H locs hpo hP hz hS => ?_) (fun x9 E9 cell9 H9 locs9 hE9 => hE9.elim)
                    obtain ⟨rfl, hRn, hkn⟩ := hpo
                    obtain ⟨M_156, hM_156⟩ : ∃ z9 : mw_M, z9 = M9 := ⟨_, rfl⟩
                    rw [← hM_156] at hP hRn hkn
                    have hk := md_keeps.tr hk hkn
                    have hRn : md_R G o A M_156 0 (nI (fSz (fIx st))) (fs_push S ((fMx (bW S (fIx n)) (bW S (fIx d))), (((pV S (fIx st) 1) + ((3 * t) - (((pV S (fIx st) 1) - (bD S (fIx n))) - ((pV S (fIx st) 0) + (fHf t))))) + (bH S (fIx n))), ((bD S (fIx d)) + ((pV S (fIx st) 4) + ((3 * t) - (((pV S (fIx st) 0) - (fHf t)) - ((bH S (fIx d)) - (pV S (fIx st) 4)))))), [(nI (fIx n)), (fHf ((fMx (bW S (fIx n)) (bW S (fIx d))) - (bW S (fIx n)))), ((pV S (fIx st) 1) + ((3 * t) - (((pV S (fIx st) 1) - (bD S (fIx n))) - ((pV S (fIx st) 0) + (fHf t))))), (nI (fIx d)), (fHf ((fMx (bW S (fIx n)) (bW S (fIx d))) - (bW S (fIx d)))), (-((pV S (fIx st) 4) + ((3 * t) - (((pV S (fIx st) 0) - (fHf t)) - ((bH S (fIx d)) - (pV S (fIx st) 4)))))), (-1), 0, (((pV S (fIx st) 0) + (fHf t)) - t)], 0, 0)) := hRn
                    obtain ⟨np157, bg157, g157, hT, hB⟩ := id hRn
                    rw [sN_push] at hT
                    have hT : md_at G o A M_156 0 (sSp S) (sSh S) (nI (sN S + 1)) (nI np157) (nI (fSz (fIx st))) g157 := hT
                    refine W.eq (g2 := F0 m 426 ls []) rfl ?_
                    refine lv_aload_n hx hb dX4_fraction_426 rfl (lv_at hl 6 rfl) ?_
                    refine mw_get (D := gD G) (ci := 4) (v := .ref (A 6)) (C := RX4) (T := TX4) (N := 21) hx hb htb inX4 hown hK hP hT.1 rfl 10 (by decide) (htb _ wd534) (fun _ h9 => h9) rfl dX4_fraction_427 ?_
                    refine lv_iload hx hb dX4_fraction_430 (lv_at hl 0 rfl) ?_
                    refine lv_iload hx hb dX4_fraction_432 (lv_at hl 1 rfl) ?_
                    refine mw_iast hx hb hK hP hS 0 (show M_156 (A 6) = some (.inl (gI G, 120, .inl (g157 6))) from hT.2.1 6 (by decide)) (hT.2.2.2.2 6 (by decide)) rfl (by exact vp_in_nI (show (sN S) < 120 by have := hle; omega) (by decide)) dX4_fraction_434 (fun H locs hP hS => ?_)
                    rw [nI_clamp (show (sN S) < 2 ^ 31 by have := hle; omega)] at hP
                    obtain ⟨M_158, hM_158⟩ : ∃ z9 : mw_M, z9 = mw_up M_156 (A 6) (.inl (gI G, 120, .inl (upd (g157 6) (sN S) (fMx (bW S (fIx n)) (bW S (fIx d)))))) := ⟨_, rfl⟩
                    have hP : mw_P (gD G) gx_cl M_158 H := by rw [hM_158]; exact hP
                    obtain ⟨g_159, hg_159⟩ : ∃ z9, z9 = ug g157 6 (sN S) (fMx (bW S (fIx n)) (bW S (fIx d))) := ⟨_, rfl⟩
                    have hT : md_at G o A M_158 0 (sSp S) (sSh S) (nI (sN S + 1)) (nI np157) (nI (fSz (fIx st))) g_159 := by rw [hg_159]; exact md_at.put hT (by decide) rfl rfl hM_158
                    have hk : md_keeps o A M M_158 := md_keeps.arr (j := 6) hk (by decide) hM_158
                    have hB : md_ab np157 bg157 g_159 (fs_push S ((fMx (bW S (fIx n)) (bW S (fIx d))), (((pV S (fIx st) 1) + ((3 * t) - (((pV S (fIx st) 1) - (bD S (fIx n))) - ((pV S (fIx st) 0) + (fHf t))))) + (bH S (fIx n))), ((bD S (fIx d)) + ((pV S (fIx st) 4) + ((3 * t) - (((pV S (fIx st) 0) - (fHf t)) - ((bH S (fIx d)) - (pV S (fIx st) 4)))))), [(nI (fIx n)), (fHf ((fMx (bW S (fIx n)) (bW S (fIx d))) - (bW S (fIx n)))), ((pV S (fIx st) 1) + ((3 * t) - (((pV S (fIx st) 1) - (bD S (fIx n))) - ((pV S (fIx st) 0) + (fHf t))))), (nI (fIx d)), (fHf ((fMx (bW S (fIx n)) (bW S (fIx d))) - (bW S (fIx d)))), (-((pV S (fIx st) 4) + ((3 * t) - (((pV S (fIx st) 0) - (fHf t)) - ((bH S (fIx d)) - (pV S (fIx st) 4)))))), (-1), 0, (((pV S (fIx st) 0) + (fHf t)) - t)], (fMx (bW S (fIx n)) (bW S (fIx d))), 0)) := by rw [hg_159]; exact md_ab.set6 hB _
                    refine lv_aload_n hx hb dX4_fraction_435 rfl (lv_at hl 6 rfl) ?_
                    refine mw_get (D := gD G) (ci := 4) (v := .ref (A 7)) (C := RX4) (T := TX4) (N := 21) hx hb htb inX4 hown hK hP hT.1 rfl 11 (by decide) (htb _ wd535) (fun _ h9 => h9) rfl dX4_fraction_436 ?_
                    refine lv_iload hx hb dX4_fraction_439 (lv_at hl 0 rfl) ?_
                    refine lv_iload hx hb dX4_fraction_441 (lv_at hl 10 rfl) ?_
                    refine mw_iast hx hb hK hP hS 0 (show M_158 (A 7) = some (.inl (gI G, 120, .inl (g_159 7))) from hT.2.1 7 (by decide)) (hT.2.2.2.2 7 (by decide)) rfl (by exact vp_in_nI (show (sN S) < 120 by have := hle; omega) (by decide)) dX4_fraction_443 (fun H locs hP hS => ?_)
                    rw [nI_clamp (show (sN S) < 2 ^ 31 by have := hle; omega)] at hP
                    obtain ⟨M_160, hM_160⟩ : ∃ z9 : mw_M, z9 = mw_up M_158 (A 7) (.inl (gI G, 120, .inl (upd (g_159 7) (sN S) t))) := ⟨_, rfl⟩
                    have hP : mw_P (gD G) gx_cl M_160 H := by rw [hM_160]; exact hP
                    obtain ⟨g_161, hg_161⟩ : ∃ z9, z9 = ug g_159 7 (sN S) t := ⟨_, rfl⟩
                    have hT : md_at G o A M_160 0 (sSp S) (sSh S) (nI (sN S + 1)) (nI np157) (nI (fSz (fIx st))) g_161 := by rw [hg_161]; exact md_at.put hT (by decide) rfl rfl hM_160
                    have hk : md_keeps o A M M_160 := md_keeps.arr (j := 7) hk (by decide) hM_160
                    have hB : md_ab np157 bg157 g_161 (fs_push S ((fMx (bW S (fIx n)) (bW S (fIx d))), (((pV S (fIx st) 1) + ((3 * t) - (((pV S (fIx st) 1) - (bD S (fIx n))) - ((pV S (fIx st) 0) + (fHf t))))) + (bH S (fIx n))), ((bD S (fIx d)) + ((pV S (fIx st) 4) + ((3 * t) - (((pV S (fIx st) 0) - (fHf t)) - ((bH S (fIx d)) - (pV S (fIx st) 4)))))), [(nI (fIx n)), (fHf ((fMx (bW S (fIx n)) (bW S (fIx d))) - (bW S (fIx n)))), ((pV S (fIx st) 1) + ((3 * t) - (((pV S (fIx st) 1) - (bD S (fIx n))) - ((pV S (fIx st) 0) + (fHf t))))), (nI (fIx d)), (fHf ((fMx (bW S (fIx n)) (bW S (fIx d))) - (bW S (fIx d)))), (-((pV S (fIx st) 4) + ((3 * t) - (((pV S (fIx st) 0) - (fHf t)) - ((bH S (fIx d)) - (pV S (fIx st) 4)))))), (-1), 0, (((pV S (fIx st) 0) + (fHf t)) - t)], (fMx (bW S (fIx n)) (bW S (fIx d))), t)) := by rw [hg_161]; exact md_ab.set7 hB _
                    refine lv_iload hx hb dX4_fraction_444 (lv_at hl 0 rfl) ?_
                    have hex : ex_fraction S st n d t = 0 := by rw [ex_fraction, if_neg (fun z9 => z9 ⟨kb_5, kb_7⟩), if_neg (fun z9 => z9 ⟨kb_12, kb_14⟩), if_neg (fun z9 => z9 kb_16)]
                    have hre : re_fraction S st n d t = ((fMx (bW S (fIx n)) (bW S (fIx d))), (((pV S (fIx st) 1) + ((3 * t) - (((pV S (fIx st) 1) - (bD S (fIx n))) - ((pV S (fIx st) 0) + (fHf t))))) + (bH S (fIx n))), ((bD S (fIx d)) + ((pV S (fIx st) 4) + ((3 * t) - (((pV S (fIx st) 0) - (fHf t)) - ((bH S (fIx d)) - (pV S (fIx st) 4)))))), [(nI (fIx n)), (fHf ((fMx (bW S (fIx n)) (bW S (fIx d))) - (bW S (fIx n)))), ((pV S (fIx st) 1) + ((3 * t) - (((pV S (fIx st) 1) - (bD S (fIx n))) - ((pV S (fIx st) 0) + (fHf t))))), (nI (fIx d)), (fHf ((fMx (bW S (fIx n)) (bW S (fIx d))) - (bW S (fIx d)))), (-((pV S (fIx st) 4) + ((3 * t) - (((pV S (fIx st) 0) - (fHf t)) - ((bH S (fIx d)) - (pV S (fIx st) 4)))))), (-1), 0, (((pV S (fIx st) 0) + (fHf t)) - t)], (fMx (bW S (fIx n)) (bW S (fIx d))), t) := by simp only [re_fraction, fs_fb, fs_fb1, fs_fb2, fs_fb3, fs_fl, fs_fl1, fs_fl3, if_neg c_15, if_pos c_21, if_neg c_104, if_neg c_107, if_neg c_135, if_neg t0_105, fMx0n c_107, fMx0n c_135, Int32.add_zero]
                    exact mx_iret (v := (nI (sN S))) (M' := M_160) hx hb hr hlocks hP hS ⟨by rw [hex]; rfl, ⟨_, by rw [hex, if_pos rfl, hre]; exact (md_R.of (np := np157) hT hB : md_R G o A M_160 0 (nI (fSz (fIx st))) (fs_push S ((fMx (bW S (fIx n)) (bW S (fIx d))), (((pV S (fIx st) 1) + ((3 * t) - (((pV S (fIx st) 1) - (bD S (fIx n))) - ((pV S (fIx st) 0) + (fHf t))))) + (bH S (fIx n))), ((bD S (fIx d)) + ((pV S (fIx st) 4) + ((3 * t) - (((pV S (fIx st) 0) - (fHf t)) - ((bH S (fIx d)) - (pV S (fIx st) 4)))))), [(nI (fIx n)), (fHf ((fMx (bW S (fIx n)) (bW S (fIx d))) - (bW S (fIx n)))), ((pV S (fIx st) 1) + ((3 * t) - (((pV S (fIx st) 1) - (bD S (fIx n))) - ((pV S (fIx st) 0) + (fHf t))))), (nI (fIx d)), (fHf ((fMx (bW S (fIx n)) (bW S (fIx d))) - (bW S (fIx d)))), (-((pV S (fIx st) 4) + ((3 * t) - (((pV S (fIx st) 0) - (fHf t)) - ((bH S (fIx d)) - (pV S (fIx st) 4)))))), (-1), 0, (((pV S (fIx st) 0) + (fHf t)) - t)], (fMx (bW S (fIx n)) (bW S (fIx d))), t)))⟩, hk⟩ dX4_fraction_446 (Nat.le_of_ble_eq_true rfl) (Nat.le_of_ble_eq_true rfl)
              · have t0_162 : t ≤ 0 := by rw [c_104]; exact Int32.le_refl _
                refine lv_iload_n hx hb dX4_fraction_137 rfl (lv_at hl 4 rfl) ?_
                refine lv_if_ne (tgt := 153) hx hb dX4_fraction_138 (by decide) (fun c_163 => absurd c_21 c_163) (fun c_163 => ?_)
                refine lv_bipush (v := 7) hx hb dX4_fraction_141 (by decide) ?_
                refine lv_aload_n hx hb dX4_fraction_143 rfl (lv_at hl 3 rfl) ?_
                refine lv_bipush (v := 13) hx hb dX4_fraction_144 (by decide) ?_
                refine mw_callV (C := RX4) (As := [.int 13]) (rest := [.int 7]) hx hb hml hown hl (kX4_p l htr G H.size M_19 o A 0 S (fIx st) 13 h_st (by decide) (⟨np20, bg20, g20, hT, hB⟩ : md_R G o A M_19 0 (nI (fSz (fIx st))) S)) (g_B (n := 1) htb wd679 wd3 wd676 (by decide +kernel) ⟨Nat.le_of_ble_eq_true rfl, Nat.le_of_ble_eq_true rfl⟩) (htb _ wd678) (htb _ ws36) hE hP hS hT.1 rfl rfl rfl (Nat.le_of_ble_eq_true rfl) dX4_fraction_146 ⟨Nat.le_of_ble_eq_true rfl, Nat.le_of_ble_eq_true rfl⟩ (fun v9 M9 H locs hpo hP hz hS => ?_) (fun x9 E9 cell9 H9 locs9 hE9 => hE9.elim)
                obtain ⟨rfl, rfl⟩ := hpo
                refine W.eq (g2 := F0 m 149 ls [.int (pV S (fIx st) 13), .int 7]) rfl ?_
                refine lv_imul hx hb dX4_fraction_149 ?_
                refine lv_goto (tgt := 161) hx hb dX4_fraction_150 (by decide) ?_
                refine lv_istore (lv' := [(8, .int (7 * (pV S (fIx st) 13))), (7, .int (fHf t)), (6, .int (pV S (fIx st) 4)), (5, .int (pV S (fIx st) 1)), (0, .ref o), (1, .int (nI (fIx st))), (2, .int (nI (fIx n))), (3, .int (nI (fIx d))), (4, .int t)]) hx hb dX4_fraction_161 hl (by decide) rfl (fun ls hl => ?_)
                refine lv_iload hx hb dX4_fraction_163 (lv_at hl 0 rfl) ?_
                refine lv_iload hx hb dX4_fraction_165 (lv_at hl 3 rfl) ?_
                refine lv_aload_n hx hb dX4_fraction_167 rfl (lv_at hl 4 rfl) ?_
                refine mw_get (D := gD G) (ci := 4) (v := .ref (A 3)) (C := RX4) (T := TX4) (N := 21) hx hb htb inX4 hown hK hP hT.1 rfl 7 (by decide) (htb _ wd531) (fun _ h9 => h9) rfl dX4_fraction_168 ?_
                refine lv_iload_n hx hb dX4_fraction_171 rfl (lv_at hl 6 rfl) ?_
                refine mw_iald hx hb hK hP 0 (show M_19 (A 3) = some (.inl (gI G, 120, .inl (g20 3))) from hT.2.1 3 (by decide)) rfl (by exact vp_in_nI (show (fIx n) < 120 by have := hle; omega) (by decide)) dX4_fraction_172 ?_
                refine W.eq (g2 := F0 m 173 ls [.int (bD S (fIx n)), .int (pV S (fIx st) 1), .int (7 * (pV S (fIx st) 13))]) (by rw [nI_clamp (show (fIx n) < 2 ^ 31 by have := hle; omega), hB.D h_n]) ?_
                refine lv_isub hx hb dX4_fraction_173 ?_
                refine lv_aload_n hx hb dX4_fraction_174 rfl (lv_at hl 4 rfl) ?_
                refine mw_get (D := gD G) (ci := 4) (v := .ref (A 2)) (C := RX4) (T := TX4) (N := 21) hx hb htb inX4 hown hK hP hT.1 rfl 6 (by decide) (htb _ wd530) (fun _ h9 => h9) rfl dX4_fraction_175 ?_
                refine lv_iload_n hx hb dX4_fraction_178 rfl (lv_at hl 7 rfl) ?_
                refine mw_iald hx hb hK hP 0 (show M_19 (A 2) = some (.inl (gI G, 120, .inl (g20 2))) from hT.2.1 2 (by decide)) rfl (by exact vp_in_nI (show (fIx d) < 120 by have := hle; omega) (by decide)) dX4_fraction_179 ?_
                refine W.eq (g2 := F0 m 180 ls [.int (bH S (fIx d)), .int ((pV S (fIx st) 1) - (bD S (fIx n))), .int (7 * (pV S (fIx st) 13))]) (by rw [nI_clamp (show (fIx d) < 2 ^ 31 by have := hle; omega), hB.H h_d]) ?_
                refine lv_iload hx hb dX4_fraction_180 (lv_at hl 2 rfl) ?_
                refine lv_isub hx hb dX4_fraction_182 ?_
                refine lv_isub hx hb dX4_fraction_183 ?_
                refine lv_isub hx hb dX4_fraction_184 ?_
                refine mw_callS (As := [.int ((7 * (pV S (fIx st) 13)) - (((pV S (fIx st) 1) - (bD S (fIx n))) - ((bH S (fIx d)) - (pV S (fIx st) 4))))]) (rest := []) hx hb hml hown hl (kX4_half l htr G H.size M_19 ((7 * (pV S (fIx st) 13)) - (((pV S (fIx st) 1) - (bD S (fIx n))) - ((bH S (fIx d)) - (pV S (fIx st) 4))))) (g_B (n := 1) htb wd682 wd3 wd680 (by decide +kernel) ⟨Nat.le_of_ble_eq_true rfl, Nat.le_of_ble_eq_true rfl⟩) (htb _ wd681) hE hP hS rfl rfl (Nat.le_of_ble_eq_true rfl) dX4_fraction_185 ⟨Nat.le_of_ble_eq_true rfl, Nat.le_of_ble_eq_true rfl⟩ (fun v9 M9 H locs hpo hP hz hS => ?_) (fun x9 E9 cell9 H9 locs9 hE9 => hE9.elim)
                obtain ⟨rfl, rfl⟩ := hpo
                refine W.eq (g2 := F0 m 188 ls [.int (fHf ((7 * (pV S (fIx st) 13)) - (((pV S (fIx st) 1) - (bD S (fIx n))) - ((bH S (fIx d)) - (pV S (fIx st) 4)))))]) rfl ?_
                refine lv_istore (lv' := [(9, .int (fHf ((7 * (pV S (fIx st) 13)) - (((pV S (fIx st) 1) - (bD S (fIx n))) - ((bH S (fIx d)) - (pV S (fIx st) 4)))))), (8, .int (7 * (pV S (fIx st) 13))), (7, .int (fHf t)), (6, .int (pV S (fIx st) 4)), (5, .int (pV S (fIx st) 1)), (0, .ref o), (1, .int (nI (fIx st))), (2, .int (nI (fIx n))), (3, .int (nI (fIx d))), (4, .int t)]) hx hb dX4_fraction_188 hl (by decide) rfl (fun ls hl => ?_)
                refine lv_iload hx hb dX4_fraction_190 (lv_at hl 0 rfl) ?_
                refine lv_if_le (tgt := 203) hx hb dX4_fraction_192 (by decide) (fun c_164 => ?_) (fun c_164 => ?_)
                · refine lv_iload hx hb dX4_fraction_203 (lv_at hl 4 rfl) ?_
                  refine lv_istore (lv' := [(5, .int (pV S (fIx st) 1)), (9, .int (fHf ((7 * (pV S (fIx st) 13)) - (((pV S (fIx st) 1) - (bD S (fIx n))) - ((bH S (fIx d)) - (pV S (fIx st) 4)))))), (8, .int (7 * (pV S (fIx st) 13))), (7, .int (fHf t)), (6, .int (pV S (fIx st) 4)), (0, .ref o), (1, .int (nI (fIx st))), (2, .int (nI (fIx n))), (3, .int (nI (fIx d))), (4, .int t)]) hx hb dX4_fraction_205 hl (by decide) rfl (fun ls hl => ?_)
                  refine lv_iload hx hb dX4_fraction_207 (lv_at hl 1 rfl) ?_
                  refine lv_if_le (tgt := 220) hx hb dX4_fraction_209 (by decide) (fun c_165 => ?_) (fun c_165 => absurd c_164 c_165)
                  refine lv_iload hx hb dX4_fraction_220 (lv_at hl 4 rfl) ?_
                  refine lv_istore (lv' := [(6, .int (pV S (fIx st) 4)), (5, .int (pV S (fIx st) 1)), (9, .int (fHf ((7 * (pV S (fIx st) 13)) - (((pV S (fIx st) 1) - (bD S (fIx n))) - ((bH S (fIx d)) - (pV S (fIx st) 4)))))), (8, .int (7 * (pV S (fIx st) 13))), (7, .int (fHf t)), (0, .ref o), (1, .int (nI (fIx st))), (2, .int (nI (fIx n))), (3, .int (nI (fIx d))), (4, .int t)]) hx hb dX4_fraction_222 hl (by decide) rfl (fun ls hl => ?_)
                  refine lv_goto (tgt := 322) hx hb dX4_fraction_224 (by decide) ?_
                  refine lv_aload_n hx hb dX4_fraction_322 rfl (lv_at hl 5 rfl) ?_
                  refine mw_get (D := gD G) (ci := 4) (v := .ref (A 1)) (C := RX4) (T := TX4) (N := 21) hx hb htb inX4 hown hK hP hT.1 rfl 5 (by decide) (htb _ wd529) (fun _ h9 => h9) rfl dX4_fraction_323 ?_
                  refine lv_iload_n hx hb dX4_fraction_326 rfl (lv_at hl 7 rfl) ?_
                  refine mw_iald hx hb hK hP 0 (show M_19 (A 1) = some (.inl (gI G, 120, .inl (g20 1))) from hT.2.1 1 (by decide)) rfl (by exact vp_in_nI (show (fIx n) < 120 by have := hle; omega) (by decide)) dX4_fraction_327 ?_
                  refine W.eq (g2 := F0 m 328 ls [.int (bW S (fIx n))]) (by rw [nI_clamp (show (fIx n) < 2 ^ 31 by have := hle; omega), hB.W h_n]) ?_
                  refine lv_aload_n hx hb dX4_fraction_328 rfl (lv_at hl 5 rfl) ?_
                  refine mw_get (D := gD G) (ci := 4) (v := .ref (A 1)) (C := RX4) (T := TX4) (N := 21) hx hb htb inX4 hown hK hP hT.1 rfl 5 (by decide) (htb _ wd529) (fun _ h9 => h9) rfl dX4_fraction_329 ?_
                  refine lv_iload_n hx hb dX4_fraction_332 rfl (lv_at hl 8 rfl) ?_
                  refine mw_iald hx hb hK hP 0 (show M_19 (A 1) = some (.inl (gI G, 120, .inl (g20 1))) from hT.2.1 1 (by decide)) rfl (by exact vp_in_nI (show (fIx d) < 120 by have := hle; omega) (by decide)) dX4_fraction_333 ?_
                  refine W.eq (g2 := F0 m 334 ls [.int (bW S (fIx d)), .int (bW S (fIx n))]) (by rw [nI_clamp (show (fIx d) < 2 ^ 31 by have := hle; omega), hB.W h_d]) ?_
                  refine mw_callS (As := [.int (bW S (fIx n)), .int (bW S (fIx d))]) (rest := []) hx hb hml hown hl (kX4_greater l htr G H.size M_19 (bW S (fIx n)) (bW S (fIx d))) (g_B (n := 2) htb wd664 wd3 wd662 (by decide +kernel) ⟨Nat.le_of_ble_eq_true rfl, Nat.le_of_ble_eq_true rfl⟩) (htb _ wd663) hE hP hS rfl rfl (Nat.le_of_ble_eq_true rfl) dX4_fraction_334 ⟨Nat.le_of_ble_eq_true rfl, Nat.le_of_ble_eq_true rfl⟩ (fun v9 M9 H locs hpo hP hz hS => ?_) (fun x9 E9 cell9 H9 locs9 hE9 => hE9.elim)
                  obtain ⟨rfl, rfl⟩ := hpo
                  refine W.eq (g2 := F0 m 337 ls [.int (fMx (bW S (fIx n)) (bW S (fIx d)))]) rfl ?_
                  refine lv_istore (lv' := [(8, .int (fMx (bW S (fIx n)) (bW S (fIx d)))), (6, .int (pV S (fIx st) 4)), (5, .int (pV S (fIx st) 1)), (9, .int (fHf ((7 * (pV S (fIx st) 13)) - (((pV S (fIx st) 1) - (bD S (fIx n))) - ((bH S (fIx d)) - (pV S (fIx st) 4)))))), (7, .int (fHf t)), (0, .ref o), (1, .int (nI (fIx st))), (2, .int (nI (fIx n))), (3, .int (nI (fIx d))), (4, .int t)]) hx hb dX4_fraction_337 hl (by decide) rfl (fun ls hl => ?_)
                  refine lv_aload_n hx hb dX4_fraction_339 rfl (lv_at hl 5 rfl) ?_
                  refine lv_iload hx hb dX4_fraction_340 (lv_at hl 0 rfl) ?_
                  refine lv_iload hx hb dX4_fraction_342 (lv_at hl 2 rfl) ?_
                  refine lv_aload_n hx hb dX4_fraction_344 rfl (lv_at hl 5 rfl) ?_
                  refine mw_get (D := gD G) (ci := 4) (v := .ref (A 2)) (C := RX4) (T := TX4) (N := 21) hx hb htb inX4 hown hK hP hT.1 rfl 6 (by decide) (htb _ wd530) (fun _ h9 => h9) rfl dX4_fraction_345 ?_
                  refine lv_iload_n hx hb dX4_fraction_348 rfl (lv_at hl 7 rfl) ?_
                  refine mw_iald hx hb hK hP 0 (show M_19 (A 2) = some (.inl (gI G, 120, .inl (g20 2))) from hT.2.1 2 (by decide)) rfl (by exact vp_in_nI (show (fIx n) < 120 by have := hle; omega) (by decide)) dX4_fraction_349 ?_
                  refine W.eq (g2 := F0 m 350 ls [.int (bH S (fIx n)), .int (pV S (fIx st) 1), .int (fMx (bW S (fIx n)) (bW S (fIx d))), .ref o]) (by rw [nI_clamp (show (fIx n) < 2 ^ 31 by have := hle; omega), hB.H h_n]) ?_
                  refine lv_iadd hx hb dX4_fraction_350 ?_
                  refine lv_aload_n hx hb dX4_fraction_351 rfl (lv_at hl 5 rfl) ?_
                  refine mw_get (D := gD G) (ci := 4) (v := .ref (A 3)) (C := RX4) (T := TX4) (N := 21) hx hb htb inX4 hown hK hP hT.1 rfl 7 (by decide) (htb _ wd531) (fun _ h9 => h9) rfl dX4_fraction_352 ?_
                  refine lv_iload_n hx hb dX4_fraction_355 rfl (lv_at hl 8 rfl) ?_
                  refine mw_iald hx hb hK hP 0 (show M_19 (A 3) = some (.inl (gI G, 120, .inl (g20 3))) from hT.2.1 3 (by decide)) rfl (by exact vp_in_nI (show (fIx d) < 120 by have := hle; omega) (by decide)) dX4_fraction_356 ?_
                  refine W.eq (g2 := F0 m 357 ls [.int (bD S (fIx d)), .int ((pV S (fIx st) 1) + (bH S (fIx n))), .int (fMx (bW S (fIx n)) (bW S (fIx d))), .ref o]) (by rw [nI_clamp (show (fIx d) < 2 ^ 31 by have := hle; omega), hB.D h_d]) ?_
                  refine lv_iload hx hb dX4_fraction_357 (lv_at hl 1 rfl) ?_
                  refine lv_iadd hx hb dX4_fraction_359 ?_
                  refine mw_callV (C := RX4) (As := [.int (fMx (bW S (fIx n)) (bW S (fIx d))), .int ((pV S (fIx st) 1) + (bH S (fIx n))), .int ((bD S (fIx d)) + (pV S (fIx st) 4))]) (rest := []) hx hb hml hown hl (kX4_make l htr G H.size M_19 o A 0 (nI (fSz (fIx st))) S (⟨np20, bg20, g20, hT, hB⟩ : md_R G o A M_19 0 (nI (fSz (fIx st))) S) (rmk_lt kb_16 hle) (fMx (bW S (fIx n)) (bW S (fIx d))) ((pV S (fIx st) 1) + (bH S (fIx n))) ((bD S (fIx d)) + (pV S (fIx st) 4))) (g_B (n := 3) htb wd613 wd3 wd610 (by decide +kernel) ⟨Nat.le_of_ble_eq_true rfl, Nat.le_of_ble_eq_true rfl⟩) (htb _ wd612) (htb _ ws26) hE hP hS hT.1 rfl rfl rfl (Nat.le_of_ble_eq_true rfl) dX4_fraction_360 ⟨Nat.le_of_ble_eq_true rfl, Nat.le_of_ble_eq_true rfl⟩ (fun v9 M9 H locs hpo hP hz hS => ?_) (fun x9 E9 cell9 H9 locs9 hE9 => hE9.elim)
                  have hle0 := hle
                  obtain ⟨rfl, hRn, hkn⟩ := hpo
                  obtain ⟨M_166, hM_166⟩ : ∃ z9 : mw_M, z9 = M9 := ⟨_, rfl⟩
                  rw [← hM_166] at hP hRn hkn
                  have hk := md_keeps.tr hk hkn
                  have hRn : md_R G o A M_166 0 (nI (fSz (fIx st))) (fs_push S ((fMx (bW S (fIx n)) (bW S (fIx d))), ((pV S (fIx st) 1) + (bH S (fIx n))), ((bD S (fIx d)) + (pV S (fIx st) 4)), [], 0, 0)) := hRn
                  obtain ⟨np167, bg167, g167, hT, hB⟩ := id hRn
                  rw [sN_push] at hT
                  have hT : md_at G o A M_166 0 (sSp S) (sSh S) (nI (sN S + 1)) (nI np167) (nI (fSz (fIx st))) g167 := hT
                  have hle : sN S + 1 ≤ 120 := by have := hB.1; rw [sN_push] at this; exact this
                  refine W.eq (g2 := F0 m 363 ls [.int (nI (sN S))]) rfl ?_
                  refine lv_istore (lv' := [(9, .int (nI (sN S))), (8, .int (fMx (bW S (fIx n)) (bW S (fIx d)))), (6, .int (pV S (fIx st) 4)), (5, .int (pV S (fIx st) 1)), (7, .int (fHf t)), (0, .ref o), (1, .int (nI (fIx st))), (2, .int (nI (fIx n))), (3, .int (nI (fIx d))), (4, .int t)]) hx hb dX4_fraction_363 hl (by decide) rfl (fun ls hl => ?_)
                  refine lv_aload_n hx hb dX4_fraction_365 rfl (lv_at hl 5 rfl) ?_
                  refine lv_iload_n hx hb dX4_fraction_366 rfl (lv_at hl 7 rfl) ?_
                  refine lv_iload hx hb dX4_fraction_367 (lv_at hl 1 rfl) ?_
                  refine lv_aload_n hx hb dX4_fraction_369 rfl (lv_at hl 5 rfl) ?_
                  refine mw_get (D := gD G) (ci := 4) (v := .ref (A 1)) (C := RX4) (T := TX4) (N := 21) hx hb htb inX4 hown hK hP hT.1 rfl 5 (by decide) (htb _ wd529) (fun _ h9 => h9) rfl dX4_fraction_370 ?_
                  refine lv_iload_n hx hb dX4_fraction_373 rfl (lv_at hl 7 rfl) ?_
                  refine mw_iald hx hb hK hP 0 (show M_166 (A 1) = some (.inl (gI G, 120, .inl (g167 1))) from hT.2.1 1 (by decide)) rfl (by exact vp_in_nI (show (fIx n) < 120 by have := hle; omega) (by decide)) dX4_fraction_374 ?_
                  refine W.eq (g2 := F0 m 375 ls [.int (bW S (fIx n)), .int (fMx (bW S (fIx n)) (bW S (fIx d))), .int (nI (fIx n)), .ref o]) (by rw [nI_clamp (show (fIx n) < 2 ^ 31 by have := hle; omega), hB.W (show (fIx n) < sN (fs_push S ((fMx (bW S (fIx n)) (bW S (fIx d))), ((pV S (fIx st) 1) + (bH S (fIx n))), ((bD S (fIx d)) + (pV S (fIx st) 4)), [], 0, 0)) by rw [sN_push]; omega), bW_push _ h_n]) ?_
                  refine lv_isub hx hb dX4_fraction_375 ?_
                  refine mw_callS (As := [.int ((fMx (bW S (fIx n)) (bW S (fIx d))) - (bW S (fIx n)))]) (rest := [.int (nI (fIx n)), .ref o]) hx hb hml hown hl (kX4_half l htr G H.size M_166 ((fMx (bW S (fIx n)) (bW S (fIx d))) - (bW S (fIx n)))) (g_B (n := 1) htb wd682 wd3 wd680 (by decide +kernel) ⟨Nat.le_of_ble_eq_true rfl, Nat.le_of_ble_eq_true rfl⟩) (htb _ wd681) hE hP hS rfl rfl (Nat.le_of_ble_eq_true rfl) dX4_fraction_376 ⟨Nat.le_of_ble_eq_true rfl, Nat.le_of_ble_eq_true rfl⟩ (fun v9 M9 H locs hpo hP hz hS => ?_) (fun x9 E9 cell9 H9 locs9 hE9 => hE9.elim)
                  obtain ⟨rfl, rfl⟩ := hpo
                  refine W.eq (g2 := F0 m 379 ls [.int (fHf ((fMx (bW S (fIx n)) (bW S (fIx d))) - (bW S (fIx n)))), .int (nI (fIx n)), .ref o]) rfl ?_
                  refine lv_iload hx hb dX4_fraction_379 (lv_at hl 3 rfl) ?_
                  refine mw_callV (C := RX4) (As := [.int (nI (fIx n)), .int (fHf ((fMx (bW S (fIx n)) (bW S (fIx d))) - (bW S (fIx n)))), .int (pV S (fIx st) 1)]) (rest := []) hx hb hml hown hl (kX4_lay l htr G H.size M_166 o A 0 (nI (fSz (fIx st))) S (fMx (bW S (fIx n)) (bW S (fIx d))) ((pV S (fIx st) 1) + (bH S (fIx n))) ((bD S (fIx d)) + (pV S (fIx st) 4)) ([]) 0 0 (md_R.of (np := np167) hT hB : md_R G o A M_166 0 (nI (fSz (fIx st))) (fs_push S ((fMx (bW S (fIx n)) (bW S (fIx d))), ((pV S (fIx st) 1) + (bH S (fIx n))), ((bD S (fIx d)) + (pV S (fIx st) 4)), [], 0, 0))) (by simp) (nI (fIx n)) (fHf ((fMx (bW S (fIx n)) (bW S (fIx d))) - (bW S (fIx n)))) (pV S (fIx st) 1)) (g_B (n := 3) htb wd661 wd3 wd658 (by decide +kernel) ⟨Nat.le_of_ble_eq_true rfl, Nat.le_of_ble_eq_true rfl⟩) (htb _ wd660) (htb _ ws34) hE hP hS hT.1 rfl rfl rfl (Nat.le_of_ble_eq_true rfl) dX4_fraction_381 ⟨Nat.le_of_ble_eq_true rfl, Nat.le_of_ble_eq_true rfl⟩ (fun v9 M9 H locs hpo hP hz hS => ?_) (fun x9 E9 cell9 H9 locs9 hE9 => hE9.elim)
                  obtain ⟨rfl, hRn, hkn⟩ := hpo
                  obtain ⟨M_168, hM_168⟩ : ∃ z9 : mw_M, z9 = M9 := ⟨_, rfl⟩
                  rw [← hM_168] at hP hRn hkn
                  have hk := md_keeps.tr hk hkn
                  have hRn : md_R G o A M_168 0 (nI (fSz (fIx st))) (fs_push S ((fMx (bW S (fIx n)) (bW S (fIx d))), ((pV S (fIx st) 1) + (bH S (fIx n))), ((bD S (fIx d)) + (pV S (fIx st) 4)), [(nI (fIx n)), (fHf ((fMx (bW S (fIx n)) (bW S (fIx d))) - (bW S (fIx n)))), (pV S (fIx st) 1)], 0, 0)) := hRn
                  obtain ⟨np169, bg169, g169, hT, hB⟩ := id hRn
                  rw [sN_push] at hT
                  have hT : md_at G o A M_168 0 (sSp S) (sSh S) (nI (sN S + 1)) (nI np169) (nI (fSz (fIx st))) g169 := hT
                  refine W.eq (g2 := F0 m 384 ls []) rfl ?_
                  refine lv_aload_n hx hb dX4_fraction_384 rfl (lv_at hl 5 rfl) ?_
                  refine lv_iload_n hx hb dX4_fraction_385 rfl (lv_at hl 8 rfl) ?_
                  refine lv_iload hx hb dX4_fraction_386 (lv_at hl 1 rfl) ?_
                  refine lv_aload_n hx hb dX4_fraction_388 rfl (lv_at hl 5 rfl) ?_
                  refine mw_get (D := gD G) (ci := 4) (v := .ref (A 1)) (C := RX4) (T := TX4) (N := 21) hx hb htb inX4 hown hK hP hT.1 rfl 5 (by decide) (htb _ wd529) (fun _ h9 => h9) rfl dX4_fraction_389 ?_
                  refine lv_iload_n hx hb dX4_fraction_392 rfl (lv_at hl 8 rfl) ?_
                  refine mw_iald hx hb hK hP 0 (show M_168 (A 1) = some (.inl (gI G, 120, .inl (g169 1))) from hT.2.1 1 (by decide)) rfl (by exact vp_in_nI (show (fIx d) < 120 by have := hle; omega) (by decide)) dX4_fraction_393 ?_
                  refine W.eq (g2 := F0 m 394 ls [.int (bW S (fIx d)), .int (fMx (bW S (fIx n)) (bW S (fIx d))), .int (nI (fIx d)), .ref o]) (by rw [nI_clamp (show (fIx d) < 2 ^ 31 by have := hle; omega), hB.W (show (fIx d) < sN (fs_push S ((fMx (bW S (fIx n)) (bW S (fIx d))), ((pV S (fIx st) 1) + (bH S (fIx n))), ((bD S (fIx d)) + (pV S (fIx st) 4)), [(nI (fIx n)), (fHf ((fMx (bW S (fIx n)) (bW S (fIx d))) - (bW S (fIx n)))), (pV S (fIx st) 1)], 0, 0)) by rw [sN_push]; omega), bW_push _ h_d]) ?_
                  refine lv_isub hx hb dX4_fraction_394 ?_
                  refine mw_callS (As := [.int ((fMx (bW S (fIx n)) (bW S (fIx d))) - (bW S (fIx d)))]) (rest := [.int (nI (fIx d)), .ref o]) hx hb hml hown hl (kX4_half l htr G H.size M_168 ((fMx (bW S (fIx n)) (bW S (fIx d))) - (bW S (fIx d)))) (g_B (n := 1) htb wd682 wd3 wd680 (by decide +kernel) ⟨Nat.le_of_ble_eq_true rfl, Nat.le_of_ble_eq_true rfl⟩) (htb _ wd681) hE hP hS rfl rfl (Nat.le_of_ble_eq_true rfl) dX4_fraction_395 ⟨Nat.le_of_ble_eq_true rfl, Nat.le_of_ble_eq_true rfl⟩ (fun v9 M9 H locs hpo hP hz hS => ?_) (fun x9 E9 cell9 H9 locs9 hE9 => hE9.elim)
                  obtain ⟨rfl, rfl⟩ := hpo
                  refine W.eq (g2 := F0 m 398 ls [.int (fHf ((fMx (bW S (fIx n)) (bW S (fIx d))) - (bW S (fIx d)))), .int (nI (fIx d)), .ref o]) rfl ?_
                  refine lv_iload hx hb dX4_fraction_398 (lv_at hl 2 rfl) ?_
                  refine lv_ineg hx hb dX4_fraction_400 ?_
                  refine mw_callV (C := RX4) (As := [.int (nI (fIx d)), .int (fHf ((fMx (bW S (fIx n)) (bW S (fIx d))) - (bW S (fIx d)))), .int (-(pV S (fIx st) 4))]) (rest := []) hx hb hml hown hl (kX4_lay l htr G H.size M_168 o A 0 (nI (fSz (fIx st))) S (fMx (bW S (fIx n)) (bW S (fIx d))) ((pV S (fIx st) 1) + (bH S (fIx n))) ((bD S (fIx d)) + (pV S (fIx st) 4)) ([(nI (fIx n)), (fHf ((fMx (bW S (fIx n)) (bW S (fIx d))) - (bW S (fIx n)))), (pV S (fIx st) 1)]) 0 0 (md_R.of (np := np169) hT hB : md_R G o A M_168 0 (nI (fSz (fIx st))) (fs_push S ((fMx (bW S (fIx n)) (bW S (fIx d))), ((pV S (fIx st) 1) + (bH S (fIx n))), ((bD S (fIx d)) + (pV S (fIx st) 4)), [(nI (fIx n)), (fHf ((fMx (bW S (fIx n)) (bW S (fIx d))) - (bW S (fIx n)))), (pV S (fIx st) 1)], 0, 0))) (by simp) (nI (fIx d)) (fHf ((fMx (bW S (fIx n)) (bW S (fIx d))) - (bW S (fIx d)))) (-(pV S (fIx st) 4))) (g_B (n := 3) htb wd661 wd3 wd658 (by decide +kernel) ⟨Nat.le_of_ble_eq_true rfl, Nat.le_of_ble_eq_true rfl⟩) (htb _ wd660) (htb _ ws34) hE hP hS hT.1 rfl rfl rfl (Nat.le_of_ble_eq_true rfl) dX4_fraction_401 ⟨Nat.le_of_ble_eq_true rfl, Nat.le_of_ble_eq_true rfl⟩ (fun v9 M9 H locs hpo hP hz hS => ?_) (fun x9 E9 cell9 H9 locs9 hE9 => hE9.elim)
                  obtain ⟨rfl, hRn, hkn⟩ := hpo
                  obtain ⟨M_170, hM_170⟩ : ∃ z9 : mw_M, z9 = M9 := ⟨_, rfl⟩
                  rw [← hM_170] at hP hRn hkn
                  have hk := md_keeps.tr hk hkn
                  have hRn : md_R G o A M_170 0 (nI (fSz (fIx st))) (fs_push S ((fMx (bW S (fIx n)) (bW S (fIx d))), ((pV S (fIx st) 1) + (bH S (fIx n))), ((bD S (fIx d)) + (pV S (fIx st) 4)), [(nI (fIx n)), (fHf ((fMx (bW S (fIx n)) (bW S (fIx d))) - (bW S (fIx n)))), (pV S (fIx st) 1), (nI (fIx d)), (fHf ((fMx (bW S (fIx n)) (bW S (fIx d))) - (bW S (fIx d)))), (-(pV S (fIx st) 4))], 0, 0)) := hRn
                  obtain ⟨np171, bg171, g171, hT, hB⟩ := id hRn
                  rw [sN_push] at hT
                  have hT : md_at G o A M_170 0 (sSp S) (sSh S) (nI (sN S + 1)) (nI np171) (nI (fSz (fIx st))) g171 := hT
                  refine W.eq (g2 := F0 m 404 ls []) rfl ?_
                  refine lv_iload hx hb dX4_fraction_404 (lv_at hl 9 rfl) ?_
                  refine lv_if_le (tgt := 444) hx hb dX4_fraction_406 (by decide) (fun c_172 => ?_) (fun c_172 => absurd t0_162 c_172)
                  refine lv_iload hx hb dX4_fraction_444 (lv_at hl 0 rfl) ?_
                  have hex : ex_fraction S st n d t = 0 := by rw [ex_fraction, if_neg (fun z9 => z9 ⟨kb_5, kb_7⟩), if_neg (fun z9 => z9 ⟨kb_12, kb_14⟩), if_neg (fun z9 => z9 kb_16)]
                  have hre : re_fraction S st n d t = ((fMx (bW S (fIx n)) (bW S (fIx d))), ((pV S (fIx st) 1) + (bH S (fIx n))), ((bD S (fIx d)) + (pV S (fIx st) 4)), [(nI (fIx n)), (fHf ((fMx (bW S (fIx n)) (bW S (fIx d))) - (bW S (fIx n)))), (pV S (fIx st) 1), (nI (fIx d)), (fHf ((fMx (bW S (fIx n)) (bW S (fIx d))) - (bW S (fIx d)))), (-(pV S (fIx st) 4))], 0, 0) := by simp only [re_fraction, fs_fb, fs_fb1, fs_fb2, fs_fb3, fs_fl, fs_fl1, fs_fl3, if_neg c_15, if_pos c_21, if_pos c_104, if_pos c_164, if_pos t0_162, Int32.add_zero]
                  exact mx_iret (v := (nI (sN S))) (M' := M_170) hx hb hr hlocks hP hS ⟨by rw [hex]; rfl, ⟨_, by rw [hex, if_pos rfl, hre]; exact (md_R.of (np := np171) hT hB : md_R G o A M_170 0 (nI (fSz (fIx st))) (fs_push S ((fMx (bW S (fIx n)) (bW S (fIx d))), ((pV S (fIx st) 1) + (bH S (fIx n))), ((bD S (fIx d)) + (pV S (fIx st) 4)), [(nI (fIx n)), (fHf ((fMx (bW S (fIx n)) (bW S (fIx d))) - (bW S (fIx n)))), (pV S (fIx st) 1), (nI (fIx d)), (fHf ((fMx (bW S (fIx n)) (bW S (fIx d))) - (bW S (fIx d)))), (-(pV S (fIx st) 4))], 0, 0)))⟩, hk⟩ dX4_fraction_446 (Nat.le_of_ble_eq_true rfl) (Nat.le_of_ble_eq_true rfl)
                · refine lv_iload hx hb dX4_fraction_195 (lv_at hl 4 rfl) ?_
                  refine lv_iload hx hb dX4_fraction_197 (lv_at hl 0 rfl) ?_
                  refine lv_iadd hx hb dX4_fraction_199 ?_
                  refine lv_goto (tgt := 205) hx hb dX4_fraction_200 (by decide) ?_
                  refine lv_istore (lv' := [(5, .int ((pV S (fIx st) 1) + (fHf ((7 * (pV S (fIx st) 13)) - (((pV S (fIx st) 1) - (bD S (fIx n))) - ((bH S (fIx d)) - (pV S (fIx st) 4))))))), (9, .int (fHf ((7 * (pV S (fIx st) 13)) - (((pV S (fIx st) 1) - (bD S (fIx n))) - ((bH S (fIx d)) - (pV S (fIx st) 4)))))), (8, .int (7 * (pV S (fIx st) 13))), (7, .int (fHf t)), (6, .int (pV S (fIx st) 4)), (0, .ref o), (1, .int (nI (fIx st))), (2, .int (nI (fIx n))), (3, .int (nI (fIx d))), (4, .int t)]) hx hb dX4_fraction_205 hl (by decide) rfl (fun ls hl => ?_)
                  refine lv_iload hx hb dX4_fraction_207 (lv_at hl 1 rfl) ?_
                  refine lv_if_le (tgt := 220) hx hb dX4_fraction_209 (by decide) (fun c_173 => absurd c_173 c_164) (fun c_173 => ?_)
                  refine lv_iload hx hb dX4_fraction_212 (lv_at hl 4 rfl) ?_
                  refine lv_iload hx hb dX4_fraction_214 (lv_at hl 1 rfl) ?_
                  refine lv_iadd hx hb dX4_fraction_216 ?_
                  refine lv_goto (tgt := 222) hx hb dX4_fraction_217 (by decide) ?_
                  refine lv_istore (lv' := [(6, .int ((pV S (fIx st) 4) + (fHf ((7 * (pV S (fIx st) 13)) - (((pV S (fIx st) 1) - (bD S (fIx n))) - ((bH S (fIx d)) - (pV S (fIx st) 4))))))), (5, .int ((pV S (fIx st) 1) + (fHf ((7 * (pV S (fIx st) 13)) - (((pV S (fIx st) 1) - (bD S (fIx n))) - ((bH S (fIx d)) - (pV S (fIx st) 4))))))), (9, .int (fHf ((7 * (pV S (fIx st) 13)) - (((pV S (fIx st) 1) - (bD S (fIx n))) - ((bH S (fIx d)) - (pV S (fIx st) 4)))))), (8, .int (7 * (pV S (fIx st) 13))), (7, .int (fHf t)), (0, .ref o), (1, .int (nI (fIx st))), (2, .int (nI (fIx n))), (3, .int (nI (fIx d))), (4, .int t)]) hx hb dX4_fraction_222 hl (by decide) rfl (fun ls hl => ?_)
                  refine lv_goto (tgt := 322) hx hb dX4_fraction_224 (by decide) ?_
                  refine lv_aload_n hx hb dX4_fraction_322 rfl (lv_at hl 5 rfl) ?_
                  refine mw_get (D := gD G) (ci := 4) (v := .ref (A 1)) (C := RX4) (T := TX4) (N := 21) hx hb htb inX4 hown hK hP hT.1 rfl 5 (by decide) (htb _ wd529) (fun _ h9 => h9) rfl dX4_fraction_323 ?_
                  refine lv_iload_n hx hb dX4_fraction_326 rfl (lv_at hl 7 rfl) ?_
                  refine mw_iald hx hb hK hP 0 (show M_19 (A 1) = some (.inl (gI G, 120, .inl (g20 1))) from hT.2.1 1 (by decide)) rfl (by exact vp_in_nI (show (fIx n) < 120 by have := hle; omega) (by decide)) dX4_fraction_327 ?_
                  refine W.eq (g2 := F0 m 328 ls [.int (bW S (fIx n))]) (by rw [nI_clamp (show (fIx n) < 2 ^ 31 by have := hle; omega), hB.W h_n]) ?_
                  refine lv_aload_n hx hb dX4_fraction_328 rfl (lv_at hl 5 rfl) ?_
                  refine mw_get (D := gD G) (ci := 4) (v := .ref (A 1)) (C := RX4) (T := TX4) (N := 21) hx hb htb inX4 hown hK hP hT.1 rfl 5 (by decide) (htb _ wd529) (fun _ h9 => h9) rfl dX4_fraction_329 ?_
                  refine lv_iload_n hx hb dX4_fraction_332 rfl (lv_at hl 8 rfl) ?_
                  refine mw_iald hx hb hK hP 0 (show M_19 (A 1) = some (.inl (gI G, 120, .inl (g20 1))) from hT.2.1 1 (by decide)) rfl (by exact vp_in_nI (show (fIx d) < 120 by have := hle; omega) (by decide)) dX4_fraction_333 ?_
                  refine W.eq (g2 := F0 m 334 ls [.int (bW S (fIx d)), .int (bW S (fIx n))]) (by rw [nI_clamp (show (fIx d) < 2 ^ 31 by have := hle; omega), hB.W h_d]) ?_
                  refine mw_callS (As := [.int (bW S (fIx n)), .int (bW S (fIx d))]) (rest := []) hx hb hml hown hl (kX4_greater l htr G H.size M_19 (bW S (fIx n)) (bW S (fIx d))) (g_B (n := 2) htb wd664 wd3 wd662 (by decide +kernel) ⟨Nat.le_of_ble_eq_true rfl, Nat.le_of_ble_eq_true rfl⟩) (htb _ wd663) hE hP hS rfl rfl (Nat.le_of_ble_eq_true rfl) dX4_fraction_334 ⟨Nat.le_of_ble_eq_true rfl, Nat.le_of_ble_eq_true rfl⟩ (fun v9 M9 H locs hpo hP hz hS => ?_) (fun x9 E9 cell9 H9 locs9 hE9 => hE9.elim)
                  obtain ⟨rfl, rfl⟩ := hpo
                  refine W.eq (g2 := F0 m 337 ls [.int (fMx (bW S (fIx n)) (bW S (fIx d)))]) rfl ?_
                  refine lv_istore (lv' := [(8, .int (fMx (bW S (fIx n)) (bW S (fIx d)))), (6, .int ((pV S (fIx st) 4) + (fHf ((7 * (pV S (fIx st) 13)) - (((pV S (fIx st) 1) - (bD S (fIx n))) - ((bH S (fIx d)) - (pV S (fIx st) 4))))))), (5, .int ((pV S (fIx st) 1) + (fHf ((7 * (pV S (fIx st) 13)) - (((pV S (fIx st) 1) - (bD S (fIx n))) - ((bH S (fIx d)) - (pV S (fIx st) 4))))))), (9, .int (fHf ((7 * (pV S (fIx st) 13)) - (((pV S (fIx st) 1) - (bD S (fIx n))) - ((bH S (fIx d)) - (pV S (fIx st) 4)))))), (7, .int (fHf t)), (0, .ref o), (1, .int (nI (fIx st))), (2, .int (nI (fIx n))), (3, .int (nI (fIx d))), (4, .int t)]) hx hb dX4_fraction_337 hl (by decide) rfl (fun ls hl => ?_)
                  refine lv_aload_n hx hb dX4_fraction_339 rfl (lv_at hl 5 rfl) ?_
                  refine lv_iload hx hb dX4_fraction_340 (lv_at hl 0 rfl) ?_
                  refine lv_iload hx hb dX4_fraction_342 (lv_at hl 2 rfl) ?_
                  refine lv_aload_n hx hb dX4_fraction_344 rfl (lv_at hl 5 rfl) ?_
                  refine mw_get (D := gD G) (ci := 4) (v := .ref (A 2)) (C := RX4) (T := TX4) (N := 21) hx hb htb inX4 hown hK hP hT.1 rfl 6 (by decide) (htb _ wd530) (fun _ h9 => h9) rfl dX4_fraction_345 ?_
                  refine lv_iload_n hx hb dX4_fraction_348 rfl (lv_at hl 7 rfl) ?_
                  refine mw_iald hx hb hK hP 0 (show M_19 (A 2) = some (.inl (gI G, 120, .inl (g20 2))) from hT.2.1 2 (by decide)) rfl (by exact vp_in_nI (show (fIx n) < 120 by have := hle; omega) (by decide)) dX4_fraction_349 ?_
                  refine W.eq (g2 := F0 m 350 ls [.int (bH S (fIx n)), .int ((pV S (fIx st) 1) + (fHf ((7 * (pV S (fIx st) 13)) - (((pV S (fIx st) 1) - (bD S (fIx n))) - ((bH S (fIx d)) - (pV S (fIx st) 4)))))), .int (fMx (bW S (fIx n)) (bW S (fIx d))), .ref o]) (by rw [nI_clamp (show (fIx n) < 2 ^ 31 by have := hle; omega), hB.H h_n]) ?_
                  refine lv_iadd hx hb dX4_fraction_350 ?_
                  refine lv_aload_n hx hb dX4_fraction_351 rfl (lv_at hl 5 rfl) ?_
                  refine mw_get (D := gD G) (ci := 4) (v := .ref (A 3)) (C := RX4) (T := TX4) (N := 21) hx hb htb inX4 hown hK hP hT.1 rfl 7 (by decide) (htb _ wd531) (fun _ h9 => h9) rfl dX4_fraction_352 ?_
                  refine lv_iload_n hx hb dX4_fraction_355 rfl (lv_at hl 8 rfl) ?_
                  refine mw_iald hx hb hK hP 0 (show M_19 (A 3) = some (.inl (gI G, 120, .inl (g20 3))) from hT.2.1 3 (by decide)) rfl (by exact vp_in_nI (show (fIx d) < 120 by have := hle; omega) (by decide)) dX4_fraction_356 ?_
                  refine W.eq (g2 := F0 m 357 ls [.int (bD S (fIx d)), .int (((pV S (fIx st) 1) + (fHf ((7 * (pV S (fIx st) 13)) - (((pV S (fIx st) 1) - (bD S (fIx n))) - ((bH S (fIx d)) - (pV S (fIx st) 4)))))) + (bH S (fIx n))), .int (fMx (bW S (fIx n)) (bW S (fIx d))), .ref o]) (by rw [nI_clamp (show (fIx d) < 2 ^ 31 by have := hle; omega), hB.D h_d]) ?_
                  refine lv_iload hx hb dX4_fraction_357 (lv_at hl 1 rfl) ?_
                  refine lv_iadd hx hb dX4_fraction_359 ?_
                  refine mw_callV (C := RX4) (As := [.int (fMx (bW S (fIx n)) (bW S (fIx d))), .int (((pV S (fIx st) 1) + (fHf ((7 * (pV S (fIx st) 13)) - (((pV S (fIx st) 1) - (bD S (fIx n))) - ((bH S (fIx d)) - (pV S (fIx st) 4)))))) + (bH S (fIx n))), .int ((bD S (fIx d)) + ((pV S (fIx st) 4) + (fHf ((7 * (pV S (fIx st) 13)) - (((pV S (fIx st) 1) - (bD S (fIx n))) - ((bH S (fIx d)) - (pV S (fIx st) 4)))))))]) (rest := []) hx hb hml hown hl (kX4_make l htr G H.size M_19 o A 0 (nI (fSz (fIx st))) S (⟨np20, bg20, g20, hT, hB⟩ : md_R G o A M_19 0 (nI (fSz (fIx st))) S) (rmk_lt kb_16 hle) (fMx (bW S (fIx n)) (bW S (fIx d))) (((pV S (fIx st) 1) + (fHf ((7 * (pV S (fIx st) 13)) - (((pV S (fIx st) 1) - (bD S (fIx n))) - ((bH S (fIx d)) - (pV S (fIx st) 4)))))) + (bH S (fIx n))) ((bD S (fIx d)) + ((pV S (fIx st) 4) + (fHf ((7 * (pV S (fIx st) 13)) - (((pV S (fIx st) 1) - (bD S (fIx n))) - ((bH S (fIx d)) - (pV S (fIx st) 4)))))))) (g_B (n := 3) htb wd613 wd3 wd610 (by decide +kernel) ⟨Nat.le_of_ble_eq_true rfl, Nat.le_of_ble_eq_true rfl⟩) (htb _ wd612) (htb _ ws26) hE hP hS hT.1 rfl rfl rfl (Nat.le_of_ble_eq_true rfl) dX4_fraction_360 ⟨Nat.le_of_ble_eq_true rfl, Nat.le_of_ble_eq_true rfl⟩ (fun v9 M9 H locs hpo hP hz hS => ?_) (fun x9 E9 cell9 H9 locs9 hE9 => hE9.elim)
                  have hle0 := hle
                  obtain ⟨rfl, hRn, hkn⟩ := hpo
                  obtain ⟨M_174, hM_174⟩ : ∃ z9 : mw_M, z9 = M9 := ⟨_, rfl⟩
                  rw [← hM_174] at hP hRn hkn
                  have hk := md_keeps.tr hk hkn
                  have hRn : md_R G o A M_174 0 (nI (fSz (fIx st))) (fs_push S ((fMx (bW S (fIx n)) (bW S (fIx d))), (((pV S (fIx st) 1) + (fHf ((7 * (pV S (fIx st) 13)) - (((pV S (fIx st) 1) - (bD S (fIx n))) - ((bH S (fIx d)) - (pV S (fIx st) 4)))))) + (bH S (fIx n))), ((bD S (fIx d)) + ((pV S (fIx st) 4) + (fHf ((7 * (pV S (fIx st) 13)) - (((pV S (fIx st) 1) - (bD S (fIx n))) - ((bH S (fIx d)) - (pV S (fIx st) 4))))))), [], 0, 0)) := hRn
                  obtain ⟨np175, bg175, g175, hT, hB⟩ := id hRn
                  rw [sN_push] at hT
                  have hT : md_at G o A M_174 0 (sSp S) (sSh S) (nI (sN S + 1)) (nI np175) (nI (fSz (fIx st))) g175 := hT
                  have hle : sN S + 1 ≤ 120 := by have := hB.1; rw [sN_push] at this; exact this
                  refine W.eq (g2 := F0 m 363 ls [.int (nI (sN S))]) rfl ?_
                  refine lv_istore (lv' := [(9, .int (nI (sN S))), (8, .int (fMx (bW S (fIx n)) (bW S (fIx d)))), (6, .int ((pV S (fIx st) 4) + (fHf ((7 * (pV S (fIx st) 13)) - (((pV S (fIx st) 1) - (bD S (fIx n))) - ((bH S (fIx d)) - (pV S (fIx st) 4))))))), (5, .int ((pV S (fIx st) 1) + (fHf ((7 * (pV S (fIx st) 13)) - (((pV S (fIx st) 1) - (bD S (fIx n))) - ((bH S (fIx d)) - (pV S (fIx st) 4))))))), (7, .int (fHf t)), (0, .ref o), (1, .int (nI (fIx st))), (2, .int (nI (fIx n))), (3, .int (nI (fIx d))), (4, .int t)]) hx hb dX4_fraction_363 hl (by decide) rfl (fun ls hl => ?_)
                  refine lv_aload_n hx hb dX4_fraction_365 rfl (lv_at hl 5 rfl) ?_
                  refine lv_iload_n hx hb dX4_fraction_366 rfl (lv_at hl 7 rfl) ?_
                  refine lv_iload hx hb dX4_fraction_367 (lv_at hl 1 rfl) ?_
                  refine lv_aload_n hx hb dX4_fraction_369 rfl (lv_at hl 5 rfl) ?_
                  refine mw_get (D := gD G) (ci := 4) (v := .ref (A 1)) (C := RX4) (T := TX4) (N := 21) hx hb htb inX4 hown hK hP hT.1 rfl 5 (by decide) (htb _ wd529) (fun _ h9 => h9) rfl dX4_fraction_370 ?_
                  refine lv_iload_n hx hb dX4_fraction_373 rfl (lv_at hl 7 rfl) ?_
                  refine mw_iald hx hb hK hP 0 (show M_174 (A 1) = some (.inl (gI G, 120, .inl (g175 1))) from hT.2.1 1 (by decide)) rfl (by exact vp_in_nI (show (fIx n) < 120 by have := hle; omega) (by decide)) dX4_fraction_374 ?_
                  refine W.eq (g2 := F0 m 375 ls [.int (bW S (fIx n)), .int (fMx (bW S (fIx n)) (bW S (fIx d))), .int (nI (fIx n)), .ref o]) (by rw [nI_clamp (show (fIx n) < 2 ^ 31 by have := hle; omega), hB.W (show (fIx n) < sN (fs_push S ((fMx (bW S (fIx n)) (bW S (fIx d))), (((pV S (fIx st) 1) + (fHf ((7 * (pV S (fIx st) 13)) - (((pV S (fIx st) 1) - (bD S (fIx n))) - ((bH S (fIx d)) - (pV S (fIx st) 4)))))) + (bH S (fIx n))), ((bD S (fIx d)) + ((pV S (fIx st) 4) + (fHf ((7 * (pV S (fIx st) 13)) - (((pV S (fIx st) 1) - (bD S (fIx n))) - ((bH S (fIx d)) - (pV S (fIx st) 4))))))), [], 0, 0)) by rw [sN_push]; omega), bW_push _ h_n]) ?_
                  refine lv_isub hx hb dX4_fraction_375 ?_
                  refine mw_callS (As := [.int ((fMx (bW S (fIx n)) (bW S (fIx d))) - (bW S (fIx n)))]) (rest := [.int (nI (fIx n)), .ref o]) hx hb hml hown hl (kX4_half l htr G H.size M_174 ((fMx (bW S (fIx n)) (bW S (fIx d))) - (bW S (fIx n)))) (g_B (n := 1) htb wd682 wd3 wd680 (by decide +kernel) ⟨Nat.le_of_ble_eq_true rfl, Nat.le_of_ble_eq_true rfl⟩) (htb _ wd681) hE hP hS rfl rfl (Nat.le_of_ble_eq_true rfl) dX4_fraction_376 ⟨Nat.le_of_ble_eq_true rfl, Nat.le_of_ble_eq_true rfl⟩ (fun v9 M9 H locs hpo hP hz hS => ?_) (fun x9 E9 cell9 H9 locs9 hE9 => hE9.elim)
                  obtain ⟨rfl, rfl⟩ := hpo
                  refine W.eq (g2 := F0 m 379 ls [.int (fHf ((fMx (bW S (fIx n)) (bW S (fIx d))) - (bW S (fIx n)))), .int (nI (fIx n)), .ref o]) rfl ?_
                  refine lv_iload hx hb dX4_fraction_379 (lv_at hl 3 rfl) ?_
                  refine mw_callV (C := RX4) (As := [.int (nI (fIx n)), .int (fHf ((fMx (bW S (fIx n)) (bW S (fIx d))) - (bW S (fIx n)))), .int ((pV S (fIx st) 1) + (fHf ((7 * (pV S (fIx st) 13)) - (((pV S (fIx st) 1) - (bD S (fIx n))) - ((bH S (fIx d)) - (pV S (fIx st) 4))))))]) (rest := []) hx hb hml hown hl (kX4_lay l htr G H.size M_174 o A 0 (nI (fSz (fIx st))) S (fMx (bW S (fIx n)) (bW S (fIx d))) (((pV S (fIx st) 1) + (fHf ((7 * (pV S (fIx st) 13)) - (((pV S (fIx st) 1) - (bD S (fIx n))) - ((bH S (fIx d)) - (pV S (fIx st) 4)))))) + (bH S (fIx n))) ((bD S (fIx d)) + ((pV S (fIx st) 4) + (fHf ((7 * (pV S (fIx st) 13)) - (((pV S (fIx st) 1) - (bD S (fIx n))) - ((bH S (fIx d)) - (pV S (fIx st) 4))))))) ([]) 0 0 (md_R.of (np := np175) hT hB : md_R G o A M_174 0 (nI (fSz (fIx st))) (fs_push S ((fMx (bW S (fIx n)) (bW S (fIx d))), (((pV S (fIx st) 1) + (fHf ((7 * (pV S (fIx st) 13)) - (((pV S (fIx st) 1) - (bD S (fIx n))) - ((bH S (fIx d)) - (pV S (fIx st) 4)))))) + (bH S (fIx n))), ((bD S (fIx d)) + ((pV S (fIx st) 4) + (fHf ((7 * (pV S (fIx st) 13)) - (((pV S (fIx st) 1) - (bD S (fIx n))) - ((bH S (fIx d)) - (pV S (fIx st) 4))))))), [], 0, 0))) (by simp) (nI (fIx n)) (fHf ((fMx (bW S (fIx n)) (bW S (fIx d))) - (bW S (fIx n)))) ((pV S (fIx st) 1) + (fHf ((7 * (pV S (fIx st) 13)) - (((pV S (fIx st) 1) - (bD S (fIx n))) - ((bH S (fIx d)) - (pV S (fIx st) 4))))))) (g_B (n := 3) htb wd661 wd3 wd658 (by decide +kernel) ⟨Nat.le_of_ble_eq_true rfl, Nat.le_of_ble_eq_true rfl⟩) (htb _ wd660) (htb _ ws34) hE hP hS hT.1 rfl rfl rfl (Nat.le_of_ble_eq_true rfl) dX4_fraction_381 ⟨Nat.le_of_ble_eq_true rfl, Nat.le_of_ble_eq_true rfl⟩ (fun v9 M9 H locs hpo hP hz hS => ?_) (fun x9 E9 cell9 H9 locs9 hE9 => hE9.elim)
                  obtain ⟨rfl, hRn, hkn⟩ := hpo
                  obtain ⟨M_176, hM_176⟩ : ∃ z9 : mw_M, z9 = M9 := ⟨_, rfl⟩
                  rw [← hM_176] at hP hRn hkn
                  have hk := md_keeps.tr hk hkn
                  have hRn : md_R G o A M_176 0 (nI (fSz (fIx st))) (fs_push S ((fMx (bW S (fIx n)) (bW S (fIx d))), (((pV S (fIx st) 1) + (fHf ((7 * (pV S (fIx st) 13)) - (((pV S (fIx st) 1) - (bD S (fIx n))) - ((bH S (fIx d)) - (pV S (fIx st) 4)))))) + (bH S (fIx n))), ((bD S (fIx d)) + ((pV S (fIx st) 4) + (fHf ((7 * (pV S (fIx st) 13)) - (((pV S (fIx st) 1) - (bD S (fIx n))) - ((bH S (fIx d)) - (pV S (fIx st) 4))))))), [(nI (fIx n)), (fHf ((fMx (bW S (fIx n)) (bW S (fIx d))) - (bW S (fIx n)))), ((pV S (fIx st) 1) + (fHf ((7 * (pV S (fIx st) 13)) - (((pV S (fIx st) 1) - (bD S (fIx n))) - ((bH S (fIx d)) - (pV S (fIx st) 4))))))], 0, 0)) := hRn
                  obtain ⟨np177, bg177, g177, hT, hB⟩ := id hRn
                  rw [sN_push] at hT
                  have hT : md_at G o A M_176 0 (sSp S) (sSh S) (nI (sN S + 1)) (nI np177) (nI (fSz (fIx st))) g177 := hT
                  refine W.eq (g2 := F0 m 384 ls []) rfl ?_
                  refine lv_aload_n hx hb dX4_fraction_384 rfl (lv_at hl 5 rfl) ?_
                  refine lv_iload_n hx hb dX4_fraction_385 rfl (lv_at hl 8 rfl) ?_
                  refine lv_iload hx hb dX4_fraction_386 (lv_at hl 1 rfl) ?_
                  refine lv_aload_n hx hb dX4_fraction_388 rfl (lv_at hl 5 rfl) ?_
                  refine mw_get (D := gD G) (ci := 4) (v := .ref (A 1)) (C := RX4) (T := TX4) (N := 21) hx hb htb inX4 hown hK hP hT.1 rfl 5 (by decide) (htb _ wd529) (fun _ h9 => h9) rfl dX4_fraction_389 ?_
                  refine lv_iload_n hx hb dX4_fraction_392 rfl (lv_at hl 8 rfl) ?_
                  refine mw_iald hx hb hK hP 0 (show M_176 (A 1) = some (.inl (gI G, 120, .inl (g177 1))) from hT.2.1 1 (by decide)) rfl (by exact vp_in_nI (show (fIx d) < 120 by have := hle; omega) (by decide)) dX4_fraction_393 ?_
                  refine W.eq (g2 := F0 m 394 ls [.int (bW S (fIx d)), .int (fMx (bW S (fIx n)) (bW S (fIx d))), .int (nI (fIx d)), .ref o]) (by rw [nI_clamp (show (fIx d) < 2 ^ 31 by have := hle; omega), hB.W (show (fIx d) < sN (fs_push S ((fMx (bW S (fIx n)) (bW S (fIx d))), (((pV S (fIx st) 1) + (fHf ((7 * (pV S (fIx st) 13)) - (((pV S (fIx st) 1) - (bD S (fIx n))) - ((bH S (fIx d)) - (pV S (fIx st) 4)))))) + (bH S (fIx n))), ((bD S (fIx d)) + ((pV S (fIx st) 4) + (fHf ((7 * (pV S (fIx st) 13)) - (((pV S (fIx st) 1) - (bD S (fIx n))) - ((bH S (fIx d)) - (pV S (fIx st) 4))))))), [(nI (fIx n)), (fHf ((fMx (bW S (fIx n)) (bW S (fIx d))) - (bW S (fIx n)))), ((pV S (fIx st) 1) + (fHf ((7 * (pV S (fIx st) 13)) - (((pV S (fIx st) 1) - (bD S (fIx n))) - ((bH S (fIx d)) - (pV S (fIx st) 4))))))], 0, 0)) by rw [sN_push]; omega), bW_push _ h_d]) ?_
                  refine lv_isub hx hb dX4_fraction_394 ?_
                  refine mw_callS (As := [.int ((fMx (bW S (fIx n)) (bW S (fIx d))) - (bW S (fIx d)))]) (rest := [.int (nI (fIx d)), .ref o]) hx hb hml hown hl (kX4_half l htr G H.size M_176 ((fMx (bW S (fIx n)) (bW S (fIx d))) - (bW S (fIx d)))) (g_B (n := 1) htb wd682 wd3 wd680 (by decide +kernel) ⟨Nat.le_of_ble_eq_true rfl, Nat.le_of_ble_eq_true rfl⟩) (htb _ wd681) hE hP hS rfl rfl (Nat.le_of_ble_eq_true rfl) dX4_fraction_395 ⟨Nat.le_of_ble_eq_true rfl, Nat.le_of_ble_eq_true rfl⟩ (fun v9 M9 H locs hpo hP hz hS => ?_) (fun x9 E9 cell9 H9 locs9 hE9 => hE9.elim)
                  obtain ⟨rfl, rfl⟩ := hpo
                  refine W.eq (g2 := F0 m 398 ls [.int (fHf ((fMx (bW S (fIx n)) (bW S (fIx d))) - (bW S (fIx d)))), .int (nI (fIx d)), .ref o]) rfl ?_
                  refine lv_iload hx hb dX4_fraction_398 (lv_at hl 2 rfl) ?_
                  refine lv_ineg hx hb dX4_fraction_400 ?_
                  refine mw_callV (C := RX4) (As := [.int (nI (fIx d)), .int (fHf ((fMx (bW S (fIx n)) (bW S (fIx d))) - (bW S (fIx d)))), .int (-((pV S (fIx st) 4) + (fHf ((7 * (pV S (fIx st) 13)) - (((pV S (fIx st) 1) - (bD S (fIx n))) - ((bH S (fIx d)) - (pV S (fIx st) 4)))))))]) (rest := []) hx hb hml hown hl (kX4_lay l htr G H.size M_176 o A 0 (nI (fSz (fIx st))) S (fMx (bW S (fIx n)) (bW S (fIx d))) (((pV S (fIx st) 1) + (fHf ((7 * (pV S (fIx st) 13)) - (((pV S (fIx st) 1) - (bD S (fIx n))) - ((bH S (fIx d)) - (pV S (fIx st) 4)))))) + (bH S (fIx n))) ((bD S (fIx d)) + ((pV S (fIx st) 4) + (fHf ((7 * (pV S (fIx st) 13)) - (((pV S (fIx st) 1) - (bD S (fIx n))) - ((bH S (fIx d)) - (pV S (fIx st) 4))))))) ([(nI (fIx n)), (fHf ((fMx (bW S (fIx n)) (bW S (fIx d))) - (bW S (fIx n)))), ((pV S (fIx st) 1) + (fHf ((7 * (pV S (fIx st) 13)) - (((pV S (fIx st) 1) - (bD S (fIx n))) - ((bH S (fIx d)) - (pV S (fIx st) 4))))))]) 0 0 (md_R.of (np := np177) hT hB : md_R G o A M_176 0 (nI (fSz (fIx st))) (fs_push S ((fMx (bW S (fIx n)) (bW S (fIx d))), (((pV S (fIx st) 1) + (fHf ((7 * (pV S (fIx st) 13)) - (((pV S (fIx st) 1) - (bD S (fIx n))) - ((bH S (fIx d)) - (pV S (fIx st) 4)))))) + (bH S (fIx n))), ((bD S (fIx d)) + ((pV S (fIx st) 4) + (fHf ((7 * (pV S (fIx st) 13)) - (((pV S (fIx st) 1) - (bD S (fIx n))) - ((bH S (fIx d)) - (pV S (fIx st) 4))))))), [(nI (fIx n)), (fHf ((fMx (bW S (fIx n)) (bW S (fIx d))) - (bW S (fIx n)))), ((pV S (fIx st) 1) + (fHf ((7 * (pV S (fIx st) 13)) - (((pV S (fIx st) 1) - (bD S (fIx n))) - ((bH S (fIx d)) - (pV S (fIx st) 4))))))], 0, 0))) (by simp) (nI (fIx d)) (fHf ((fMx (bW S (fIx n)) (bW S (fIx d))) - (bW S (fIx d)))) (-((pV S (fIx st) 4) + (fHf ((7 * (pV S (fIx st) 13)) - (((pV S (fIx st) 1) - (bD S (fIx n))) - ((bH S (fIx d)) - (pV S (fIx st) 4)))))))) (g_B (n := 3) htb wd661 wd3 wd658 (by decide +kernel) ⟨Nat.le_of_ble_eq_true rfl, Nat.le_of_ble_eq_true rfl⟩) (htb _ wd660) (htb _ ws34) hE hP hS hT.1 rfl rfl rfl (Nat.le_of_ble_eq_true rfl) dX4_fraction_401 ⟨Nat.le_of_ble_eq_true rfl, Nat.le_of_ble_eq_true rfl⟩ (fun v9 M9 H locs hpo hP hz hS => ?_) (fun x9 E9 cell9 H9 locs9 hE9 => hE9.elim)
                  obtain ⟨rfl, hRn, hkn⟩ := hpo
                  obtain ⟨M_178, hM_178⟩ : ∃ z9 : mw_M, z9 = M9 := ⟨_, rfl⟩
                  rw [← hM_178] at hP hRn hkn
                  have hk := md_keeps.tr hk hkn
                  have hRn : md_R G o A M_178 0 (nI (fSz (fIx st))) (fs_push S ((fMx (bW S (fIx n)) (bW S (fIx d))), (((pV S (fIx st) 1) + (fHf ((7 * (pV S (fIx st) 13)) - (((pV S (fIx st) 1) - (bD S (fIx n))) - ((bH S (fIx d)) - (pV S (fIx st) 4)))))) + (bH S (fIx n))), ((bD S (fIx d)) + ((pV S (fIx st) 4) + (fHf ((7 * (pV S (fIx st) 13)) - (((pV S (fIx st) 1) - (bD S (fIx n))) - ((bH S (fIx d)) - (pV S (fIx st) 4))))))), [(nI (fIx n)), (fHf ((fMx (bW S (fIx n)) (bW S (fIx d))) - (bW S (fIx n)))), ((pV S (fIx st) 1) + (fHf ((7 * (pV S (fIx st) 13)) - (((pV S (fIx st) 1) - (bD S (fIx n))) - ((bH S (fIx d)) - (pV S (fIx st) 4)))))), (nI (fIx d)), (fHf ((fMx (bW S (fIx n)) (bW S (fIx d))) - (bW S (fIx d)))), (-((pV S (fIx st) 4) + (fHf ((7 * (pV S (fIx st) 13)) - (((pV S (fIx st) 1) - (bD S (fIx n))) - ((bH S (fIx d)) - (pV S (fIx st) 4)))))))], 0, 0)) := hRn
                  obtain ⟨np179, bg179, g179, hT, hB⟩ := id hRn
                  rw [sN_push] at hT
                  have hT : md_at G o A M_178 0 (sSp S) (sSh S) (nI (sN S + 1)) (nI np179) (nI (fSz (fIx st))) g179 := hT
                  refine W.eq (g2 := F0 m 404 ls []) rfl ?_
                  refine lv_iload hx hb dX4_fraction_404 (lv_at hl 9 rfl) ?_
                  refine lv_if_le (tgt := 444) hx hb dX4_fraction_406 (by decide) (fun c_180 => ?_) (fun c_180 => absurd t0_162 c_180)
                  refine lv_iload hx hb dX4_fraction_444 (lv_at hl 0 rfl) ?_
                  have hex : ex_fraction S st n d t = 0 := by rw [ex_fraction, if_neg (fun z9 => z9 ⟨kb_5, kb_7⟩), if_neg (fun z9 => z9 ⟨kb_12, kb_14⟩), if_neg (fun z9 => z9 kb_16)]
                  have hre : re_fraction S st n d t = ((fMx (bW S (fIx n)) (bW S (fIx d))), (((pV S (fIx st) 1) + (fHf ((7 * (pV S (fIx st) 13)) - (((pV S (fIx st) 1) - (bD S (fIx n))) - ((bH S (fIx d)) - (pV S (fIx st) 4)))))) + (bH S (fIx n))), ((bD S (fIx d)) + ((pV S (fIx st) 4) + (fHf ((7 * (pV S (fIx st) 13)) - (((pV S (fIx st) 1) - (bD S (fIx n))) - ((bH S (fIx d)) - (pV S (fIx st) 4))))))), [(nI (fIx n)), (fHf ((fMx (bW S (fIx n)) (bW S (fIx d))) - (bW S (fIx n)))), ((pV S (fIx st) 1) + (fHf ((7 * (pV S (fIx st) 13)) - (((pV S (fIx st) 1) - (bD S (fIx n))) - ((bH S (fIx d)) - (pV S (fIx st) 4)))))), (nI (fIx d)), (fHf ((fMx (bW S (fIx n)) (bW S (fIx d))) - (bW S (fIx d)))), (-((pV S (fIx st) 4) + (fHf ((7 * (pV S (fIx st) 13)) - (((pV S (fIx st) 1) - (bD S (fIx n))) - ((bH S (fIx d)) - (pV S (fIx st) 4)))))))], 0, 0) := by simp only [re_fraction, fs_fb, fs_fb1, fs_fb2, fs_fb3, fs_fl, fs_fl1, fs_fl3, if_neg c_15, if_pos c_21, if_pos c_104, if_neg c_164, if_pos t0_162, Int32.add_zero]
                  exact mx_iret (v := (nI (sN S))) (M' := M_178) hx hb hr hlocks hP hS ⟨by rw [hex]; rfl, ⟨_, by rw [hex, if_pos rfl, hre]; exact (md_R.of (np := np179) hT hB : md_R G o A M_178 0 (nI (fSz (fIx st))) (fs_push S ((fMx (bW S (fIx n)) (bW S (fIx d))), (((pV S (fIx st) 1) + (fHf ((7 * (pV S (fIx st) 13)) - (((pV S (fIx st) 1) - (bD S (fIx n))) - ((bH S (fIx d)) - (pV S (fIx st) 4)))))) + (bH S (fIx n))), ((bD S (fIx d)) + ((pV S (fIx st) 4) + (fHf ((7 * (pV S (fIx st) 13)) - (((pV S (fIx st) 1) - (bD S (fIx n))) - ((bH S (fIx d)) - (pV S (fIx st) 4))))))), [(nI (fIx n)), (fHf ((fMx (bW S (fIx n)) (bW S (fIx d))) - (bW S (fIx n)))), ((pV S (fIx st) 1) + (fHf ((7 * (pV S (fIx st) 13)) - (((pV S (fIx st) 1) - (bD S (fIx n))) - ((bH S (fIx d)) - (pV S (fIx st) 4)))))), (nI (fIx d)), (fHf ((fMx (bW S (fIx n)) (bW S (fIx d))) - (bW S (fIx d)))), (-((pV S (fIx st) 4) + (fHf ((7 * (pV S (fIx st) 13)) - (((pV S (fIx st) 1) - (bD S (fIx n))) - ((bH S (fIx d)) - (pV S (fIx st) 4)))))))], 0, 0)))⟩, hk⟩ dX4_fraction_446 (Nat.le_of_ble_eq_true rfl) (Nat.le_of_ble_eq_true rfl)
          · have kb_181 : ¬ rmk S 1 := (rmk_eq hle).mp c_15
            refine lv_iconst (v := 3) hx hb dX4_fraction_52 (by decide) ?_
            refine lv_goto (tgt := 57) hx hb dX4_fraction_53 (by decide) ?_
            refine mw_put (D := gD G) (ci := 4) (v := .int 3) (ty := .int) (C := RX4) (T := TX4) (N := 21) hx hb htb inX4 tyX4 tyX4_ok nmX4 hown hK hP hS hT.1 hT.2.2.2.1 rfl 0 (by decide) (htb _ wd524) (fun _ h9 => h9) rfl (by decide +kernel) rfl rfl (Nat.le_of_ble_eq_true rfl) dX4_fraction_57 (fun H locs hP hS => ?_)
            obtain ⟨M_182, hM_182⟩ : ∃ z9 : mw_M, z9 = mw_up M o (.inr (4, [.int 3, .ref (A 0), .int (sSp S), .int (sSh S), .int (nI (sN S)), .ref (A 1), .ref (A 2), .ref (A 3), .ref (A 4), .ref (A 5), .ref (A 6), .ref (A 7), .int (nI np), .ref (A 8), .ref (A 9), .ref (A 10), .ref (A 11), .ref (A 12), .ref (A 13), .ref (A 14), .int z])) := ⟨_, rfl⟩
            have hP : mw_P (gD G) gx_cl M_182 H := by rw [hM_182]; exact hP
            have hT : md_at G o A M_182 3 (sSp S) (sSh S) (nI (sN S)) (nI np) z g := md_at.fld hT hM_182
            have hk : md_keeps o A M M_182 := md_keeps.fld hk hM_182
            refine lv_aload_n hx hb dX4_fraction_60 rfl (lv_at hl 0 rfl) ?_
            refine mw_get (D := gD G) (ci := 4) (v := .int 3) (C := RX4) (T := TX4) (N := 21) hx hb htb inX4 hown hK hP hT.1 rfl 0 (by decide) (htb _ wd524) (fun _ h9 => h9) rfl dX4_fraction_61 ?_
            refine lv_if_le (tgt := 69) hx hb dX4_fraction_64 (by decide) (fun c_183 => absurd c_183 (by decide)) (fun c_183 => ?_)
            refine lv_iconst (v := 0) hx hb dX4_fraction_67 (by decide) ?_
            have hex : ex_fraction S st n d t = 3 := by rw [ex_fraction, if_neg (fun z9 => z9 ⟨kb_5, kb_7⟩), if_neg (fun z9 => z9 ⟨kb_12, kb_14⟩), if_pos (fun z9 => kb_181 z9)]
            exact mx_iret (v := 0) (M' := M_182) hx hb hr hlocks hP hS ⟨by rw [hex]; rfl, ⟨_, by rw [hex]; exact (⟨np, bg, g, hT, hB⟩ : md_R G o A M_182 3 z S)⟩, hk⟩ dX4_fraction_68 (Nat.le_of_ble_eq_true rfl) (Nat.le_of_ble_eq_true rfl)
        · have kb_184 : ¬ (wi t 0 1000000) := bI_f c_13
          refine lv_iconst (v := 2) hx hb dX4_fraction_39 (by decide) ?_
          refine lv_goto (tgt := 57) hx hb dX4_fraction_40 (by decide) ?_
          refine mw_put (D := gD G) (ci := 4) (v := .int 2) (ty := .int) (C := RX4) (T := TX4) (N := 21) hx hb htb inX4 tyX4 tyX4_ok nmX4 hown hK hP hS hT.1 hT.2.2.2.1 rfl 0 (by decide) (htb _ wd524) (fun _ h9 => h9) rfl (by decide +kernel) rfl rfl (Nat.le_of_ble_eq_true rfl) dX4_fraction_57 (fun H locs hP hS => ?_)
          obtain ⟨M_185, hM_185⟩ : ∃ z9 : mw_M, z9 = mw_up M o (.inr (4, [.int 2, .ref (A 0), .int (sSp S), .int (sSh S), .int (nI (sN S)), .ref (A 1), .ref (A 2), .ref (A 3), .ref (A 4), .ref (A 5), .ref (A 6), .ref (A 7), .int (nI np), .ref (A 8), .ref (A 9), .ref (A 10), .ref (A 11), .ref (A 12), .ref (A 13), .ref (A 14), .int z])) := ⟨_, rfl⟩
          have hP : mw_P (gD G) gx_cl M_185 H := by rw [hM_185]; exact hP
          have hT : md_at G o A M_185 2 (sSp S) (sSh S) (nI (sN S)) (nI np) z g := md_at.fld hT hM_185
          have hk : md_keeps o A M M_185 := md_keeps.fld hk hM_185
          refine lv_aload_n hx hb dX4_fraction_60 rfl (lv_at hl 0 rfl) ?_
          refine mw_get (D := gD G) (ci := 4) (v := .int 2) (C := RX4) (T := TX4) (N := 21) hx hb htb inX4 hown hK hP hT.1 rfl 0 (by decide) (htb _ wd524) (fun _ h9 => h9) rfl dX4_fraction_61 ?_
          refine lv_if_le (tgt := 69) hx hb dX4_fraction_64 (by decide) (fun c_186 => absurd c_186 (by decide)) (fun c_186 => ?_)
          refine lv_iconst (v := 0) hx hb dX4_fraction_67 (by decide) ?_
          have hex : ex_fraction S st n d t = 2 := by rw [ex_fraction, if_neg (fun z9 => z9 ⟨kb_5, kb_7⟩), if_pos (fun z9 => kb_184 z9.2)]
          exact mx_iret (v := 0) (M' := M_185) hx hb hr hlocks hP hS ⟨by rw [hex]; rfl, ⟨_, by rw [hex]; exact (⟨np, bg, g, hT, hB⟩ : md_R G o A M_185 2 z S)⟩, hk⟩ dX4_fraction_68 (Nat.le_of_ble_eq_true rfl) (Nat.le_of_ble_eq_true rfl)
    · have kb_187 : ¬ (isB S d) := bI_f c_6
      refine lv_iconst (v := 1) hx hb dX4_fraction_17 (by decide) ?_
      refine lv_goto (tgt := 57) hx hb dX4_fraction_18 (by decide) ?_
      refine mw_put (D := gD G) (ci := 4) (v := .int 1) (ty := .int) (C := RX4) (T := TX4) (N := 21) hx hb htb inX4 tyX4 tyX4_ok nmX4 hown hK hP hS hT.1 hT.2.2.2.1 rfl 0 (by decide) (htb _ wd524) (fun _ h9 => h9) rfl (by decide +kernel) rfl rfl (Nat.le_of_ble_eq_true rfl) dX4_fraction_57 (fun H locs hP hS => ?_)
      obtain ⟨M_188, hM_188⟩ : ∃ z9 : mw_M, z9 = mw_up M o (.inr (4, [.int 1, .ref (A 0), .int (sSp S), .int (sSh S), .int (nI (sN S)), .ref (A 1), .ref (A 2), .ref (A 3), .ref (A 4), .ref (A 5), .ref (A 6), .ref (A 7), .int (nI np), .ref (A 8), .ref (A 9), .ref (A 10), .ref (A 11), .ref (A 12), .ref (A 13), .ref (A 14), .int z])) := ⟨_, rfl⟩
      have hP : mw_P (gD G) gx_cl M_188 H := by rw [hM_188]; exact hP
      have hT : md_at G o A M_188 1 (sSp S) (sSh S) (nI (sN S)) (nI np) z g := md_at.fld hT hM_188
      have hk : md_keeps o A M M_188 := md_keeps.fld hk hM_188
      refine lv_aload_n hx hb dX4_fraction_60 rfl (lv_at hl 0 rfl) ?_
      refine mw_get (D := gD G) (ci := 4) (v := .int 1) (C := RX4) (T := TX4) (N := 21) hx hb htb inX4 hown hK hP hT.1 rfl 0 (by decide) (htb _ wd524) (fun _ h9 => h9) rfl dX4_fraction_61 ?_
      refine lv_if_le (tgt := 69) hx hb dX4_fraction_64 (by decide) (fun c_189 => absurd c_189 (by decide)) (fun c_189 => ?_)
      refine lv_iconst (v := 0) hx hb dX4_fraction_67 (by decide) ?_
      have hex : ex_fraction S st n d t = 1 := by rw [ex_fraction, if_pos (fun z9 => kb_187 z9.2)]
      exact mx_iret (v := 0) (M' := M_188) hx hb hr hlocks hP hS ⟨by rw [hex]; rfl, ⟨_, by rw [hex]; exact (⟨np, bg, g, hT, hB⟩ : md_R G o A M_188 1 z S)⟩, hk⟩ dX4_fraction_68 (Nat.le_of_ble_eq_true rfl) (Nat.le_of_ble_eq_true rfl)
