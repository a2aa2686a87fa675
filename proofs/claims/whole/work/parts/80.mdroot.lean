/-! printed by wip/whole/spec*.py -/
-- X4_root
set_option maxHeartbeats 4000000 in
set_option maxRecDepth 100000 in
theorem kX4_root (l : Launch) (htr : l.stackTraces = false) (G : gx_G) (sz : Nat) (M : mw_M) (o : Nat) (A : Nat → Nat) (th z : Int32) (S : fs_S) (hR : md_R G o A M th z S) (hok : fs_ok S) (st x k : Int32) : g_Met l G yX4_root (.code yX4_root cX4_root 14 (some .int)) ({ frames := 5, cells := 0, slots := 0, locals := 200 } : Room) sz M [.ref o, .int st, .int x, .int k] (md_Mk G o A M S (ex_root S st x k) (fs_push (ro_S S st x k) (re_root S st x k)) (some (.int (if ex_root S st x k = 0 then nI (sN (ro_S S st x k)) else 0)))) (fun _ => False) := by
  refine MetE.ofW (cc := cX4_root) (maxL := 14) (ret := (some .int)) (by decide) rfl ?_
  intro p e s m args below meth c s₁ B hml hv
  obtain ⟨rfl, hsz, hP, hE⟩ := hv
  have hx := B.exec
  have hb := B.bytes
  have hr := B.returns
  have hts := atoms_spec (ws := _ :: lw_big) B.pre
  have htb : ∀ w ∈ lw_big, w.before _ s = true := fun w h => hts w (List.mem_cons_of_mem _ h)
  have hno := B.noHandlers (hts _ List.mem_cons_self)
  have hown : s.vm.findClass RX4 = some m.cls := findClass_of_methodNamed B.named
  have hlocks := B.notSynchronized
  have hK := hE.1
  subst hsz
  have hS : va_S (gA G) s.heap s.heap [] := va_S.rf
  have hl := lv_entry ([.ref o, .int st, .int x, .int k]) (n := 14) (Nat.le_of_ble_eq_true rfl)
  rw [lg_entry_eq]
  generalize (lg_sl ([.ref o, .int st, .int x, .int k]) ++ List.replicate (14 - (lg_sl ([.ref o, .int st, .int x, .int k])).length) Slot.unset).toArray = ls at hl ⊢
  have hl : lv_has ls 14 [(0, .ref o), (1, .int st), (2, .int x), (3, .int k)] := hl
  obtain ⟨np, bg, g, hT, hB⟩ := id hR
  have hk : md_keeps o A M M := md_keeps.rf o A M
  have hle : sN S ≤ 120 := hB.1
  refine lv_aload_n hx hb dX4_root_0 rfl (lv_at hl 0 rfl) ?_
  refine lv_aload_n hx hb dX4_root_1 rfl (lv_at hl 0 rfl) ?_
  refine lv_iload_n hx hb dX4_root_2 rfl (lv_at hl 2 rfl) ?_
  refine mw_callV (C := RX4) (As := [.int x]) (rest := [.ref o]) hx hb hml hown hl (kX4_isBox l htr G s.heap.size M o A th z S (⟨np, bg, g, hT, hB⟩ : md_R G o A M th z S) x) (g_B (n := 1) htb wd624 wd3 wd621 (by decide +kernel) ⟨Nat.le_of_ble_eq_true rfl, Nat.le_of_ble_eq_true rfl⟩) (htb _ wd623) (htb _ ws27) hE hP hS hT.1 rfl rfl rfl (Nat.le_of_ble_eq_true rfl) dX4_root_3 ⟨Nat.le_of_ble_eq_true rfl, Nat.le_of_ble_eq_true rfl⟩ (fun v9 M9 H locs hpo hP hz hS => ?_) (fun x9 E9 cell9 H9 locs9 hE9 => hE9.elim)
  obtain ⟨rfl, rfl⟩ := hpo
  refine W.eq (g2 := F0 m 6 ls [.int (bI (isB S x)), .ref o]) rfl ?_
  refine lv_if_eq (tgt := 16) hx hb dX4_root_6 (by decide) (fun c_1 => ?_) (fun c_1 => ?_)
  · have kb_2 : ¬ (isB S x) := bI_f c_1
    refine lv_iconst (v := 1) hx hb dX4_root_16 (by decide) ?_
    refine lv_goto (tgt := 32) hx hb dX4_root_17 (by decide) ?_
    refine mw_put (D := gD G) (ci := 4) (v := .int 1) (ty := .int) (C := RX4) (T := TX4) (N := 21) hx hb htb inX4 tyX4 tyX4_ok nmX4 hown hK hP hS hT.1 hT.2.2.2.1 rfl 0 (by decide) (htb _ wd524) (fun _ h9 => h9) rfl (by decide +kernel) rfl rfl (Nat.le_of_ble_eq_true rfl) dX4_root_32 (fun H locs hP hS => ?_)
    obtain ⟨M_3, hM_3⟩ : ∃ z9 : mw_M, z9 = mw_up M o (.inr (4, [.int 1, .ref (A 0), .int (sSp S), .int (sSh S), .int (nI (sN S)), .ref (A 1), .ref (A 2), .ref (A 3), .ref (A 4), .ref (A 5), .ref (A 6), .ref (A 7), .int (nI np), .ref (A 8), .ref (A 9), .ref (A 10), .ref (A 11), .ref (A 12), .ref (A 13), .ref (A 14), .int z])) := ⟨_, rfl⟩
    have hP : mw_P (gD G) gx_cl M_3 H := by rw [hM_3]; exact hP
    have hT : md_at G o A M_3 1 (sSp S) (sSh S) (nI (sN S)) (nI np) z g := md_at.fld hT hM_3
    have hk : md_keeps o A M M_3 := md_keeps.fld hk hM_3
    refine lv_aload_n hx hb dX4_root_35 rfl (lv_at hl 0 rfl) ?_
    refine mw_get (D := gD G) (ci := 4) (v := .int 1) (C := RX4) (T := TX4) (N := 21) hx hb htb inX4 hown hK hP hT.1 rfl 0 (by decide) (htb _ wd524) (fun _ h9 => h9) rfl dX4_root_36 ?_
    refine lv_if_le (tgt := 44) hx hb dX4_root_39 (by decide) (fun c_4 => absurd c_4 (by decide)) (fun c_4 => ?_)
    refine lv_iconst (v := 0) hx hb dX4_root_42 (by decide) ?_
    have hex : ex_root S st x k = 1 := by rw [ex_root, if_pos (fun z9 => kb_2 z9.1)]
    exact mx_iret (v := 0) (M' := M_3) hx hb hr hlocks hP hS ⟨by rw [hex]; rfl, ⟨_, by rw [hex]; exact (⟨np, bg, g, hT, hB⟩ : md_R G o A M_3 1 z S)⟩, hk⟩ dX4_root_43 (Nat.le_of_ble_eq_true rfl) (Nat.le_of_ble_eq_true rfl)
  · have kb_5 : isB S x := bI_t c_1
    have h_x := isB_lt kb_5 hle
    have e_x := fIx_of kb_5.1
    rw [e_x] at hl
    refine lv_iload_n hx hb dX4_root_9 rfl (lv_at hl 3 rfl) ?_
    refine mw_callS (As := [.int k]) (rest := [.ref o]) hx hb hml hown hl (kX4_isFamily l htr G H.size M k) (g_B (n := 1) htb wd620 wd3 wd618 (by decide +kernel) ⟨Nat.le_of_ble_eq_true rfl, Nat.le_of_ble_eq_true rfl⟩) (htb _ wd619) hE hP hS rfl rfl (Nat.le_of_ble_eq_true rfl) dX4_root_10 ⟨Nat.le_of_ble_eq_true rfl, Nat.le_of_ble_eq_true rfl⟩ (fun v9 M9 H locs hpo hP hz hS => ?_) (fun x9 E9 cell9 H9 locs9 hE9 => hE9.elim)
    obtain ⟨rfl, rfl⟩ := hpo
    refine W.eq (g2 := F0 m 13 ls [.int (bI (isF k)), .ref o]) rfl ?_
    refine lv_if_ne (tgt := 20) hx hb dX4_root_13 (by decide) (fun c_6 => ?_) (fun c_6 => ?_)
    · have kb_7 : isF k := bI_t c_6
      have h_k := isF_lt kb_7
      have e_k := fIx_of kb_7.1
      rw [e_k] at hl
      obtain ⟨o1, o2, o3, o4, o5, o6⟩ := hok.2.2 (fIx k) h_k
      refine lv_iload_n hx hb dX4_root_20 rfl (lv_at hl 1 rfl) ?_
      refine mw_callS (As := [.int st]) (rest := [.ref o]) hx hb hml hown hl (kX4_isStyle l htr G H.size M st) (g_B (n := 1) htb wd671 wd3 wd669 (by decide +kernel) ⟨Nat.le_of_ble_eq_true rfl, Nat.le_of_ble_eq_true rfl⟩) (htb _ wd670) hE hP hS rfl rfl (Nat.le_of_ble_eq_true rfl) dX4_root_21 ⟨Nat.le_of_ble_eq_true rfl, Nat.le_of_ble_eq_true rfl⟩ (fun v9 M9 H locs hpo hP hz hS => ?_) (fun x9 E9 cell9 H9 locs9 hE9 => hE9.elim)
      obtain ⟨rfl, rfl⟩ := hpo
      refine W.eq (g2 := F0 m 24 ls [.int (bI (isT st)), .ref o]) rfl ?_
      refine lv_if_ne (tgt := 31) hx hb dX4_root_24 (by decide) (fun c_8 => ?_) (fun c_8 => ?_)
      · have kb_9 : isT st := bI_t c_8
        have h_st := isT_lt kb_9
        have e_st := fIx_of kb_9.1
        rw [e_st] at hl
        refine lv_iconst (v := 0) hx hb dX4_root_31 (by decide) ?_
        refine mw_put (D := gD G) (ci := 4) (v := .int 0) (ty := .int) (C := RX4) (T := TX4) (N := 21) hx hb htb inX4 tyX4 tyX4_ok nmX4 hown hK hP hS hT.1 hT.2.2.2.1 rfl 0 (by decide) (htb _ wd524) (fun _ h9 => h9) rfl (by decide +kernel) rfl rfl (Nat.le_of_ble_eq_true rfl) dX4_root_32 (fun H locs hP hS => ?_)
        obtain ⟨M_10, hM_10⟩ : ∃ z9 : mw_M, z9 = mw_up M o (.inr (4, [.int 0, .ref (A 0), .int (sSp S), .int (sSh S), .int (nI (sN S)), .ref (A 1), .ref (A 2), .ref (A 3), .ref (A 4), .ref (A 5), .ref (A 6), .ref (A 7), .int (nI np), .ref (A 8), .ref (A 9), .ref (A 10), .ref (A 11), .ref (A 12), .ref (A 13), .ref (A 14), .int z])) := ⟨_, rfl⟩
        have hP : mw_P (gD G) gx_cl M_10 H := by rw [hM_10]; exact hP
        have hT : md_at G o A M_10 0 (sSp S) (sSh S) (nI (sN S)) (nI np) z g := md_at.fld hT hM_10
        have hk : md_keeps o A M M_10 := md_keeps.fld hk hM_10
        refine lv_aload_n hx hb dX4_root_35 rfl (lv_at hl 0 rfl) ?_
        refine mw_get (D := gD G) (ci := 4) (v := .int 0) (C := RX4) (T := TX4) (N := 21) hx hb htb inX4 hown hK hP hT.1 rfl 0 (by decide) (htb _ wd524) (fun _ h9 => h9) rfl dX4_root_36 ?_
        refine lv_if_le (tgt := 44) hx hb dX4_root_39 (by decide) (fun c_11 => ?_) (fun c_11 => absurd (by decide) c_11)
        refine lv_aload_n hx hb dX4_root_44 rfl (lv_at hl 0 rfl) ?_
        refine lv_iload_n hx hb dX4_root_45 rfl (lv_at hl 1 rfl) ?_
        refine mw_callV (C := RX4) (As := [.int (nI (fIx st))]) (rest := []) hx hb hml hown hl (kX4_use l htr G H.size M_10 o A 0 z S (⟨np, bg, g, hT, hB⟩ : md_R G o A M_10 0 z S) (fIx st) h_st) (g_B (n := 1) htb wd675 wd3 wd672 (by decide +kernel) ⟨Nat.le_of_ble_eq_true rfl, Nat.le_of_ble_eq_true rfl⟩) (htb _ wd674) (htb _ ws35) hE hP hS hT.1 rfl rfl rfl (Nat.le_of_ble_eq_true rfl) dX4_root_46 ⟨Nat.le_of_ble_eq_true rfl, Nat.le_of_ble_eq_true rfl⟩ (fun v9 M9 H locs hpo hP hz hS => ?_) (fun x9 E9 cell9 H9 locs9 hE9 => hE9.elim)
        obtain ⟨rfl, hRn, hkn⟩ := hpo
        obtain ⟨M_12, hM_12⟩ : ∃ z9 : mw_M, z9 = M9 := ⟨_, rfl⟩
        rw [← hM_12] at hP hRn hkn
        have hk := md_keeps.tr hk hkn
        obtain ⟨np13, bg13, g13, hT, hB⟩ := id hRn
        refine W.eq (g2 := F0 m 49 ls []) rfl ?_
        refine lv_aload_n hx hb dX4_root_49 rfl (lv_at hl 0 rfl) ?_
        refine lv_bipush (v := 13) hx hb dX4_root_50 (by decide) ?_
        refine mw_callV (C := RX4) (As := [.int 13]) (rest := []) hx hb hml hown hl (kX4_p l htr G H.size M_12 o A 0 S (fIx st) 13 h_st (by decide) (⟨np13, bg13, g13, hT, hB⟩ : md_R G o A M_12 0 (nI (fSz (fIx st))) S)) (g_B (n := 1) htb wd679 wd3 wd676 (by decide +kernel) ⟨Nat.le_of_ble_eq_true rfl, Nat.le_of_ble_eq_true rfl⟩) (htb _ wd678) (htb _ ws36) hE hP hS hT.1 rfl rfl rfl (Nat.le_of_ble_eq_true rfl) dX4_root_52 ⟨Nat.le_of_ble_eq_true rfl, Nat.le_of_ble_eq_true rfl⟩ (fun v9 M9 H locs hpo hP hz hS => ?_) (fun x9 E9 cell9 H9 locs9 hE9 => hE9.elim)
        obtain ⟨rfl, rfl⟩ := hpo
        refine W.eq (g2 := F0 m 55 ls [.int (pV S (fIx st) 13)]) rfl ?_
        refine lv_iload_n hx hb dX4_root_55 rfl (lv_at hl 1 rfl) ?_
        refine lv_if_ne (tgt := 68) hx hb dX4_root_56 (by decide) (fun c_14 => ?_) (fun c_14 => ?_)
        · refine lv_aload_n hx hb dX4_root_68 rfl (lv_at hl 0 rfl) ?_
          refine lv_bipush (v := 13) hx hb dX4_root_69 (by decide) ?_
          refine mw_callV (C := RX4) (As := [.int 13]) (rest := [.int (pV S (fIx st) 13)]) hx hb hml hown hl (kX4_p l htr G H.size M_12 o A 0 S (fIx st) 13 h_st (by decide) (⟨np13, bg13, g13, hT, hB⟩ : md_R G o A M_12 0 (nI (fSz (fIx st))) S)) (g_B (n := 1) htb wd679 wd3 wd676 (by decide +kernel) ⟨Nat.le_of_ble_eq_true rfl, Nat.le_of_ble_eq_true rfl⟩) (htb _ wd678) (htb _ ws36) hE hP hS hT.1 rfl rfl rfl (Nat.le_of_ble_eq_true rfl) dX4_root_71 ⟨Nat.le_of_ble_eq_true rfl, Nat.le_of_ble_eq_true rfl⟩ (fun v9 M9 H locs hpo hP hz hS => ?_) (fun x9 E9 cell9 H9 locs9 hE9 => hE9.elim)
          obtain ⟨rfl, rfl⟩ := hpo
          refine W.eq (g2 := F0 m 74 ls [.int (pV S (fIx st) 13), .int (pV S (fIx st) 13)]) rfl ?_
          refine mw_callS (As := [.int (pV S (fIx st) 13)]) (rest := [.int (pV S (fIx st) 13)]) hx hb hml hown hl (kX4_abs l htr G H.size M_12 (pV S (fIx st) 13)) (g_B (n := 1) htb wd689 wd3 wd687 (by decide +kernel) ⟨Nat.le_of_ble_eq_true rfl, Nat.le_of_ble_eq_true rfl⟩) (htb _ wd688) hE hP hS rfl rfl (Nat.le_of_ble_eq_true rfl) dX4_root_74 ⟨Nat.le_of_ble_eq_true rfl, Nat.le_of_ble_eq_true rfl⟩ (fun v9 M9 H locs hpo hP hz hS => ?_) (fun x9 E9 cell9 H9 locs9 hE9 => hE9.elim)
          obtain ⟨rfl, rfl⟩ := hpo
          refine W.eq (g2 := F0 m 77 ls [.int (fAb (pV S (fIx st) 13)), .int (pV S (fIx st) 13)]) rfl ?_
          refine lv_iconst (v := 4) hx hb dX4_root_77 (by decide) ?_
          refine lv_idiv hx hb dX4_root_78 (by decide) ?_
          refine lv_iadd hx hb dX4_root_79 ?_
          refine lv_istore (lv' := [(4, .int ((pV S (fIx st) 13) + ((fAb (pV S (fIx st) 13)) / 4))), (0, .ref o), (1, .int (nI (fIx st))), (2, .int (nI (fIx x))), (3, .int (nI (fIx k)))]) hx hb dX4_root_80 hl (by decide) rfl (fun ls hl => ?_)
          refine lv_iconst (v := 0) hx hb dX4_root_82 (by decide) ?_
          refine lv_aload_n hx hb dX4_root_83 rfl (lv_at hl 1 rfl) ?_
          refine lv_iload_n hx hb dX4_root_84 rfl (lv_at hl 3 rfl) ?_
          refine mw_callV (C := RX4) (As := [.int (nI (fIx x))]) (rest := [.int 0]) hx hb hml hown hl (kX4_tall l htr G H.size M_12 o A 0 (nI (fSz (fIx st))) S (⟨np13, bg13, g13, hT, hB⟩ : md_R G o A M_12 0 (nI (fSz (fIx st))) S) (nI (fIx x)) (Or.inr ⟨(fIx x), h_x, rfl⟩)) (g_B (n := 1) htb wd645 wd3 wd642 (by decide +kernel) ⟨Nat.le_of_ble_eq_true rfl, Nat.le_of_ble_eq_true rfl⟩) (htb _ wd644) (htb _ ws30) hE hP hS hT.1 rfl rfl rfl (Nat.le_of_ble_eq_true rfl) dX4_root_85 ⟨Nat.le_of_ble_eq_true rfl, Nat.le_of_ble_eq_true rfl⟩ (fun v9 M9 H locs hpo hP hz hS => ?_) (fun x9 E9 cell9 H9 locs9 hE9 => hE9.elim)
          obtain ⟨rfl, rfl⟩ := hpo
          refine W.eq (g2 := F0 m 88 ls [.int (fEx S (nI (fIx x))), .int 0]) rfl ?_
          refine lv_iload hx hb dX4_root_88 (lv_at hl 0 rfl) ?_
          refine lv_iadd hx hb dX4_root_90 ?_
          refine lv_aload_n hx hb dX4_root_91 rfl (lv_at hl 1 rfl) ?_
          refine lv_bipush (v := 13) hx hb dX4_root_92 (by decide) ?_
          refine mw_callV (C := RX4) (As := [.int 13]) (rest := [.int ((fEx S (nI (fIx x))) + ((pV S (fIx st) 13) + ((fAb (pV S (fIx st) 13)) / 4))), .int 0]) hx hb hml hown hl (kX4_p l htr G H.size M_12 o A 0 S (fIx st) 13 h_st (by decide) (⟨np13, bg13, g13, hT, hB⟩ : md_R G o A M_12 0 (nI (fSz (fIx st))) S)) (g_B (n := 1) htb wd679 wd3 wd676 (by decide +kernel) ⟨Nat.le_of_ble_eq_true rfl, Nat.le_of_ble_eq_true rfl⟩) (htb _ wd678) (htb _ ws36) hE hP hS hT.1 rfl rfl rfl (Nat.le_of_ble_eq_true rfl) dX4_root_94 ⟨Nat.le_of_ble_eq_true rfl, Nat.le_of_ble_eq_true rfl⟩ (fun v9 M9 H locs hpo hP hz hS => ?_) (fun x9 E9 cell9 H9 locs9 hE9 => hE9.elim)
          obtain ⟨rfl, rfl⟩ := hpo
          refine W.eq (g2 := F0 m 97 ls [.int (pV S (fIx st) 13), .int ((fEx S (nI (fIx x))) + ((pV S (fIx st) 13) + ((fAb (pV S (fIx st) 13)) / 4))), .int 0]) rfl ?_
          refine lv_iadd hx hb dX4_root_97 ?_
          refine mw_callS (As := [.int 0, .int (((fEx S (nI (fIx x))) + ((pV S (fIx st) 13) + ((fAb (pV S (fIx st) 13)) / 4))) + (pV S (fIx st) 13))]) (rest := []) hx hb hml hown hl (kX4_greater l htr G H.size M_12 0 (((fEx S (nI (fIx x))) + ((pV S (fIx st) 13) + ((fAb (pV S (fIx st) 13)) / 4))) + (pV S (fIx st) 13))) (g_B (n := 2) htb wd664 wd3 wd662 (by decide +kernel) ⟨Nat.le_of_ble_eq_true rfl, Nat.le_of_ble_eq_true rfl⟩) (htb _ wd663) hE hP hS rfl rfl (Nat.le_of_ble_eq_true rfl) dX4_root_98 ⟨Nat.le_of_ble_eq_true rfl, Nat.le_of_ble_eq_true rfl⟩ (fun v9 M9 H locs hpo hP hz hS => ?_) (fun x9 E9 cell9 H9 locs9 hE9 => hE9.elim)
          obtain ⟨rfl, rfl⟩ := hpo
          refine W.eq (g2 := F0 m 101 ls [.int (fMx 0 (((fEx S (nI (fIx x))) + ((pV S (fIx st) 13) + ((fAb (pV S (fIx st) 13)) / 4))) + (pV S (fIx st) 13)))]) rfl ?_
          refine lv_istore (lv' := [(5, .int (fMx 0 (((fEx S (nI (fIx x))) + ((pV S (fIx st) 13) + ((fAb (pV S (fIx st) 13)) / 4))) + (pV S (fIx st) 13)))), (4, .int ((pV S (fIx st) 13) + ((fAb (pV S (fIx st) 13)) / 4))), (0, .ref o), (1, .int (nI (fIx st))), (2, .int (nI (fIx x))), (3, .int (nI (fIx k)))]) hx hb dX4_root_101 hl (by decide) rfl (fun ls hl => ?_)
          refine lv_aload_n hx hb dX4_root_103 rfl (lv_at hl 2 rfl) ?_
          refine lv_iload_n hx hb dX4_root_104 rfl (lv_at hl 5 rfl) ?_
          refine lv_iload hx hb dX4_root_105 (lv_at hl 0 rfl) ?_
          have eL : (fMx 0 (((fEx S (nI (fIx x))) + ((pV S (fIx st) 13) + ((fAb (pV S (fIx st) 13)) / 4))) + (pV S (fIx st) 13))) = ro_l S st x := by rw [ro_l, fs_rc, if_neg c_14]
          rw [eL] at hl
          rw [eL]
          refine mw_callV (C := RX4) (As := [.int (nI (fIx k)), .int (ro_l S st x)]) (rest := []) hx hb hml hown hl (kX4_plan l htr G H.size M_12 o A 0 (nI (fSz (fIx st))) S (⟨np13, bg13, g13, hT, hB⟩ : md_R G o A M_12 0 (nI (fSz (fIx st))) S) hok (fIx k) h_k (ro_l S st x)) (g_B (n := 2) htb wd641 wd3 wd638 (by decide +kernel) ⟨Nat.le_of_ble_eq_true rfl, Nat.le_of_ble_eq_true rfl⟩) (htb _ wd640) (htb _ ws29) hE hP hS hT.1 rfl rfl rfl (Nat.le_of_ble_eq_true rfl) dX4_root_107 ⟨Nat.le_of_ble_eq_true rfl, Nat.le_of_ble_eq_true rfl⟩ (fun v9 M9 H locs hpo hP hz hS => ?_) (fun x9 E9 cell9 H9 locs9 hE9 => hE9.elim)
          obtain ⟨rfl, rfl⟩ := hpo
          refine W.eq (g2 := F0 m 110 ls [.int (md_pl S (sF S (fIx k)) (ro_l S st x))]) rfl ?_
          refine lv_istore (lv' := [(6, .int (md_pl S (sF S (fIx k)) (ro_l S st x))), (5, .int (ro_l S st x)), (4, .int ((pV S (fIx st) 13) + ((fAb (pV S (fIx st) 13)) / 4))), (0, .ref o), (1, .int (nI (fIx st))), (2, .int (nI (fIx x))), (3, .int (nI (fIx k)))]) hx hb dX4_root_110 hl (by decide) rfl (fun ls hl => ?_)
          refine lv_iload hx hb dX4_root_112 (lv_at hl 0 rfl) ?_
          refine lv_bipush (v := (-3)) hx hb dX4_root_114 (by decide) ?_
          refine lv_icmp_ne (tgt := 123) hx hb dX4_root_116 (by decide) (fun c_15 => ?_) (fun c_15 => ?_)
          · refine lv_iconst (v := 0) hx hb dX4_root_123 (by decide) ?_
            refine lv_istore (lv' := [(7, .int 0), (6, .int (md_pl S (sF S (fIx k)) (ro_l S st x))), (5, .int (ro_l S st x)), (4, .int ((pV S (fIx st) 13) + ((fAb (pV S (fIx st) 13)) / 4))), (0, .ref o), (1, .int (nI (fIx st))), (2, .int (nI (fIx x))), (3, .int (nI (fIx k)))]) hx hb dX4_root_124 hl (by decide) rfl (fun ls hl => ?_)
            refine lv_aload_n hx hb dX4_root_126 rfl (lv_at hl 4 rfl) ?_
            refine lv_iload hx hb dX4_root_127 (lv_at hl 1 rfl) ?_
            refine lv_bipush (v := (-2)) hx hb dX4_root_129 (by decide) ?_
            refine lv_icmp_ne (tgt := 138) hx hb dX4_root_131 (by decide) (fun c_16 => ?_) (fun c_16 => ?_)
            · have kG : isG S (fIx k) := fun z9 => c_16 ((pl_2 hle o1 o2).mpr z9)
              have hrd : ¬ ro_r S st x k = (-1) := (pl_n3 hle o1 o2 kG c_15).2
              refine lv_aload_n hx hb dX4_root_138 rfl (lv_at hl 4 rfl) ?_
              refine mw_get (D := gD G) (ci := 4) (v := .int (nI (sN S))) (C := RX4) (T := TX4) (N := 21) hx hb htb inX4 hown hK hP hT.1 rfl 4 (by decide) (htb _ wd528) (fun _ h9 => h9) rfl dX4_root_139 ?_
              refine lv_iload hx hb dX4_root_142 (lv_at hl 0 rfl) ?_
              refine lv_if_eq (tgt := 151) hx hb dX4_root_144 (by decide) (fun c_17 => ?_) (fun c_17 => absurd (by decide) c_17)
              refine lv_iconst (v := 1) hx hb dX4_root_151 (by decide) ?_
              refine lv_iadd hx hb dX4_root_152 ?_
              refine lv_bipush (v := 120) hx hb dX4_root_153 (by decide) ?_
              refine lv_icmp_le (tgt := 162) hx hb dX4_root_155 (by decide) (fun c_18 => ?_) (fun c_18 => ?_)
              · have kb_19 : rmk S ((if ro_r S st x k = (-1) then 1 else 0) + 1) := by rw [if_neg hrd, show (0 : Int32) + 1 = 1 from rfl]; exact Int32.not_lt.mpr c_18
                have hrm : sN S + 1 ≤ 120 := rmk_le (n := 1) (by decide) hle (Int32.not_lt.mpr c_18)
                refine lv_iconst (v := 0) hx hb dX4_root_162 (by decide) ?_
                refine mw_put (D := gD G) (ci := 4) (v := .int 0) (ty := .int) (C := RX4) (T := TX4) (N := 21) hx hb htb inX4 tyX4 tyX4_ok nmX4 hown hK hP hS hT.1 hT.2.2.2.1 rfl 0 (by decide) (htb _ wd524) (fun _ h9 => h9) rfl (by decide +kernel) rfl rfl (Nat.le_of_ble_eq_true rfl) dX4_root_163 (fun H locs hP hS => ?_)
                obtain ⟨M_20, hM_20⟩ : ∃ z9 : mw_M, z9 = mw_up M_12 o (.inr (4, [.int 0, .ref (A 0), .int (sSp S), .int (sSh S), .int (nI (sN S)), .ref (A 1), .ref (A 2), .ref (A 3), .ref (A 4), .ref (A 5), .ref (A 6), .ref (A 7), .int (nI np13), .ref (A 8), .ref (A 9), .ref (A 10), .ref (A 11), .ref (A 12), .ref (A 13), .ref (A 14), .int (nI (fSz (fIx st)))])) := ⟨_, rfl⟩
                have hP : mw_P (gD G) gx_cl M_20 H := by rw [hM_20]; exact hP
                have hT : md_at G o A M_20 0 (sSp S) (sSh S) (nI (sN S)) (nI np13) (nI (fSz (fIx st))) g13 := md_at.fld hT hM_20
                have hk : md_keeps o A M M_20 := md_keeps.fld hk hM_20
                refine lv_aload_n hx hb dX4_root_166 rfl (lv_at hl 4 rfl) ?_
                refine mw_get (D := gD G) (ci := 4) (v := .int 0) (C := RX4) (T := TX4) (N := 21) hx hb htb inX4 hown hK hP hT.1 rfl 0 (by decide) (htb _ wd524) (fun _ h9 => h9) rfl dX4_root_167 ?_
                refine lv_if_le (tgt := 175) hx hb dX4_root_170 (by decide) (fun c_21 => ?_) (fun c_21 => absurd (by decide) c_21)
                refine lv_aload_n hx hb dX4_root_175 rfl (lv_at hl 4 rfl) ?_
                refine lv_iload_n hx hb dX4_root_176 rfl (lv_at hl 7 rfl) ?_
                refine lv_iload hx hb dX4_root_177 (lv_at hl 2 rfl) ?_
                refine mw_callV (C := RX4) (As := [.int (nI (fIx k)), .int (ro_l S st x)]) (rest := []) hx hb hml hown hl (kX4_signBy l htr G H.size M_20 o A 0 (nI (fSz (fIx st))) S (⟨np13, bg13, g13, hT, hB⟩ : md_R G o A M_20 0 (nI (fSz (fIx st))) S) hok (fIx k) h_k (ro_l S st x) kG (fun z9 => by omega)) (g_B (n := 2) htb wd649 wd3 wd646 (by decide +kernel) ⟨Nat.le_of_ble_eq_true rfl, Nat.le_of_ble_eq_true rfl⟩) (htb _ wd648) (htb _ ws31) hE hP hS hT.1 rfl rfl rfl (Nat.le_of_ble_eq_true rfl) dX4_root_179 ⟨Nat.le_of_ble_eq_true rfl, Nat.le_of_ble_eq_true rfl⟩ (fun v9 M9 H locs hpo hP hz hS => ?_) (fun x9 E9 cell9 H9 locs9 hE9 => hE9.elim)
                obtain ⟨rfl, hRn, hkn⟩ := hpo
                obtain ⟨M_22, hM_22⟩ : ∃ z9 : mw_M, z9 = M9 := ⟨_, rfl⟩
                rw [← hM_22] at hP hRn hkn
                have hk := md_keeps.tr hk hkn
                obtain ⟨S1, hS1⟩ : ∃ z9, z9 = ro_S S st x k := ⟨_, rfl⟩
                have hRn : md_R G o A M_22 0 (nI (fSz (fIx st))) S1 := by rw [hS1]; exact hRn
                obtain ⟨hy1, hy2⟩ := kt_in (sF S (fIx k)) (ro_l S st x) hle (fs_rd_on (ro_l S st x) o2)
                obtain ⟨y_23, ey_23⟩ : ∃ z9, z9 = fIx (kt_y S (ro_r S st x k)) := ⟨_, rfl⟩
                have h_y_23 : y_23 < sN S1 := by rw [ey_23, hS1]; exact hy1
                have hy3 : kt_y S (fs_rd S (sF S (fIx k)) (ro_l S st x)) = nI y_23 := by rw [ey_23]; exact hy2
                have hle1 : sN S ≤ sN S1 := by rw [hS1]; exact kt_le _ _ _ _
                have h_x := Nat.lt_of_lt_of_le h_x hle1
                obtain ⟨np24, bg24, g24, hT, hB⟩ := id hRn
                have hle0 := hle
                have hle : sN S1 ≤ 120 := hB.1
                refine W.eq (g2 := F0 m 182 ls [.int (nI y_23)]) (show F0 m 182 ls [.int (kt_y S (fs_rd S (sF S (fIx k)) (ro_l S st x)))] = F0 m 182 ls [.int (nI y_23)] from by rw [hy3]) ?_
                refine lv_istore (lv' := [(8, .int (nI y_23)), (7, .int 0), (6, .int (md_pl S (sF S (fIx k)) (ro_l S st x))), (5, .int (ro_l S st x)), (4, .int ((pV S (fIx st) 13) + ((fAb (pV S (fIx st) 13)) / 4))), (0, .ref o), (1, .int (nI (fIx st))), (2, .int (nI (fIx x))), (3, .int (nI (fIx k)))]) hx hb dX4_root_182 hl (by decide) rfl (fun ls hl => ?_)
                refine lv_iload hx hb dX4_root_184 (lv_at hl 1 rfl) ?_
                refine lv_if_eq (tgt := 193) hx hb dX4_root_186 (by decide) (fun c_25 => ?_) (fun c_25 => absurd (by decide) c_25)
                refine lv_aload_n hx hb dX4_root_193 rfl (lv_at hl 5 rfl) ?_
                refine mw_get (D := gD G) (ci := 4) (v := .ref (A 2)) (C := RX4) (T := TX4) (N := 21) hx hb htb inX4 hown hK hP hT.1 rfl 6 (by decide) (htb _ wd530) (fun _ h9 => h9) rfl dX4_root_194 ?_
                refine lv_iload hx hb dX4_root_197 (lv_at hl 0 rfl) ?_
                refine mw_iald hx hb hK hP 0 (show M_22 (A 2) = some (.inl (gI G, 120, .inl (g24 2))) from hT.2.1 2 (by decide)) rfl (by exact vp_in_nI (show y_23 < 120 by have := hle; omega) (by decide)) dX4_root_199 ?_
                refine W.eq (g2 := F0 m 200 ls [.int (bH S1 y_23)]) (by rw [nI_clamp (show y_23 < 2 ^ 31 by have := hle; omega), hB.H h_y_23]) ?_
                refine lv_istore (lv' := [(9, .int (bH S1 y_23)), (8, .int (nI y_23)), (7, .int 0), (6, .int (md_pl S (sF S (fIx k)) (ro_l S st x))), (5, .int (ro_l S st x)), (4, .int ((pV S (fIx st) 13) + ((fAb (pV S (fIx st) 13)) / 4))), (0, .ref o), (1, .int (nI (fIx st))), (2, .int (nI (fIx x))), (3, .int (nI (fIx k)))]) hx hb dX4_root_200 hl (by decide) rfl (fun ls hl => ?_)
                refine lv_iload hx hb dX4_root_202 (lv_at hl 2 rfl) ?_
                refine lv_if_eq (tgt := 217) hx hb dX4_root_204 (by decide) (fun c_26 => ?_) (fun c_26 => absurd (by decide) c_26)
                refine lv_aload_n hx hb dX4_root_217 rfl (lv_at hl 6 rfl) ?_
                refine mw_get (D := gD G) (ci := 4) (v := .ref (A 3)) (C := RX4) (T := TX4) (N := 21) hx hb htb inX4 hown hK hP hT.1 rfl 7 (by decide) (htb _ wd531) (fun _ h9 => h9) rfl dX4_root_218 ?_
                refine lv_iload hx hb dX4_root_221 (lv_at hl 1 rfl) ?_
                refine mw_iald hx hb hK hP 0 (show M_22 (A 3) = some (.inl (gI G, 120, .inl (g24 3))) from hT.2.1 3 (by decide)) rfl (by exact vp_in_nI (show y_23 < 120 by have := hle; omega) (by decide)) dX4_root_223 ?_
                refine W.eq (g2 := F0 m 224 ls [.int (bD S1 y_23)]) (by rw [nI_clamp (show y_23 < 2 ^ 31 by have := hle; omega), hB.D h_y_23]) ?_
                refine lv_istore (lv' := [(10, .int (bD S1 y_23)), (9, .int (bH S1 y_23)), (8, .int (nI y_23)), (7, .int 0), (6, .int (md_pl S (sF S (fIx k)) (ro_l S st x))), (5, .int (ro_l S st x)), (4, .int ((pV S (fIx st) 13) + ((fAb (pV S (fIx st) 13)) / 4))), (0, .ref o), (1, .int (nI (fIx st))), (2, .int (nI (fIx x))), (3, .int (nI (fIx k)))]) hx hb dX4_root_224 hl (by decide) rfl (fun ls hl => ?_)
                refine lv_iload hx hb dX4_root_226 (lv_at hl 0 rfl) ?_
                refine lv_aload_n hx hb dX4_root_228 rfl (lv_at hl 7 rfl) ?_
                refine lv_iload_n hx hb dX4_root_229 rfl (lv_at hl 9 rfl) ?_
                refine mw_callV (C := RX4) (As := [.int (nI (fIx x))]) (rest := [.int (bD S1 y_23)]) hx hb hml hown hl (kX4_tall l htr G H.size M_22 o A 0 (nI (fSz (fIx st))) S1 (⟨np24, bg24, g24, hT, hB⟩ : md_R G o A M_22 0 (nI (fSz (fIx st))) S1) (nI (fIx x)) (Or.inr ⟨(fIx x), h_x, rfl⟩)) (g_B (n := 1) htb wd645 wd3 wd642 (by decide +kernel) ⟨Nat.le_of_ble_eq_true rfl, Nat.le_of_ble_eq_true rfl⟩) (htb _ wd644) (htb _ ws30) hE hP hS hT.1 rfl rfl rfl (Nat.le_of_ble_eq_true rfl) dX4_root_230 ⟨Nat.le_of_ble_eq_true rfl, Nat.le_of_ble_eq_true rfl⟩ (fun v9 M9 H locs hpo hP hz hS => ?_) (fun x9 E9 cell9 H9 locs9 hE9 => hE9.elim)
                obtain ⟨rfl, rfl⟩ := hpo
                refine W.eq (g2 := F0 m 233 ls [.int (fEx S1 (nI (fIx x))), .int (bD S1 y_23)]) rfl ?_
                refine lv_iload hx hb dX4_root_233 (lv_at hl 6 rfl) ?_
                refine lv_iadd hx hb dX4_root_235 ?_
                refine lv_isub hx hb dX4_root_236 ?_
                refine lv_istore (lv' := [(11, .int ((bD S1 y_23) - ((fEx S1 (nI (fIx x))) + ((pV S (fIx st) 13) + ((fAb (pV S (fIx st) 13)) / 4))))), (10, .int (bD S1 y_23)), (9, .int (bH S1 y_23)), (8, .int (nI y_23)), (7, .int 0), (6, .int (md_pl S (sF S (fIx k)) (ro_l S st x))), (5, .int (ro_l S st x)), (4, .int ((pV S (fIx st) 13) + ((fAb (pV S (fIx st) 13)) / 4))), (0, .ref o), (1, .int (nI (fIx st))), (2, .int (nI (fIx x))), (3, .int (nI (fIx k)))]) hx hb dX4_root_237 hl (by decide) rfl (fun ls hl => ?_)
                refine lv_iload hx hb dX4_root_239 (lv_at hl 0 rfl) ?_
                refine lv_if_le (tgt := 255) hx hb dX4_root_241 (by decide) (fun c_27 => ?_) (fun c_27 => ?_)
                · refine lv_iload hx hb dX4_root_255 (lv_at hl 7 rfl) ?_
                  refine lv_istore (lv' := [(4, .int ((pV S (fIx st) 13) + ((fAb (pV S (fIx st) 13)) / 4))), (11, .int ((bD S1 y_23) - ((fEx S1 (nI (fIx x))) + ((pV S (fIx st) 13) + ((fAb (pV S (fIx st) 13)) / 4))))), (10, .int (bD S1 y_23)), (9, .int (bH S1 y_23)), (8, .int (nI y_23)), (7, .int 0), (6, .int (md_pl S (sF S (fIx k)) (ro_l S st x))), (5, .int (ro_l S st x)), (0, .ref o), (1, .int (nI (fIx st))), (2, .int (nI (fIx x))), (3, .int (nI (fIx k)))]) hx hb dX4_root_257 hl (by decide) rfl (fun ls hl => ?_)
                  refine lv_aload_n hx hb dX4_root_259 rfl (lv_at hl 8 rfl) ?_
                  refine mw_get (D := gD G) (ci := 4) (v := .ref (A 2)) (C := RX4) (T := TX4) (N := 21) hx hb htb inX4 hown hK hP hT.1 rfl 6 (by decide) (htb _ wd530) (fun _ h9 => h9) rfl dX4_root_260 ?_
                  refine lv_iload_n hx hb dX4_root_263 rfl (lv_at hl 10 rfl) ?_
                  refine mw_iald hx hb hK hP 0 (show M_22 (A 2) = some (.inl (gI G, 120, .inl (g24 2))) from hT.2.1 2 (by decide)) rfl (by exact vp_in_nI (show (fIx x) < 120 by have := hle; omega) (by decide)) dX4_root_264 ?_
                  refine W.eq (g2 := F0 m 265 ls [.int (bH S1 (fIx x))]) (by rw [nI_clamp (show (fIx x) < 2 ^ 31 by have := hle; omega), hB.H h_x]) ?_
                  refine lv_iload hx hb dX4_root_265 (lv_at hl 0 rfl) ?_
                  refine lv_iadd hx hb dX4_root_267 ?_
                  refine lv_istore (lv' := [(12, .int ((bH S1 (fIx x)) + ((pV S (fIx st) 13) + ((fAb (pV S (fIx st) 13)) / 4)))), (4, .int ((pV S (fIx st) 13) + ((fAb (pV S (fIx st) 13)) / 4))), (11, .int ((bD S1 y_23) - ((fEx S1 (nI (fIx x))) + ((pV S (fIx st) 13) + ((fAb (pV S (fIx st) 13)) / 4))))), (10, .int (bD S1 y_23)), (9, .int (bH S1 y_23)), (8, .int (nI y_23)), (7, .int 0), (6, .int (md_pl S (sF S (fIx k)) (ro_l S st x))), (5, .int (ro_l S st x)), (0, .ref o), (1, .int (nI (fIx st))), (2, .int (nI (fIx x))), (3, .int (nI (fIx k)))]) hx hb dX4_root_268 hl (by decide) rfl (fun ls hl => ?_)
                  refine lv_aload_n hx hb dX4_root_270 rfl (lv_at hl 9 rfl) ?_
                  refine lv_aload_n hx hb dX4_root_271 rfl (lv_at hl 9 rfl) ?_
                  refine mw_get (D := gD G) (ci := 4) (v := .ref (A 1)) (C := RX4) (T := TX4) (N := 21) hx hb htb inX4 hown hK hP hT.1 rfl 5 (by decide) (htb _ wd529) (fun _ h9 => h9) rfl dX4_root_272 ?_
                  refine lv_iload hx hb dX4_root_275 (lv_at hl 5 rfl) ?_
                  refine mw_iald hx hb hK hP 0 (show M_22 (A 1) = some (.inl (gI G, 120, .inl (g24 1))) from hT.2.1 1 (by decide)) rfl (by exact vp_in_nI (show y_23 < 120 by have := hle; omega) (by decide)) dX4_root_277 ?_
                  refine W.eq (g2 := F0 m 278 ls [.int (bW S1 y_23), .ref o]) (by rw [nI_clamp (show y_23 < 2 ^ 31 by have := hle; omega), hB.W h_y_23]) ?_
                  refine lv_aload_n hx hb dX4_root_278 rfl (lv_at hl 9 rfl) ?_
                  refine mw_get (D := gD G) (ci := 4) (v := .ref (A 1)) (C := RX4) (T := TX4) (N := 21) hx hb htb inX4 hown hK hP hT.1 rfl 5 (by decide) (htb _ wd529) (fun _ h9 => h9) rfl dX4_root_279 ?_
                  refine lv_iload_n hx hb dX4_root_282 rfl (lv_at hl 11 rfl) ?_
                  refine mw_iald hx hb hK hP 0 (show M_22 (A 1) = some (.inl (gI G, 120, .inl (g24 1))) from hT.2.1 1 (by decide)) rfl (by exact vp_in_nI (show (fIx x) < 120 by have := hle; omega) (by decide)) dX4_root_283 ?_
                  refine W.eq (g2 := F0 m 284 ls [.int (bW S1 (fIx x)), .int (bW S1 y_23), .ref o]) (by rw [nI_clamp (show (fIx x) < 2 ^ 31 by have := hle; omega), hB.W h_x]) ?_
                  refine lv_iadd hx hb dX4_root_284 ?_
                  refine lv_iload hx hb dX4_root_285 (lv_at hl 0 rfl) ?_
                  refine lv_iconst (v := 2) hx hb dX4_root_287 (by decide) ?_
                  refine lv_iload hx hb dX4_root_288 (lv_at hl 4 rfl) ?_
                  refine lv_imul hx hb dX4_root_290 ?_
                  refine lv_iadd hx hb dX4_root_291 ?_
                  refine lv_aload_n hx hb dX4_root_292 rfl (lv_at hl 9 rfl) ?_
                  refine mw_get (D := gD G) (ci := 4) (v := .ref (A 3)) (C := RX4) (T := TX4) (N := 21) hx hb htb inX4 hown hK hP hT.1 rfl 7 (by decide) (htb _ wd531) (fun _ h9 => h9) rfl dX4_root_293 ?_
                  refine lv_iload_n hx hb dX4_root_296 rfl (lv_at hl 11 rfl) ?_
                  refine mw_iald hx hb hK hP 0 (show M_22 (A 3) = some (.inl (gI G, 120, .inl (g24 3))) from hT.2.1 3 (by decide)) rfl (by exact vp_in_nI (show (fIx x) < 120 by have := hle; omega) (by decide)) dX4_root_297 ?_
                  refine W.eq (g2 := F0 m 298 ls [.int (bD S1 (fIx x)), .int (((bH S1 (fIx x)) + ((pV S (fIx st) 13) + ((fAb (pV S (fIx st) 13)) / 4))) + (2 * (bH S1 y_23))), .int ((bW S1 y_23) + (bW S1 (fIx x))), .ref o]) (by rw [nI_clamp (show (fIx x) < 2 ^ 31 by have := hle; omega), hB.D h_x]) ?_
                  refine lv_iload hx hb dX4_root_298 (lv_at hl 3 rfl) ?_
                  refine lv_iload hx hb dX4_root_300 (lv_at hl 0 rfl) ?_
                  refine lv_isub hx hb dX4_root_302 ?_
                  refine mw_callS (As := [.int (bD S1 (fIx x)), .int ((bD S1 y_23) - ((bH S1 (fIx x)) + ((pV S (fIx st) 13) + ((fAb (pV S (fIx st) 13)) / 4))))]) (rest := [.int (((bH S1 (fIx x)) + ((pV S (fIx st) 13) + ((fAb (pV S (fIx st) 13)) / 4))) + (2 * (bH S1 y_23))), .int ((bW S1 y_23) + (bW S1 (fIx x))), .ref o]) hx hb hml hown hl (kX4_greater l htr G H.size M_22 (bD S1 (fIx x)) ((bD S1 y_23) - ((bH S1 (fIx x)) + ((pV S (fIx st) 13) + ((fAb (pV S (fIx st) 13)) / 4))))) (g_B (n := 2) htb wd664 wd3 wd662 (by decide +kernel) ⟨Nat.le_of_ble_eq_true rfl, Nat.le_of_ble_eq_true rfl⟩) (htb _ wd663) hE hP hS rfl rfl (Nat.le_of_ble_eq_true rfl) dX4_root_303 ⟨Nat.le_of_ble_eq_true rfl, Nat.le_of_ble_eq_true rfl⟩ (fun v9 M9 H locs hpo hP hz hS => ?_) (fun x9 E9 cell9 H9 locs9 hE9 => hE9.elim)
                  obtain ⟨rfl, rfl⟩ := hpo
                  refine W.eq (g2 := F0 m 306 ls [.int (fMx (bD S1 (fIx x)) ((bD S1 y_23) - ((bH S1 (fIx x)) + ((pV S (fIx st) 13) + ((fAb (pV S (fIx st) 13)) / 4))))), .int (((bH S1 (fIx x)) + ((pV S (fIx st) 13) + ((fAb (pV S (fIx st) 13)) / 4))) + (2 * (bH S1 y_23))), .int ((bW S1 y_23) + (bW S1 (fIx x))), .ref o]) rfl ?_
                  refine mw_callV (C := RX4) (As := [.int ((bW S1 y_23) + (bW S1 (fIx x))), .int (((bH S1 (fIx x)) + ((pV S (fIx st) 13) + ((fAb (pV S (fIx st) 13)) / 4))) + (2 * (bH S1 y_23))), .int (fMx (bD S1 (fIx x)) ((bD S1 y_23) - ((bH S1 (fIx x)) + ((pV S (fIx st) 13) + ((fAb (pV S (fIx st) 13)) / 4)))))]) (rest := []) hx hb hml hown hl (kX4_make l htr G H.size M_22 o A 0 (nI (fSz (fIx st))) S1 (⟨np24, bg24, g24, hT, hB⟩ : md_R G o A M_22 0 (nI (fSz (fIx st))) S1) (show sN S1 < 120 from by rw [hS1, ro_S, kt_n, if_neg hrd]; omega) ((bW S1 y_23) + (bW S1 (fIx x))) (((bH S1 (fIx x)) + ((pV S (fIx st) 13) + ((fAb (pV S (fIx st) 13)) / 4))) + (2 * (bH S1 y_23))) (fMx (bD S1 (fIx x)) ((bD S1 y_23) - ((bH S1 (fIx x)) + ((pV S (fIx st) 13) + ((fAb (pV S (fIx st) 13)) / 4)))))) (g_B (n := 3) htb wd613 wd3 wd610 (by decide +kernel) ⟨Nat.le_of_ble_eq_true rfl, Nat.le_of_ble_eq_true rfl⟩) (htb _ wd612) (htb _ ws26) hE hP hS hT.1 rfl rfl rfl (Nat.le_of_ble_eq_true rfl) dX4_root_306 ⟨Nat.le_of_ble_eq_true rfl, Nat.le_of_ble_eq_true rfl⟩ (fun v9 M9 H locs hpo hP hz hS => ?_) (fun x9 E9 cell9 H9 locs9 hE9 => hE9.elim)
                  have hle0 := hle
                  obtain ⟨rfl, hRn, hkn⟩ := hpo
                  obtain ⟨M_28, hM_28⟩ : ∃ z9 : mw_M, z9 = M9 := ⟨_, rfl⟩
                  rw [← hM_28] at hP hRn hkn
                  have hk := md_keeps.tr hk hkn
                  have hRn : md_R G o A M_28 0 (nI (fSz (fIx st))) (fs_push S1 (((bW S1 y_23) + (bW S1 (fIx x))), (((bH S1 (fIx x)) + ((pV S (fIx st) 13) + ((fAb (pV S (fIx st) 13)) / 4))) + (2 * (bH S1 y_23))), (fMx (bD S1 (fIx x)) ((bD S1 y_23) - ((bH S1 (fIx x)) + ((pV S (fIx st) 13) + ((fAb (pV S (fIx st) 13)) / 4))))), [], 0, 0)) := hRn
                  obtain ⟨np29, bg29, g29, hT, hB⟩ := id hRn
                  rw [sN_push] at hT
                  have hT : md_at G o A M_28 0 (sSp S1) (sSh S1) (nI (sN S1 + 1)) (nI np29) (nI (fSz (fIx st))) g29 := hT
                  have hle : sN S1 + 1 ≤ 120 := by have := hB.1; rw [sN_push] at this; exact this
                  refine W.eq (g2 := F0 m 309 ls [.int (nI (sN S1))]) rfl ?_
                  refine lv_istore (lv' := [(13, .int (nI (sN S1))), (12, .int ((bH S1 (fIx x)) + ((pV S (fIx st) 13) + ((fAb (pV S (fIx st) 13)) / 4)))), (4, .int ((pV S (fIx st) 13) + ((fAb (pV S (fIx st) 13)) / 4))), (11, .int ((bD S1 y_23) - ((fEx S1 (nI (fIx x))) + ((pV S (fIx st) 13) + ((fAb (pV S (fIx st) 13)) / 4))))), (10, .int (bD S1 y_23)), (9, .int (bH S1 y_23)), (8, .int (nI y_23)), (7, .int 0), (6, .int (md_pl S (sF S (fIx k)) (ro_l S st x))), (5, .int (ro_l S st x)), (0, .ref o), (1, .int (nI (fIx st))), (2, .int (nI (fIx x))), (3, .int (nI (fIx k)))]) hx hb dX4_root_309 hl (by decide) rfl (fun ls hl => ?_)
                  refine lv_aload_n hx hb dX4_root_311 rfl (lv_at hl 10 rfl) ?_
                  refine lv_iload hx hb dX4_root_312 (lv_at hl 6 rfl) ?_
                  refine lv_iconst (v := 0) hx hb dX4_root_314 (by decide) ?_
                  refine lv_iload hx hb dX4_root_315 (lv_at hl 7 rfl) ?_
                  refine lv_if_eq (tgt := 333) hx hb dX4_root_317 (by decide) (fun c_30 => ?_) (fun c_30 => absurd (by decide) c_30)
                  refine lv_iload hx hb dX4_root_333 (lv_at hl 1 rfl) ?_
                  refine mw_callV (C := RX4) (As := [.int (nI y_23), .int 0, .int ((bH S1 (fIx x)) + ((pV S (fIx st) 13) + ((fAb (pV S (fIx st) 13)) / 4)))]) (rest := []) hx hb hml hown hl (kX4_lay l htr G H.size M_28 o A 0 (nI (fSz (fIx st))) S1 ((bW S1 y_23) + (bW S1 (fIx x))) (((bH S1 (fIx x)) + ((pV S (fIx st) 13) + ((fAb (pV S (fIx st) 13)) / 4))) + (2 * (bH S1 y_23))) (fMx (bD S1 (fIx x)) ((bD S1 y_23) - ((bH S1 (fIx x)) + ((pV S (fIx st) 13) + ((fAb (pV S (fIx st) 13)) / 4))))) ([]) 0 0 (md_R.of (np := np29) hT hB : md_R G o A M_28 0 (nI (fSz (fIx st))) (fs_push S1 (((bW S1 y_23) + (bW S1 (fIx x))), (((bH S1 (fIx x)) + ((pV S (fIx st) 13) + ((fAb (pV S (fIx st) 13)) / 4))) + (2 * (bH S1 y_23))), (fMx (bD S1 (fIx x)) ((bD S1 y_23) - ((bH S1 (fIx x)) + ((pV S (fIx st) 13) + ((fAb (pV S (fIx st) 13)) / 4))))), [], 0, 0))) (by simp) (nI y_23) 0 ((bH S1 (fIx x)) + ((pV S (fIx st) 13) + ((fAb (pV S (fIx st) 13)) / 4)))) (g_B (n := 3) htb wd661 wd3 wd658 (by decide +kernel) ⟨Nat.le_of_ble_eq_true rfl, Nat.le_of_ble_eq_true rfl⟩) (htb _ wd660) (htb _ ws34) hE hP hS hT.1 rfl rfl rfl (Nat.le_of_ble_eq_true rfl) dX4_root_335 ⟨Nat.le_of_ble_eq_true rfl, Nat.le_of_ble_eq_true rfl⟩ (fun v9 M9 H locs hpo hP hz hS => ?_) (fun x9 E9 cell9 H9 locs9 hE9 => hE9.elim)
                  obtain ⟨rfl, hRn, hkn⟩ := hpo
                  obtain ⟨M_31, hM_31⟩ : ∃ z9 : mw_M, z9 = M9 := ⟨_, rfl⟩
                  rw [← hM_31] at hP hRn hkn
                  have hk := md_keeps.tr hk hkn
                  have hRn : md_R G o A M_31 0 (nI (fSz (fIx st))) (fs_push S1 (((bW S1 y_23) + (bW S1 (fIx x))), (((bH S1 (fIx x)) + ((pV S (fIx st) 13) + ((fAb (pV S (fIx st) 13)) / 4))) + (2 * (bH S1 y_23))), (fMx (bD S1 (fIx x)) ((bD S1 y_23) - ((bH S1 (fIx x)) + ((pV S (fIx st) 13) + ((fAb (pV S (fIx st) 13)) / 4))))), [(nI y_23), 0, ((bH S1 (fIx x)) + ((pV S (fIx st) 13) + ((fAb (pV S (fIx st) 13)) / 4)))], 0, 0)) := hRn
                  obtain ⟨np32, bg32, g32, hT, hB⟩ := id hRn
                  rw [sN_push] at hT
                  have hT : md_at G o A M_31 0 (sSp S1) (sSh S1) (nI (sN S1 + 1)) (nI np32) (nI (fSz (fIx st))) g32 := hT
                  refine W.eq (g2 := F0 m 338 ls []) rfl ?_
                  refine lv_aload_n hx hb dX4_root_338 rfl (lv_at hl 10 rfl) ?_
                  refine lv_iload_n hx hb dX4_root_339 rfl (lv_at hl 12 rfl) ?_
                  refine lv_aload_n hx hb dX4_root_340 rfl (lv_at hl 10 rfl) ?_
                  refine mw_get (D := gD G) (ci := 4) (v := .ref (A 1)) (C := RX4) (T := TX4) (N := 21) hx hb htb inX4 hown hK hP hT.1 rfl 5 (by decide) (htb _ wd529) (fun _ h9 => h9) rfl dX4_root_341 ?_
                  refine lv_iload hx hb dX4_root_344 (lv_at hl 6 rfl) ?_
                  refine mw_iald hx hb hK hP 0 (show M_31 (A 1) = some (.inl (gI G, 120, .inl (g32 1))) from hT.2.1 1 (by decide)) rfl (by exact vp_in_nI (show y_23 < 120 by have := hle; omega) (by decide)) dX4_root_346 ?_
                  refine W.eq (g2 := F0 m 347 ls [.int (bW S1 y_23), .int (nI (fIx x)), .ref o]) (by rw [nI_clamp (show y_23 < 2 ^ 31 by have := hle; omega), hB.W (show y_23 < sN (fs_push S1 (((bW S1 y_23) + (bW S1 (fIx x))), (((bH S1 (fIx x)) + ((pV S (fIx st) 13) + ((fAb (pV S (fIx st) 13)) / 4))) + (2 * (bH S1 y_23))), (fMx (bD S1 (fIx x)) ((bD S1 y_23) - ((bH S1 (fIx x)) + ((pV S (fIx st) 13) + ((fAb (pV S (fIx st) 13)) / 4))))), [(nI y_23), 0, ((bH S1 (fIx x)) + ((pV S (fIx st) 13) + ((fAb (pV S (fIx st) 13)) / 4)))], 0, 0)) by rw [sN_push]; omega), bW_push _ h_y_23]) ?_
                  refine lv_iconst (v := 0) hx hb dX4_root_347 (by decide) ?_
                  refine mw_callV (C := RX4) (As := [.int (nI (fIx x)), .int (bW S1 y_23), .int 0]) (rest := []) hx hb hml hown hl (kX4_lay l htr G H.size M_31 o A 0 (nI (fSz (fIx st))) S1 ((bW S1 y_23) + (bW S1 (fIx x))) (((bH S1 (fIx x)) + ((pV S (fIx st) 13) + ((fAb (pV S (fIx st) 13)) / 4))) + (2 * (bH S1 y_23))) (fMx (bD S1 (fIx x)) ((bD S1 y_23) - ((bH S1 (fIx x)) + ((pV S (fIx st) 13) + ((fAb (pV S (fIx st) 13)) / 4))))) ([(nI y_23), 0, ((bH S1 (fIx x)) + ((pV S (fIx st) 13) + ((fAb (pV S (fIx st) 13)) / 4)))]) 0 0 (md_R.of (np := np32) hT hB : md_R G o A M_31 0 (nI (fSz (fIx st))) (fs_push S1 (((bW S1 y_23) + (bW S1 (fIx x))), (((bH S1 (fIx x)) + ((pV S (fIx st) 13) + ((fAb (pV S (fIx st) 13)) / 4))) + (2 * (bH S1 y_23))), (fMx (bD S1 (fIx x)) ((bD S1 y_23) - ((bH S1 (fIx x)) + ((pV S (fIx st) 13) + ((fAb (pV S (fIx st) 13)) / 4))))), [(nI y_23), 0, ((bH S1 (fIx x)) + ((pV S (fIx st) 13) + ((fAb (pV S (fIx st) 13)) / 4)))], 0, 0))) (by simp) (nI (fIx x)) (bW S1 y_23) 0) (g_B (n := 3) htb wd661 wd3 wd658 (by decide +kernel) ⟨Nat.le_of_ble_eq_true rfl, Nat.le_of_ble_eq_true rfl⟩) (htb _ wd660) (htb _ ws34) hE hP hS hT.1 rfl rfl rfl (Nat.le_of_ble_eq_true rfl) dX4_root_348 ⟨Nat.le_of_ble_eq_true rfl, Nat.le_of_ble_eq_true rfl⟩ (fun v9 M9 H locs hpo hP hz hS => ?_) (fun x9 E9 cell9 H9 locs9 hE9 => hE9.elim)
                  obtain ⟨rfl, hRn, hkn⟩ := hpo
                  obtain ⟨M_33, hM_33⟩ : ∃ z9 : mw_M, z9 = M9 := ⟨_, rfl⟩
                  rw [← hM_33] at hP hRn hkn
                  have hk := md_keeps.tr hk hkn
                  have hRn : md_R G o A M_33 0 (nI (fSz (fIx st))) (fs_push S1 (((bW S1 y_23) + (bW S1 (fIx x))), (((bH S1 (fIx x)) + ((pV S (fIx st) 13) + ((fAb (pV S (fIx st) 13)) / 4))) + (2 * (bH S1 y_23))), (fMx (bD S1 (fIx x)) ((bD S1 y_23) - ((bH S1 (fIx x)) + ((pV S (fIx st) 13) + ((fAb (pV S (fIx st) 13)) / 4))))), [(nI y_23), 0, ((bH S1 (fIx x)) + ((pV S (fIx st) 13) + ((fAb (pV S (fIx st) 13)) / 4))), (nI (fIx x)), (bW S1 y_23), 0], 0, 0)) := hRn
                  obtain ⟨np34, bg34, g34, hT, hB⟩ := id hRn
                  rw [sN_push] at hT
                  have hT : md_at G o A M_33 0 (sSp S1) (sSh S1) (nI (sN S1 + 1)) (nI np34) (nI (fSz (fIx st))) g34 := hT
                  refine W.eq (g2 := F0 m 351 ls []) rfl ?_
                  refine lv_aload_n hx hb dX4_root_351 rfl (lv_at hl 10 rfl) ?_
                  refine lv_iconst (v := (-1)) hx hb dX4_root_352 (by decide) ?_
                  refine lv_aload_n hx hb dX4_root_353 rfl (lv_at hl 10 rfl) ?_
                  refine mw_get (D := gD G) (ci := 4) (v := .ref (A 1)) (C := RX4) (T := TX4) (N := 21) hx hb htb inX4 hown hK hP hT.1 rfl 5 (by decide) (htb _ wd529) (fun _ h9 => h9) rfl dX4_root_354 ?_
                  refine lv_iload hx hb dX4_root_357 (lv_at hl 6 rfl) ?_
                  refine mw_iald hx hb hK hP 0 (show M_33 (A 1) = some (.inl (gI G, 120, .inl (g34 1))) from hT.2.1 1 (by decide)) rfl (by exact vp_in_nI (show y_23 < 120 by have := hle; omega) (by decide)) dX4_root_359 ?_
                  refine W.eq (g2 := F0 m 360 ls [.int (bW S1 y_23), .int (-1), .ref o]) (by rw [nI_clamp (show y_23 < 2 ^ 31 by have := hle; omega), hB.W (show y_23 < sN (fs_push S1 (((bW S1 y_23) + (bW S1 (fIx x))), (((bH S1 (fIx x)) + ((pV S (fIx st) 13) + ((fAb (pV S (fIx st) 13)) / 4))) + (2 * (bH S1 y_23))), (fMx (bD S1 (fIx x)) ((bD S1 y_23) - ((bH S1 (fIx x)) + ((pV S (fIx st) 13) + ((fAb (pV S (fIx st) 13)) / 4))))), [(nI y_23), 0, ((bH S1 (fIx x)) + ((pV S (fIx st) 13) + ((fAb (pV S (fIx st) 13)) / 4))), (nI (fIx x)), (bW S1 y_23), 0], 0, 0)) by rw [sN_push]; omega), bW_push _ h_y_23]) ?_
                  refine lv_iload hx hb dX4_root_360 (lv_at hl 1 rfl) ?_
                  refine mw_callV (C := RX4) (As := [.int (-1), .int (bW S1 y_23), .int ((bH S1 (fIx x)) + ((pV S (fIx st) 13) + ((fAb (pV S (fIx st) 13)) / 4)))]) (rest := []) hx hb hml hown hl (kX4_lay l htr G H.size M_33 o A 0 (nI (fSz (fIx st))) S1 ((bW S1 y_23) + (bW S1 (fIx x))) (((bH S1 (fIx x)) + ((pV S (fIx st) 13) + ((fAb (pV S (fIx st) 13)) / 4))) + (2 * (bH S1 y_23))) (fMx (bD S1 (fIx x)) ((bD S1 y_23) - ((bH S1 (fIx x)) + ((pV S (fIx st) 13) + ((fAb (pV S (fIx st) 13)) / 4))))) ([(nI y_23), 0, ((bH S1 (fIx x)) + ((pV S (fIx st) 13) + ((fAb (pV S (fIx st) 13)) / 4))), (nI (fIx x)), (bW S1 y_23), 0]) 0 0 (md_R.of (np := np34) hT hB : md_R G o A M_33 0 (nI (fSz (fIx st))) (fs_push S1 (((bW S1 y_23) + (bW S1 (fIx x))), (((bH S1 (fIx x)) + ((pV S (fIx st) 13) + ((fAb (pV S (fIx st) 13)) / 4))) + (2 * (bH S1 y_23))), (fMx (bD S1 (fIx x)) ((bD S1 y_23) - ((bH S1 (fIx x)) + ((pV S (fIx st) 13) + ((fAb (pV S (fIx st) 13)) / 4))))), [(nI y_23), 0, ((bH S1 (fIx x)) + ((pV S (fIx st) 13) + ((fAb (pV S (fIx st) 13)) / 4))), (nI (fIx x)), (bW S1 y_23), 0], 0, 0))) (by simp) (-1) (bW S1 y_23) ((bH S1 (fIx x)) + ((pV S (fIx st) 13) + ((fAb (pV S (fIx st) 13)) / 4)))) (g_B (n := 3) htb wd661 wd3 wd658 (by decide +kernel) ⟨Nat.le_of_ble_eq_true rfl, Nat.le_of_ble_eq_true rfl⟩) (htb _ wd660) (htb _ ws34) hE hP hS hT.1 rfl rfl rfl (Nat.le_of_ble_eq_true rfl) dX4_root_362 ⟨Nat.le_of_ble_eq_true rfl, Nat.le_of_ble_eq_true rfl⟩ (fun v9 M9 H locs hpo hP hz hS => ?_) (fun x9 E9 cell9 H9 locs9 hE9 => hE9.elim)
                  obtain ⟨rfl, hRn, hkn⟩ := hpo
                  obtain ⟨M_35, hM_35⟩ : ∃ z9 : mw_M, z9 = M9 := ⟨_, rfl⟩
                  rw [← hM_35] at hP hRn hkn
                  have hk := md_keeps.tr hk hkn
                  have hRn : md_R G o A M_35 0 (nI (fSz (fIx st))) (fs_push S1 (((bW S1 y_23) + (bW S1 (fIx x))), (((bH S1 (fIx x)) + ((pV S (fIx st) 13) + ((fAb (pV S (fIx st) 13)) / 4))) + (2 * (bH S1 y_23))), (fMx (bD S1 (fIx x)) ((bD S1 y_23) - ((bH S1 (fIx x)) + ((pV S (fIx st) 13) + ((fAb (pV S (fIx st) 13)) / 4))))), [(nI y_23), 0, ((bH S1 (fIx x)) + ((pV S (fIx st) 13) + ((fAb (pV S (fIx st) 13)) / 4))), (nI (fIx x)), (bW S1 y_23), 0, (-1), (bW S1 y_23), ((bH S1 (fIx x)) + ((pV S (fIx st) 13) + ((fAb (pV S (fIx st) 13)) / 4)))], 0, 0)) := hRn
                  obtain ⟨np36, bg36, g36, hT, hB⟩ := id hRn
                  rw [sN_push] at hT
                  have hT : md_at G o A M_35 0 (sSp S1) (sSh S1) (nI (sN S1 + 1)) (nI np36) (nI (fSz (fIx st))) g36 := hT
                  refine W.eq (g2 := F0 m 365 ls []) rfl ?_
                  refine lv_aload_n hx hb dX4_root_365 rfl (lv_at hl 10 rfl) ?_
                  refine mw_get (D := gD G) (ci := 4) (v := .ref (A 6)) (C := RX4) (T := TX4) (N := 21) hx hb htb inX4 hown hK hP hT.1 rfl 10 (by decide) (htb _ wd534) (fun _ h9 => h9) rfl dX4_root_366 ?_
                  refine lv_iload hx hb dX4_root_369 (lv_at hl 0 rfl) ?_
                  refine lv_aload_n hx hb dX4_root_371 rfl (lv_at hl 10 rfl) ?_
                  refine mw_get (D := gD G) (ci := 4) (v := .ref (A 1)) (C := RX4) (T := TX4) (N := 21) hx hb htb inX4 hown hK hP hT.1 rfl 5 (by decide) (htb _ wd529) (fun _ h9 => h9) rfl dX4_root_372 ?_
                  refine lv_iload_n hx hb dX4_root_375 rfl (lv_at hl 12 rfl) ?_
                  refine mw_iald hx hb hK hP 0 (show M_35 (A 1) = some (.inl (gI G, 120, .inl (g36 1))) from hT.2.1 1 (by decide)) rfl (by exact vp_in_nI (show (fIx x) < 120 by have := hle; omega) (by decide)) dX4_root_376 ?_
                  refine W.eq (g2 := F0 m 377 ls [.int (bW S1 (fIx x)), .int (nI (sN S1)), .ref (A 6)]) (by rw [nI_clamp (show (fIx x) < 2 ^ 31 by have := hle; omega), hB.W (show (fIx x) < sN (fs_push S1 (((bW S1 y_23) + (bW S1 (fIx x))), (((bH S1 (fIx x)) + ((pV S (fIx st) 13) + ((fAb (pV S (fIx st) 13)) / 4))) + (2 * (bH S1 y_23))), (fMx (bD S1 (fIx x)) ((bD S1 y_23) - ((bH S1 (fIx x)) + ((pV S (fIx st) 13) + ((fAb (pV S (fIx st) 13)) / 4))))), [(nI y_23), 0, ((bH S1 (fIx x)) + ((pV S (fIx st) 13) + ((fAb (pV S (fIx st) 13)) / 4))), (nI (fIx x)), (bW S1 y_23), 0, (-1), (bW S1 y_23), ((bH S1 (fIx x)) + ((pV S (fIx st) 13) + ((fAb (pV S (fIx st) 13)) / 4)))], 0, 0)) by rw [sN_push]; omega), bW_push _ h_x]) ?_
                  refine mw_iast hx hb hK hP hS 0 (show M_35 (A 6) = some (.inl (gI G, 120, .inl (g36 6))) from hT.2.1 6 (by decide)) (hT.2.2.2.2 6 (by decide)) rfl (by exact vp_in_nI (show (sN S1) < 120 by have := hle; omega) (by decide)) dX4_root_377 (fun H locs hP hS => ?_)
                  rw [nI_clamp (show (sN S1) < 2 ^ 31 by have := hle; omega)] at hP
                  obtain ⟨M_37, hM_37⟩ : ∃ z9 : mw_M, z9 = mw_up M_35 (A 6) (.inl (gI G, 120, .inl (upd (g36 6) (sN S1) (bW S1 (fIx x))))) := ⟨_, rfl⟩
                  have hP : mw_P (gD G) gx_cl M_37 H := by rw [hM_37]; exact hP
                  obtain ⟨g_38, hg_38⟩ : ∃ z9, z9 = ug g36 6 (sN S1) (bW S1 (fIx x)) := ⟨_, rfl⟩
                  have hT : md_at G o A M_37 0 (sSp S1) (sSh S1) (nI (sN S1 + 1)) (nI np36) (nI (fSz (fIx st))) g_38 := by rw [hg_38]; exact md_at.put hT (by decide) rfl rfl hM_37
                  have hk : md_keeps o A M M_37 := md_keeps.arr (j := 6) hk (by decide) hM_37
                  have hB : md_ab np36 bg36 g_38 (fs_push S1 (((bW S1 y_23) + (bW S1 (fIx x))), (((bH S1 (fIx x)) + ((pV S (fIx st) 13) + ((fAb (pV S (fIx st) 13)) / 4))) + (2 * (bH S1 y_23))), (fMx (bD S1 (fIx x)) ((bD S1 y_23) - ((bH S1 (fIx x)) + ((pV S (fIx st) 13) + ((fAb (pV S (fIx st) 13)) / 4))))), [(nI y_23), 0, ((bH S1 (fIx x)) + ((pV S (fIx st) 13) + ((fAb (pV S (fIx st) 13)) / 4))), (nI (fIx x)), (bW S1 y_23), 0, (-1), (bW S1 y_23), ((bH S1 (fIx x)) + ((pV S (fIx st) 13) + ((fAb (pV S (fIx st) 13)) / 4)))], (bW S1 (fIx x)), 0)) := by rw [hg_38]; exact md_ab.set6 hB _
                  refine lv_aload_n hx hb dX4_root_378 rfl (lv_at hl 10 rfl) ?_
                  refine mw_get (D := gD G) (ci := 4) (v := .ref (A 7)) (C := RX4) (T := TX4) (N := 21) hx hb htb inX4 hown hK hP hT.1 rfl 11 (by decide) (htb _ wd535) (fun _ h9 => h9) rfl dX4_root_379 ?_
                  refine lv_iload hx hb dX4_root_382 (lv_at hl 0 rfl) ?_
                  refine lv_iload hx hb dX4_root_384 (lv_at hl 5 rfl) ?_
                  refine mw_iast hx hb hK hP hS 0 (show M_37 (A 7) = some (.inl (gI G, 120, .inl (g_38 7))) from hT.2.1 7 (by decide)) (hT.2.2.2.2 7 (by decide)) rfl (by exact vp_in_nI (show (sN S1) < 120 by have := hle; omega) (by decide)) dX4_root_386 (fun H locs hP hS => ?_)
                  rw [nI_clamp (show (sN S1) < 2 ^ 31 by have := hle; omega)] at hP
                  obtain ⟨M_39, hM_39⟩ : ∃ z9 : mw_M, z9 = mw_up M_37 (A 7) (.inl (gI G, 120, .inl (upd (g_38 7) (sN S1) (bH S1 y_23)))) := ⟨_, rfl⟩
                  have hP : mw_P (gD G) gx_cl M_39 H := by rw [hM_39]; exact hP
                  obtain ⟨g_40, hg_40⟩ : ∃ z9, z9 = ug g_38 7 (sN S1) (bH S1 y_23) := ⟨_, rfl⟩
                  have hT : md_at G o A M_39 0 (sSp S1) (sSh S1) (nI (sN S1 + 1)) (nI np36) (nI (fSz (fIx st))) g_40 := by rw [hg_40]; exact md_at.put hT (by decide) rfl rfl hM_39
                  have hk : md_keeps o A M M_39 := md_keeps.arr (j := 7) hk (by decide) hM_39
                  have hB : md_ab np36 bg36 g_40 (fs_push S1 (((bW S1 y_23) + (bW S1 (fIx x))), (((bH S1 (fIx x)) + ((pV S (fIx st) 13) + ((fAb (pV S (fIx st) 13)) / 4))) + (2 * (bH S1 y_23))), (fMx (bD S1 (fIx x)) ((bD S1 y_23) - ((bH S1 (fIx x)) + ((pV S (fIx st) 13) + ((fAb (pV S (fIx st) 13)) / 4))))), [(nI y_23), 0, ((bH S1 (fIx x)) + ((pV S (fIx st) 13) + ((fAb (pV S (fIx st) 13)) / 4))), (nI (fIx x)), (bW S1 y_23), 0, (-1), (bW S1 y_23), ((bH S1 (fIx x)) + ((pV S (fIx st) 13) + ((fAb (pV S (fIx st) 13)) / 4)))], (bW S1 (fIx x)), (bH S1 y_23))) := by rw [hg_40]; exact md_ab.set7 hB _
                  refine lv_iload hx hb dX4_root_387 (lv_at hl 0 rfl) ?_
                  have hex : ex_root S st x k = 0 := by rw [ex_root, if_neg (fun z9 => z9 ⟨kb_5, kb_7⟩), if_neg (fun z9 => z9 kb_9), if_neg (fun z9 => z9 kG), if_neg (fun z9 => z9 kb_19)]
                  have hre : re_root S st x k = (((bW S1 y_23) + (bW S1 (fIx x))), (((bH S1 (fIx x)) + ((pV S (fIx st) 13) + ((fAb (pV S (fIx st) 13)) / 4))) + (2 * (bH S1 y_23))), (fMx (bD S1 (fIx x)) ((bD S1 y_23) - ((bH S1 (fIx x)) + ((pV S (fIx st) 13) + ((fAb (pV S (fIx st) 13)) / 4))))), [(nI y_23), 0, ((bH S1 (fIx x)) + ((pV S (fIx st) 13) + ((fAb (pV S (fIx st) 13)) / 4))), (nI (fIx x)), (bW S1 y_23), 0, (-1), (bW S1 y_23), ((bH S1 (fIx x)) + ((pV S (fIx st) 13) + ((fAb (pV S (fIx st) 13)) / 4)))], (bW S1 (fIx x)), (bH S1 y_23)) := by rw [re_root, ← hS1, ← ey_23]; simp only [fs_rs, fs_rs1, fs_rs2, fs_rc, if_neg hrd, if_neg c_14, if_pos c_27, if_true, if_false, Int32.add_zero, show ((1 : Int32) = 0) = False from eq_false (by decide), show ((0 : Int32) = 0) = True from eq_true rfl]; try simp only [Int32.add_assoc]
                  exact mx_iret (v := (nI (sN S1))) (M' := M_39) hx hb hr hlocks hP hS ⟨by rw [hex, if_pos rfl, ← hS1], ⟨_, by rw [hex, if_pos rfl, ← hS1, hre]; exact (md_R.of (np := np36) hT hB : md_R G o A M_39 0 (nI (fSz (fIx st))) (fs_push S1 (((bW S1 y_23) + (bW S1 (fIx x))), (((bH S1 (fIx x)) + ((pV S (fIx st) 13) + ((fAb (pV S (fIx st) 13)) / 4))) + (2 * (bH S1 y_23))), (fMx (bD S1 (fIx x)) ((bD S1 y_23) - ((bH S1 (fIx x)) + ((pV S (fIx st) 13) + ((fAb (pV S (fIx st) 13)) / 4))))), [(nI y_23), 0, ((bH S1 (fIx x)) + ((pV S (fIx st) 13) + ((fAb (pV S (fIx st) 13)) / 4))), (nI (fIx x)), (bW S1 y_23), 0, (-1), (bW S1 y_23), ((bH S1 (fIx x)) + ((pV S (fIx st) 13) + ((fAb (pV S (fIx st) 13)) / 4)))], (bW S1 (fIx x)), (bH S1 y_23))))⟩, hk⟩ dX4_root_389 (Nat.le_of_ble_eq_true rfl) (Nat.le_of_ble_eq_true rfl)
                · refine lv_iload hx hb dX4_root_244 (lv_at hl 7 rfl) ?_
                  refine lv_iload hx hb dX4_root_246 (lv_at hl 0 rfl) ?_
                  refine mw_callS (As := [.int ((bD S1 y_23) - ((fEx S1 (nI (fIx x))) + ((pV S (fIx st) 13) + ((fAb (pV S (fIx st) 13)) / 4))))]) (rest := [.int ((pV S (fIx st) 13) + ((fAb (pV S (fIx st) 13)) / 4))]) hx hb hml hown hl (kX4_half l htr G H.size M_22 ((bD S1 y_23) - ((fEx S1 (nI (fIx x))) + ((pV S (fIx st) 13) + ((fAb (pV S (fIx st) 13)) / 4))))) (g_B (n := 1) htb wd682 wd3 wd680 (by decide +kernel) ⟨Nat.le_of_ble_eq_true rfl, Nat.le_of_ble_eq_true rfl⟩) (htb _ wd681) hE hP hS rfl rfl (Nat.le_of_ble_eq_true rfl) dX4_root_248 ⟨Nat.le_of_ble_eq_true rfl, Nat.le_of_ble_eq_true rfl⟩ (fun v9 M9 H locs hpo hP hz hS => ?_) (fun x9 E9 cell9 H9 locs9 hE9 => hE9.elim)
                  obtain ⟨rfl, rfl⟩ := hpo
                  refine W.eq (g2 := F0 m 251 ls [.int (fHf ((bD S1 y_23) - ((fEx S1 (nI (fIx x))) + ((pV S (fIx st) 13) + ((fAb (pV S (fIx st) 13)) / 4))))), .int ((pV S (fIx st) 13) + ((fAb (pV S (fIx st) 13)) / 4))]) rfl ?_
                  refine lv_iadd hx hb dX4_root_251 ?_
                  refine lv_goto (tgt := 257) hx hb dX4_root_252 (by decide) ?_
                  refine lv_istore (lv' := [(4, .int (((pV S (fIx st) 13) + ((fAb (pV S (fIx st) 13)) / 4)) + (fHf ((bD S1 y_23) - ((fEx S1 (nI (fIx x))) + ((pV S (fIx st) 13) + ((fAb (pV S (fIx st) 13)) / 4))))))), (11, .int ((bD S1 y_23) - ((fEx S1 (nI (fIx x))) + ((pV S (fIx st) 13) + ((fAb (pV S (fIx st) 13)) / 4))))), (10, .int (bD S1 y_23)), (9, .int (bH S1 y_23)), (8, .int (nI y_23)), (7, .int 0), (6, .int (md_pl S (sF S (fIx k)) (ro_l S st x))), (5, .int (ro_l S st x)), (0, .ref o), (1, .int (nI (fIx st))), (2, .int (nI (fIx x))), (3, .int (nI (fIx k)))]) hx hb dX4_root_257 hl (by decide) rfl (fun ls hl => ?_)
                  refine lv_aload_n hx hb dX4_root_259 rfl (lv_at hl 8 rfl) ?_
                  refine mw_get (D := gD G) (ci := 4) (v := .ref (A 2)) (C := RX4) (T := TX4) (N := 21) hx hb htb inX4 hown hK hP hT.1 rfl 6 (by decide) (htb _ wd530) (fun _ h9 => h9) rfl dX4_root_260 ?_
                  refine lv_iload_n hx hb dX4_root_263 rfl (lv_at hl 10 rfl) ?_
                  refine mw_iald hx hb hK hP 0 (show M_22 (A 2) = some (.inl (gI G, 120, .inl (g24 2))) from hT.2.1 2 (by decide)) rfl (by exact vp_in_nI (show (fIx x) < 120 by have := hle; omega) (by decide)) dX4_root_264 ?_
                  refine W.eq (g2 := F0 m 265 ls [.int (bH S1 (fIx x))]) (by rw [nI_clamp (show (fIx x) < 2 ^ 31 by have := hle; omega), hB.H h_x]) ?_
                  refine lv_iload hx hb dX4_root_265 (lv_at hl 0 rfl) ?_
                  refine lv_iadd hx hb dX4_root_267 ?_
                  refine lv_istore (lv' := [(12, .int ((bH S1 (fIx x)) + (((pV S (fIx st) 13) + ((fAb (pV S (fIx st) 13)) / 4)) + (fHf ((bD S1 y_23) - ((fEx S1 (nI (fIx x))) + ((pV S (fIx st) 13) + ((fAb (pV S (fIx st) 13)) / 4)))))))), (4, .int (((pV S (fIx st) 13) + ((fAb (pV S (fIx st) 13)) / 4)) + (fHf ((bD S1 y_23) - ((fEx S1 (nI (fIx x))) + ((pV S (fIx st) 13) + ((fAb (pV S (fIx st) 13)) / 4))))))), (11, .int ((bD S1 y_23) - ((fEx S1 (nI (fIx x))) + ((pV S (fIx st) 13) + ((fAb (pV S (fIx st) 13)) / 4))))), (10, .int (bD S1 y_23)), (9, .int (bH S1 y_23)), (8, .int (nI y_23)), (7, .int 0), (6, .int (md_pl S (sF S (fIx k)) (ro_l S st x))), (5, .int (ro_l S st x)), (0, .ref o), (1, .int (nI (fIx st))), (2, .int (nI (fIx x))), (3, .int (nI (fIx k)))]) hx hb dX4_root_268 hl (by decide) rfl (fun ls hl => ?_)
                  refine lv_aload_n hx hb dX4_root_270 rfl (lv_at hl 9 rfl) ?_
                  refine lv_aload_n hx hb dX4_root_271 rfl (lv_at hl 9 rfl) ?_
                  refine mw_get (D := gD G) (ci := 4) (v := .ref (A 1)) (C := RX4) (T := TX4) (N := 21) hx hb htb inX4 hown hK hP hT.1 rfl 5 (by decide) (htb _ wd529) (fun _ h9 => h9) rfl dX4_root_272 ?_
                  refine lv_iload hx hb dX4_root_275 (lv_at hl 5 rfl) ?_
                  refine mw_iald hx hb hK hP 0 (show M_22 (A 1) = some (.inl (gI G, 120, .inl (g24 1))) from hT.2.1 1 (by decide)) rfl (by exact vp_in_nI (show y_23 < 120 by have := hle; omega) (by decide)) dX4_root_277 ?_
                  refine W.eq (g2 := F0 m 278 ls [.int (bW S1 y_23), .ref o]) (by rw [nI_clamp (show y_23 < 2 ^ 31 by have := hle; omega), hB.W h_y_23]) ?_
                  refine lv_aload_n hx hb dX4_root_278 rfl (lv_at hl 9 rfl) ?_
                  refine mw_get (D := gD G) (ci := 4) (v := .ref (A 1)) (C := RX4) (T := TX4) (N := 21) hx hb htb inX4 hown hK hP hT.1 rfl 5 (by decide) (htb _ wd529) (fun _ h9 => h9) rfl dX4_root_279 ?_
                  refine lv_iload_n hx hb dX4_root_282 rfl (lv_at hl 11 rfl) ?_
                  refine mw_iald hx hb hK hP 0 (show M_22 (A 1) = some (.inl (gI G, 120, .inl (g24 1))) from hT.2.1 1 (by decide)) rfl (by exact vp_in_nI (show (fIx x) < 120 by have := hle; omega) (by decide)) dX4_root_283 ?_
                  refine W.eq (g2 := F0 m 284 ls [.int (bW S1 (fIx x)), .int (bW S1 y_23), .ref o]) (by rw [nI_clamp (show (fIx x) < 2 ^ 31 by have := hle; omega), hB.W h_x]) ?_
                  refine lv_iadd hx hb dX4_root_284 ?_
                  refine lv_iload hx hb dX4_root_285 (lv_at hl 0 rfl) ?_
                  refine lv_iconst (v := 2) hx hb dX4_root_287 (by decide) ?_
                  refine lv_iload hx hb dX4_root_288 (lv_at hl 4 rfl) ?_
                  refine lv_imul hx hb dX4_root_290 ?_
                  refine lv_iadd hx hb dX4_root_291 ?_
                  refine lv_aload_n hx hb dX4_root_292 rfl (lv_at hl 9 rfl) ?_
                  refine mw_get (D := gD G) (ci := 4) (v := .ref (A 3)) (C := RX4) (T := TX4) (N := 21) hx hb htb inX4 hown hK hP hT.1 rfl 7 (by decide) (htb _ wd531) (fun _ h9 => h9) rfl dX4_root_293 ?_
                  refine lv_iload_n hx hb dX4_root_296 rfl (lv_at hl 11 rfl) ?_
                  refine mw_iald hx hb hK hP 0 (show M_22 (A 3) = some (.inl (gI G, 120, .inl (g24 3))) from hT.2.1 3 (by decide)) rfl (by exact vp_in_nI (show (fIx x) < 120 by have := hle; omega) (by decide)) dX4_root_297 ?_
                  refine W.eq (g2 := F0 m 298 ls [.int (bD S1 (fIx x)), .int (((bH S1 (fIx x)) + (((pV S (fIx st) 13) + ((fAb (pV S (fIx st) 13)) / 4)) + (fHf ((bD S1 y_23) - ((fEx S1 (nI (fIx x))) + ((pV S (fIx st) 13) + ((fAb (pV S (fIx st) 13)) / 4))))))) + (2 * (bH S1 y_23))), .int ((bW S1 y_23) + (bW S1 (fIx x))), .ref o]) (by rw [nI_clamp (show (fIx x) < 2 ^ 31 by have := hle; omega), hB.D h_x]) ?_
                  refine lv_iload hx hb dX4_root_298 (lv_at hl 3 rfl) ?_
                  refine lv_iload hx hb dX4_root_300 (lv_at hl 0 rfl) ?_
                  refine lv_isub hx hb dX4_root_302 ?_
                  refine mw_callS (As := [.int (bD S1 (fIx x)), .int ((bD S1 y_23) - ((bH S1 (fIx x)) + (((pV S (fIx st) 13) + ((fAb (pV S (fIx st) 13)) / 4)) + (fHf ((bD S1 y_23) - ((fEx S1 (nI (fIx x))) + ((pV S (fIx st) 13) + ((fAb (pV S (fIx st) 13)) / 4))))))))]) (rest := [.int (((bH S1 (fIx x)) + (((pV S (fIx st) 13) + ((fAb (pV S (fIx st) 13)) / 4)) + (fHf ((bD S1 y_23) - ((fEx S1 (nI (fIx x))) + ((pV S (fIx st) 13) + ((fAb (pV S (fIx st) 13)) / 4))))))) + (2 * (bH S1 y_23))), .int ((bW S1 y_23) + (bW S1 (fIx x))), .ref o]) hx hb hml hown hl (kX4_greater l htr G H.size M_22 (bD S1 (fIx x)) ((bD S1 y_23) - ((bH S1 (fIx x)) + (((pV S (fIx st) 13) + ((fAb (pV S (fIx st) 13)) / 4)) + (fHf ((bD S1 y_23) - ((fEx S1 (nI (fIx x))) + ((pV S (fIx st) 13) + ((fAb (pV S (fIx st) 13)) / 4))))))))) (g_B (n := 2) htb wd664 wd3 wd662 (by decide +kernel) ⟨Nat.le_of_ble_eq_true rfl, Nat.le_of_ble_eq_true rfl⟩) (htb _ wd663) hE hP hS rfl rfl (Nat.le_of_ble_eq_true rfl) dX4_root_303 ⟨Nat.le_of_ble_eq_true rfl, Nat.le_of_ble_eq_true rfl⟩ (fun v9 M9 H locs hpo hP hz hS => ?_) (fun x9 E9 cell9 H9 locs9 hE9 => hE9.elim)
                  obtain ⟨rfl, rfl⟩ := hpo
                  refine W.eq (g2 := F0 m 306 ls [.int (fMx (bD S1 (fIx x)) ((bD S1 y_23) - ((bH S1 (fIx x)) + (((pV S (fIx st) 13) + ((fAb (pV S (fIx st) 13)) / 4)) + (fHf ((bD S1 y_23) - ((fEx S1 (nI (fIx x))) + ((pV S (fIx st) 13) + ((fAb (pV S (fIx st) 13)) / 4))))))))), .int (((bH S1 (fIx x)) + (((pV S (fIx st) 13) + ((fAb (pV S (fIx st) 13)) / 4)) + (fHf ((bD S1 y_23) - ((fEx S1 (nI (fIx x))) + ((pV S (fIx st) 13) + ((fAb (pV S (fIx st) 13)) / 4))))))) + (2 * (bH S1 y_23))), .int ((bW S1 y_23) + (bW S1 (fIx x))), .ref o]) rfl ?_
                  refine mw_callV (C := RX4) (As := [.int ((bW S1 y_23) + (bW S1 (fIx x))), .int (((bH S1 (fIx x)) + (((pV S (fIx st) 13) + ((fAb (pV S (fIx st) 13)) / 4)) + (fHf ((bD S1 y_23) - ((fEx S1 (nI (fIx x))) + ((pV S (fIx st) 13) + ((fAb (pV S (fIx st) 13)) / 4))))))) + (2 * (bH S1 y_23))), .int (fMx (bD S1 (fIx x)) ((bD S1 y_23) - ((bH S1 (fIx x)) + (((pV S (fIx st) 13) + ((fAb (pV S (fIx st) 13)) / 4)) + (fHf ((bD S1 y_23) - ((fEx S1 (nI (fIx x))) + ((pV S (fIx st) 13) + ((fAb (pV S (fIx st) 13)) / 4)))))))))]) (rest := []) hx hb hml hown hl (kX4_make l htr G H.size M_22 o A 0 (nI (fSz (fIx st))) S1 (⟨np24, bg24, g24, hT, hB⟩ : md_R G o A M_22 0 (nI (fSz (fIx st))) S1) (show sN S1 < 120 from by rw [hS1, ro_S, kt_n, if_neg hrd]; omega) ((bW S1 y_23) + (bW S1 (fIx x))) (((bH S1 (fIx x)) + (((pV S (fIx st) 13) + ((fAb (pV S (fIx st) 13)) / 4)) + (fHf ((bD S1 y_23) - ((fEx S1 (nI (fIx x))) + ((pV S (fIx st) 13) + ((fAb (pV S (fIx st) 13)) / 4))))))) + (2 * (bH S1 y_23))) (fMx (bD S1 (fIx x)) ((bD S1 y_23) - ((bH S1 (fIx x)) + (((pV S (fIx st) 13) + ((fAb (pV S (fIx st) 13)) / 4)) + (fHf ((bD S1 y_23) - ((fEx S1 (nI (fIx x))) + ((pV S (fIx st) 13) + ((fAb (pV S (fIx st) 13)) / 4)))))))))) (g_B (n := 3) htb wd613 wd3 wd610 (by decide +kernel) ⟨Nat.le_of_ble_eq_true rfl, Nat.le_of_ble_eq_true rfl⟩) (htb _ wd612) (htb _ ws26) hE hP hS hT.1 rfl rfl rfl (Nat.le_of_ble_eq_true rfl) dX4_root_306 ⟨Nat.le_of_ble_eq_true rfl, Nat.le_of_ble_eq_true rfl⟩ (fun v9 M9 H locs hpo hP hz hS => ?_) (fun x9 E9 cell9 H9 locs9 hE9 => hE9.elim)
                  have hle0 := hle
                  obtain ⟨rfl, hRn, hkn⟩ := hpo
                  obtain ⟨M_41, hM_41⟩ : ∃ z9 : mw_M, z9 = M9 := ⟨_, rfl⟩
                  rw [← hM_41] at hP hRn hkn
                  have hk := md_keeps.tr hk hkn
                  have hRn : md_R G o A M_41 0 (nI (fSz (fIx st))) (fs_push S1 (((bW S1 y_23) + (bW S1 (fIx x))), (((bH S1 (fIx x)) + (((pV S (fIx st) 13) + ((fAb (pV S (fIx st) 13)) / 4)) + (fHf ((bD S1 y_23) - ((fEx S1 (nI (fIx x))) + ((pV S (fIx st) 13) + ((fAb (pV S (fIx st) 13)) / 4))))))) + (2 * (bH S1 y_23))), (fMx (bD S1 (fIx x)) ((bD S1 y_23) - ((bH S1 (fIx x)) + (((pV S (fIx st) 13) + ((fAb (pV S (fIx st) 13)) / 4)) + (fHf ((bD S1 y_23) - ((fEx S1 (nI (fIx x))) + ((pV S (fIx st) 13) + ((fAb (pV S (fIx st) 13)) / 4))))))))), [], 0, 0)) := hRn
                  obtain ⟨np42, bg42, g42, hT, hB⟩ := id hRn
                  rw [sN_push] at hT
                  have hT : md_at G o A M_41 0 (sSp S1) (sSh S1) (nI (sN S1 + 1)) (nI np42) (nI (fSz (fIx st))) g42 := hT
                  have hle : sN S1 + 1 ≤ 120 := by have := hB.1; rw [sN_push] at this; exact this
                  refine W.eq (g2 := F0 m 309 ls [.int (nI (sN S1))]) rfl ?_
                  refine lv_istore (lv' := [(13, .int (nI (sN S1))), (12, .int ((bH S1 (fIx x)) + (((pV S (fIx st) 13) + ((fAb (pV S (fIx st) 13)) / 4)) + (fHf ((bD S1 y_23) - ((fEx S1 (nI (fIx x))) + ((pV S (fIx st) 13) + ((fAb (pV S (fIx st) 13)) / 4)))))))), (4, .int (((pV S (fIx st) 13) + ((fAb (pV S (fIx st) 13)) / 4)) + (fHf ((bD S1 y_23) - ((fEx S1 (nI (fIx x))) + ((pV S (fIx st) 13) + ((fAb (pV S (fIx st) 13)) / 4))))))), (11, .int ((bD S1 y_23) - ((fEx S1 (nI (fIx x))) + ((pV S (fIx st) 13) + ((fAb (pV S (fIx st) 13)) / 4))))), (10, .int (bD S1 y_23)), (9, .int (bH S1 y_23)), (8, .int (nI y_23)), (7, .int 0), (6, .int (md_pl S (sF S (fIx k)) (ro_l S st x))), (5, .int (ro_l S st x)), (0, .ref o), (1, .int (nI (fIx st))), (2, .int (nI (fIx x))), (3, .int (nI (fIx k)))]) hx hb dX4_root_309 hl (by decide) rfl (fun ls hl => ?_)
                  refine lv_aload_n hx hb dX4_root_311 rfl (lv_at hl 10 rfl) ?_
                  refine lv_iload hx hb dX4_root_312 (lv_at hl 6 rfl) ?_
                  refine lv_iconst (v := 0) hx hb dX4_root_314 (by decide) ?_
                  refine lv_iload hx hb dX4_root_315 (lv_at hl 7 rfl) ?_
                  refine lv_if_eq (tgt := 333) hx hb dX4_root_317 (by decide) (fun c_43 => ?_) (fun c_43 => absurd (by decide) c_43)
                  refine lv_iload hx hb dX4_root_333 (lv_at hl 1 rfl) ?_
                  refine mw_callV (C := RX4) (As := [.int (nI y_23), .int 0, .int ((bH S1 (fIx x)) + (((pV S (fIx st) 13) + ((fAb (pV S (fIx st) 13)) / 4)) + (fHf ((bD S1 y_23) - ((fEx S1 (nI (fIx x))) + ((pV S (fIx st) 13) + ((fAb (pV S (fIx st) 13)) / 4)))))))]) (rest := []) hx hb hml hown hl (kX4_lay l htr G H.size M_41 o A 0 (nI (fSz (fIx st))) S1 ((bW S1 y_23) + (bW S1 (fIx x))) (((bH S1 (fIx x)) + (((pV S (fIx st) 13) + ((fAb (pV S (fIx st) 13)) / 4)) + (fHf ((bD S1 y_23) - ((fEx S1 (nI (fIx x))) + ((pV S (fIx st) 13) + ((fAb (pV S (fIx st) 13)) / 4))))))) + (2 * (bH S1 y_23))) (fMx (bD S1 (fIx x)) ((bD S1 y_23) - ((bH S1 (fIx x)) + (((pV S (fIx st) 13) + ((fAb (pV S (fIx st) 13)) / 4)) + (fHf ((bD S1 y_23) - ((fEx S1 (nI (fIx x))) + ((pV S (fIx st) 13) + ((fAb (pV S (fIx st) 13)) / 4))))))))) ([]) 0 0 (md_R.of (np := np42) hT hB : md_R G o A M_41 0 (nI (fSz (fIx st))) (fs_push S1 (((bW S1 y_23) + (bW S1 (fIx x))), (((bH S1 (fIx x)) + (((pV S (fIx st) 13) + ((fAb (pV S (fIx st) 13)) / 4)) + (fHf ((bD S1 y_23) - ((fEx S1 (nI (fIx x))) + ((pV S (fIx st) 13) + ((fAb (pV S (fIx st) 13)) / 4))))))) + (2 * (bH S1 y_23))), (fMx (bD S1 (fIx x)) ((bD S1 y_23) - ((bH S1 (fIx x)) + (((pV S (fIx st) 13) + ((fAb (pV S (fIx st) 13)) / 4)) + (fHf ((bD S1 y_23) - ((fEx S1 (nI (fIx x))) + ((pV S (fIx st) 13) + ((fAb (pV S (fIx st) 13)) / 4))))))))), [], 0, 0))) (by simp) (nI y_23) 0 ((bH S1 (fIx x)) + (((pV S (fIx st) 13) + ((fAb (pV S (fIx st) 13)) / 4)) + (fHf ((bD S1 y_23) - ((fEx S1 (nI (fIx x))) + ((pV S (fIx st) 13) + ((fAb (pV S (fIx st) 13)) / 4)))))))) (g_B (n := 3) htb wd661 wd3 wd658 (by decide +kernel) ⟨Nat.le_of_ble_eq_true rfl, Nat.le_of_ble_eq_true rfl⟩) (htb _ wd660) (htb _ ws34) hE hP hS hT.1 rfl rfl rfl (Nat.le_of_ble_eq_true rfl) dX4_root_335 ⟨Nat.le_of_ble_eq_true rfl, Nat.le_of_ble_eq_true rfl⟩ (fun v9 M9 H locs hpo hP hz hS => ?_) (fun x9 E9 cell9 H9 locs9 hE9 => hE9.elim)
                  obtain ⟨rfl, hRn, hkn⟩ := hpo
                  obtain ⟨M_44, hM_44⟩ : ∃ z9 : mw_M, z9 = M9 := ⟨_, rfl⟩
                  rw [← hM_44] at hP hRn hkn
                  have hk := md_keeps.tr hk hkn
                  have hRn : md_R G o A M_44 0 (nI (fSz (fIx st))) (fs_push S1 (((bW S1 y_23) + (bW S1 (fIx x))), (((bH S1 (fIx x)) + (((pV S (fIx st) 13) + ((fAb (pV S (fIx st) 13)) / 4)) + (fHf ((bD S1 y_23) - ((fEx S1 (nI (fIx x))) + ((pV S (fIx st) 13) + ((fAb (pV S (fIx st) 13)) / 4))))))) + (2 * (bH S1 y_23))), (fMx (bD S1 (fIx x)) ((bD S1 y_23) - ((bH S1 (fIx x)) + (((pV S (fIx st) 13) + ((fAb (pV S (fIx st) 13)) / 4)) + (fHf ((bD S1 y_23) - ((fEx S1 (nI (fIx x))) + ((pV S (fIx st) 13) + ((fAb (pV S (fIx st) 13)) / 4))))))))), [(nI y_23), 0, ((bH S1 (fIx x)) + (((pV S (fIx st) 13) + ((fAb (pV S (fIx st) 13)) / 4)) + (fHf ((bD S1 y_23) - ((fEx S1 (nI (fIx x))) + ((pV S (fIx st) 13) + ((fAb (pV S (fIx st) 13)) / 4)))))))], 0, 0)) := hRn
                  obtain ⟨np45, bg45, g45, hT, hB⟩ := id hRn
                  rw [sN_push] at hT
                  have hT : md_at G o A M_44 0 (sSp S1) (sSh S1) (nI (sN S1 + 1)) (nI np45) (nI (fSz (fIx st))) g45 := hT
                  refine W.eq (g2 := F0 m 338 ls []) rfl ?_
                  refine lv_aload_n hx hb dX4_root_338 rfl (lv_at hl 10 rfl) ?_
                  refine lv_iload_n hx hb dX4_root_339 rfl (lv_at hl 12 rfl) ?_
                  refine lv_aload_n hx hb dX4_root_340 rfl (lv_at hl 10 rfl) ?_
                  refine mw_get (D := gD G) (ci := 4) (v := .ref (A 1)) (C := RX4) (T := TX4) (N := 21) hx hb htb inX4 hown hK hP hT.1 rfl 5 (by decide) (htb _ wd529) (fun _ h9 => h9) rfl dX4_root_341 ?_
                  refine lv_iload hx hb dX4_root_344 (lv_at hl 6 rfl) ?_
                  refine mw_iald hx hb hK hP 0 (show M_44 (A 1) = some (.inl (gI G, 120, .inl (g45 1))) from hT.2.1 1 (by decide)) rfl (by exact vp_in_nI (show y_23 < 120 by have := hle; omega) (by decide)) dX4_root_346 ?_
                  refine W.eq (g2 := F0 m 347 ls [.int (bW S1 y_23), .int (nI (fIx x)), .ref o]) (by rw [nI_clamp (show y_23 < 2 ^ 31 by have := hle; omega), hB.W (show y_23 < sN (fs_push S1 (((bW S1 y_23) + (bW S1 (fIx x))), (((bH S1 (fIx x)) + (((pV S (fIx st) 13) + ((fAb (pV S (fIx st) 13)) / 4)) + (fHf ((bD S1 y_23) - ((fEx S1 (nI (fIx x))) + ((pV S (fIx st) 13) + ((fAb (pV S (fIx st) 13)) / 4))))))) + (2 * (bH S1 y_23))), (fMx (bD S1 (fIx x)) ((bD S1 y_23) - ((bH S1 (fIx x)) + (((pV S (fIx st) 13) + ((fAb (pV S (fIx st) 13)) / 4)) + (fHf ((bD S1 y_23) - ((fEx S1 (nI (fIx x))) + ((pV S (fIx st) 13) + ((fAb (pV S (fIx st) 13)) / 4))))))))), [(nI y_23), 0, ((bH S1 (fIx x)) + (((pV S (fIx st) 13) + ((fAb (pV S (fIx st) 13)) / 4)) + (fHf ((bD S1 y_23) - ((fEx S1 (nI (fIx x))) + ((pV S (fIx st) 13) + ((fAb (pV S (fIx st) 13)) / 4)))))))], 0, 0)) by rw [sN_push]; omega), bW_push _ h_y_23]) ?_
                  refine lv_iconst (v := 0) hx hb dX4_root_347 (by decide) ?_
                  refine mw_callV (C := RX4) (As := [.int (nI (fIx x)), .int (bW S1 y_23), .int 0]) (rest := []) hx hb hml hown hl (kX4_lay l htr G H.size M_44 o A 0 (nI (fSz (fIx st))) S1 ((bW S1 y_23) + (bW S1 (fIx x))) (((bH S1 (fIx x)) + (((pV S (fIx st) 13) + ((fAb (pV S (fIx st) 13)) / 4)) + (fHf ((bD S1 y_23) - ((fEx S1 (nI (fIx x))) + ((pV S (fIx st) 13) + ((fAb (pV S (fIx st) 13)) / 4))))))) + (2 * (bH S1 y_23))) (fMx (bD S1 (fIx x)) ((bD S1 y_23) - ((bH S1 (fIx x)) + (((pV S (fIx st) 13) + ((fAb (pV S (fIx st) 13)) / 4)) + (fHf ((bD S1 y_23) - ((fEx S1 (nI (fIx x))) + ((pV S (fIx st) 13) + ((fAb (pV S (fIx st) 13)) / 4))))))))) ([(nI y_23), 0, ((bH S1 (fIx x)) + (((pV S (fIx st) 13) + ((fAb (pV S (fIx st) 13)) / 4)) + (fHf ((bD S1 y_23) - ((fEx S1 (nI (fIx x))) + ((pV S (fIx st) 13) + ((fAb (pV S (fIx st) 13)) / 4)))))))]) 0 0 (md_R.of (np := np45) hT hB : md_R G o A M_44 0 (nI (fSz (fIx st))) (fs_push S1 (((bW S1 y_23) + (bW S1 (fIx x))), (((bH S1 (fIx x)) + (((pV S (fIx st) 13) + ((fAb (pV S (fIx st) 13)) / 4)) + (fHf ((bD S1 y_23) - ((fEx S1 (nI (fIx x))) + ((pV S (fIx st) 13) + ((fAb (pV S (fIx st) 13)) / 4))))))) + (2 * (bH S1 y_23))), (fMx (bD S1 (fIx x)) ((bD S1 y_23) - ((bH S1 (fIx x)) + (((pV S (fIx st) 13) + ((fAb (pV S (fIx st) 13)) / 4)) + (fHf ((bD S1 y_23) - ((fEx S1 (nI (fIx x))) + ((pV S (fIx st) 13) + ((fAb (pV S (fIx st) 13)) / 4))))))))), [(nI y_23), 0, ((bH S1 (fIx x)) + (((pV S (fIx st) 13) + ((fAb (pV S (fIx st) 13)) / 4)) + (fHf ((bD S1 y_23) - ((fEx S1 (nI (fIx x))) + ((pV S (fIx st) 13) + ((fAb (pV S (fIx st) 13)) / 4)))))))], 0, 0))) (by simp) (nI (fIx x)) (bW S1 y_23) 0) (g_B (n := 3) htb wd661 wd3 wd658 (by decide +kernel) ⟨Nat.le_of_ble_eq_true rfl, Nat.le_of_ble_eq_true rfl⟩) (htb _ wd660) (htb _ ws34) hE hP hS hT.1 rfl rfl rfl (Nat.le_of_ble_eq_true rfl) dX4_root_348 ⟨Nat.le_of_ble_eq_true rfl, Nat.le_of_ble_eq_true rfl⟩ (fun v9 M9 H locs hpo hP hz hS => ?_) (fun x9 E9 cell9 H9 locs9 hE9 => hE9.elim)
                  obtain ⟨rfl, hRn, hkn⟩ := hpo
                  obtain ⟨M_46, hM_46⟩ : ∃ z9 : mw_M, z9 = M9 := ⟨_, rfl⟩
                  rw [← hM_46] at hP hRn hkn
                  have hk := md_keeps.tr hk hkn
                  have hRn : md_R G o A M_46 0 (nI (fSz (fIx st))) (fs_push S1 (((bW S1 y_23) + (bW S1 (fIx x))), (((bH S1 (fIx x)) + (((pV S (fIx st) 13) + ((fAb (pV S (fIx st) 13)) / 4)) + (fHf ((bD S1 y_23) - ((fEx S1 (nI (fIx x))) + ((pV S (fIx st) 13) + ((fAb (pV S (fIx st) 13)) / 4))))))) + (2 * (bH S1 y_23))), (fMx (bD S1 (fIx x)) ((bD S1 y_23) - ((bH S1 (fIx x)) + (((pV S (fIx st) 13) + ((fAb (pV S (fIx st) 13)) / 4)) + (fHf ((bD S1 y_23) - ((fEx S1 (nI (fIx x))) + ((pV S (fIx st) 13) + ((fAb (pV S (fIx st) 13)) / 4))))))))), [(nI y_23), 0, ((bH S1 (fIx x)) + (((pV S (fIx st) 13) + ((fAb (pV S (fIx st) 13)) / 4)) + (fHf ((bD S1 y_23) - ((fEx S1 (nI (fIx x))) + ((pV S (fIx st) 13) + ((fAb (pV S (fIx st) 13)) / 4))))))), (nI (fIx x)), (bW S1 y_23), 0], 0, 0)) := hRn
                  obtain ⟨np47, bg47, g47, hT, hB⟩ := id hRn
                  rw [sN_push] at hT
                  have hT : md_at G o A M_46 0 (sSp S1) (sSh S1) (nI (sN S1 + 1)) (nI np47) (nI (fSz (fIx st))) g47 := hT
                  refine W.eq (g2 := F0 m 351 ls []) rfl ?_
                  refine lv_aload_n hx hb dX4_root_351 rfl (lv_at hl 10 rfl) ?_
                  refine lv_iconst (v := (-1)) hx hb dX4_root_352 (by decide) ?_
                  refine lv_aload_n hx hb dX4_root_353 rfl (lv_at hl 10 rfl) ?_
                  refine mw_get (D := gD G) (ci := 4) (v := .ref (A 1)) (C := RX4) (T := TX4) (N := 21) hx hb htb inX4 hown hK hP hT.1 rfl 5 (by decide) (htb _ wd529) (fun _ h9 => h9) rfl dX4_root_354 ?_
                  refine lv_iload hx hb dX4_root_357 (lv_at hl 6 rfl) ?_
                  refine mw_iald hx hb hK hP 0 (show M_46 (A 1) = some (.inl (gI G, 120, .inl (g47 1))) from hT.2.1 1 (by decide)) rfl (by exact vp_in_nI (show y_23 < 120 by have := hle; omega) (by decide)) dX4_root_359 ?_
                  refine W.eq (g2 := F0 m 360 ls [.int (bW S1 y_23), .int (-1), .ref o]) (by rw [nI_clamp (show y_23 < 2 ^ 31 by have := hle; omega), hB.W (show y_23 < sN (fs_push S1 (((bW S1 y_23) + (bW S1 (fIx x))), (((bH S1 (fIx x)) + (((pV S (fIx st) 13) + ((fAb (pV S (fIx st) 13)) / 4)) + (fHf ((bD S1 y_23) - ((fEx S1 (nI (fIx x))) + ((pV S (fIx st) 13) + ((fAb (pV S (fIx st) 13)) / 4))))))) + (2 * (bH S1 y_23))), (fMx (bD S1 (fIx x)) ((bD S1 y_23) - ((bH S1 (fIx x)) + (((pV S (fIx st) 13) + ((fAb (pV S (fIx st) 13)) / 4)) + (fHf ((bD S1 y_23) - ((fEx S1 (nI (fIx x))) + ((pV S (fIx st) 13) + ((fAb (pV S (fIx st) 13)) / 4))))))))), [(nI y_23), 0, ((bH S1 (fIx x)) + (((pV S (fIx st) 13) + ((fAb (pV S (fIx st) 13)) / 4)) + (fHf ((bD S1 y_23) - ((fEx S1 (nI (fIx x))) + ((pV S (fIx st) 13) + ((fAb (pV S (fIx st) 13)) / 4))))))), (nI (fIx x)), (bW S1 y_23), 0], 0, 0)) by rw [sN_push]; omega), bW_push _ h_y_23]) ?_
                  refine lv_iload hx hb dX4_root_360 (lv_at hl 1 rfl) ?_
                  refine mw_callV (C := RX4) (As := [.int (-1), .int (bW S1 y_23), .int ((bH S1 (fIx x)) + (((pV S (fIx st) 13) + ((fAb (pV S (fIx st) 13)) / 4)) + (fHf ((bD S1 y_23) - ((fEx S1 (nI (fIx x))) + ((pV S (fIx st) 13) + ((fAb (pV S (fIx st) 13)) / 4)))))))]) (rest := []) hx hb hml hown hl (kX4_lay l htr G H.size M_46 o A 0 (nI (fSz (fIx st))) S1 ((bW S1 y_23) + (bW S1 (fIx x))) (((bH S1 (fIx x)) + (((pV S (fIx st) 13) + ((fAb (pV S (fIx st) 13)) / 4)) + (fHf ((bD S1 y_23) - ((fEx S1 (nI (fIx x))) + ((pV S (fIx st) 13) + ((fAb (pV S (fIx st) 13)) / 4))))))) + (2 * (bH S1 y_23))) (fMx (bD S1 (fIx x)) ((bD S1 y_23) - ((bH S1 (fIx x)) + (((pV S (fIx st) 13) + ((fAb (pV S (fIx st) 13)) / 4)) + (fHf ((bD S1 y_23) - ((fEx S1 (nI (fIx x))) + ((pV S (fIx st) 13) + ((fAb (pV S (fIx st) 13)) / 4))))))))) ([(nI y_23), 0, ((bH S1 (fIx x)) + (((pV S (fIx st) 13) + ((fAb (pV S (fIx st) 13)) / 4)) + (fHf ((bD S1 y_23) - ((fEx S1 (nI (fIx x))) + ((pV S (fIx st) 13) + ((fAb (pV S (fIx st) 13)) / 4))))))), (nI (fIx x)), (bW S1 y_23), 0]) 0 0 (md_R.of (np := np47) hT hB : md_R G o A M_46 0 (nI (fSz (fIx st))) (fs_push S1 (((bW S1 y_23) + (bW S1 (fIx x))), (((bH S1 (fIx x)) + (((pV S (fIx st) 13) + ((fAb (pV S (fIx st) 13)) / 4)) + (fHf ((bD S1 y_23) - ((fEx S1 (nI (fIx x))) + ((pV S (fIx st) 13) + ((fAb (pV S (fIx st) 13)) / 4))))))) + (2 * (bH S1 y_23))), (fMx (bD S1 (fIx x)) ((bD S1 y_23) - ((bH S1 (fIx x)) + (((pV S (fIx st) 13) + ((fAb (pV S (fIx st) 13)) / 4)) + (fHf ((bD S1 y_23) - ((fEx S1 (nI (fIx x))) + ((pV S (fIx st) 13) + ((fAb (pV S (fIx st) 13)) / 4))))))))), [(nI y_23), 0, ((bH S1 (fIx x)) + (((pV S (fIx st) 13) + ((fAb (pV S (fIx st) 13)) / 4)) + (fHf ((bD S1 y_23) - ((fEx S1 (nI (fIx x))) + ((pV S (fIx st) 13) + ((fAb (pV S (fIx st) 13)) / 4))))))), (nI (fIx x)), (bW S1 y_23), 0], 0, 0))) (by simp) (-1) (bW S1 y_23) ((bH S1 (fIx x)) + (((pV S (fIx st) 13) + ((fAb (pV S (fIx st) 13)) / 4)) + (fHf ((bD S1 y_23) - ((fEx S1 (nI (fIx x))) + ((pV S (fIx st) 13) + ((fAb (pV S (fIx st) 13)) / 4)))))))) (g_B (n := 3) htb wd661 wd3 wd658 (by decide +kernel) ⟨Nat.le_of_ble_eq_true rfl, Nat.le_of_ble_eq_true rfl⟩) (htb _ wd660) (htb _ ws34) hE hP hS hT.1 rfl rfl rfl (Nat.le_of_ble_eq_true rfl) dX4_root_362 ⟨Nat.le_of_ble_eq_true rfl, Nat.le_of_ble_eq_true rfl⟩ (fun v9 M9 H locs hpo hP hz hS => ?_) (fun x9 E9 cell9 H9 locs9 hE9 => hE9.elim)
                  obtain ⟨rfl, hRn, hkn⟩ := hpo
                  obtain ⟨M_48, hM_48⟩ : ∃ z9 : mw_M, z9 = M9 := ⟨_, rfl⟩
                  rw [← hM_48] at hP hRn hkn
                  have hk := md_keeps.tr hk hkn
                  have hRn : md_R G o A M_48 0 (nI (fSz (fIx st))) (fs_push S1 (((bW S1 y_23) + (bW S1 (fIx x))), (((bH S1 (fIx x)) + (((pV S (fIx st) 13) + ((fAb (pV S (fIx st) 13)) / 4)) + (fHf ((bD S1 y_23) - ((fEx S1 (nI (fIx x))) + ((pV S (fIx st) 13) + ((fAb (pV S (fIx st) 13)) / 4))))))) + (2 * (bH S1 y_23))), (fMx (bD S1 (fIx x)) ((bD S1 y_23) - ((bH S1 (fIx x)) + (((pV S (fIx st) 13) + ((fAb (pV S (fIx st) 13)) / 4)) + (fHf ((bD S1 y_23) - ((fEx S1 (nI (fIx x))) + ((pV S (fIx st) 13) + ((fAb (pV S (fIx st) 13)) / 4))))))))), [(nI y_23), 0, ((bH S1 (fIx x)) + (((pV S (fIx st) 13) + ((fAb (pV S (fIx st) 13)) / 4)) + (fHf ((bD S1 y_23) - ((fEx S1 (nI (fIx x))) + ((pV S (fIx st) 13) + ((fAb (pV S (fIx st) 13)) / 4))))))), (nI (fIx x)), (bW S1 y_23), 0, (-1), (bW S1 y_23), ((bH S1 (fIx x)) + (((pV S (fIx st) 13) + ((fAb (pV S (fIx st) 13)) / 4)) + (fHf ((bD S1 y_23) - ((fEx S1 (nI (fIx x))) + ((pV S (fIx st) 13) + ((fAb (pV S (fIx st) 13)) / 4)))))))], 0, 0)) := hRn
                  obtain ⟨np49, bg49, g49, hT, hB⟩ := id hRn
                  rw [sN_push] at hT
                  have hT : md_at G o A M_48 0 (sSp S1) (sSh S1) (nI (sN S1 + 1)) (nI np49) (nI (fSz (fIx st))) g49 := hT
                  refine W.eq (g2 := F0 m 365 ls []) rfl ?_
                  refine lv_aload_n hx hb dX4_root_365 rfl (lv_at hl 10 rfl) ?_
                  refine mw_get (D := gD G) (ci := 4) (v := .ref (A 6)) (C := RX4) (T := TX4) (N := 21) hx hb htb inX4 hown hK hP hT.1 rfl 10 (by decide) (htb _ wd534) (fun _ h9 => h9) rfl dX4_root_366 ?_
                  refine lv_iload hx hb dX4_root_369 (lv_at hl 0 rfl) ?_
                  refine lv_aload_n hx hb dX4_root_371 rfl (lv_at hl 10 rfl) ?_
                  refine mw_get (D := gD G) (ci := 4) (v := .ref (A 1)) (C := RX4) (T := TX4) (N := 21) hx hb htb inX4 hown hK hP hT.1 rfl 5 (by decide) (htb _ wd529) (fun _ h9 => h9) rfl dX4_root_372 ?_
                  refine lv_iload_n hx hb dX4_root_375 rfl (lv_at hl 12 rfl) ?_
                  refine mw_iald hx hb hK hP 0 (show M_48 (A 1) = some (.inl (gI G, 120, .inl (g49 1))) from hT.2.1 1 (by decide)) rfl (by exact vp_in_nI (show (fIx x) < 120 by have := hle; omega) (by decide)) dX4_root_376 ?_
                  refine W.eq (g2 := F0 m 377 ls [.int (bW S1 (fIx x)), .int (nI (sN S1)), .ref (A 6)]) (by rw [nI_clamp (show (fIx x) < 2 ^ 31 by have := hle; omega), hB.W (show (fIx x) < sN (fs_push S1 (((bW S1 y_23) + (bW S1 (fIx x))), (((bH S1 (fIx x)) + (((pV S (fIx st) 13) + ((fAb (pV S (fIx st) 13)) / 4)) + (fHf ((bD S1 y_23) - ((fEx S1 (nI (fIx x))) + ((pV S (fIx st) 13) + ((fAb (pV S (fIx st) 13)) / 4))))))) + (2 * (bH S1 y_23))), (fMx (bD S1 (fIx x)) ((bD S1 y_23) - ((bH S1 (fIx x)) + (((pV S (fIx st) 13) + ((fAb (pV S (fIx st) 13)) / 4)) + (fHf ((bD S1 y_23) - ((fEx S1 (nI (fIx x))) + ((pV S (fIx st) 13) + ((fAb (pV S (fIx st) 13)) / 4))))))))), [(nI y_23), 0, ((bH S1 (fIx x)) + (((pV S (fIx st) 13) + ((fAb (pV S (fIx st) 13)) / 4)) + (fHf ((bD S1 y_23) - ((fEx S1 (nI (fIx x))) + ((pV S (fIx st) 13) + ((fAb (pV S (fIx st) 13)) / 4))))))), (nI (fIx x)), (bW S1 y_23), 0, (-1), (bW S1 y_23), ((bH S1 (fIx x)) + (((pV S (fIx st) 13) + ((fAb (pV S (fIx st) 13)) / 4)) + (fHf ((bD S1 y_23) - ((fEx S1 (nI (fIx x))) + ((pV S (fIx st) 13) + ((fAb (pV S (fIx st) 13)) / 4)))))))], 0, 0)) by rw [sN_push]; omega), bW_push _ h_x]) ?_
                  refine mw_iast hx hb hK hP hS 0 (show M_48 (A 6) = some (.inl (gI G, 120, .inl (g49 6))) from hT.2.1 6 (by decide)) (hT.2.2.2.2 6 (by decide)) rfl (by exact vp_in_nI (show (sN S1) < 120 by have := hle; omega) (by decide)) dX4_root_377 (fun H locs hP hS => ?_)
                  rw [nI_clamp (show (sN S1) < 2 ^ 31 by have := hle; omega)] at hP
                  obtain ⟨M_50, hM_50⟩ : ∃ z9 : mw_M, z9 = mw_up M_48 (A 6) (.inl (gI G, 120, .inl (upd (g49 6) (sN S1) (bW S1 (fIx x))))) := ⟨_, rfl⟩
                  have hP : mw_P (gD G) gx_cl M_50 H := by rw [hM_50]; exact hP
                  obtain ⟨g_51, hg_51⟩ : ∃ z9, z9 = ug g49 6 (sN S1) (bW S1 (fIx x)) := ⟨_, rfl⟩
                  have hT : md_at G o A M_50 0 (sSp S1) (sSh S1) (nI (sN S1 + 1)) (nI np49) (nI (fSz (fIx st))) g_51 := by rw [hg_51]; exact md_at.put hT (by decide) rfl rfl hM_50
                  have hk : md_keeps o A M M_50 := md_keeps.arr (j := 6) hk (by decide) hM_50
                  have hB : md_ab np49 bg49 g_51 (fs_push S1 (((bW S1 y_23) + (bW S1 (fIx x))), (((bH S1 (fIx x)) + (((pV S (fIx st) 13) + ((fAb (pV S (fIx st) 13)) / 4)) + (fHf ((bD S1 y_23) - ((fEx S1 (nI (fIx x))) + ((pV S (fIx st) 13) + ((fAb (pV S (fIx st) 13)) / 4))))))) + (2 * (bH S1 y_23))), (fMx (bD S1 (fIx x)) ((bD S1 y_23) - ((bH S1 (fIx x)) + (((pV S (fIx st) 13) + ((fAb (pV S (fIx st) 13)) / 4)) + (fHf ((bD S1 y_23) - ((fEx S1 (nI (fIx x))) + ((pV S (fIx st) 13) + ((fAb (pV S (fIx st) 13)) / 4))))))))), [(nI y_23), 0, ((bH S1 (fIx x)) + (((pV S (fIx st) 13) + ((fAb (pV S (fIx st) 13)) / 4)) + (fHf ((bD S1 y_23) - ((fEx S1 (nI (fIx x))) + ((pV S (fIx st) 13) + ((fAb (pV S (fIx st) 13)) / 4))))))), (nI (fIx x)), (bW S1 y_23), 0, (-1), (bW S1 y_23), ((bH S1 (fIx x)) + (((pV S (fIx st) 13) + ((fAb (pV S (fIx st) 13)) / 4)) + (fHf ((bD S1 y_23) - ((fEx S1 (nI (fIx x))) + ((pV S (fIx st) 13) + ((fAb (pV S (fIx st) 13)) / 4)))))))], (bW S1 (fIx x)), 0)) := by rw [hg_51]; exact md_ab.set6 hB _
                  refine lv_aload_n hx hb dX4_root_378 rfl (lv_at hl 10 rfl) ?_
                  refine mw_get (D := gD G) (ci := 4) (v := .ref (A 7)) (C := RX4) (T := TX4) (N := 21) hx hb htb inX4 hown hK hP hT.1 rfl 11 (by decide) (htb _ wd535) (fun _ h9 => h9) rfl dX4_root_379 ?_
                  refine lv_iload hx hb dX4_root_382 (lv_at hl 0 rfl) ?_
                  refine lv_iload hx hb dX4_root_384 (lv_at hl 5 rfl) ?_
                  refine mw_iast hx hb hK hP hS 0 (show M_50 (A 7) = some (.inl (gI G, 120, .inl (g_51 7))) from hT.2.1 7 (by decide)) (hT.2.2.2.2 7 (by decide)) rfl (by exact vp_in_nI (show (sN S1) < 120 by have := hle; omega) (by decide)) dX4_root_386 (fun H locs hP hS => ?_)
                  rw [nI_clamp (show (sN S1) < 2 ^ 31 by have := hle; omega)] at hP
                  obtain ⟨M_52, hM_52⟩ : ∃ z9 : mw_M, z9 = mw_up M_50 (A 7) (.inl (gI G, 120, .inl (upd (g_51 7) (sN S1) (bH S1 y_23)))) := ⟨_, rfl⟩
                  have hP : mw_P (gD G) gx_cl M_52 H := by rw [hM_52]; exact hP
                  obtain ⟨g_53, hg_53⟩ : ∃ z9, z9 = ug g_51 7 (sN S1) (bH S1 y_23) := ⟨_, rfl⟩
                  have hT : md_at G o A M_52 0 (sSp S1) (sSh S1) (nI (sN S1 + 1)) (nI np49) (nI (fSz (fIx st))) g_53 := by rw [hg_53]; exact md_at.put hT (by decide) rfl rfl hM_52
                  have hk : md_keeps o A M M_52 := md_keeps.arr (j := 7) hk (by decide) hM_52
                  have hB : md_ab np49 bg49 g_53 (fs_push S1 (((bW S1 y_23) + (bW S1 (fIx x))), (((bH S1 (fIx x)) + (((pV S (fIx st) 13) + ((fAb (pV S (fIx st) 13)) / 4)) + (fHf ((bD S1 y_23) - ((fEx S1 (nI (fIx x))) + ((pV S (fIx st) 13) + ((fAb (pV S (fIx st) 13)) / 4))))))) + (2 * (bH S1 y_23))), (fMx (bD S1 (fIx x)) ((bD S1 y_23) - ((bH S1 (fIx x)) + (((pV S (fIx st) 13) + ((fAb (pV S (fIx st) 13)) / 4)) + (fHf ((bD S1 y_23) - ((fEx S1 (nI (fIx x))) + ((pV S (fIx st) 13) + ((fAb (pV S (fIx st) 13)) / 4))))))))), [(nI y_23), 0, ((bH S1 (fIx x)) + (((pV S (fIx st) 13) + ((fAb (pV S (fIx st) 13)) / 4)) + (fHf ((bD S1 y_23) - ((fEx S1 (nI (fIx x))) + ((pV S (fIx st) 13) + ((fAb (pV S (fIx st) 13)) / 4))))))), (nI (fIx x)), (bW S1 y_23), 0, (-1), (bW S1 y_23), ((bH S1 (fIx x)) + (((pV S (fIx st) 13) + ((fAb (pV S (fIx st) 13)) / 4)) + (fHf ((bD S1 y_23) - ((fEx S1 (nI (fIx x))) + ((pV S (fIx st) 13) + ((fAb (pV S (fIx st) 13)) / 4)))))))], (bW S1 (fIx x)), (bH S1 y_23))) := by rw [hg_53]; exact md_ab.set7 hB _
                  refine lv_iload hx hb dX4_root_387 (lv_at hl 0 rfl) ?_
                  have hex : ex_root S st x k = 0 := by rw [ex_root, if_neg (fun z9 => z9 ⟨kb_5, kb_7⟩), if_neg (fun z9 => z9 kb_9), if_neg (fun z9 => z9 kG), if_neg (fun z9 => z9 kb_19)]
                  have hre : re_root S st x k = (((bW S1 y_23) + (bW S1 (fIx x))), (((bH S1 (fIx x)) + (((pV S (fIx st) 13) + ((fAb (pV S (fIx st) 13)) / 4)) + (fHf ((bD S1 y_23) - ((fEx S1 (nI (fIx x))) + ((pV S (fIx st) 13) + ((fAb (pV S (fIx st) 13)) / 4))))))) + (2 * (bH S1 y_23))), (fMx (bD S1 (fIx x)) ((bD S1 y_23) - ((bH S1 (fIx x)) + (((pV S (fIx st) 13) + ((fAb (pV S (fIx st) 13)) / 4)) + (fHf ((bD S1 y_23) - ((fEx S1 (nI (fIx x))) + ((pV S (fIx st) 13) + ((fAb (pV S (fIx st) 13)) / 4))))))))), [(nI y_23), 0, ((bH S1 (fIx x)) + (((pV S (fIx st) 13) + ((fAb (pV S (fIx st) 13)) / 4)) + (fHf ((bD S1 y_23) - ((fEx S1 (nI (fIx x))) + ((pV S (fIx st) 13) + ((fAb (pV S (fIx st) 13)) / 4))))))), (nI (fIx x)), (bW S1 y_23), 0, (-1), (bW S1 y_23), ((bH S1 (fIx x)) + (((pV S (fIx st) 13) + ((fAb (pV S (fIx st) 13)) / 4)) + (fHf ((bD S1 y_23) - ((fEx S1 (nI (fIx x))) + ((pV S (fIx st) 13) + ((fAb (pV S (fIx st) 13)) / 4)))))))], (bW S1 (fIx x)), (bH S1 y_23)) := by rw [re_root, ← hS1, ← ey_23]; simp only [fs_rs, fs_rs1, fs_rs2, fs_rc, if_neg hrd, if_neg c_14, if_neg c_27, if_true, if_false, Int32.add_zero, show ((1 : Int32) = 0) = False from eq_false (by decide), show ((0 : Int32) = 0) = True from eq_true rfl]; try simp only [Int32.add_assoc]
                  exact mx_iret (v := (nI (sN S1))) (M' := M_52) hx hb hr hlocks hP hS ⟨by rw [hex, if_pos rfl, ← hS1], ⟨_, by rw [hex, if_pos rfl, ← hS1, hre]; exact (md_R.of (np := np49) hT hB : md_R G o A M_52 0 (nI (fSz (fIx st))) (fs_push S1 (((bW S1 y_23) + (bW S1 (fIx x))), (((bH S1 (fIx x)) + (((pV S (fIx st) 13) + ((fAb (pV S (fIx st) 13)) / 4)) + (fHf ((bD S1 y_23) - ((fEx S1 (nI (fIx x))) + ((pV S (fIx st) 13) + ((fAb (pV S (fIx st) 13)) / 4))))))) + (2 * (bH S1 y_23))), (fMx (bD S1 (fIx x)) ((bD S1 y_23) - ((bH S1 (fIx x)) + (((pV S (fIx st) 13) + ((fAb (pV S (fIx st) 13)) / 4)) + (fHf ((bD S1 y_23) - ((fEx S1 (nI (fIx x))) + ((pV S (fIx st) 13) + ((fAb (pV S (fIx st) 13)) / 4))))))))), [(nI y_23), 0, ((bH S1 (fIx x)) + (((pV S (fIx st) 13) + ((fAb (pV S (fIx st) 13)) / 4)) + (fHf ((bD S1 y_23) - ((fEx S1 (nI (fIx x))) + ((pV S (fIx st) 13) + ((fAb (pV S (fIx st) 13)) / 4))))))), (nI (fIx x)), (bW S1 y_23), 0, (-1), (bW S1 y_23), ((bH S1 (fIx x)) + (((pV S (fIx st) 13) + ((fAb (pV S (fIx st) 13)) / 4)) + (fHf ((bD S1 y_23) - ((fEx S1 (nI (fIx x))) + ((pV S (fIx st) 13) + ((fAb (pV S (fIx st) 13)) / 4)))))))], (bW S1 (fIx x)), (bH S1 y_23))))⟩, hk⟩ dX4_root_389 (Nat.le_of_ble_eq_true rfl) (Nat.le_of_ble_eq_true rfl)
              · have kb_54 : ¬ rmk S ((if ro_r S st x k = (-1) then 1 else 0) + 1) := by rw [if_neg hrd, show (0 : Int32) + 1 = 1 from rfl]; exact fun z9 => z9 (Int32.not_le.mp c_18)
                refine lv_iconst (v := 4) hx hb dX4_root_158 (by decide) ?_
                refine lv_goto (tgt := 163) hx hb dX4_root_159 (by decide) ?_
                refine mw_put (D := gD G) (ci := 4) (v := .int 4) (ty := .int) (C := RX4) (T := TX4) (N := 21) hx hb htb inX4 tyX4 tyX4_ok nmX4 hown hK hP hS hT.1 hT.2.2.2.1 rfl 0 (by decide) (htb _ wd524) (fun _ h9 => h9) rfl (by decide +kernel) rfl rfl (Nat.le_of_ble_eq_true rfl) dX4_root_163 (fun H locs hP hS => ?_)
                obtain ⟨M_55, hM_55⟩ : ∃ z9 : mw_M, z9 = mw_up M_12 o (.inr (4, [.int 4, .ref (A 0), .int (sSp S), .int (sSh S), .int (nI (sN S)), .ref (A 1), .ref (A 2), .ref (A 3), .ref (A 4), .ref (A 5), .ref (A 6), .ref (A 7), .int (nI np13), .ref (A 8), .ref (A 9), .ref (A 10), .ref (A 11), .ref (A 12), .ref (A 13), .ref (A 14), .int (nI (fSz (fIx st)))])) := ⟨_, rfl⟩
                have hP : mw_P (gD G) gx_cl M_55 H := by rw [hM_55]; exact hP
                have hT : md_at G o A M_55 4 (sSp S) (sSh S) (nI (sN S)) (nI np13) (nI (fSz (fIx st))) g13 := md_at.fld hT hM_55
                have hk : md_keeps o A M M_55 := md_keeps.fld hk hM_55
                refine lv_aload_n hx hb dX4_root_166 rfl (lv_at hl 4 rfl) ?_
                refine mw_get (D := gD G) (ci := 4) (v := .int 4) (C := RX4) (T := TX4) (N := 21) hx hb htb inX4 hown hK hP hT.1 rfl 0 (by decide) (htb _ wd524) (fun _ h9 => h9) rfl dX4_root_167 ?_
                refine lv_if_le (tgt := 175) hx hb dX4_root_170 (by decide) (fun c_56 => absurd c_56 (by decide)) (fun c_56 => ?_)
                refine lv_iconst (v := 0) hx hb dX4_root_173 (by decide) ?_
                have hex : ex_root S st x k = 4 := by rw [ex_root, if_neg (fun z9 => z9 ⟨kb_5, kb_7⟩), if_neg (fun z9 => z9 kb_9), if_neg (fun z9 => z9 kG), if_pos (fun z9 => kb_54 z9)]
                exact mx_iret (v := 0) (M' := M_55) hx hb hr hlocks hP hS ⟨by rw [hex]; rfl, ⟨_, by rw [hex]; exact (⟨np13, bg13, g13, hT, hB⟩ : md_R G o A M_55 4 (nI (fSz (fIx st))) S)⟩, hk⟩ dX4_root_174 (Nat.le_of_ble_eq_true rfl) (Nat.le_of_ble_eq_true rfl)
            · have kG : ¬ isG S (fIx k) := fun z9 => z9 ((pl_2 hle o1 o2).mp c_16)
              refine lv_iconst (v := 3) hx hb dX4_root_134 (by decide) ?_
              refine lv_goto (tgt := 163) hx hb dX4_root_135 (by decide) ?_
              refine mw_put (D := gD G) (ci := 4) (v := .int 3) (ty := .int) (C := RX4) (T := TX4) (N := 21) hx hb htb inX4 tyX4 tyX4_ok nmX4 hown hK hP hS hT.1 hT.2.2.2.1 rfl 0 (by decide) (htb _ wd524) (fun _ h9 => h9) rfl (by decide +kernel) rfl rfl (Nat.le_of_ble_eq_true rfl) dX4_root_163 (fun H locs hP hS => ?_)
              obtain ⟨M_57, hM_57⟩ : ∃ z9 : mw_M, z9 = mw_up M_12 o (.inr (4, [.int 3, .ref (A 0), .int (sSp S), .int (sSh S), .int (nI (sN S)), .ref (A 1), .ref (A 2), .ref (A 3), .ref (A 4), .ref (A 5), .ref (A 6), .ref (A 7), .int (nI np13), .ref (A 8), .ref (A 9), .ref (A 10), .ref (A 11), .ref (A 12), .ref (A 13), .ref (A 14), .int (nI (fSz (fIx st)))])) := ⟨_, rfl⟩
              have hP : mw_P (gD G) gx_cl M_57 H := by rw [hM_57]; exact hP
              have hT : md_at G o A M_57 3 (sSp S) (sSh S) (nI (sN S)) (nI np13) (nI (fSz (fIx st))) g13 := md_at.fld hT hM_57
              have hk : md_keeps o A M M_57 := md_keeps.fld hk hM_57
              refine lv_aload_n hx hb dX4_root_166 rfl (lv_at hl 4 rfl) ?_
              refine mw_get (D := gD G) (ci := 4) (v := .int 3) (C := RX4) (T := TX4) (N := 21) hx hb htb inX4 hown hK hP hT.1 rfl 0 (by decide) (htb _ wd524) (fun _ h9 => h9) rfl dX4_root_167 ?_
              refine lv_if_le (tgt := 175) hx hb dX4_root_170 (by decide) (fun c_58 => absurd c_58 (by decide)) (fun c_58 => ?_)
              refine lv_iconst (v := 0) hx hb dX4_root_173 (by decide) ?_
              have hex : ex_root S st x k = 3 := by rw [ex_root, if_neg (fun z9 => z9 ⟨kb_5, kb_7⟩), if_neg (fun z9 => z9 kb_9), if_pos (fun z9 => kG z9)]
              exact mx_iret (v := 0) (M' := M_57) hx hb hr hlocks hP hS ⟨by rw [hex]; rfl, ⟨_, by rw [hex]; exact (⟨np13, bg13, g13, hT, hB⟩ : md_R G o A M_57 3 (nI (fSz (fIx st))) S)⟩, hk⟩ dX4_root_174 (Nat.le_of_ble_eq_true rfl) (Nat.le_of_ble_eq_true rfl)
          · obtain ⟨kG, hrd⟩ := pl_3g hle o1 o2 c_15
            have hrd : ro_r S st x k = (-1) := hrd
            refine lv_iconst (v := 1) hx hb dX4_root_119 (by decide) ?_
            refine lv_goto (tgt := 124) hx hb dX4_root_120 (by decide) ?_
            refine lv_istore (lv' := [(7, .int 1), (6, .int (md_pl S (sF S (fIx k)) (ro_l S st x))), (5, .int (ro_l S st x)), (4, .int ((pV S (fIx st) 13) + ((fAb (pV S (fIx st) 13)) / 4))), (0, .ref o), (1, .int (nI (fIx st))), (2, .int (nI (fIx x))), (3, .int (nI (fIx k)))]) hx hb dX4_root_124 hl (by decide) rfl (fun ls hl => ?_)
            refine lv_aload_n hx hb dX4_root_126 rfl (lv_at hl 4 rfl) ?_
            refine lv_iload hx hb dX4_root_127 (lv_at hl 1 rfl) ?_
            refine lv_bipush (v := (-2)) hx hb dX4_root_129 (by decide) ?_
            refine lv_icmp_ne (tgt := 138) hx hb dX4_root_131 (by decide) (fun c_59 => ?_) (fun c_59 => absurd c_59 (fun z9 => absurd (c_15.symm.trans z9) (by decide)))
            refine lv_aload_n hx hb dX4_root_138 rfl (lv_at hl 4 rfl) ?_
            refine mw_get (D := gD G) (ci := 4) (v := .int (nI (sN S))) (C := RX4) (T := TX4) (N := 21) hx hb htb inX4 hown hK hP hT.1 rfl 4 (by decide) (htb _ wd528) (fun _ h9 => h9) rfl dX4_root_139 ?_
            refine lv_iload hx hb dX4_root_142 (lv_at hl 0 rfl) ?_
            refine lv_if_eq (tgt := 151) hx hb dX4_root_144 (by decide) (fun c_60 => absurd c_60 (by decide)) (fun c_60 => ?_)
            refine lv_iconst (v := 2) hx hb dX4_root_147 (by decide) ?_
            refine lv_goto (tgt := 152) hx hb dX4_root_148 (by decide) ?_
            refine lv_iadd hx hb dX4_root_152 ?_
            refine lv_bipush (v := 120) hx hb dX4_root_153 (by decide) ?_
            refine lv_icmp_le (tgt := 162) hx hb dX4_root_155 (by decide) (fun c_61 => ?_) (fun c_61 => ?_)
            · have kb_62 : rmk S ((if ro_r S st x k = (-1) then 1 else 0) + 1) := by rw [if_pos hrd, show (1 : Int32) + 1 = 2 from rfl]; exact Int32.not_lt.mpr c_61
              have hrm : sN S + 2 ≤ 120 := rmk_le (n := 2) (by decide) hle (Int32.not_lt.mpr c_61)
              refine lv_iconst (v := 0) hx hb dX4_root_162 (by decide) ?_
              refine mw_put (D := gD G) (ci := 4) (v := .int 0) (ty := .int) (C := RX4) (T := TX4) (N := 21) hx hb htb inX4 tyX4 tyX4_ok nmX4 hown hK hP hS hT.1 hT.2.2.2.1 rfl 0 (by decide) (htb _ wd524) (fun _ h9 => h9) rfl (by decide +kernel) rfl rfl (Nat.le_of_ble_eq_true rfl) dX4_root_163 (fun H locs hP hS => ?_)
              obtain ⟨M_63, hM_63⟩ : ∃ z9 : mw_M, z9 = mw_up M_12 o (.inr (4, [.int 0, .ref (A 0), .int (sSp S), .int (sSh S), .int (nI (sN S)), .ref (A 1), .ref (A 2), .ref (A 3), .ref (A 4), .ref (A 5), .ref (A 6), .ref (A 7), .int (nI np13), .ref (A 8), .ref (A 9), .ref (A 10), .ref (A 11), .ref (A 12), .ref (A 13), .ref (A 14), .int (nI (fSz (fIx st)))])) := ⟨_, rfl⟩
              have hP : mw_P (gD G) gx_cl M_63 H := by rw [hM_63]; exact hP
              have hT : md_at G o A M_63 0 (sSp S) (sSh S) (nI (sN S)) (nI np13) (nI (fSz (fIx st))) g13 := md_at.fld hT hM_63
              have hk : md_keeps o A M M_63 := md_keeps.fld hk hM_63
              refine lv_aload_n hx hb dX4_root_166 rfl (lv_at hl 4 rfl) ?_
              refine mw_get (D := gD G) (ci := 4) (v := .int 0) (C := RX4) (T := TX4) (N := 21) hx hb htb inX4 hown hK hP hT.1 rfl 0 (by decide) (htb _ wd524) (fun _ h9 => h9) rfl dX4_root_167 ?_
              refine lv_if_le (tgt := 175) hx hb dX4_root_170 (by decide) (fun c_64 => ?_) (fun c_64 => absurd (by decide) c_64)
              refine lv_aload_n hx hb dX4_root_175 rfl (lv_at hl 4 rfl) ?_
              refine lv_iload_n hx hb dX4_root_176 rfl (lv_at hl 7 rfl) ?_
              refine lv_iload hx hb dX4_root_177 (lv_at hl 2 rfl) ?_
              refine mw_callV (C := RX4) (As := [.int (nI (fIx k)), .int (ro_l S st x)]) (rest := []) hx hb hml hown hl (kX4_signBy l htr G H.size M_63 o A 0 (nI (fSz (fIx st))) S (⟨np13, bg13, g13, hT, hB⟩ : md_R G o A M_63 0 (nI (fSz (fIx st))) S) hok (fIx k) h_k (ro_l S st x) kG (fun z9 => by omega)) (g_B (n := 2) htb wd649 wd3 wd646 (by decide +kernel) ⟨Nat.le_of_ble_eq_true rfl, Nat.le_of_ble_eq_true rfl⟩) (htb _ wd648) (htb _ ws31) hE hP hS hT.1 rfl rfl rfl (Nat.le_of_ble_eq_true rfl) dX4_root_179 ⟨Nat.le_of_ble_eq_true rfl, Nat.le_of_ble_eq_true rfl⟩ (fun v9 M9 H locs hpo hP hz hS => ?_) (fun x9 E9 cell9 H9 locs9 hE9 => hE9.elim)
              obtain ⟨rfl, hRn, hkn⟩ := hpo
              obtain ⟨M_65, hM_65⟩ : ∃ z9 : mw_M, z9 = M9 := ⟨_, rfl⟩
              rw [← hM_65] at hP hRn hkn
              have hk := md_keeps.tr hk hkn
              obtain ⟨S1, hS1⟩ : ∃ z9, z9 = ro_S S st x k := ⟨_, rfl⟩
              have hRn : md_R G o A M_65 0 (nI (fSz (fIx st))) S1 := by rw [hS1]; exact hRn
              obtain ⟨hy1, hy2⟩ := kt_in (sF S (fIx k)) (ro_l S st x) hle (fs_rd_on (ro_l S st x) o2)
              obtain ⟨y_66, ey_66⟩ : ∃ z9, z9 = fIx (kt_y S (ro_r S st x k)) := ⟨_, rfl⟩
              have h_y_66 : y_66 < sN S1 := by rw [ey_66, hS1]; exact hy1
              have hy3 : kt_y S (fs_rd S (sF S (fIx k)) (ro_l S st x)) = nI y_66 := by rw [ey_66]; exact hy2
              have hle1 : sN S ≤ sN S1 := by rw [hS1]; exact kt_le _ _ _ _
              have h_x := Nat.lt_of_lt_of_le h_x hle1
              obtain ⟨np67, bg67, g67, hT, hB⟩ := id hRn
              have hle0 := hle
              have hle : sN S1 ≤ 120 := hB.1
              refine W.eq (g2 := F0 m 182 ls [.int (nI y_66)]) (show F0 m 182 ls [.int (kt_y S (fs_rd S (sF S (fIx k)) (ro_l S st x)))] = F0 m 182 ls [.int (nI y_66)] from by rw [hy3]) ?_
              refine lv_istore (lv' := [(8, .int (nI y_66)), (7, .int 1), (6, .int (md_pl S (sF S (fIx k)) (ro_l S st x))), (5, .int (ro_l S st x)), (4, .int ((pV S (fIx st) 13) + ((fAb (pV S (fIx st) 13)) / 4))), (0, .ref o), (1, .int (nI (fIx st))), (2, .int (nI (fIx x))), (3, .int (nI (fIx k)))]) hx hb dX4_root_182 hl (by decide) rfl (fun ls hl => ?_)
              refine lv_iload hx hb dX4_root_184 (lv_at hl 1 rfl) ?_
              refine lv_if_eq (tgt := 193) hx hb dX4_root_186 (by decide) (fun c_68 => absurd c_68 (by decide)) (fun c_68 => ?_)
              refine lv_iconst (v := 0) hx hb dX4_root_189 (by decide) ?_
              refine lv_goto (tgt := 200) hx hb dX4_root_190 (by decide) ?_
              refine lv_istore (lv' := [(9, .int 0), (8, .int (nI y_66)), (7, .int 1), (6, .int (md_pl S (sF S (fIx k)) (ro_l S st x))), (5, .int (ro_l S st x)), (4, .int ((pV S (fIx st) 13) + ((fAb (pV S (fIx st) 13)) / 4))), (0, .ref o), (1, .int (nI (fIx st))), (2, .int (nI (fIx x))), (3, .int (nI (fIx k)))]) hx hb dX4_root_200 hl (by decide) rfl (fun ls hl => ?_)
              refine lv_iload hx hb dX4_root_202 (lv_at hl 2 rfl) ?_
              refine lv_if_eq (tgt := 217) hx hb dX4_root_204 (by decide) (fun c_69 => absurd c_69 (by decide)) (fun c_69 => ?_)
              refine lv_aload_n hx hb dX4_root_207 rfl (lv_at hl 6 rfl) ?_
              refine mw_get (D := gD G) (ci := 4) (v := .ref (A 2)) (C := RX4) (T := TX4) (N := 21) hx hb htb inX4 hown hK hP hT.1 rfl 6 (by decide) (htb _ wd530) (fun _ h9 => h9) rfl dX4_root_208 ?_
              refine lv_iload hx hb dX4_root_211 (lv_at hl 1 rfl) ?_
              refine mw_iald hx hb hK hP 0 (show M_65 (A 2) = some (.inl (gI G, 120, .inl (g67 2))) from hT.2.1 2 (by decide)) rfl (by exact vp_in_nI (show y_66 < 120 by have := hle; omega) (by decide)) dX4_root_213 ?_
              refine W.eq (g2 := F0 m 214 ls [.int (bH S1 y_66)]) (by rw [nI_clamp (show y_66 < 2 ^ 31 by have := hle; omega), hB.H h_y_66]) ?_
              refine lv_goto (tgt := 224) hx hb dX4_root_214 (by decide) ?_
              refine lv_istore (lv' := [(10, .int (bH S1 y_66)), (9, .int 0), (8, .int (nI y_66)), (7, .int 1), (6, .int (md_pl S (sF S (fIx k)) (ro_l S st x))), (5, .int (ro_l S st x)), (4, .int ((pV S (fIx st) 13) + ((fAb (pV S (fIx st) 13)) / 4))), (0, .ref o), (1, .int (nI (fIx st))), (2, .int (nI (fIx x))), (3, .int (nI (fIx k)))]) hx hb dX4_root_224 hl (by decide) rfl (fun ls hl => ?_)
              refine lv_iload hx hb dX4_root_226 (lv_at hl 0 rfl) ?_
              refine lv_aload_n hx hb dX4_root_228 rfl (lv_at hl 7 rfl) ?_
              refine lv_iload_n hx hb dX4_root_229 rfl (lv_at hl 9 rfl) ?_
              refine mw_callV (C := RX4) (As := [.int (nI (fIx x))]) (rest := [.int (bH S1 y_66)]) hx hb hml hown hl (kX4_tall l htr G H.size M_65 o A 0 (nI (fSz (fIx st))) S1 (⟨np67, bg67, g67, hT, hB⟩ : md_R G o A M_65 0 (nI (fSz (fIx st))) S1) (nI (fIx x)) (Or.inr ⟨(fIx x), h_x, rfl⟩)) (g_B (n := 1) htb wd645 wd3 wd642 (by decide +kernel) ⟨Nat.le_of_ble_eq_true rfl, Nat.le_of_ble_eq_true rfl⟩) (htb _ wd644) (htb _ ws30) hE hP hS hT.1 rfl rfl rfl (Nat.le_of_ble_eq_true rfl) dX4_root_230 ⟨Nat.le_of_ble_eq_true rfl, Nat.le_of_ble_eq_true rfl⟩ (fun v9 M9 H locs hpo hP hz hS => ?_) (fun x9 E9 cell9 H9 locs9 hE9 => hE9.elim)
              obtain ⟨rfl, rfl⟩ := hpo
              refine W.eq (g2 := F0 m 233 ls [.int (fEx S1 (nI (fIx x))), .int (bH S1 y_66)]) rfl ?_
              refine lv_iload hx hb dX4_root_233 (lv_at hl 6 rfl) ?_
              refine lv_iadd hx hb dX4_root_235 ?_
              refine lv_isub hx hb dX4_root_236 ?_
              refine lv_istore (lv' := [(11, .int ((bH S1 y_66) - ((fEx S1 (nI (fIx x))) + ((pV S (fIx st) 13) + ((fAb (pV S (fIx st) 13)) / 4))))), (10, .int (bH S1 y_66)), (9, .int 0), (8, .int (nI y_66)), (7, .int 1), (6, .int (md_pl S (sF S (fIx k)) (ro_l S st x))), (5, .int (ro_l S st x)), (4, .int ((pV S (fIx st) 13) + ((fAb (pV S (fIx st) 13)) / 4))), (0, .ref o), (1, .int (nI (fIx st))), (2, .int (nI (fIx x))), (3, .int (nI (fIx k)))]) hx hb dX4_root_237 hl (by decide) rfl (fun ls hl => ?_)
              refine lv_iload hx hb dX4_root_239 (lv_at hl 0 rfl) ?_
              refine lv_if_le (tgt := 255) hx hb dX4_root_241 (by decide) (fun c_70 => ?_) (fun c_70 => ?_)
              · refine lv_iload hx hb dX4_root_255 (lv_at hl 7 rfl) ?_
                refine lv_istore (lv' := [(4, .int ((pV S (fIx st) 13) + ((fAb (pV S (fIx st) 13)) / 4))), (11, .int ((bH S1 y_66) - ((fEx S1 (nI (fIx x))) + ((pV S (fIx st) 13) + ((fAb (pV S (fIx st) 13)) / 4))))), (10, .int (bH S1 y_66)), (9, .int 0), (8, .int (nI y_66)), (7, .int 1), (6, .int (md_pl S (sF S (fIx k)) (ro_l S st x))), (5, .int (ro_l S st x)), (0, .ref o), (1, .int (nI (fIx st))), (2, .int (nI (fIx x))), (3, .int (nI (fIx k)))]) hx hb dX4_root_257 hl (by decide) rfl (fun ls hl => ?_)
                refine lv_aload_n hx hb dX4_root_259 rfl (lv_at hl 8 rfl) ?_
                refine mw_get (D := gD G) (ci := 4) (v := .ref (A 2)) (C := RX4) (T := TX4) (N := 21) hx hb htb inX4 hown hK hP hT.1 rfl 6 (by decide) (htb _ wd530) (fun _ h9 => h9) rfl dX4_root_260 ?_
                refine lv_iload_n hx hb dX4_root_263 rfl (lv_at hl 10 rfl) ?_
                refine mw_iald hx hb hK hP 0 (show M_65 (A 2) = some (.inl (gI G, 120, .inl (g67 2))) from hT.2.1 2 (by decide)) rfl (by exact vp_in_nI (show (fIx x) < 120 by have := hle; omega) (by decide)) dX4_root_264 ?_
                refine W.eq (g2 := F0 m 265 ls [.int (bH S1 (fIx x))]) (by rw [nI_clamp (show (fIx x) < 2 ^ 31 by have := hle; omega), hB.H h_x]) ?_
                refine lv_iload hx hb dX4_root_265 (lv_at hl 0 rfl) ?_
                refine lv_iadd hx hb dX4_root_267 ?_
                refine lv_istore (lv' := [(12, .int ((bH S1 (fIx x)) + ((pV S (fIx st) 13) + ((fAb (pV S (fIx st) 13)) / 4)))), (4, .int ((pV S (fIx st) 13) + ((fAb (pV S (fIx st) 13)) / 4))), (11, .int ((bH S1 y_66) - ((fEx S1 (nI (fIx x))) + ((pV S (fIx st) 13) + ((fAb (pV S (fIx st) 13)) / 4))))), (10, .int (bH S1 y_66)), (9, .int 0), (8, .int (nI y_66)), (7, .int 1), (6, .int (md_pl S (sF S (fIx k)) (ro_l S st x))), (5, .int (ro_l S st x)), (0, .ref o), (1, .int (nI (fIx st))), (2, .int (nI (fIx x))), (3, .int (nI (fIx k)))]) hx hb dX4_root_268 hl (by decide) rfl (fun ls hl => ?_)
                refine lv_aload_n hx hb dX4_root_270 rfl (lv_at hl 9 rfl) ?_
                refine lv_aload_n hx hb dX4_root_271 rfl (lv_at hl 9 rfl) ?_
                refine mw_get (D := gD G) (ci := 4) (v := .ref (A 1)) (C := RX4) (T := TX4) (N := 21) hx hb htb inX4 hown hK hP hT.1 rfl 5 (by decide) (htb _ wd529) (fun _ h9 => h9) rfl dX4_root_272 ?_
                refine lv_iload hx hb dX4_root_275 (lv_at hl 5 rfl) ?_
                refine mw_iald hx hb hK hP 0 (show M_65 (A 1) = some (.inl (gI G, 120, .inl (g67 1))) from hT.2.1 1 (by decide)) rfl (by exact vp_in_nI (show y_66 < 120 by have := hle; omega) (by decide)) dX4_root_277 ?_
                refine W.eq (g2 := F0 m 278 ls [.int (bW S1 y_66), .ref o]) (by rw [nI_clamp (show y_66 < 2 ^ 31 by have := hle; omega), hB.W h_y_66]) ?_
                refine lv_aload_n hx hb dX4_root_278 rfl (lv_at hl 9 rfl) ?_
                refine mw_get (D := gD G) (ci := 4) (v := .ref (A 1)) (C := RX4) (T := TX4) (N := 21) hx hb htb inX4 hown hK hP hT.1 rfl 5 (by decide) (htb _ wd529) (fun _ h9 => h9) rfl dX4_root_279 ?_
                refine lv_iload_n hx hb dX4_root_282 rfl (lv_at hl 11 rfl) ?_
                refine mw_iald hx hb hK hP 0 (show M_65 (A 1) = some (.inl (gI G, 120, .inl (g67 1))) from hT.2.1 1 (by decide)) rfl (by exact vp_in_nI (show (fIx x) < 120 by have := hle; omega) (by decide)) dX4_root_283 ?_
                refine W.eq (g2 := F0 m 284 ls [.int (bW S1 (fIx x)), .int (bW S1 y_66), .ref o]) (by rw [nI_clamp (show (fIx x) < 2 ^ 31 by have := hle; omega), hB.W h_x]) ?_
                refine lv_iadd hx hb dX4_root_284 ?_
                refine lv_iload hx hb dX4_root_285 (lv_at hl 0 rfl) ?_
                refine lv_iconst (v := 2) hx hb dX4_root_287 (by decide) ?_
                refine lv_iload hx hb dX4_root_288 (lv_at hl 4 rfl) ?_
                refine lv_imul hx hb dX4_root_290 ?_
                refine lv_iadd hx hb dX4_root_291 ?_
                refine lv_aload_n hx hb dX4_root_292 rfl (lv_at hl 9 rfl) ?_
                refine mw_get (D := gD G) (ci := 4) (v := .ref (A 3)) (C := RX4) (T := TX4) (N := 21) hx hb htb inX4 hown hK hP hT.1 rfl 7 (by decide) (htb _ wd531) (fun _ h9 => h9) rfl dX4_root_293 ?_
                refine lv_iload_n hx hb dX4_root_296 rfl (lv_at hl 11 rfl) ?_
                refine mw_iald hx hb hK hP 0 (show M_65 (A 3) = some (.inl (gI G, 120, .inl (g67 3))) from hT.2.1 3 (by decide)) rfl (by exact vp_in_nI (show (fIx x) < 120 by have := hle; omega) (by decide)) dX4_root_297 ?_
                refine W.eq (g2 := F0 m 298 ls [.int (bD S1 (fIx x)), .int (((bH S1 (fIx x)) + ((pV S (fIx st) 13) + ((fAb (pV S (fIx st) 13)) / 4))) + (2 * 0)), .int ((bW S1 y_66) + (bW S1 (fIx x))), .ref o]) (by rw [nI_clamp (show (fIx x) < 2 ^ 31 by have := hle; omega), hB.D h_x]) ?_
                refine lv_iload hx hb dX4_root_298 (lv_at hl 3 rfl) ?_
                refine lv_iload hx hb dX4_root_300 (lv_at hl 0 rfl) ?_
                refine lv_isub hx hb dX4_root_302 ?_
                refine mw_callS (As := [.int (bD S1 (fIx x)), .int ((bH S1 y_66) - ((bH S1 (fIx x)) + ((pV S (fIx st) 13) + ((fAb (pV S (fIx st) 13)) / 4))))]) (rest := [.int (((bH S1 (fIx x)) + ((pV S (fIx st) 13) + ((fAb (pV S (fIx st) 13)) / 4))) + (2 * 0)), .int ((bW S1 y_66) + (bW S1 (fIx x))), .ref o]) hx hb hml hown hl (kX4_greater l htr G H.size M_65 (bD S1 (fIx x)) ((bH S1 y_66) - ((bH S1 (fIx x)) + ((pV S (fIx st) 13) + ((fAb (pV S (fIx st) 13)) / 4))))) (g_B (n := 2) htb wd664 wd3 wd662 (by decide +kernel) ⟨Nat.le_of_ble_eq_true rfl, Nat.le_of_ble_eq_true rfl⟩) (htb _ wd663) hE hP hS rfl rfl (Nat.le_of_ble_eq_true rfl) dX4_root_303 ⟨Nat.le_of_ble_eq_true rfl, Nat.le_of_ble_eq_true rfl⟩ (fun v9 M9 H locs hpo hP hz hS => ?_) (fun x9 E9 cell9 H9 locs9 hE9 => hE9.elim)
                obtain ⟨rfl, rfl⟩ := hpo
                refine W.eq (g2 := F0 m 306 ls [.int (fMx (bD S1 (fIx x)) ((bH S1 y_66) - ((bH S1 (fIx x)) + ((pV S (fIx st) 13) + ((fAb (pV S (fIx st) 13)) / 4))))), .int (((bH S1 (fIx x)) + ((pV S (fIx st) 13) + ((fAb (pV S (fIx st) 13)) / 4))) + (2 * 0)), .int ((bW S1 y_66) + (bW S1 (fIx x))), .ref o]) rfl ?_
                refine mw_callV (C := RX4) (As := [.int ((bW S1 y_66) + (bW S1 (fIx x))), .int (((bH S1 (fIx x)) + ((pV S (fIx st) 13) + ((fAb (pV S (fIx st) 13)) / 4))) + (2 * 0)), .int (fMx (bD S1 (fIx x)) ((bH S1 y_66) - ((bH S1 (fIx x)) + ((pV S (fIx st) 13) + ((fAb (pV S (fIx st) 13)) / 4)))))]) (rest := []) hx hb hml hown hl (kX4_make l htr G H.size M_65 o A 0 (nI (fSz (fIx st))) S1 (⟨np67, bg67, g67, hT, hB⟩ : md_R G o A M_65 0 (nI (fSz (fIx st))) S1) (show sN S1 < 120 from by rw [hS1, ro_S, kt_n, if_pos hrd]; omega) ((bW S1 y_66) + (bW S1 (fIx x))) (((bH S1 (fIx x)) + ((pV S (fIx st) 13) + ((fAb (pV S (fIx st) 13)) / 4))) + (2 * 0)) (fMx (bD S1 (fIx x)) ((bH S1 y_66) - ((bH S1 (fIx x)) + ((pV S (fIx st) 13) + ((fAb (pV S (fIx st) 13)) / 4)))))) (g_B (n := 3) htb wd613 wd3 wd610 (by decide +kernel) ⟨Nat.le_of_ble_eq_true rfl, Nat.le_of_ble_eq_true rfl⟩) (htb _ wd612) (htb _ ws26) hE hP hS hT.1 rfl rfl rfl (Nat.le_of_ble_eq_true rfl) dX4_root_306 ⟨Nat.le_of_ble_eq_true rfl, Nat.le_of_ble_eq_true rfl⟩ (fun v9 M9 H locs hpo hP hz hS => ?_) (fun x9 E9 cell9 H9 locs9 hE9 => hE9.elim)
                have hle0 := hle
                obtain ⟨rfl, hRn, hkn⟩ := hpo
                obtain ⟨M_71, hM_71⟩ : ∃ z9 : mw_M, z9 = M9 := ⟨_, rfl⟩
                rw [← hM_71] at hP hRn hkn
                have hk := md_keeps.tr hk hkn
                have hRn : md_R G o A M_71 0 (nI (fSz (fIx st))) (fs_push S1 (((bW S1 y_66) + (bW S1 (fIx x))), (((bH S1 (fIx x)) + ((pV S (fIx st) 13) + ((fAb (pV S (fIx st) 13)) / 4))) + (2 * 0)), (fMx (bD S1 (fIx x)) ((bH S1 y_66) - ((bH S1 (fIx x)) + ((pV S (fIx st) 13) + ((fAb (pV S (fIx st) 13)) / 4))))), [], 0, 0)) := hRn
                obtain ⟨np72, bg72, g72, hT, hB⟩ := id hRn
                rw [sN_push] at hT
                have hT : md_at G o A M_71 0 (sSp S1) (sSh S1) (nI (sN S1 + 1)) (nI np72) (nI (fSz (fIx st))) g72 := hT
                have hle : sN S1 + 1 ≤ 120 := by have := hB.1; rw [sN_push] at this; exact this
                refine W.eq (g2 := F0 m 309 ls [.int (nI (sN S1))]) rfl ?_
                refine lv_istore (lv' := [(13, .int (nI (sN S1))), (12, .int ((bH S1 (fIx x)) + ((pV S (fIx st) 13) + ((fAb (pV S (fIx st) 13)) / 4)))), (4, .int ((pV S (fIx st) 13) + ((fAb (pV S (fIx st) 13)) / 4))), (11, .int ((bH S1 y_66) - ((fEx S1 (nI (fIx x))) + ((pV S (fIx st) 13) + ((fAb (pV S (fIx st) 13)) / 4))))), (10, .int (bH S1 y_66)), (9, .int 0), (8, .int (nI y_66)), (7, .int 1), (6, .int (md_pl S (sF S (fIx k)) (ro_l S st x))), (5, .int (ro_l S st x)), (0, .ref o), (1, .int (nI (fIx st))), (2, .int (nI (fIx x))), (3, .int (nI (fIx k)))]) hx hb dX4_root_309 hl (by decide) rfl (fun ls hl => ?_)
                refine lv_aload_n hx hb dX4_root_311 rfl (lv_at hl 10 rfl) ?_
                refine lv_iload hx hb dX4_root_312 (lv_at hl 6 rfl) ?_
                refine lv_iconst (v := 0) hx hb dX4_root_314 (by decide) ?_
                refine lv_iload hx hb dX4_root_315 (lv_at hl 7 rfl) ?_
                refine lv_if_eq (tgt := 333) hx hb dX4_root_317 (by decide) (fun c_73 => absurd c_73 (by decide)) (fun c_73 => ?_)
                refine lv_iload hx hb dX4_root_320 (lv_at hl 1 rfl) ?_
                refine lv_aload_n hx hb dX4_root_322 rfl (lv_at hl 10 rfl) ?_
                refine mw_get (D := gD G) (ci := 4) (v := .ref (A 2)) (C := RX4) (T := TX4) (N := 21) hx hb htb inX4 hown hK hP hT.1 rfl 6 (by decide) (htb _ wd530) (fun _ h9 => h9) rfl dX4_root_323 ?_
                refine lv_iload hx hb dX4_root_326 (lv_at hl 6 rfl) ?_
                refine mw_iald hx hb hK hP 0 (show M_71 (A 2) = some (.inl (gI G, 120, .inl (g72 2))) from hT.2.1 2 (by decide)) rfl (by exact vp_in_nI (show y_66 < 120 by have := hle; omega) (by decide)) dX4_root_328 ?_
                refine W.eq (g2 := F0 m 329 ls [.int (bH S1 y_66), .int ((bH S1 (fIx x)) + ((pV S (fIx st) 13) + ((fAb (pV S (fIx st) 13)) / 4))), .int 0, .int (nI y_66), .ref o]) (by rw [nI_clamp (show y_66 < 2 ^ 31 by have := hle; omega), hB.H (show y_66 < sN (fs_push S1 (((bW S1 y_66) + (bW S1 (fIx x))), (((bH S1 (fIx x)) + ((pV S (fIx st) 13) + ((fAb (pV S (fIx st) 13)) / 4))) + (2 * 0)), (fMx (bD S1 (fIx x)) ((bH S1 y_66) - ((bH S1 (fIx x)) + ((pV S (fIx st) 13) + ((fAb (pV S (fIx st) 13)) / 4))))), [], 0, 0)) by rw [sN_push]; omega), bH_push _ h_y_66]) ?_
                refine lv_isub hx hb dX4_root_329 ?_
                refine lv_goto (tgt := 335) hx hb dX4_root_330 (by decide) ?_
                refine mw_callV (C := RX4) (As := [.int (nI y_66), .int 0, .int (((bH S1 (fIx x)) + ((pV S (fIx st) 13) + ((fAb (pV S (fIx st) 13)) / 4))) - (bH S1 y_66))]) (rest := []) hx hb hml hown hl (kX4_lay l htr G H.size M_71 o A 0 (nI (fSz (fIx st))) S1 ((bW S1 y_66) + (bW S1 (fIx x))) (((bH S1 (fIx x)) + ((pV S (fIx st) 13) + ((fAb (pV S (fIx st) 13)) / 4))) + (2 * 0)) (fMx (bD S1 (fIx x)) ((bH S1 y_66) - ((bH S1 (fIx x)) + ((pV S (fIx st) 13) + ((fAb (pV S (fIx st) 13)) / 4))))) ([]) 0 0 (md_R.of (np := np72) hT hB : md_R G o A M_71 0 (nI (fSz (fIx st))) (fs_push S1 (((bW S1 y_66) + (bW S1 (fIx x))), (((bH S1 (fIx x)) + ((pV S (fIx st) 13) + ((fAb (pV S (fIx st) 13)) / 4))) + (2 * 0)), (fMx (bD S1 (fIx x)) ((bH S1 y_66) - ((bH S1 (fIx x)) + ((pV S (fIx st) 13) + ((fAb (pV S (fIx st) 13)) / 4))))), [], 0, 0))) (by simp) (nI y_66) 0 (((bH S1 (fIx x)) + ((pV S (fIx st) 13) + ((fAb (pV S (fIx st) 13)) / 4))) - (bH S1 y_66))) (g_B (n := 3) htb wd661 wd3 wd658 (by decide +kernel) ⟨Nat.le_of_ble_eq_true rfl, Nat.le_of_ble_eq_true rfl⟩) (htb _ wd660) (htb _ ws34) hE hP hS hT.1 rfl rfl rfl (Nat.le_of_ble_eq_true rfl) dX4_root_335 ⟨Nat.le_of_ble_eq_true rfl, Nat.le_of_ble_eq_true rfl⟩ (fun v9 M9 H locs hpo hP hz hS => ?_) (fun x9 E9 cell9 H9 locs9 hE9 => hE9.elim)
                obtain ⟨rfl, hRn, hkn⟩ := hpo
                obtain ⟨M_74, hM_74⟩ : ∃ z9 : mw_M, z9 = M9 := ⟨_, rfl⟩
                rw [← hM_74] at hP hRn hkn
                have hk := md_keeps.tr hk hkn
                have hRn : md_R G o A M_74 0 (nI (fSz (fIx st))) (fs_push S1 (((bW S1 y_66) + (bW S1 (fIx x))), (((bH S1 (fIx x)) + ((pV S (fIx st) 13) + ((fAb (pV S (fIx st) 13)) / 4))) + (2 * 0)), (fMx (bD S1 (fIx x)) ((bH S1 y_66) - ((bH S1 (fIx x)) + ((pV S (fIx st) 13) + ((fAb (pV S (fIx st) 13)) / 4))))), [(nI y_66), 0, (((bH S1 (fIx x)) + ((pV S (fIx st) 13) + ((fAb (pV S (fIx st) 13)) / 4))) - (bH S1 y_66))], 0, 0)) := hRn
                obtain ⟨np75, bg75, g75, hT, hB⟩ := id hRn
                rw [sN_push] at hT
                have hT : md_at G o A M_74 0 (sSp S1) (sSh S1) (nI (sN S1 + 1)) (nI np75) (nI (fSz (fIx st))) g75 := hT
                refine W.eq (g2 := F0 m 338 ls []) rfl ?_
                refine lv_aload_n hx hb dX4_root_338 rfl (lv_at hl 10 rfl) ?_
                refine lv_iload_n hx hb dX4_root_339 rfl (lv_at hl 12 rfl) ?_
                refine lv_aload_n hx hb dX4_root_340 rfl (lv_at hl 10 rfl) ?_
                refine mw_get (D := gD G) (ci := 4) (v := .ref (A 1)) (C := RX4) (T := TX4) (N := 21) hx hb htb inX4 hown hK hP hT.1 rfl 5 (by decide) (htb _ wd529) (fun _ h9 => h9) rfl dX4_root_341 ?_
                refine lv_iload hx hb dX4_root_344 (lv_at hl 6 rfl) ?_
                refine mw_iald hx hb hK hP 0 (show M_74 (A 1) = some (.inl (gI G, 120, .inl (g75 1))) from hT.2.1 1 (by decide)) rfl (by exact vp_in_nI (show y_66 < 120 by have := hle; omega) (by decide)) dX4_root_346 ?_
                refine W.eq (g2 := F0 m 347 ls [.int (bW S1 y_66), .int (nI (fIx x)), .ref o]) (by rw [nI_clamp (show y_66 < 2 ^ 31 by have := hle; omega), hB.W (show y_66 < sN (fs_push S1 (((bW S1 y_66) + (bW S1 (fIx x))), (((bH S1 (fIx x)) + ((pV S (fIx st) 13) + ((fAb (pV S (fIx st) 13)) / 4))) + (2 * 0)), (fMx (bD S1 (fIx x)) ((bH S1 y_66) - ((bH S1 (fIx x)) + ((pV S (fIx st) 13) + ((fAb (pV S (fIx st) 13)) / 4))))), [(nI y_66), 0, (((bH S1 (fIx x)) + ((pV S (fIx st) 13) + ((fAb (pV S (fIx st) 13)) / 4))) - (bH S1 y_66))], 0, 0)) by rw [sN_push]; omega), bW_push _ h_y_66]) ?_
                refine lv_iconst (v := 0) hx hb dX4_root_347 (by decide) ?_
                refine mw_callV (C := RX4) (As := [.int (nI (fIx x)), .int (bW S1 y_66), .int 0]) (rest := []) hx hb hml hown hl (kX4_lay l htr G H.size M_74 o A 0 (nI (fSz (fIx st))) S1 ((bW S1 y_66) + (bW S1 (fIx x))) (((bH S1 (fIx x)) + ((pV S (fIx st) 13) + ((fAb (pV S (fIx st) 13)) / 4))) + (2 * 0)) (fMx (bD S1 (fIx x)) ((bH S1 y_66) - ((bH S1 (fIx x)) + ((pV S (fIx st) 13) + ((fAb (pV S (fIx st) 13)) / 4))))) ([(nI y_66), 0, (((bH S1 (fIx x)) + ((pV S (fIx st) 13) + ((fAb (pV S (fIx st) 13)) / 4))) - (bH S1 y_66))]) 0 0 (md_R.of (np := np75) hT hB : md_R G o A M_74 0 (nI (fSz (fIx st))) (fs_push S1 (((bW S1 y_66) + (bW S1 (fIx x))), (((bH S1 (fIx x)) + ((pV S (fIx st) 13) + ((fAb (pV S (fIx st) 13)) / 4))) + (2 * 0)), (fMx (bD S1 (fIx x)) ((bH S1 y_66) - ((bH S1 (fIx x)) + ((pV S (fIx st) 13) + ((fAb (pV S (fIx st) 13)) / 4))))), [(nI y_66), 0, (((bH S1 (fIx x)) + ((pV S (fIx st) 13) + ((fAb (pV S (fIx st) 13)) / 4))) - (bH S1 y_66))], 0, 0))) (by simp) (nI (fIx x)) (bW S1 y_66) 0) (g_B (n := 3) htb wd661 wd3 wd658 (by decide +kernel) ⟨Nat.le_of_ble_eq_true rfl, Nat.le_of_ble_eq_true rfl⟩) (htb _ wd660) (htb _ ws34) hE hP hS hT.1 rfl rfl rfl (Nat.le_of_ble_eq_true rfl) dX4_root_348 ⟨Nat.le_of_ble_eq_true rfl, Nat.le_of_ble_eq_true rfl⟩ (fun v9 M9 H locs hpo hP hz hS => ?_) (fun x9 E9 cell9 H9 locs9 hE9 => hE9.elim)
                obtain ⟨rfl, hRn, hkn⟩ := hpo
                obtain ⟨M_76, hM_76⟩ : ∃ z9 : mw_M, z9 = M9 := ⟨_, rfl⟩
                rw [← hM_76] at hP hRn hkn
                have hk := md_keeps.tr hk hkn
                have hRn : md_R G o A M_76 0 (nI (fSz (fIx st))) (fs_push S1 (((bW S1 y_66) + (bW S1 (fIx x))), (((bH S1 (fIx x)) + ((pV S (fIx st) 13) + ((fAb (pV S (fIx st) 13)) / 4))) + (2 * 0)), (fMx (bD S1 (fIx x)) ((bH S1 y_66) - ((bH S1 (fIx x)) + ((pV S (fIx st) 13) + ((fAb (pV S (fIx st) 13)) / 4))))), [(nI y_66), 0, (((bH S1 (fIx x)) + ((pV S (fIx st) 13) + ((fAb (pV S (fIx st) 13)) / 4))) - (bH S1 y_66)), (nI (fIx x)), (bW S1 y_66), 0], 0, 0)) := hRn
                obtain ⟨np77, bg77, g77, hT, hB⟩ := id hRn
                rw [sN_push] at hT
                have hT : md_at G o A M_76 0 (sSp S1) (sSh S1) (nI (sN S1 + 1)) (nI np77) (nI (fSz (fIx st))) g77 := hT
                refine W.eq (g2 := F0 m 351 ls []) rfl ?_
                refine lv_aload_n hx hb dX4_root_351 rfl (lv_at hl 10 rfl) ?_
                refine lv_iconst (v := (-1)) hx hb dX4_root_352 (by decide) ?_
                refine lv_aload_n hx hb dX4_root_353 rfl (lv_at hl 10 rfl) ?_
                refine mw_get (D := gD G) (ci := 4) (v := .ref (A 1)) (C := RX4) (T := TX4) (N := 21) hx hb htb inX4 hown hK hP hT.1 rfl 5 (by decide) (htb _ wd529) (fun _ h9 => h9) rfl dX4_root_354 ?_
                refine lv_iload hx hb dX4_root_357 (lv_at hl 6 rfl) ?_
                refine mw_iald hx hb hK hP 0 (show M_76 (A 1) = some (.inl (gI G, 120, .inl (g77 1))) from hT.2.1 1 (by decide)) rfl (by exact vp_in_nI (show y_66 < 120 by have := hle; omega) (by decide)) dX4_root_359 ?_
                refine W.eq (g2 := F0 m 360 ls [.int (bW S1 y_66), .int (-1), .ref o]) (by rw [nI_clamp (show y_66 < 2 ^ 31 by have := hle; omega), hB.W (show y_66 < sN (fs_push S1 (((bW S1 y_66) + (bW S1 (fIx x))), (((bH S1 (fIx x)) + ((pV S (fIx st) 13) + ((fAb (pV S (fIx st) 13)) / 4))) + (2 * 0)), (fMx (bD S1 (fIx x)) ((bH S1 y_66) - ((bH S1 (fIx x)) + ((pV S (fIx st) 13) + ((fAb (pV S (fIx st) 13)) / 4))))), [(nI y_66), 0, (((bH S1 (fIx x)) + ((pV S (fIx st) 13) + ((fAb (pV S (fIx st) 13)) / 4))) - (bH S1 y_66)), (nI (fIx x)), (bW S1 y_66), 0], 0, 0)) by rw [sN_push]; omega), bW_push _ h_y_66]) ?_
                refine lv_iload hx hb dX4_root_360 (lv_at hl 1 rfl) ?_
                refine mw_callV (C := RX4) (As := [.int (-1), .int (bW S1 y_66), .int ((bH S1 (fIx x)) + ((pV S (fIx st) 13) + ((fAb (pV S (fIx st) 13)) / 4)))]) (rest := []) hx hb hml hown hl (kX4_lay l htr G H.size M_76 o A 0 (nI (fSz (fIx st))) S1 ((bW S1 y_66) + (bW S1 (fIx x))) (((bH S1 (fIx x)) + ((pV S (fIx st) 13) + ((fAb (pV S (fIx st) 13)) / 4))) + (2 * 0)) (fMx (bD S1 (fIx x)) ((bH S1 y_66) - ((bH S1 (fIx x)) + ((pV S (fIx st) 13) + ((fAb (pV S (fIx st) 13)) / 4))))) ([(nI y_66), 0, (((bH S1 (fIx x)) + ((pV S (fIx st) 13) + ((fAb (pV S (fIx st) 13)) / 4))) - (bH S1 y_66)), (nI (fIx x)), (bW S1 y_66), 0]) 0 0 (md_R.of (np := np77) hT hB : md_R G o A M_76 0 (nI (fSz (fIx st))) (fs_push S1 (((bW S1 y_66) + (bW S1 (fIx x))), (((bH S1 (fIx x)) + ((pV S (fIx st) 13) + ((fAb (pV S (fIx st) 13)) / 4))) + (2 * 0)), (fMx (bD S1 (fIx x)) ((bH S1 y_66) - ((bH S1 (fIx x)) + ((pV S (fIx st) 13) + ((fAb (pV S (fIx st) 13)) / 4))))), [(nI y_66), 0, (((bH S1 (fIx x)) + ((pV S (fIx st) 13) + ((fAb (pV S (fIx st) 13)) / 4))) - (bH S1 y_66)), (nI (fIx x)), (bW S1 y_66), 0], 0, 0))) (by simp) (-1) (bW S1 y_66) ((bH S1 (fIx x)) + ((pV S (fIx st) 13) + ((fAb (pV S (fIx st) 13)) / 4)))) (g_B (n := 3) htb wd661 wd3 wd658 (by decide +kernel) ⟨Nat.le_of_ble_eq_true rfl, Nat.le_of_ble_eq_true rfl⟩) (htb _ wd660) (htb _ ws34) hE hP hS hT.1 rfl rfl rfl (Nat.le_of_ble_eq_true rfl) dX4_root_362 ⟨Nat.le_of_ble_eq_true rfl, Nat.le_of_ble_eq_true rfl⟩ (fun v9 M9 H locs hpo hP hz hS => ?_) (fun x9 E9 cell9 H9 locs9 hE9 => hE9.elim)
                obtain ⟨rfl, hRn, hkn⟩ := hpo
                obtain ⟨M_78, hM_78⟩ : ∃ z9 : mw_M, z9 = M9 := ⟨_, rfl⟩
                rw [← hM_78] at hP hRn hkn
                have hk := md_keeps.tr hk hkn
                have hRn : md_R G o A M_78 0 (nI (fSz (fIx st))) (fs_push S1 (((bW S1 y_66) + (bW S1 (fIx x))), (((bH S1 (fIx x)) + ((pV S (fIx st) 13) + ((fAb (pV S (fIx st) 13)) / 4))) + (2 * 0)), (fMx (bD S1 (fIx x)) ((bH S1 y_66) - ((bH S1 (fIx x)) + ((pV S (fIx st) 13) + ((fAb (pV S (fIx st) 13)) / 4))))), [(nI y_66), 0, (((bH S1 (fIx x)) + ((pV S (fIx st) 13) + ((fAb (pV S (fIx st) 13)) / 4))) - (bH S1 y_66)), (nI (fIx x)), (bW S1 y_66), 0, (-1), (bW S1 y_66), ((bH S1 (fIx x)) + ((pV S (fIx st) 13) + ((fAb (pV S (fIx st) 13)) / 4)))], 0, 0)) := hRn
                obtain ⟨np79, bg79, g79, hT, hB⟩ := id hRn
                rw [sN_push] at hT
                have hT : md_at G o A M_78 0 (sSp S1) (sSh S1) (nI (sN S1 + 1)) (nI np79) (nI (fSz (fIx st))) g79 := hT
                refine W.eq (g2 := F0 m 365 ls []) rfl ?_
                refine lv_aload_n hx hb dX4_root_365 rfl (lv_at hl 10 rfl) ?_
                refine mw_get (D := gD G) (ci := 4) (v := .ref (A 6)) (C := RX4) (T := TX4) (N := 21) hx hb htb inX4 hown hK hP hT.1 rfl 10 (by decide) (htb _ wd534) (fun _ h9 => h9) rfl dX4_root_366 ?_
                refine lv_iload hx hb dX4_root_369 (lv_at hl 0 rfl) ?_
                refine lv_aload_n hx hb dX4_root_371 rfl (lv_at hl 10 rfl) ?_
                refine mw_get (D := gD G) (ci := 4) (v := .ref (A 1)) (C := RX4) (T := TX4) (N := 21) hx hb htb inX4 hown hK hP hT.1 rfl 5 (by decide) (htb _ wd529) (fun _ h9 => h9) rfl dX4_root_372 ?_
                refine lv_iload_n hx hb dX4_root_375 rfl (lv_at hl 12 rfl) ?_
                refine mw_iald hx hb hK hP 0 (show M_78 (A 1) = some (.inl (gI G, 120, .inl (g79 1))) from hT.2.1 1 (by decide)) rfl (by exact vp_in_nI (show (fIx x) < 120 by have := hle; omega) (by decide)) dX4_root_376 ?_
                refine W.eq (g2 := F0 m 377 ls [.int (bW S1 (fIx x)), .int (nI (sN S1)), .ref (A 6)]) (by rw [nI_clamp (show (fIx x) < 2 ^ 31 by have := hle; omega), hB.W (show (fIx x) < sN (fs_push S1 (((bW S1 y_66) + (bW S1 (fIx x))), (((bH S1 (fIx x)) + ((pV S (fIx st) 13) + ((fAb (pV S (fIx st) 13)) / 4))) + (2 * 0)), (fMx (bD S1 (fIx x)) ((bH S1 y_66) - ((bH S1 (fIx x)) + ((pV S (fIx st) 13) + ((fAb (pV S (fIx st) 13)) / 4))))), [(nI y_66), 0, (((bH S1 (fIx x)) + ((pV S (fIx st) 13) + ((fAb (pV S (fIx st) 13)) / 4))) - (bH S1 y_66)), (nI (fIx x)), (bW S1 y_66), 0, (-1), (bW S1 y_66), ((bH S1 (fIx x)) + ((pV S (fIx st) 13) + ((fAb (pV S (fIx st) 13)) / 4)))], 0, 0)) by rw [sN_push]; omega), bW_push _ h_x]) ?_
                refine mw_iast hx hb hK hP hS 0 (show M_78 (A 6) = some (.inl (gI G, 120, .inl (g79 6))) from hT.2.1 6 (by decide)) (hT.2.2.2.2 6 (by decide)) rfl (by exact vp_in_nI (show (sN S1) < 120 by have := hle; omega) (by decide)) dX4_root_377 (fun H locs hP hS => ?_)
                rw [nI_clamp (show (sN S1) < 2 ^ 31 by have := hle; omega)] at hP
                obtain ⟨M_80, hM_80⟩ : ∃ z9 : mw_M, z9 = mw_up M_78 (A 6) (.inl (gI G, 120, .inl (upd (g79 6) (sN S1) (bW S1 (fIx x))))) := ⟨_, rfl⟩
                have hP : mw_P (gD G) gx_cl M_80 H := by rw [hM_80]; exact hP
                obtain ⟨g_81, hg_81⟩ : ∃ z9, z9 = ug g79 6 (sN S1) (bW S1 (fIx x)) := ⟨_, rfl⟩
                have hT : md_at G o A M_80 0 (sSp S1) (sSh S1) (nI (sN S1 + 1)) (nI np79) (nI (fSz (fIx st))) g_81 := by rw [hg_81]; exact md_at.put hT (by decide) rfl rfl hM_80
                have hk : md_keeps o A M M_80 := md_keeps.arr (j := 6) hk (by decide) hM_80
                have hB : md_ab np79 bg79 g_81 (fs_push S1 (((bW S1 y_66) + (bW S1 (fIx x))), (((bH S1 (fIx x)) + ((pV S (fIx st) 13) + ((fAb (pV S (fIx st) 13)) / 4))) + (2 * 0)), (fMx (bD S1 (fIx x)) ((bH S1 y_66) - ((bH S1 (fIx x)) + ((pV S (fIx st) 13) + ((fAb (pV S (fIx st) 13)) / 4))))), [(nI y_66), 0, (((bH S1 (fIx x)) + ((pV S (fIx st) 13) + ((fAb (pV S (fIx st) 13)) / 4))) - (bH S1 y_66)), (nI (fIx x)), (bW S1 y_66), 0, (-1), (bW S1 y_66), ((bH S1 (fIx x)) + ((pV S (fIx st) 13) + ((fAb (pV S (fIx st) 13)) / 4)))], (bW S1 (fIx x)), 0)) := by rw [hg_81]; exact md_ab.set6 hB _
                refine lv_aload_n hx hb dX4_root_378 rfl (lv_at hl 10 rfl) ?_
                refine mw_get (D := gD G) (ci := 4) (v := .ref (A 7)) (C := RX4) (T := TX4) (N := 21) hx hb htb inX4 hown hK hP hT.1 rfl 11 (by decide) (htb _ wd535) (fun _ h9 => h9) rfl dX4_root_379 ?_
                refine lv_iload hx hb dX4_root_382 (lv_at hl 0 rfl) ?_
                refine lv_iload hx hb dX4_root_384 (lv_at hl 5 rfl) ?_
                refine mw_iast hx hb hK hP hS 0 (show M_80 (A 7) = some (.inl (gI G, 120, .inl (g_81 7))) from hT.2.1 7 (by decide)) (hT.2.2.2.2 7 (by decide)) rfl (by exact vp_in_nI (show (sN S1) < 120 by have := hle; omega) (by decide)) dX4_root_386 (fun H locs hP hS => ?_)
                rw [nI_clamp (show (sN S1) < 2 ^ 31 by have := hle; omega)] at hP
                obtain ⟨M_82, hM_82⟩ : ∃ z9 : mw_M, z9 = mw_up M_80 (A 7) (.inl (gI G, 120, .inl (upd (g_81 7) (sN S1) 0))) := ⟨_, rfl⟩
                have hP : mw_P (gD G) gx_cl M_82 H := by rw [hM_82]; exact hP
                obtain ⟨g_83, hg_83⟩ : ∃ z9, z9 = ug g_81 7 (sN S1) 0 := ⟨_, rfl⟩
                have hT : md_at G o A M_82 0 (sSp S1) (sSh S1) (nI (sN S1 + 1)) (nI np79) (nI (fSz (fIx st))) g_83 := by rw [hg_83]; exact md_at.put hT (by decide) rfl rfl hM_82
                have hk : md_keeps o A M M_82 := md_keeps.arr (j := 7) hk (by decide) hM_82
                have hB : md_ab np79 bg79 g_83 (fs_push S1 (((bW S1 y_66) + (bW S1 (fIx x))), (((bH S1 (fIx x)) + ((pV S (fIx st) 13) + ((fAb (pV S (fIx st) 13)) / 4))) + (2 * 0)), (fMx (bD S1 (fIx x)) ((bH S1 y_66) - ((bH S1 (fIx x)) + ((pV S (fIx st) 13) + ((fAb (pV S (fIx st) 13)) / 4))))), [(nI y_66), 0, (((bH S1 (fIx x)) + ((pV S (fIx st) 13) + ((fAb (pV S (fIx st) 13)) / 4))) - (bH S1 y_66)), (nI (fIx x)), (bW S1 y_66), 0, (-1), (bW S1 y_66), ((bH S1 (fIx x)) + ((pV S (fIx st) 13) + ((fAb (pV S (fIx st) 13)) / 4)))], (bW S1 (fIx x)), 0)) := by rw [hg_83]; exact md_ab.set7 hB _
                refine lv_iload hx hb dX4_root_387 (lv_at hl 0 rfl) ?_
                have hex : ex_root S st x k = 0 := by rw [ex_root, if_neg (fun z9 => z9 ⟨kb_5, kb_7⟩), if_neg (fun z9 => z9 kb_9), if_neg (fun z9 => z9 kG), if_neg (fun z9 => z9 kb_62)]
                have hre : re_root S st x k = (((bW S1 y_66) + (bW S1 (fIx x))), (((bH S1 (fIx x)) + ((pV S (fIx st) 13) + ((fAb (pV S (fIx st) 13)) / 4))) + (2 * 0)), (fMx (bD S1 (fIx x)) ((bH S1 y_66) - ((bH S1 (fIx x)) + ((pV S (fIx st) 13) + ((fAb (pV S (fIx st) 13)) / 4))))), [(nI y_66), 0, (((bH S1 (fIx x)) + ((pV S (fIx st) 13) + ((fAb (pV S (fIx st) 13)) / 4))) - (bH S1 y_66)), (nI (fIx x)), (bW S1 y_66), 0, (-1), (bW S1 y_66), ((bH S1 (fIx x)) + ((pV S (fIx st) 13) + ((fAb (pV S (fIx st) 13)) / 4)))], (bW S1 (fIx x)), 0) := by rw [re_root, ← hS1, ← ey_66]; simp only [fs_rs, fs_rs1, fs_rs2, fs_rc, if_pos hrd, if_neg c_14, if_pos c_70, if_true, if_false, Int32.add_zero, show ((1 : Int32) = 0) = False from eq_false (by decide), show ((0 : Int32) = 0) = True from eq_true rfl]; try simp only [Int32.add_assoc]
                exact mx_iret (v := (nI (sN S1))) (M' := M_82) hx hb hr hlocks hP hS ⟨by rw [hex, if_pos rfl, ← hS1], ⟨_, by rw [hex, if_pos rfl, ← hS1, hre]; exact (md_R.of (np := np79) hT hB : md_R G o A M_82 0 (nI (fSz (fIx st))) (fs_push S1 (((bW S1 y_66) + (bW S1 (fIx x))), (((bH S1 (fIx x)) + ((pV S (fIx st) 13) + ((fAb (pV S (fIx st) 13)) / 4))) + (2 * 0)), (fMx (bD S1 (fIx x)) ((bH S1 y_66) - ((bH S1 (fIx x)) + ((pV S (fIx st) 13) + ((fAb (pV S (fIx st) 13)) / 4))))), [(nI y_66), 0, (((bH S1 (fIx x)) + ((pV S (fIx st) 13) + ((fAb (pV S (fIx st) 13)) / 4))) - (bH S1 y_66)), (nI (fIx x)), (bW S1 y_66), 0, (-1), (bW S1 y_66), ((bH S1 (fIx x)) + ((pV S (fIx st) 13) + ((fAb (pV S (fIx st) 13)) / 4)))], (bW S1 (fIx x)), 0)))⟩, hk⟩ dX4_root_389 (Nat.le_of_ble_eq_true rfl) (Nat.le_of_ble_eq_true rfl)
              · refine lv_iload hx hb dX4_root_244 (lv_at hl 7 rfl) ?_
                refine lv_iload hx hb dX4_root_246 (lv_at hl 0 rfl) ?_
                refine mw_callS (As := [.int ((bH S1 y_66) - ((fEx S1 (nI (fIx x))) + ((pV S (fIx st) 13) + ((fAb (pV S (fIx st) 13)) / 4))))]) (rest := [.int ((pV S (fIx st) 13) + ((fAb (pV S (fIx st) 13)) / 4))]) hx hb hml hown hl (kX4_half l htr G H.size M_65 ((bH S1 y_66) - ((fEx S1 (nI (fIx x))) + ((pV S (fIx st) 13) + ((fAb (pV S (fIx st) 13)) / 4))))) (g_B (n := 1) htb wd682 wd3 wd680 (by decide +kernel) ⟨Nat.le_of_ble_eq_true rfl, Nat.le_of_ble_eq_true rfl⟩) (htb _ wd681) hE hP hS rfl rfl (Nat.le_of_ble_eq_true rfl) dX4_root_248 ⟨Nat.le_of_ble_eq_true rfl, Nat.le_of_ble_eq_true rfl⟩ (fun v9 M9 H locs hpo hP hz hS => ?_) (fun x9 E9 cell9 H9 locs9 hE9 => hE9.elim)
                obtain ⟨rfl, rfl⟩ := hpo
                refine W.eq (g2 := F0 m 251 ls [.int (fHf ((bH S1 y_66) - ((fEx S1 (nI (fIx x))) + ((pV S (fIx st) 13) + ((fAb (pV S (fIx st) 13)) / 4))))), .int ((pV S (fIx st) 13) + ((fAb (pV S (fIx st) 13)) / 4))]) rfl ?_
                refine lv_iadd hx hb dX4_root_251 ?_
                refine lv_goto (tgt := 257) hx hb dX4_root_252 (by decide) ?_
                refine lv_istore (lv' := [(4, .int (((pV S (fIx st) 13) + ((fAb (pV S (fIx st) 13)) / 4)) + (fHf ((bH S1 y_66) - ((fEx S1 (nI (fIx x))) + ((pV S (fIx st) 13) + ((fAb (pV S (fIx st) 13)) / 4))))))), (11, .int ((bH S1 y_66) - ((fEx S1 (nI (fIx x))) + ((pV S (fIx st) 13) + ((fAb (pV S (fIx st) 13)) / 4))))), (10, .int (bH S1 y_66)), (9, .int 0), (8, .int (nI y_66)), (7, .int 1), (6, .int (md_pl S (sF S (fIx k)) (ro_l S st x))), (5, .int (ro_l S st x)), (0, .ref o), (1, .int (nI (fIx st))), (2, .int (nI (fIx x))), (3, .int (nI (fIx k)))]) hx hb dX4_root_257 hl (by decide) rfl (fun ls hl => ?_)
                refine lv_aload_n hx hb dX4_root_259 rfl (lv_at hl 8 rfl) ?_
                refine mw_get (D := gD G) (ci := 4) (v := .ref (A 2)) (C := RX4) (T := TX4) (N := 21) hx hb htb inX4 hown hK hP hT.1 rfl 6 (by decide) (htb _ wd530) (fun _ h9 => h9) rfl dX4_root_260 ?_
                refine lv_iload_n hx hb dX4_root_263 rfl (lv_at hl 10 rfl) ?_
                refine mw_iald hx hb hK hP 0 (show M_65 (A 2) = some (.inl (gI G, 120, .inl (g67 2))) from hT.2.1 2 (by decide)) rfl (by exact vp_in_nI (show (fIx x) < 120 by have := hle; omega) (by decide)) dX4_root_264 ?_
                refine W.eq (g2 := F0 m 265 ls [.int (bH S1 (fIx x))]) (by rw [nI_clamp (show (fIx x) < 2 ^ 31 by have := hle; omega), hB.H h_x]) ?_
                refine lv_iload hx hb dX4_root_265 (lv_at hl 0 rfl) ?_
                refine lv_iadd hx hb dX4_root_267 ?_
                refine lv_istore (lv' := [(12, .int ((bH S1 (fIx x)) + (((pV S (fIx st) 13) + ((fAb (pV S (fIx st) 13)) / 4)) + (fHf ((bH S1 y_66) - ((fEx S1 (nI (fIx x))) + ((pV S (fIx st) 13) + ((fAb (pV S (fIx st) 13)) / 4)))))))), (4, .int (((pV S (fIx st) 13) + ((fAb (pV S (fIx st) 13)) / 4)) + (fHf ((bH S1 y_66) - ((fEx S1 (nI (fIx x))) + ((pV S (fIx st) 13) + ((fAb (pV S (fIx st) 13)) / 4))))))), (11, .int ((bH S1 y_66) - ((fEx S1 (nI (fIx x))) + ((pV S (fIx st) 13) + ((fAb (pV S (fIx st) 13)) / 4))))), (10, .int (bH S1 y_66)), (9, .int 0), (8, .int (nI y_66)), (7, .int 1), (6, .int (md_pl S (sF S (fIx k)) (ro_l S st x))), (5, .int (ro_l S st x)), (0, .ref o), (1, .int (nI (fIx st))), (2, .int (nI (fIx x))), (3, .int (nI (fIx k)))]) hx hb dX4_root_268 hl (by decide) rfl (fun ls hl => ?_)
                refine lv_aload_n hx hb dX4_root_270 rfl (lv_at hl 9 rfl) ?_
                refine lv_aload_n hx hb dX4_root_271 rfl (lv_at hl 9 rfl) ?_
                refine mw_get (D := gD G) (ci := 4) (v := .ref (A 1)) (C := RX4) (T := TX4) (N := 21) hx hb htb inX4 hown hK hP hT.1 rfl 5 (by decide) (htb _ wd529) (fun _ h9 => h9) rfl dX4_root_272 ?_
                refine lv_iload hx hb dX4_root_275 (lv_at hl 5 rfl) ?_
                refine mw_iald hx hb hK hP 0 (show M_65 (A 1) = some (.inl (gI G, 120, .inl (g67 1))) from hT.2.1 1 (by decide)) rfl (by exact vp_in_nI (show y_66 < 120 by have := hle; omega) (by decide)) dX4_root_277 ?_
                refine W.eq (g2 := F0 m 278 ls [.int (bW S1 y_66), .ref o]) (by rw [nI_clamp (show y_66 < 2 ^ 31 by have := hle; omega), hB.W h_y_66]) ?_
                refine lv_aload_n hx hb dX4_root_278 rfl (lv_at hl 9 rfl) ?_
                refine mw_get (D := gD G) (ci := 4) (v := .ref (A 1)) (C := RX4) (T := TX4) (N := 21) hx hb htb inX4 hown hK hP hT.1 rfl 5 (by decide) (htb _ wd529) (fun _ h9 => h9) rfl dX4_root_279 ?_
                refine lv_iload_n hx hb dX4_root_282 rfl (lv_at hl 11 rfl) ?_
                refine mw_iald hx hb hK hP 0 (show M_65 (A 1) = some (.inl (gI G, 120, .inl (g67 1))) from hT.2.1 1 (by decide)) rfl (by exact vp_in_nI (show (fIx x) < 120 by have := hle; omega) (by decide)) dX4_root_283 ?_
                refine W.eq (g2 := F0 m 284 ls [.int (bW S1 (fIx x)), .int (bW S1 y_66), .ref o]) (by rw [nI_clamp (show (fIx x) < 2 ^ 31 by have := hle; omega), hB.W h_x]) ?_
                refine lv_iadd hx hb dX4_root_284 ?_
                refine lv_iload hx hb dX4_root_285 (lv_at hl 0 rfl) ?_
                refine lv_iconst (v := 2) hx hb dX4_root_287 (by decide) ?_
                refine lv_iload hx hb dX4_root_288 (lv_at hl 4 rfl) ?_
                refine lv_imul hx hb dX4_root_290 ?_
                refine lv_iadd hx hb dX4_root_291 ?_
                refine lv_aload_n hx hb dX4_root_292 rfl (lv_at hl 9 rfl) ?_
                refine mw_get (D := gD G) (ci := 4) (v := .ref (A 3)) (C := RX4) (T := TX4) (N := 21) hx hb htb inX4 hown hK hP hT.1 rfl 7 (by decide) (htb _ wd531) (fun _ h9 => h9) rfl dX4_root_293 ?_
                refine lv_iload_n hx hb dX4_root_296 rfl (lv_at hl 11 rfl) ?_
                refine mw_iald hx hb hK hP 0 (show M_65 (A 3) = some (.inl (gI G, 120, .inl (g67 3))) from hT.2.1 3 (by decide)) rfl (by exact vp_in_nI (show (fIx x) < 120 by have := hle; omega) (by decide)) dX4_root_297 ?_
                refine W.eq (g2 := F0 m 298 ls [.int (bD S1 (fIx x)), .int (((bH S1 (fIx x)) + (((pV S (fIx st) 13) + ((fAb (pV S (fIx st) 13)) / 4)) + (fHf ((bH S1 y_66) - ((fEx S1 (nI (fIx x))) + ((pV S (fIx st) 13) + ((fAb (pV S (fIx st) 13)) / 4))))))) + (2 * 0)), .int ((bW S1 y_66) + (bW S1 (fIx x))), .ref o]) (by rw [nI_clamp (show (fIx x) < 2 ^ 31 by have := hle; omega), hB.D h_x]) ?_
                refine lv_iload hx hb dX4_root_298 (lv_at hl 3 rfl) ?_
                refine lv_iload hx hb dX4_root_300 (lv_at hl 0 rfl) ?_
                refine lv_isub hx hb dX4_root_302 ?_
                refine mw_callS (As := [.int (bD S1 (fIx x)), .int ((bH S1 y_66) - ((bH S1 (fIx x)) + (((pV S (fIx st) 13) + ((fAb (pV S (fIx st) 13)) / 4)) + (fHf ((bH S1 y_66) - ((fEx S1 (nI (fIx x))) + ((pV S (fIx st) 13) + ((fAb (pV S (fIx st) 13)) / 4))))))))]) (rest := [.int (((bH S1 (fIx x)) + (((pV S (fIx st) 13) + ((fAb (pV S (fIx st) 13)) / 4)) + (fHf ((bH S1 y_66) - ((fEx S1 (nI (fIx x))) + ((pV S (fIx st) 13) + ((fAb (pV S (fIx st) 13)) / 4))))))) + (2 * 0)), .int ((bW S1 y_66) + (bW S1 (fIx x))), .ref o]) hx hb hml hown hl (kX4_greater l htr G H.size M_65 (bD S1 (fIx x)) ((bH S1 y_66) - ((bH S1 (fIx x)) + (((pV S (fIx st) 13) + ((fAb (pV S (fIx st) 13)) / 4)) + (fHf ((bH S1 y_66) - ((fEx S1 (nI (fIx x))) + ((pV S (fIx st) 13) + ((fAb (pV S (fIx st) 13)) / 4))))))))) (g_B (n := 2) htb wd664 wd3 wd662 (by decide +kernel) ⟨Nat.le_of_ble_eq_true rfl, Nat.le_of_ble_eq_true rfl⟩) (htb _ wd663) hE hP hS rfl rfl (Nat.le_of_ble_eq_true rfl) dX4_root_303 ⟨Nat.le_of_ble_eq_true rfl, Nat.le_of_ble_eq_true rfl⟩ (fun v9 M9 H locs hpo hP hz hS => ?_) (fun x9 E9 cell9 H9 locs9 hE9 => hE9.elim)
                obtain ⟨rfl, rfl⟩ := hpo
                refine W.eq (g2 := F0 m 306 ls [.int (fMx (bD S1 (fIx x)) ((bH S1 y_66) - ((bH S1 (fIx x)) + (((pV S (fIx st) 13) + ((fAb (pV S (fIx st) 13)) / 4)) + (fHf ((bH S1 y_66) - ((fEx S1 (nI (fIx x))) + ((pV S (fIx st) 13) + ((fAb (pV S (fIx st) 13)) / 4))))))))), .int (((bH S1 (fIx x)) + (((pV S (fIx st) 13) + ((fAb (pV S (fIx st) 13)) / 4)) + (fHf ((bH S1 y_66) - ((fEx S1 (nI (fIx x))) + ((pV S (fIx st) 13) + ((fAb (pV S (fIx st) 13)) / 4))))))) + (2 * 0)), .int ((bW S1 y_66) + (bW S1 (fIx x))), .ref o]) rfl ?_
                refine mw_callV (C := RX4) (As := [.int ((bW S1 y_66) + (bW S1 (fIx x))), .int (((bH S1 (fIx x)) + (((pV S (fIx st) 13) + ((fAb (pV S (fIx st) 13)) / 4)) + (fHf ((bH S1 y_66) - ((fEx S1 (nI (fIx x))) + ((pV S (fIx st) 13) + ((fAb (pV S (fIx st) 13)) / 4))))))) + (2 * 0)), .int (fMx (bD S1 (fIx x)) ((bH S1 y_66) - ((bH S1 (fIx x)) + (((pV S (fIx st) 13) + ((fAb (pV S (fIx st) 13)) / 4)) + (fHf ((bH S1 y_66) - ((fEx S1 (nI (fIx x))) + ((pV S (fIx st) 13) + ((fAb (pV S (fIx st) 13)) / 4)))))))))]) (rest := []) hx hb hml hown hl (kX4_make l htr G H.size M_65 o A 0 (nI (fSz (fIx st))) S1 (⟨np67, bg67, g67, hT, hB⟩ : md_R G o A M_65 0 (nI (fSz (fIx st))) S1) (show sN S1 < 120 from by rw [hS1, ro_S, kt_n, if_pos hrd]; omega) ((bW S1 y_66) + (bW S1 (fIx x))) (((bH S1 (fIx x)) + (((pV S (fIx st) 13) + ((fAb (pV S (fIx st) 13)) / 4)) + (fHf ((bH S1 y_66) - ((fEx S1 (nI (fIx x))) + ((pV S (fIx st) 13) + ((fAb (pV S (fIx st) 13)) / 4))))))) + (2 * 0)) (fMx (bD S1 (fIx x)) ((bH S1 y_66) - ((bH S1 (fIx x)) + (((pV S (fIx st) 13) + ((fAb (pV S (fIx st) 13)) / 4)) + (fHf ((bH S1 y_66) - ((fEx S1 (nI (fIx x))) + ((pV S (fIx st) 13) + ((fAb (pV S (fIx st) 13)) / 4)))))))))) (g_B (n := 3) htb wd613 wd3 wd610 (by decide +kernel) ⟨Nat.le_of_ble_eq_true rfl, Nat.le_of_ble_eq_true rfl⟩) (htb _ wd612) (htb _ ws26) hE hP hS hT.1 rfl rfl rfl (Nat.le_of_ble_eq_true rfl) dX4_root_306 ⟨Nat.le_of_ble_eq_true rfl, Nat.le_of_ble_eq_true rfl⟩ (fun v9 M9 H locs hpo hP hz hS => ?_) (fun x9 E9 cell9 H9 locs9 hE9 => hE9.elim)
                have hle0 := hle
                obtain ⟨rfl, hRn, hkn⟩ := hpo
                obtain ⟨M_84, hM_84⟩ : ∃ z9 : mw_M, z9 = M9 := ⟨_, rfl⟩
                rw [← hM_84] at hP hRn hkn
                have hk := md_keeps.tr hk hkn
                have hRn : md_R G o A M_84 0 (nI (fSz (fIx st))) (fs_push S1 (((bW S1 y_66) + (bW S1 (fIx x))), (((bH S1 (fIx x)) + (((pV S (fIx st) 13) + ((fAb (pV S (fIx st) 13)) / 4)) + (fHf ((bH S1 y_66) - ((fEx S1 (nI (fIx x))) + ((pV S (fIx st) 13) + ((fAb (pV S (fIx st) 13)) / 4))))))) + (2 * 0)), (fMx (bD S1 (fIx x)) ((bH S1 y_66) - ((bH S1 (fIx x)) + (((pV S (fIx st) 13) + ((fAb (pV S (fIx st) 13)) / 4)) + (fHf ((bH S1 y_66) - ((fEx S1 (nI (fIx x))) + ((pV S (fIx st) 13) + ((fAb (pV S (fIx st) 13)) / 4))))))))), [], 0, 0)) := hRn
                obtain ⟨np85, bg85, g85, hT, hB⟩ := id hRn
                rw [sN_push] at hT
                have hT : md_at G o A M_84 0 (sSp S1) (sSh S1) (nI (sN S1 + 1)) (nI np85) (nI (fSz (fIx st))) g85 := hT
                have hle : sN S1 + 1 ≤ 120 := by have := hB.1; rw [sN_push] at this; exact this
                refine W.eq (g2 := F0 m 309 ls [.int (nI (sN S1))]) rfl ?_
                refine lv_istore (lv' := [(13, .int (nI (sN S1))), (12, .int ((bH S1 (fIx x)) + (((pV S (fIx st) 13) + ((fAb (pV S (fIx st) 13)) / 4)) + (fHf ((bH S1 y_66) - ((fEx S1 (nI (fIx x))) + ((pV S (fIx st) 13) + ((fAb (pV S (fIx st) 13)) / 4)))))))), (4, .int (((pV S (fIx st) 13) + ((fAb (pV S (fIx st) 13)) / 4)) + (fHf ((bH S1 y_66) - ((fEx S1 (nI (fIx x))) + ((pV S (fIx st) 13) + ((fAb (pV S (fIx st) 13)) / 4))))))), (11, .int ((bH S1 y_66) - ((fEx S1 (nI (fIx x))) + ((pV S (fIx st) 13) + ((fAb (pV S (fIx st) 13)) / 4))))), (10, .int (bH S1 y_66)), (9, .int 0), (8, .int (nI y_66)), (7, .int 1), (6, .int (md_pl S (sF S (fIx k)) (ro_l S st x))), (5, .int (ro_l S st x)), (0, .ref o), (1, .int (nI (fIx st))), (2, .int (nI (fIx x))), (3, .int (nI (fIx k)))]) hx hb dX4_root_309 hl (by decide) rfl (fun ls hl => ?_)
                refine lv_aload_n hx hb dX4_root_311 rfl (lv_at hl 10 rfl) ?_
                refine lv_iload hx hb dX4_root_312 (lv_at hl 6 rfl) ?_
                refine lv_iconst (v := 0) hx hb dX4_root_314 (by decide) ?_
                refine lv_iload hx hb dX4_root_315 (lv_at hl 7 rfl) ?_
                refine lv_if_eq (tgt := 333) hx hb dX4_root_317 (by decide) (fun c_86 => absurd c_86 (by decide)) (fun c_86 => ?_)
                refine lv_iload hx hb dX4_root_320 (lv_at hl 1 rfl) ?_
                refine lv_aload_n hx hb dX4_root_322 rfl (lv_at hl 10 rfl) ?_
                refine mw_get (D := gD G) (ci := 4) (v := .ref (A 2)) (C := RX4) (T := TX4) (N := 21) hx hb htb inX4 hown hK hP hT.1 rfl 6 (by decide) (htb _ wd530) (fun _ h9 => h9) rfl dX4_root_323 ?_
                refine lv_iload hx hb dX4_root_326 (lv_at hl 6 rfl) ?_
                refine mw_iald hx hb hK hP 0 (show M_84 (A 2) = some (.inl (gI G, 120, .inl (g85 2))) from hT.2.1 2 (by decide)) rfl (by exact vp_in_nI (show y_66 < 120 by have := hle; omega) (by decide)) dX4_root_328 ?_
                refine W.eq (g2 := F0 m 329 ls [.int (bH S1 y_66), .int ((bH S1 (fIx x)) + (((pV S (fIx st) 13) + ((fAb (pV S (fIx st) 13)) / 4)) + (fHf ((bH S1 y_66) - ((fEx S1 (nI (fIx x))) + ((pV S (fIx st) 13) + ((fAb (pV S (fIx st) 13)) / 4))))))), .int 0, .int (nI y_66), .ref o]) (by rw [nI_clamp (show y_66 < 2 ^ 31 by have := hle; omega), hB.H (show y_66 < sN (fs_push S1 (((bW S1 y_66) + (bW S1 (fIx x))), (((bH S1 (fIx x)) + (((pV S (fIx st) 13) + ((fAb (pV S (fIx st) 13)) / 4)) + (fHf ((bH S1 y_66) - ((fEx S1 (nI (fIx x))) + ((pV S (fIx st) 13) + ((fAb (pV S (fIx st) 13)) / 4))))))) + (2 * 0)), (fMx (bD S1 (fIx x)) ((bH S1 y_66) - ((bH S1 (fIx x)) + (((pV S (fIx st) 13) + ((fAb (pV S (fIx st) 13)) / 4)) + (fHf ((bH S1 y_66) - ((fEx S1 (nI (fIx x))) + ((pV S (fIx st) 13) + ((fAb (pV S (fIx st) 13)) / 4))))))))), [], 0, 0)) by rw [sN_push]; omega), bH_push _ h_y_66]) ?_
                refine lv_isub hx hb dX4_root_329 ?_
                refine lv_goto (tgt := 335) hx hb dX4_root_330 (by decide) ?_
                refine mw_callV (C := RX4) (As := [.int (nI y_66), .int 0, .int (((bH S1 (fIx x)) + (((pV S (fIx st) 13) + ((fAb (pV S (fIx st) 13)) / 4)) + (fHf ((bH S1 y_66) - ((fEx S1 (nI (fIx x))) + ((pV S (fIx st) 13) + ((fAb (pV S (fIx st) 13)) / 4))))))) - (bH S1 y_66))]) (rest := []) hx hb hml hown hl (kX4_lay l htr G H.size M_84 o A 0 (nI (fSz (fIx st))) S1 ((bW S1 y_66) + (bW S1 (fIx x))) (((bH S1 (fIx x)) + (((pV S (fIx st) 13) + ((fAb (pV S (fIx st) 13)) / 4)) + (fHf ((bH S1 y_66) - ((fEx S1 (nI (fIx x))) + ((pV S (fIx st) 13) + ((fAb (pV S (fIx st) 13)) / 4))))))) + (2 * 0)) (fMx (bD S1 (fIx x)) ((bH S1 y_66) - ((bH S1 (fIx x)) + (((pV S (fIx st) 13) + ((fAb (pV S (fIx st) 13)) / 4)) + (fHf ((bH S1 y_66) - ((fEx S1 (nI (fIx x))) + ((pV S (fIx st) 13) + ((fAb (pV S (fIx st) 13)) / 4))))))))) ([]) 0 0 (md_R.of (np := np85) hT hB : md_R G o A M_84 0 (nI (fSz (fIx st))) (fs_push S1 (((bW S1 y_66) + (bW S1 (fIx x))), (((bH S1 (fIx x)) + (((pV S (fIx st) 13) + ((fAb (pV S (fIx st) 13)) / 4)) + (fHf ((bH S1 y_66) - ((fEx S1 (nI (fIx x))) + ((pV S (fIx st) 13) + ((fAb (pV S (fIx st) 13)) / 4))))))) + (2 * 0)), (fMx (bD S1 (fIx x)) ((bH S1 y_66) - ((bH S1 (fIx x)) + (((pV S (fIx st) 13) + ((fAb (pV S (fIx st) 13)) / 4)) + (fHf ((bH S1 y_66) - ((fEx S1 (nI (fIx x))) + ((pV S (fIx st) 13) + ((fAb (pV S (fIx st) 13)) / 4))))))))), [], 0, 0))) (by simp) (nI y_66) 0 (((bH S1 (fIx x)) + (((pV S (fIx st) 13) + ((fAb (pV S (fIx st) 13)) / 4)) + (fHf ((bH S1 y_66) - ((fEx S1 (nI (fIx x))) + ((pV S (fIx st) 13) + ((fAb (pV S (fIx st) 13)) / 4))))))) - (bH S1 y_66))) (g_B (n := 3) htb wd661 wd3 wd658 (by decide +kernel) ⟨Nat.le_of_ble_eq_true rfl, Nat.le_of_ble_eq_true rfl⟩) (htb _ wd660) (htb _ ws34) hE hP hS hT.1 rfl rfl rfl (Nat.le_of_ble_eq_true rfl) dX4_root_335 ⟨Nat.le_of_ble_eq_true rfl, Nat.le_of_ble_eq_true rfl⟩ (fun v9 M9 H locs hpo hP hz hS => ?_) (fun x9 E9 cell9 H9 locs9 hE9 => hE9.elim)
                obtain ⟨rfl, hRn, hkn⟩ := hpo
                obtain ⟨M_87, hM_87⟩ : ∃ z9 : mw_M, z9 = M9 := ⟨_, rfl⟩
                rw [← hM_87] at hP hRn hkn
                have hk := md_keeps.tr hk hkn
                have hRn : md_R G o A M_87 0 (nI (fSz (fIx st))) (fs_push S1 (((bW S1 y_66) + (bW S1 (fIx x))), (((bH S1 (fIx x)) + (((pV S (fIx st) 13) + ((fAb (pV S (fIx st) 13)) / 4)) + (fHf ((bH S1 y_66) - ((fEx S1 (nI (fIx x))) + ((pV S (fIx st) 13) + ((fAb (pV S (fIx st) 13)) / 4))))))) + (2 * 0)), (fMx (bD S1 (fIx x)) ((bH S1 y_66) - ((bH S1 (fIx x)) + (((pV S (fIx st) 13) + ((fAb (pV S (fIx st) 13)) / 4)) + (fHf ((bH S1 y_66) - ((fEx S1 (nI (fIx x))) + ((pV S (fIx st) 13) + ((fAb (pV S (fIx st) 13)) / 4))))))))), [(nI y_66), 0, (((bH S1 (fIx x)) + (((pV S (fIx st) 13) + ((fAb (pV S (fIx st) 13)) / 4)) + (fHf ((bH S1 y_66) - ((fEx S1 (nI (fIx x))) + ((pV S (fIx st) 13) + ((fAb (pV S (fIx st) 13)) / 4))))))) - (bH S1 y_66))], 0, 0)) := hRn
                obtain ⟨np88, bg88, g88, hT, hB⟩ := id hRn
                rw [sN_push] at hT
                have hT : md_at G o A M_87 0 (sSp S1) (sSh S1) (nI (sN S1 + 1)) (nI np88) (nI (fSz (fIx st))) g88 := hT
                refine W.eq (g2 := F0 m 338 ls []) rfl ?_
                refine lv_aload_n hx hb dX4_root_338 rfl (lv_at hl 10 rfl) ?_
                refine lv_iload_n hx hb dX4_root_339 rfl (lv_at hl 12 rfl) ?_
                refine lv_aload_n hx hb dX4_root_340 rfl (lv_at hl 10 rfl) ?_
                refine mw_get (D := gD G) (ci := 4) (v := .ref (A 1)) (C := RX4) (T := TX4) (N := 21) hx hb htb inX4 hown hK hP hT.1 rfl 5 (by decide) (htb _ wd529) (fun _ h9 => h9) rfl dX4_root_341 ?_
                refine lv_iload hx hb dX4_root_344 (lv_at hl 6 rfl) ?_
                refine mw_iald hx hb hK hP 0 (show M_87 (A 1) = some (.inl (gI G, 120, .inl (g88 1))) from hT.2.1 1 (by decide)) rfl (by exact vp_in_nI (show y_66 < 120 by have := hle; omega) (by decide)) dX4_root_346 ?_
                refine W.eq (g2 := F0 m 347 ls [.int (bW S1 y_66), .int (nI (fIx x)), .ref o]) (by rw [nI_clamp (show y_66 < 2 ^ 31 by have := hle; omega), hB.W (show y_66 < sN (fs_push S1 (((bW S1 y_66) + (bW S1 (fIx x))), (((bH S1 (fIx x)) + (((pV S (fIx st) 13) + ((fAb (pV S (fIx st) 13)) / 4)) + (fHf ((bH S1 y_66) - ((fEx S1 (nI (fIx x))) + ((pV S (fIx st) 13) + ((fAb (pV S (fIx st) 13)) / 4))))))) + (2 * 0)), (fMx (bD S1 (fIx x)) ((bH S1 y_66) - ((bH S1 (fIx x)) + (((pV S (fIx st) 13) + ((fAb (pV S (fIx st) 13)) / 4)) + (fHf ((bH S1 y_66) - ((fEx S1 (nI (fIx x))) + ((pV S (fIx st) 13) + ((fAb (pV S (fIx st) 13)) / 4))))))))), [(nI y_66), 0, (((bH S1 (fIx x)) + (((pV S (fIx st) 13) + ((fAb (pV S (fIx st) 13)) / 4)) + (fHf ((bH S1 y_66) - ((fEx S1 (nI (fIx x))) + ((pV S (fIx st) 13) + ((fAb (pV S (fIx st) 13)) / 4))))))) - (bH S1 y_66))], 0, 0)) by rw [sN_push]; omega), bW_push _ h_y_66]) ?_
                refine lv_iconst (v := 0) hx hb dX4_root_347 (by decide) ?_
                refine mw_callV (C := RX4) (As := [.int (nI (fIx x)), .int (bW S1 y_66), .int 0]) (rest := []) hx hb hml hown hl (kX4_lay l htr G H.size M_87 o A 0 (nI (fSz (fIx st))) S1 ((bW S1 y_66) + (bW S1 (fIx x))) (((bH S1 (fIx x)) + (((pV S (fIx st) 13) + ((fAb (pV S (fIx st) 13)) / 4)) + (fHf ((bH S1 y_66) - ((fEx S1 (nI (fIx x))) + ((pV S (fIx st) 13) + ((fAb (pV S (fIx st) 13)) / 4))))))) + (2 * 0)) (fMx (bD S1 (fIx x)) ((bH S1 y_66) - ((bH S1 (fIx x)) + (((pV S (fIx st) 13) + ((fAb (pV S (fIx st) 13)) / 4)) + (fHf ((bH S1 y_66) - ((fEx S1 (nI (fIx x))) + ((pV S (fIx st) 13) + ((fAb (pV S (fIx st) 13)) / 4))))))))) ([(nI y_66), 0, (((bH S1 (fIx x)) + (((pV S (fIx st) 13) + ((fAb (pV S (fIx st) 13)) / 4)) + (fHf ((bH S1 y_66) - ((fEx S1 (nI (fIx x))) + ((pV S (fIx st) 13) + ((fAb (pV S (fIx st) 13)) / 4))))))) - (bH S1 y_66))]) 0 0 (md_R.of (np := np88) hT hB : md_R G o A M_87 0 (nI (fSz (fIx st))) (fs_push S1 (((bW S1 y_66) + (bW S1 (fIx x))), (((bH S1 (fIx x)) + (((pV S (fIx st) 13) + ((fAb (pV S (fIx st) 13)) / 4)) + (fHf ((bH S1 y_66) - ((fEx S1 (nI (fIx x))) + ((pV S (fIx st) 13) + ((fAb (pV S (fIx st) 13)) / 4))))))) + (2 * 0)), (fMx (bD S1 (fIx x)) ((bH S1 y_66) - ((bH S1 (fIx x)) + (((pV S (fIx st) 13) + ((fAb (pV S (fIx st) 13)) / 4)) + (fHf ((bH S1 y_66) - ((fEx S1 (nI (fIx x))) + ((pV S (fIx st) 13) + ((fAb (pV S (fIx st) 13)) / 4))))))))), [(nI y_66), 0, (((bH S1 (fIx x)) + (((pV S (fIx st) 13) + ((fAb (pV S (fIx st) 13)) / 4)) + (fHf ((bH S1 y_66) - ((fEx S1 (nI (fIx x))) + ((pV S (fIx st) 13) + ((fAb (pV S (fIx st) 13)) / 4))))))) - (bH S1 y_66))], 0, 0))) (by simp) (nI (fIx x)) (bW S1 y_66) 0) (g_B (n := 3) htb wd661 wd3 wd658 (by decide +kernel) ⟨Nat.le_of_ble_eq_true rfl, Nat.le_of_ble_eq_true rfl⟩) (htb _ wd660) (htb _ ws34) hE hP hS hT.1 rfl rfl rfl (Nat.le_of_ble_eq_true rfl) dX4_root_348 ⟨Nat.le_of_ble_eq_true rfl, Nat.le_of_ble_eq_true rfl⟩ (fun v9 M9 H locs hpo hP hz hS => ?_) (fun x9 E9 cell9 H9 locs9 hE9 => hE9.elim)
                obtain ⟨rfl, hRn, hkn⟩ := hpo
                obtain ⟨M_89, hM_89⟩ : ∃ z9 : mw_M, z9 = M9 := ⟨_, rfl⟩
                rw [← hM_89] at hP hRn hkn
                have hk := md_keeps.tr hk hkn
                have hRn : md_R G o A M_89 0 (nI (fSz (fIx st))) (fs_push S1 (((bW S1 y_66) + (bW S1 (fIx x))), (((bH S1 (fIx x)) + (((pV S (fIx st) 13) + ((fAb (pV S (fIx st) 13)) / 4)) + (fHf ((bH S1 y_66) - ((fEx S1 (nI (fIx x))) + ((pV S (fIx st) 13) + ((fAb (pV S (fIx st) 13)) / 4))))))) + (2 * 0)), (fMx (bD S1 (fIx x)) ((bH S1 y_66) - ((bH S1 (fIx x)) + (((pV S (fIx st) 13) + ((fAb (pV S (fIx st) 13)) / 4)) + (fHf ((bH S1 y_66) - ((fEx S1 (nI (fIx x))) + ((pV S (fIx st) 13) + ((fAb (pV S (fIx st) 13)) / 4))))))))), [(nI y_66), 0, (((bH S1 (fIx x)) + (((pV S (fIx st) 13) + ((fAb (pV S (fIx st) 13)) / 4)) + (fHf ((bH S1 y_66) - ((fEx S1 (nI (fIx x))) + ((pV S (fIx st) 13) + ((fAb (pV S (fIx st) 13)) / 4))))))) - (bH S1 y_66)), (nI (fIx x)), (bW S1 y_66), 0], 0, 0)) := hRn
                obtain ⟨np90, bg90, g90, hT, hB⟩ := id hRn
                rw [sN_push] at hT
                have hT : md_at G o A M_89 0 (sSp S1) (sSh S1) (nI (sN S1 + 1)) (nI np90) (nI (fSz (fIx st))) g90 := hT
                refine W.eq (g2 := F0 m 351 ls []) rfl ?_
                refine lv_aload_n hx hb dX4_root_351 rfl (lv_at hl 10 rfl) ?_
                refine lv_iconst (v := (-1)) hx hb dX4_root_352 (by decide) ?_
                refine lv_aload_n hx hb dX4_root_353 rfl (lv_at hl 10 rfl) ?_
                refine mw_get (D := gD G) (ci := 4) (v := .ref (A 1)) (C := RX4) (T := TX4) (N := 21) hx hb htb inX4 hown hK hP hT.1 rfl 5 (by decide) (htb _ wd529) (fun _ h9 => h9) rfl dX4_root_354 ?_
                refine lv_iload hx hb dX4_root_357 (lv_at hl 6 rfl) ?_
                refine mw_iald hx hb hK hP 0 (show M_89 (A 1) = some (.inl (gI G, 120, .inl (g90 1))) from hT.2.1 1 (by decide)) rfl (by exact vp_in_nI (show y_66 < 120 by have := hle; omega) (by decide)) dX4_root_359 ?_
                refine W.eq (g2 := F0 m 360 ls [.int (bW S1 y_66), .int (-1), .ref o]) (by rw [nI_clamp (show y_66 < 2 ^ 31 by have := hle; omega), hB.W (show y_66 < sN (fs_push S1 (((bW S1 y_66) + (bW S1 (fIx x))), (((bH S1 (fIx x)) + (((pV S (fIx st) 13) + ((fAb (pV S (fIx st) 13)) / 4)) + (fHf ((bH S1 y_66) - ((fEx S1 (nI (fIx x))) + ((pV S (fIx st) 13) + ((fAb (pV S (fIx st) 13)) / 4))))))) + (2 * 0)), (fMx (bD S1 (fIx x)) ((bH S1 y_66) - ((bH S1 (fIx x)) + (((pV S (fIx st) 13) + ((fAb (pV S (fIx st) 13)) / 4)) + (fHf ((bH S1 y_66) - ((fEx S1 (nI (fIx x))) + ((pV S (fIx st) 13) + ((fAb (pV S (fIx st) 13)) / 4))))))))), [(nI y_66), 0, (((bH S1 (fIx x)) + (((pV S (fIx st) 13) + ((fAb (pV S (fIx st) 13)) / 4)) + (fHf ((bH S1 y_66) - ((fEx S1 (nI (fIx x))) + ((pV S (fIx st) 13) + ((fAb (pV S (fIx st) 13)) / 4))))))) - (bH S1 y_66)), (nI (fIx x)), (bW S1 y_66), 0], 0, 0)) by rw [sN_push]; omega), bW_push _ h_y_66]) ?_
                refine lv_iload hx hb dX4_root_360 (lv_at hl 1 rfl) ?_
                refine mw_callV (C := RX4) (As := [.int (-1), .int (bW S1 y_66), .int ((bH S1 (fIx x)) + (((pV S (fIx st) 13) + ((fAb (pV S (fIx st) 13)) / 4)) + (fHf ((bH S1 y_66) - ((fEx S1 (nI (fIx x))) + ((pV S (fIx st) 13) + ((fAb (pV S (fIx st) 13)) / 4)))))))]) (rest := []) hx hb hml hown hl (kX4_lay l htr G H.size M_89 o A 0 (nI (fSz (fIx st))) S1 ((bW S1 y_66) + (bW S1 (fIx x))) (((bH S1 (fIx x)) + (((pV S (fIx st) 13) + ((fAb (pV S (fIx st) 13)) / 4)) + (fHf ((bH S1 y_66) - ((fEx S1 (nI (fIx x))) + ((pV S (fIx st) 13) + ((fAb (pV S (fIx st) 13)) / 4))))))) + (2 * 0)) (fMx (bD S1 (fIx x)) ((bH S1 y_66) - ((bH S1 (fIx x)) + (((pV S (fIx st) 13) + ((fAb (pV S (fIx st) 13)) / 4)) + (fHf ((bH S1 y_66) - ((fEx S1 (nI (fIx x))) + ((pV S (fIx st) 13) + ((fAb (pV S (fIx st) 13)) / 4))))))))) ([(nI y_66), 0, (((bH S1 (fIx x)) + (((pV S (fIx st) 13) + ((fAb (pV S (fIx st) 13)) / 4)) + (fHf ((bH S1 y_66) - ((fEx S1 (nI (fIx x))) + ((pV S (fIx st) 13) + ((fAb (pV S (fIx st) 13)) / 4))))))) - (bH S1 y_66)), (nI (fIx x)), (bW S1 y_66), 0]) 0 0 (md_R.of (np := np90) hT hB : md_R G o A M_89 0 (nI (fSz (fIx st))) (fs_push S1 (((bW S1 y_66) + (bW S1 (fIx x))), (((bH S1 (fIx x)) + (((pV S (fIx st) 13) + ((fAb (pV S (fIx st) 13)) / 4)) + (fHf ((bH S1 y_66) - ((fEx S1 (nI (fIx x))) + ((pV S (fIx st) 13) + ((fAb (pV S (fIx st) 13)) / 4))))))) + (2 * 0)), (fMx (bD S1 (fIx x)) ((bH S1 y_66) - ((bH S1 (fIx x)) + (((pV S (fIx st) 13) + ((fAb (pV S (fIx st) 13)) / 4)) + (fHf ((bH S1 y_66) - ((fEx S1 (nI (fIx x))) + ((pV S (fIx st) 13) + ((fAb (pV S (fIx st) 13)) / 4))))))))), [(nI y_66), 0, (((bH S1 (fIx x)) + (((pV S (fIx st) 13) + ((fAb (pV S (fIx st) 13)) / 4)) + (fHf ((bH S1 y_66) - ((fEx S1 (nI (fIx x))) + ((pV S (fIx st) 13) + ((fAb (pV S (fIx st) 13)) / 4))))))) - (bH S1 y_66)), (nI (fIx x)), (bW S1 y_66), 0], 0, 0))) (by simp) (-1) (bW S1 y_66) ((bH S1 (fIx x)) + (((pV S (fIx st) 13) + ((fAb (pV S (fIx st) 13)) / 4)) + (fHf ((bH S1 y_66) - ((fEx S1 (nI (fIx x))) + ((pV S (fIx st) 13) + ((fAb (pV S (fIx st) 13)) / 4)))))))) (g_B (n := 3) htb wd661 wd3 wd658 (by decide +kernel) ⟨Nat.le_of_ble_eq_true rfl, Nat.le_of_ble_eq_true rfl⟩) (htb _ wd660) (htb _ ws34) hE hP hS hT.1 rfl rfl rfl (Nat.le_of_ble_eq_true rfl) dX4_root_362 ⟨Nat.le_of_ble_eq_true rfl, Nat.le_of_ble_eq_true rfl⟩ (fun v9 M9 H locs hpo hP hz hS => ?_) (fun x9 E9 cell9 H9 locs9 hE9 => hE9.elim)
                obtain ⟨rfl, hRn, hkn⟩ := hpo
                obtain ⟨M_91, hM_91⟩ : ∃ z9 : mw_M, z9 = M9 := ⟨_, rfl⟩
                rw [← hM_91] at hP hRn hkn
                have hk := md_keeps.tr hk hkn
                have hRn : md_R G o A M_91 0 (nI (fSz (fIx st))) (fs_push S1 (((bW S1 y_66) + (bW S1 (fIx x))), (((bH S1 (fIx x)) + (((pV S (fIx st) 13) + ((fAb (pV S (fIx st) 13)) / 4)) + (fHf ((bH S1 y_66) - ((fEx S1 (nI (fIx x))) + ((pV S (fIx st) 13) + ((fAb (pV S (fIx st) 13)) / 4))))))) + (2 * 0)), (fMx (bD S1 (fIx x)) ((bH S1 y_66) - ((bH S1 (fIx x)) + (((pV S (fIx st) 13) + ((fAb (pV S (fIx st) 13)) / 4)) + (fHf ((bH S1 y_66) - ((fEx S1 (nI (fIx x))) + ((pV S (fIx st) 13) + ((fAb (pV S (fIx st) 13)) / 4))))))))), [(nI y_66), 0, (((bH S1 (fIx x)) + (((pV S (fIx st) 13) + ((fAb (pV S (fIx st) 13)) / 4)) + (fHf ((bH S1 y_66) - ((fEx S1 (nI (fIx x))) + ((pV S (fIx st) 13) + ((fAb (pV S (fIx st) 13)) / 4))))))) - (bH S1 y_66)), (nI (fIx x)), (bW S1 y_66), 0, (-1), (bW S1 y_66), ((bH S1 (fIx x)) + (((pV S (fIx st) 13) + ((fAb (pV S (fIx st) 13)) / 4)) + (fHf ((bH S1 y_66) - ((fEx S1 (nI (fIx x))) + ((pV S (fIx st) 13) + ((fAb (pV S (fIx st) 13)) / 4)))))))], 0, 0)) := hRn
                obtain ⟨np92, bg92, g92, hT, hB⟩ := id hRn
                rw [sN_push] at hT
                have hT : md_at G o A M_91 0 (sSp S1) (sSh S1) (nI (sN S1 + 1)) (nI np92) (nI (fSz (fIx st))) g92 := hT
                refine W.eq (g2 := F0 m 365 ls []) rfl ?_
                refine lv_aload_n hx hb dX4_root_365 rfl (lv_at hl 10 rfl) ?_
                refine mw_get (D := gD G) (ci := 4) (v := .ref (A 6)) (C := RX4) (T := TX4) (N := 21) hx hb htb inX4 hown hK hP hT.1 rfl 10 (by decide) (htb _ wd534) (fun _ h9 => h9) rfl dX4_root_366 ?_
                refine lv_iload hx hb dX4_root_369 (lv_at hl 0 rfl) ?_
                refine lv_aload_n hx hb dX4_root_371 rfl (lv_at hl 10 rfl) ?_
                refine mw_get (D := gD G) (ci := 4) (v := .ref (A 1)) (C := RX4) (T := TX4) (N := 21) hx hb htb inX4 hown hK hP hT.1 rfl 5 (by decide) (htb _ wd529) (fun _ h9 => h9) rfl dX4_root_372 ?_
                refine lv_iload_n hx hb dX4_root_375 rfl (lv_at hl 12 rfl) ?_
                refine mw_iald hx hb hK hP 0 (show M_91 (A 1) = some (.inl (gI G, 120, .inl (g92 1))) from hT.2.1 1 (by decide)) rfl (by exact vp_in_nI (show (fIx x) < 120 by have := hle; omega) (by decide)) dX4_root_376 ?_
                refine W.eq (g2 := F0 m 377 ls [.int (bW S1 (fIx x)), .int (nI (sN S1)), .ref (A 6)]) (by rw [nI_clamp (show (fIx x) < 2 ^ 31 by have := hle; omega), hB.W (show (fIx x) < sN (fs_push S1 (((bW S1 y_66) + (bW S1 (fIx x))), (((bH S1 (fIx x)) + (((pV S (fIx st) 13) + ((fAb (pV S (fIx st) 13)) / 4)) + (fHf ((bH S1 y_66) - ((fEx S1 (nI (fIx x))) + ((pV S (fIx st) 13) + ((fAb (pV S (fIx st) 13)) / 4))))))) + (2 * 0)), (fMx (bD S1 (fIx x)) ((bH S1 y_66) - ((bH S1 (fIx x)) + (((pV S (fIx st) 13) + ((fAb (pV S (fIx st) 13)) / 4)) + (fHf ((bH S1 y_66) - ((fEx S1 (nI (fIx x))) + ((pV S (fIx st) 13) + ((fAb (pV S (fIx st) 13)) / 4))))))))), [(nI y_66), 0, (((bH S1 (fIx x)) + (((pV S (fIx st) 13) + ((fAb (pV S (fIx st) 13)) / 4)) + (fHf ((bH S1 y_66) - ((fEx S1 (nI (fIx x))) + ((pV S (fIx st) 13) + ((fAb (pV S (fIx st) 13)) / 4))))))) - (bH S1 y_66)), (nI (fIx x)), (bW S1 y_66), 0, (-1), (bW S1 y_66), ((bH S1 (fIx x)) + (((pV S (fIx st) 13) + ((fAb (pV S (fIx st) 13)) / 4)) + (fHf ((bH S1 y_66) - ((fEx S1 (nI (fIx x))) + ((pV S (fIx st) 13) + ((fAb (pV S (fIx st) 13)) / 4)))))))], 0, 0)) by rw [sN_push]; omega), bW_push _ h_x]) ?_
                refine mw_iast hx hb hK hP hS 0 (show M_91 (A 6) = some (.inl (gI G, 120, .inl (g92 6))) from hT.2.1 6 (by decide)) (hT.2.2.2.2 6 (by decide)) rfl (by exact vp_in_nI (show (sN S1) < 120 by have := hle; omega) (by decide)) dX4_root_377 (fun H locs hP hS => ?_)
                rw [nI_clamp (show (sN S1) < 2 ^ 31 by have := hle; omega)] at hP
                obtain ⟨M_93, hM_93⟩ : ∃ z9 : mw_M, z9 = mw_up M_91 (A 6) (.inl (gI G, 120, .inl (upd (g92 6) (sN S1) (bW S1 (fIx x))))) := ⟨_, rfl⟩
                have hP : mw_P (gD G) gx_cl M_93 H := by rw [hM_93]; exact hP
                obtain ⟨g_94, hg_94⟩ : ∃ z9, z9 = ug g92 6 (sN S1) (bW S1 (fIx x)) := ⟨_, rfl⟩
                have hT : md_at G o A M_93 0 (sSp S1) (sSh S1) (nI (sN S1 + 1)) (nI np92) (nI (fSz (fIx st))) g_94 := by rw [hg_94]; exact md_at.put hT (by decide) rfl rfl hM_93
                have hk : md_keeps o A M M_93 := md_keeps.arr (j := 6) hk (by decide) hM_93
                have hB : md_ab np92 bg92 g_94 (fs_push S1 (((bW S1 y_66) + (bW S1 (fIx x))), (((bH S1 (fIx x)) + (((pV S (fIx st) 13) + ((fAb (pV S (fIx st) 13)) / 4)) + (fHf ((bH S1 y_66) - ((fEx S1 (nI (fIx x))) + ((pV S (fIx st) 13) + ((fAb (pV S (fIx st) 13)) / 4))))))) + (2 * 0)), (fMx (bD S1 (fIx x)) ((bH S1 y_66) - ((bH S1 (fIx x)) + (((pV S (fIx st) 13) + ((fAb (pV S (fIx st) 13)) / 4)) + (fHf ((bH S1 y_66) - ((fEx S1 (nI (fIx x))) + ((pV S (fIx st) 13) + ((fAb (pV S (fIx st) 13)) / 4))))))))), [(nI y_66), 0, (((bH S1 (fIx x)) + (((pV S (fIx st) 13) + ((fAb (pV S (fIx st) 13)) / 4)) + (fHf ((bH S1 y_66) - ((fEx S1 (nI (fIx x))) + ((pV S (fIx st) 13) + ((fAb (pV S (fIx st) 13)) / 4))))))) - (bH S1 y_66)), (nI (fIx x)), (bW S1 y_66), 0, (-1), (bW S1 y_66), ((bH S1 (fIx x)) + (((pV S (fIx st) 13) + ((fAb (pV S (fIx st) 13)) / 4)) + (fHf ((bH S1 y_66) - ((fEx S1 (nI (fIx x))) + ((pV S (fIx st) 13) + ((fAb (pV S (fIx st) 13)) / 4)))))))], (bW S1 (fIx x)), 0)) := by rw [hg_94]; exact md_ab.set6 hB _
                refine lv_aload_n hx hb dX4_root_378 rfl (lv_at hl 10 rfl) ?_
                refine mw_get (D := gD G) (ci := 4) (v := .ref (A 7)) (C := RX4) (T := TX4) (N := 21) hx hb htb inX4 hown hK hP hT.1 rfl 11 (by decide) (htb _ wd535) (fun _ h9 => h9) rfl dX4_root_379 ?_
                refine lv_iload hx hb dX4_root_382 (lv_at hl 0 rfl) ?_
                refine lv_iload hx hb dX4_root_384 (lv_at hl 5 rfl) ?_
                refine mw_iast hx hb hK hP hS 0 (show M_93 (A 7) = some (.inl (gI G, 120, .inl (g_94 7))) from hT.2.1 7 (by decide)) (hT.2.2.2.2 7 (by decide)) rfl (by exact vp_in_nI (show (sN S1) < 120 by have := hle; omega) (by decide)) dX4_root_386 (fun H locs hP hS => ?_)
                rw [nI_clamp (show (sN S1) < 2 ^ 31 by have := hle; omega)] at hP
                obtain ⟨M_95, hM_95⟩ : ∃ z9 : mw_M, z9 = mw_up M_93 (A 7) (.inl (gI G, 120, .inl (upd (g_94 7) (sN S1) 0))) := ⟨_, rfl⟩
                have hP : mw_P (gD G) gx_cl M_95 H := by rw [hM_95]; exact hP
                obtain ⟨g_96, hg_96⟩ : ∃ z9, z9 = ug g_94 7 (sN S1) 0 := ⟨_, rfl⟩
                have hT : md_at G o A M_95 0 (sSp S1) (sSh S1) (nI (sN S1 + 1)) (nI np92) (nI (fSz (fIx st))) g_96 := by rw [hg_96]; exact md_at.put hT (by decide) rfl rfl hM_95
                have hk : md_keeps o A M M_95 := md_keeps.arr (j := 7) hk (by decide) hM_95
                have hB : md_ab np92 bg92 g_96 (fs_push S1 (((bW S1 y_66) + (bW S1 (fIx x))), (((bH S1 (fIx x)) + (((pV S (fIx st) 13) + ((fAb (pV S (fIx st) 13)) / 4)) + (fHf ((bH S1 y_66) - ((fEx S1 (nI (fIx x))) + ((pV S (fIx st) 13) + ((fAb (pV S (fIx st) 13)) / 4))))))) + (2 * 0)), (fMx (bD S1 (fIx x)) ((bH S1 y_66) - ((bH S1 (fIx x)) + (((pV S (fIx st) 13) + ((fAb (pV S (fIx st) 13)) / 4)) + (fHf ((bH S1 y_66) - ((fEx S1 (nI (fIx x))) + ((pV S (fIx st) 13) + ((fAb (pV S (fIx st) 13)) / 4))))))))), [(nI y_66), 0, (((bH S1 (fIx x)) + (((pV S (fIx st) 13) + ((fAb (pV S (fIx st) 13)) / 4)) + (fHf ((bH S1 y_66) - ((fEx S1 (nI (fIx x))) + ((pV S (fIx st) 13) + ((fAb (pV S (fIx st) 13)) / 4))))))) - (bH S1 y_66)), (nI (fIx x)), (bW S1 y_66), 0, (-1), (bW S1 y_66), ((bH S1 (fIx x)) + (((pV S (fIx st) 13) + ((fAb (pV S (fIx st) 13)) / 4)) + (fHf ((bH S1 y_66) - ((fEx S1 (nI (fIx x))) + ((pV S (fIx st) 13) + ((fAb (pV S (fIx st) 13)) / 4)))))))], (bW S1 (fIx x)), 0)) := by rw [hg_96]; exact md_ab.set7 hB _
                refine lv_iload hx hb dX4_root_387 (lv_at hl 0 rfl) ?_
                have hex : ex_root S st x k = 0 := by rw [ex_root, if_neg (fun z9 => z9 ⟨kb_5, kb_7⟩), if_neg (fun z9 => z9 kb_9), if_neg (fun z9 => z9 kG), if_neg (fun z9 => z9 kb_62)]
                have hre : re_root S st x k = (((bW S1 y_66) + (bW S1 (fIx x))), (((bH S1 (fIx x)) + (((pV S (fIx st) 13) + ((fAb (pV S (fIx st) 13)) / 4)) + (fHf ((bH S1 y_66) - ((fEx S1 (nI (fIx x))) + ((pV S (fIx st) 13) + ((fAb (pV S (fIx st) 13)) / 4))))))) + (2 * 0)), (fMx (bD S1 (fIx x)) ((bH S1 y_66) - ((bH S1 (fIx x)) + (((pV S (fIx st) 13) + ((fAb (pV S (fIx st) 13)) / 4)) + (fHf ((bH S1 y_66) - ((fEx S1 (nI (fIx x))) + ((pV S (fIx st) 13) + ((fAb (pV S (fIx st) 13)) / 4))))))))), [(nI y_66), 0, (((bH S1 (fIx x)) + (((pV S (fIx st) 13) + ((fAb (pV S (fIx st) 13)) / 4)) + (fHf ((bH S1 y_66) - ((fEx S1 (nI (fIx x))) + ((pV S (fIx st) 13) + ((fAb (pV S (fIx st) 13)) / 4))))))) - (bH S1 y_66)), (nI (fIx x)), (bW S1 y_66), 0, (-1), (bW S1 y_66), ((bH S1 (fIx x)) + (((pV S (fIx st) 13) + ((fAb (pV S (fIx st) 13)) / 4)) + (fHf ((bH S1 y_66) - ((fEx S1 (nI (fIx x))) + ((pV S (fIx st) 13) + ((fAb (pV S (fIx st) 13)) / 4)))))))], (bW S1 (fIx x)), 0) := by rw [re_root, ← hS1, ← ey_66]; simp only [fs_rs, fs_rs1, fs_rs2, fs_rc, if_pos hrd, if_neg c_14, if_neg c_70, if_true, if_false, Int32.add_zero, show ((1 : Int32) = 0) = False from eq_false (by decide), show ((0 : Int32) = 0) = True from eq_true rfl]; try simp only [Int32.add_assoc]
                exact mx_iret (v := (nI (sN S1))) (M' := M_95) hx hb hr hlocks hP hS ⟨by rw [hex, if_pos rfl, ← hS1], ⟨_, by rw [hex, if_pos rfl, ← hS1, hre]; exact (md_R.of (np := np92) hT hB : md_R G o A M_95 0 (nI (fSz (fIx st))) (fs_push S1 (((bW S1 y_66) + (bW S1 (fIx x))), (((bH S1 (fIx x)) + (((pV S (fIx st) 13) + ((fAb (pV S (fIx st) 13)) / 4)) + (fHf ((bH S1 y_66) - ((fEx S1 (nI (fIx x))) + ((pV S (fIx st) 13) + ((fAb (pV S (fIx st) 13)) / 4))))))) + (2 * 0)), (fMx (bD S1 (fIx x)) ((bH S1 y_66) - ((bH S1 (fIx x)) + (((pV S (fIx st) 13) + ((fAb (pV S (fIx st) 13)) / 4)) + (fHf ((bH S1 y_66) - ((fEx S1 (nI (fIx x))) + ((pV S (fIx st) 13) + ((fAb (pV S (fIx st) 13)) / 4))))))))), [(nI y_66), 0, (((bH S1 (fIx x)) + (((pV S (fIx st) 13) + ((fAb (pV S (fIx st) 13)) / 4)) + (fHf ((bH S1 y_66) - ((fEx S1 (nI (fIx x))) + ((pV S (fIx st) 13) + ((fAb (pV S (fIx st) 13)) / 4))))))) - (bH S1 y_66)), (nI (fIx x)), (bW S1 y_66), 0, (-1), (bW S1 y_66), ((bH S1 (fIx x)) + (((pV S (fIx st) 13) + ((fAb (pV S (fIx st) 13)) / 4)) + (fHf ((bH S1 y_66) - ((fEx S1 (nI (fIx x))) + ((pV S (fIx st) 13) + ((fAb (pV S (fIx st) 13)) / 4)))))))], (bW S1 (fIx x)), 0)))⟩, hk⟩ dX4_root_389 (Nat.le_of_ble_eq_true rfl) (Nat.le_of_ble_eq_true rfl)
            · have kb_97 : ¬ rmk S ((if ro_r S st x k = (-1) then 1 else 0) + 1) := by rw [if_pos hrd, show (1 : Int32) + 1 = 2 from rfl]; exact fun z9 => z9 (Int32.not_le.mp c_61)
              refine lv_iconst (v := 4) hx hb dX4_root_158 (by decide) ?_
              refine lv_goto (tgt := 163) hx hb dX4_root_159 (by decide) ?_
              refine mw_put (D := gD G) (ci := 4) (v := .int 4) (ty := .int) (C := RX4) (T := TX4) (N := 21) hx hb htb inX4 tyX4 tyX4_ok nmX4 hown hK hP hS hT.1 hT.2.2.2.1 rfl 0 (by decide) (htb _ wd524) (fun _ h9 => h9) rfl (by decide +kernel) rfl rfl (Nat.le_of_ble_eq_true rfl) dX4_root_163 (fun H locs hP hS => ?_)
              obtain ⟨M_98, hM_98⟩ : ∃ z9 : mw_M, z9 = mw_up M_12 o (.inr (4, [.int 4, .ref (A 0), .int (sSp S), .int (sSh S), .int (nI (sN S)), .ref (A 1), .ref (A 2), .ref (A 3), .ref (A 4), .ref (A 5), .ref (A 6), .ref (A 7), .int (nI np13), .ref (A 8), .ref (A 9), .ref (A 10), .ref (A 11), .ref (A 12), .ref (A 13), .ref (A 14), .int (nI (fSz (fIx st)))])) := ⟨_, rfl⟩
              have hP : mw_P (gD G) gx_cl M_98 H := by rw [hM_98]; exact hP
              have hT : md_at G o A M_98 4 (sSp S) (sSh S) (nI (sN S)) (nI np13) (nI (fSz (fIx st))) g13 := md_at.fld hT hM_98
              have hk : md_keeps o A M M_98 := md_keeps.fld hk hM_98
              refine lv_aload_n hx hb dX4_root_166 rfl (lv_at hl 4 rfl) ?_
              refine mw_get (D := gD G) (ci := 4) (v := .int 4) (C := RX4) (T := TX4) (N := 21) hx hb htb inX4 hown hK hP hT.1 rfl 0 (by decide) (htb _ wd524) (fun _ h9 => h9) rfl dX4_root_167 ?_
              refine lv_if_le (tgt := 175) hx hb dX4_root_170 (by decide) (fun c_99 => absurd c_99 (by decide)) (fun c_99 => ?_)
              refine lv_iconst (v := 0) hx hb dX4_root_173 (by decide) ?_
              have hex : ex_root S st x k = 4 := by rw [ex_root, if_neg (fun z9 => z9 ⟨kb_5, kb_7⟩), if_neg (fun z9 => z9 kb_9), if_neg (fun z9 => z9 kG), if_pos (fun z9 => kb_97 z9)]
              exact mx_iret (v := 0) (M' := M_98) hx hb hr hlocks hP hS ⟨by rw [hex]; rfl, ⟨_, by rw [hex]; exact (⟨np13, bg13, g13, hT, hB⟩ : md_R G o A M_98 4 (nI (fSz (fIx st))) S)⟩, hk⟩ dX4_root_174 (Nat.le_of_ble_eq_true rfl) (Nat.le_of_ble_eq_true rfl)
        · refine lv_aload_n hx hb dX4_root_59 rfl (lv_at hl 0 rfl) ?_
          refine lv_bipush (v := 14) hx hb dX4_root_60 (by decide) ?_
          refine mw_callV (C := RX4) (As := [.int 14]) (rest := [.int (pV S (fIx st) 13)]) hx hb hml hown hl (kX4_p l htr G H.size M_12 o A 0 S (fIx st) 14 h_st (by decide) (⟨np13, bg13, g13, hT, hB⟩ : md_R G o A M_12 0 (nI (fSz (fIx st))) S)) (g_B (n := 1) htb wd679 wd3 wd676 (by decide +kernel) ⟨Nat.le_of_ble_eq_true rfl, Nat.le_of_ble_eq_true rfl⟩) (htb _ wd678) (htb _ ws36) hE hP hS hT.1 rfl rfl rfl (Nat.le_of_ble_eq_true rfl) dX4_root_62 ⟨Nat.le_of_ble_eq_true rfl, Nat.le_of_ble_eq_true rfl⟩ (fun v9 M9 H locs hpo hP hz hS => ?_) (fun x9 E9 cell9 H9 locs9 hE9 => hE9.elim)
          obtain ⟨rfl, rfl⟩ := hpo
          refine W.eq (g2 := F0 m 65 ls [.int (pV S (fIx st) 14), .int (pV S (fIx st) 13)]) rfl ?_
          refine lv_goto (tgt := 74) hx hb dX4_root_65 (by decide) ?_
          refine mw_callS (As := [.int (pV S (fIx st) 14)]) (rest := [.int (pV S (fIx st) 13)]) hx hb hml hown hl (kX4_abs l htr G H.size M_12 (pV S (fIx st) 14)) (g_B (n := 1) htb wd689 wd3 wd687 (by decide +kernel) ⟨Nat.le_of_ble_eq_true rfl, Nat.le_of_ble_eq_true rfl⟩) (htb _ wd688) hE hP hS rfl rfl (Nat.le_of_ble_eq_true rfl) dX4_root_74 ⟨Nat.le_of_ble_eq_true rfl, Nat.le_of_ble_eq_true rfl⟩ (fun v9 M9 H locs hpo hP hz hS => ?_) (fun x9 E9 cell9 H9 locs9 hE9 => hE9.elim)
          obtain ⟨rfl, rfl⟩ := hpo
          refine W.eq (g2 := F0 m 77 ls [.int (fAb (pV S (fIx st) 14)), .int (pV S (fIx st) 13)]) rfl ?_
          refine lv_iconst (v := 4) hx hb dX4_root_77 (by decide) ?_
          refine lv_idiv hx hb dX4_root_78 (by decide) ?_
          refine lv_iadd hx hb dX4_root_79 ?_
          refine lv_istore (lv' := [(4, .int ((pV S (fIx st) 13) + ((fAb (pV S (fIx st) 14)) / 4))), (0, .ref o), (1, .int (nI (fIx st))), (2, .int (nI (fIx x))), (3, .int (nI (fIx k)))]) hx hb dX4_root_80 hl (by decide) rfl (fun ls hl => ?_)
          refine lv_iconst (v := 0) hx hb dX4_root_82 (by decide) ?_
          refine lv_aload_n hx hb dX4_root_83 rfl (lv_at hl 1 rfl) ?_
          refine lv_iload_n hx hb dX4_root_84 rfl (lv_at hl 3 rfl) ?_
          refine mw_callV (C := RX4) (As := [.int (nI (fIx x))]) (rest := [.int 0]) hx hb hml hown hl (kX4_tall l htr G H.size M_12 o A 0 (nI (fSz (fIx st))) S (⟨np13, bg13, g13, hT, hB⟩ : md_R G o A M_12 0 (nI (fSz (fIx st))) S) (nI (fIx x)) (Or.inr ⟨(fIx x), h_x, rfl⟩)) (g_B (n := 1) htb wd645 wd3 wd642 (by decide +kernel) ⟨Nat.le_of_ble_eq_true rfl, Nat.le_of_ble_eq_true rfl⟩) (htb _ wd644) (htb _ ws30) hE hP hS hT.1 rfl rfl rfl (Nat.le_of_ble_eq_true rfl) dX4_root_85 ⟨Nat.le_of_ble_eq_true rfl, Nat.le_of_ble_eq_true rfl⟩ (fun v9 M9 H locs hpo hP hz hS => ?_) (fun x9 E9 cell9 H9 locs9 hE9 => hE9.elim)
          obtain ⟨rfl, rfl⟩ := hpo
          refine W.eq (g2 := F0 m 88 ls [.int (fEx S (nI (fIx x))), .int 0]) rfl ?_
          refine lv_iload hx hb dX4_root_88 (lv_at hl 0 rfl) ?_
          refine lv_iadd hx hb dX4_root_90 ?_
          refine lv_aload_n hx hb dX4_root_91 rfl (lv_at hl 1 rfl) ?_
          refine lv_bipush (v := 13) hx hb dX4_root_92 (by decide) ?_
          refine mw_callV (C := RX4) (As := [.int 13]) (rest := [.int ((fEx S (nI (fIx x))) + ((pV S (fIx st) 13) + ((fAb (pV S (fIx st) 14)) / 4))), .int 0]) hx hb hml hown hl (kX4_p l htr G H.size M_12 o A 0 S (fIx st) 13 h_st (by decide) (⟨np13, bg13, g13, hT, hB⟩ : md_R G o A M_12 0 (nI (fSz (fIx st))) S)) (g_B (n := 1) htb wd679 wd3 wd676 (by decide +kernel) ⟨Nat.le_of_ble_eq_true rfl, Nat.le_of_ble_eq_true rfl⟩) (htb _ wd678) (htb _ ws36) hE hP hS hT.1 rfl rfl rfl (Nat.le_of_ble_eq_true rfl) dX4_root_94 ⟨Nat.le_of_ble_eq_true rfl, Nat.le_of_ble_eq_true rfl⟩ (fun v9 M9 H locs hpo hP hz hS => ?_) (fun x9 E9 cell9 H9 locs9 hE9 => hE9.elim)
          obtain ⟨rfl, rfl⟩ := hpo
          refine W.eq (g2 := F0 m 97 ls [.int (pV S (fIx st) 13), .int ((fEx S (nI (fIx x))) + ((pV S (fIx st) 13) + ((fAb (pV S (fIx st) 14)) / 4))), .int 0]) rfl ?_
          refine lv_iadd hx hb dX4_root_97 ?_
          refine mw_callS (As := [.int 0, .int (((fEx S (nI (fIx x))) + ((pV S (fIx st) 13) + ((fAb (pV S (fIx st) 14)) / 4))) + (pV S (fIx st) 13))]) (rest := []) hx hb hml hown hl (kX4_greater l htr G H.size M_12 0 (((fEx S (nI (fIx x))) + ((pV S (fIx st) 13) + ((fAb (pV S (fIx st) 14)) / 4))) + (pV S (fIx st) 13))) (g_B (n := 2) htb wd664 wd3 wd662 (by decide +kernel) ⟨Nat.le_of_ble_eq_true rfl, Nat.le_of_ble_eq_true rfl⟩) (htb _ wd663) hE hP hS rfl rfl (Nat.le_of_ble_eq_true rfl) dX4_root_98 ⟨Nat.le_of_ble_eq_true rfl, Nat.le_of_ble_eq_true rfl⟩ (fun v9 M9 H locs hpo hP hz hS => ?_) (fun x9 E9 cell9 H9 locs9 hE9 => hE9.elim)
          obtain ⟨rfl, rfl⟩ := hpo
          refine W.eq (g2 := F0 m 101 ls [.int (fMx 0 (((fEx S (nI (fIx x))) + ((pV S (fIx st) 13) + ((fAb (pV S (fIx st) 14)) / 4))) + (pV S (fIx st) 13)))]) rfl ?_
          refine lv_istore (lv' := [(5, .int (fMx 0 (((fEx S (nI (fIx x))) + ((pV S (fIx st) 13) + ((fAb (pV S (fIx st) 14)) / 4))) + (pV S (fIx st) 13)))), (4, .int ((pV S (fIx st) 13) + ((fAb (pV S (fIx st) 14)) / 4))), (0, .ref o), (1, .int (nI (fIx st))), (2, .int (nI (fIx x))), (3, .int (nI (fIx k)))]) hx hb dX4_root_101 hl (by decide) rfl (fun ls hl => ?_)
          refine lv_aload_n hx hb dX4_root_103 rfl (lv_at hl 2 rfl) ?_
          refine lv_iload_n hx hb dX4_root_104 rfl (lv_at hl 5 rfl) ?_
          refine lv_iload hx hb dX4_root_105 (lv_at hl 0 rfl) ?_
          have eL : (fMx 0 (((fEx S (nI (fIx x))) + ((pV S (fIx st) 13) + ((fAb (pV S (fIx st) 14)) / 4))) + (pV S (fIx st) 13))) = ro_l S st x := by rw [ro_l, fs_rc, if_pos c_14]
          rw [eL] at hl
          rw [eL]
          refine mw_callV (C := RX4) (As := [.int (nI (fIx k)), .int (ro_l S st x)]) (rest := []) hx hb hml hown hl (kX4_plan l htr G H.size M_12 o A 0 (nI (fSz (fIx st))) S (⟨np13, bg13, g13, hT, hB⟩ : md_R G o A M_12 0 (nI (fSz (fIx st))) S) hok (fIx k) h_k (ro_l S st x)) (g_B (n := 2) htb wd641 wd3 wd638 (by decide +kernel) ⟨Nat.le_of_ble_eq_true rfl, Nat.le_of_ble_eq_true rfl⟩) (htb _ wd640) (htb _ ws29) hE hP hS hT.1 rfl rfl rfl (Nat.le_of_ble_eq_true rfl) dX4_root_107 ⟨Nat.le_of_ble_eq_true rfl, Nat.le_of_ble_eq_true rfl⟩ (fun v9 M9 H locs hpo hP hz hS => ?_) (fun x9 E9 cell9 H9 locs9 hE9 => hE9.elim)
          obtain ⟨rfl, rfl⟩ := hpo
          refine W.eq (g2 := F0 m 110 ls [.int (md_pl S (sF S (fIx k)) (ro_l S st x))]) rfl ?_
          refine lv_istore (lv' := [(6, .int (md_pl S (sF S (fIx k)) (ro_l S st x))), (5, .int (ro_l S st x)), (4, .int ((pV S (fIx st) 13) + ((fAb (pV S (fIx st) 14)) / 4))), (0, .ref o), (1, .int (nI (fIx st))), (2, .int (nI (fIx x))), (3, .int (nI (fIx k)))]) hx hb dX4_root_110 hl (by decide) rfl (fun ls hl => ?_)
          refine lv_iload hx hb dX4_root_112 (lv_at hl 0 rfl) ?_
          refine lv_bipush (v := (-3)) hx hb dX4_root_114 (by decide) ?_
          refine lv_icmp_ne (tgt := 123) hx hb dX4_root_116 (by decide) (fun c_100 => ?_) (fun c_100 => ?_)
          · refine lv_iconst (v := 0) hx hb dX4_root_123 (by decide) ?_
            refine lv_istore (lv' := [(7, .int 0), (6, .int (md_pl S (sF S (fIx k)) (ro_l S st x))), (5, .int (ro_l S st x)), (4, .int ((pV S (fIx st) 13) + ((fAb (pV S (fIx st) 14)) / 4))), (0, .ref o), (1, .int (nI (fIx st))), (2, .int (nI (fIx x))), (3, .int (nI (fIx k)))]) hx hb dX4_root_124 hl (by decide) rfl (fun ls hl => ?_)
            refine lv_aload_n hx hb dX4_root_126 rfl (lv_at hl 4 rfl) ?_
            refine lv_iload hx hb dX4_root_127 (lv_at hl 1 rfl) ?_
            refine lv_bipush (v := (-2)) hx hb dX4_root_129 (by decide) ?_
            refine lv_icmp_ne (tgt := 138) hx hb dX4_root_131 (by decide) (fun c_101 => ?_) (fun c_101 => ?_)
            · have kG : isG S (fIx k) := fun z9 => c_101 ((pl_2 hle o1 o2).mpr z9)
              have hrd : ¬ ro_r S st x k = (-1) := (pl_n3 hle o1 o2 kG c_100).2
              refine lv_aload_n hx hb dX4_root_138 rfl (lv_at hl 4 rfl) ?_
              refine mw_get (D := gD G) (ci := 4) (v := .int (nI (sN S))) (C := RX4) (T := TX4) (N := 21) hx hb htb inX4 hown hK hP hT.1 rfl 4 (by decide) (htb _ wd528) (fun _ h9 => h9) rfl dX4_root_139 ?_
              refine lv_iload hx hb dX4_root_142 (lv_at hl 0 rfl) ?_
              refine lv_if_eq (tgt := 151) hx hb dX4_root_144 (by decide) (fun c_102 => ?_) (fun c_102 => absurd (by decide) c_102)
              refine lv_iconst (v := 1) hx hb dX4_root_151 (by decide) ?_
              refine lv_iadd hx hb dX4_root_152 ?_
              refine lv_bipush (v := 120) hx hb dX4_root_153 (by decide) ?_
              refine lv_icmp_le (tgt := 162) hx hb dX4_root_155 (by decide) (fun c_103 => ?_) (fun c_103 => ?_)
              · have kb_104 : rmk S ((if ro_r S st x k = (-1) then 1 else 0) + 1) := by rw [if_neg hrd, show (0 : Int32) + 1 = 1 from rfl]; exact Int32.not_lt.mpr c_103
                have hrm : sN S + 1 ≤ 120 := rmk_le (n := 1) (by decide) hle (Int32.not_lt.mpr c_103)
                refine lv_iconst (v := 0) hx hb dX4_root_162 (by decide) ?_
                refine mw_put (D := gD G) (ci := 4) (v := .int 0) (ty := .int) (C := RX4) (T := TX4) (N := 21) hx hb htb inX4 tyX4 tyX4_ok nmX4 hown hK hP hS hT.1 hT.2.2.2.1 rfl 0 (by decide) (htb _ wd524) (fun _ h9 => h9) rfl (by decide +kernel) rfl rfl (Nat.le_of_ble_eq_true rfl) dX4_root_163 (fun H locs hP hS => ?_)
                obtain ⟨M_105, hM_105⟩ : ∃ z9 : mw_M, z9 = mw_up M_12 o (.inr (4, [.int 0, .ref (A 0), .int (sSp S), .int (sSh S), .int (nI (sN S)), .ref (A 1), .ref (A 2), .ref (A 3), .ref (A 4), .ref (A 5), .ref (A 6), .ref (A 7), .int (nI np13), .ref (A 8), .ref (A 9), .ref (A 10), .ref (A 11), .ref (A 12), .ref (A 13), .ref (A 14), .int (nI (fSz (fIx st)))])) := ⟨_, rfl⟩
                have hP : mw_P (gD G) gx_cl M_105 H := by rw [hM_105]; exact hP
                have hT : md_at G o A M_105 0 (sSp S) (sSh S) (nI (sN S)) (nI np13) (nI (fSz (fIx st))) g13 := md_at.fld hT hM_105
                have hk : md_keeps o A M M_105 := md_keeps.fld hk hM_105
                refine lv_aload_n hx hb dX4_root_166 rfl (lv_at hl 4 rfl) ?_
                refine mw_get (D := gD G) (ci := 4) (v := .int 0) (C := RX4) (T := TX4) (N := 21) hx hb htb inX4 hown hK hP hT.1 rfl 0 (by decide) (htb _ wd524) (fun _ h9 => h9) rfl dX4_root_167 ?_
                refine lv_if_le (tgt := 175) hx hb dX4_root_170 (by decide) (fun c_106 => ?_) (fun c_106 => absurd (by decide) c_106)
                refine lv_aload_n hx hb dX4_root_175 rfl (lv_at hl 4 rfl) ?_
                refine lv_iload_n hx hb dX4_root_176 rfl (lv_at hl 7 rfl) ?_
                refine lv_iload hx hb dX4_root_177 (lv_at hl 2 rfl) ?_
                refine mw_callV (C := RX4) (As := [.int (nI (fIx k)), .int (ro_l S st x)]) (rest := []) hx hb hml hown hl (kX4_signBy l htr G H.size M_105 o A 0 (nI (fSz (fIx st))) S (⟨np13, bg13, g13, hT, hB⟩ : md_R G o A M_105 0 (nI (fSz (fIx st))) S) hok (fIx k) h_k (ro_l S st x) kG (fun z9 => by omega)) (g_B (n := 2) htb wd649 wd3 wd646 (by decide +kernel) ⟨Nat.le_of_ble_eq_true rfl, Nat.le_of_ble_eq_true rfl⟩) (htb _ wd648) (htb _ ws31) hE hP hS hT.1 rfl rfl rfl (Nat.le_of_ble_eq_true rfl) dX4_root_179 ⟨Nat.le_of_ble_eq_true rfl, Nat.le_of_ble_eq_true rfl⟩ (fun v9 M9 H locs hpo hP hz hS => ?_) (fun x9 E9 cell9 H9 locs9 hE9 => hE9.elim)
                obtain ⟨rfl, hRn, hkn⟩ := hpo
                obtain ⟨M_107, hM_107⟩ : ∃ z9 : mw_M, z9 = M9 := ⟨_, rfl⟩
                rw [← hM_107] at hP hRn hkn
                have hk := md_keeps.tr hk hkn
                obtain ⟨S1, hS1⟩ : ∃ z9, z9 = ro_S S st x k := ⟨_, rfl⟩
                have hRn : md_R G o A M_107 0 (nI (fSz (fIx st))) S1 := by rw [hS1]; exact hRn
                obtain ⟨hy1, hy2⟩ := kt_in (sF S (fIx k)) (ro_l S st x) hle (fs_rd_on (ro_l S st x) o2)
                obtain ⟨y_108, ey_108⟩ : ∃ z9, z9 = fIx (kt_y S (ro_r S st x k)) := ⟨_, rfl⟩
                have h_y_108 : y_108 < sN S1 := by rw [ey_108, hS1]; exact hy1
                have hy3 : kt_y S (fs_rd S (sF S (fIx k)) (ro_l S st x)) = nI y_108 := by rw [ey_108]; exact hy2
                have hle1 : sN S ≤ sN S1 := by rw [hS1]; exact kt_le _ _ _ _
                have h_x := Nat.lt_of_lt_of_le h_x hle1
                obtain ⟨np109, bg109, g109, hT, hB⟩ := id hRn
                have hle0 := hle
                have hle : sN S1 ≤ 120 := hB.1
                refine W.eq (g2 := F0 m 182 ls [.int (nI y_108)]) (show F0 m 182 ls [.int (kt_y S (fs_rd S (sF S (fIx k)) (ro_l S st x)))] = F0 m 182 ls [.int (nI y_108)] from by rw [hy3]) ?_
                refine lv_istore (lv' := [(8, .int (nI y_108)), (7, .int 0), (6, .int (md_pl S (sF S (fIx k)) (ro_l S st x))), (5, .int (ro_l S st x)), (4, .int ((pV S (fIx st) 13) + ((fAb (pV S (fIx st) 14)) / 4))), (0, .ref o), (1, .int (nI (fIx st))), (2, .int (nI (fIx x))), (3, .int (nI (fIx k)))]) hx hb dX4_root_182 hl (by decide) rfl (fun ls hl => ?_)
                refine lv_iload hx hb dX4_root_184 (lv_at hl 1 rfl) ?_
                refine lv_if_eq (tgt := 193) hx hb dX4_root_186 (by decide) (fun c_110 => ?_) (fun c_110 => absurd (by decide) c_110)
                refine lv_aload_n hx hb dX4_root_193 rfl (lv_at hl 5 rfl) ?_
                refine mw_get (D := gD G) (ci := 4) (v := .ref (A 2)) (C := RX4) (T := TX4) (N := 21) hx hb htb inX4 hown hK hP hT.1 rfl 6 (by decide) (htb _ wd530) (fun _ h9 => h9) rfl dX4_root_194 ?_
                refine lv_iload hx hb dX4_root_197 (lv_at hl 0 rfl) ?_
                refine mw_iald hx hb hK hP 0 (show M_107 (A 2) = some (.inl (gI G, 120, .inl (g109 2))) from hT.2.1 2 (by decide)) rfl (by exact vp_in_nI (show y_108 < 120 by have := hle; omega) (by decide)) dX4_root_199 ?_
                refine W.eq (g2 := F0 m 200 ls [.int (bH S1 y_108)]) (by rw [nI_clamp (show y_108 < 2 ^ 31 by have := hle; omega), hB.H h_y_108]) ?_
                refine lv_istore (lv' := [(9, .int (bH S1 y_108)), (8, .int (nI y_108)), (7, .int 0), (6, .int (md_pl S (sF S (fIx k)) (ro_l S st x))), (5, .int (ro_l S st x)), (4, .int ((pV S (fIx st) 13) + ((fAb (pV S (fIx st) 14)) / 4))), (0, .ref o), (1, .int (nI (fIx st))), (2, .int (nI (fIx x))), (3, .int (nI (fIx k)))]) hx hb dX4_root_200 hl (by decide) rfl (fun ls hl => ?_)
                refine lv_iload hx hb dX4_root_202 (lv_at hl 2 rfl) ?_
                refine lv_if_eq (tgt := 217) hx hb dX4_root_204 (by decide) (fun c_111 => ?_) (fun c_111 => absurd (by decide) c_111)
                refine lv_aload_n hx hb dX4_root_217 rfl (lv_at hl 6 rfl) ?_
                refine mw_get (D := gD G) (ci := 4) (v := .ref (A 3)) (C := RX4) (T := TX4) (N := 21) hx hb htb inX4 hown hK hP hT.1 rfl 7 (by decide) (htb _ wd531) (fun _ h9 => h9) rfl dX4_root_218 ?_
                refine lv_iload hx hb dX4_root_221 (lv_at hl 1 rfl) ?_
                refine mw_iald hx hb hK hP 0 (show M_107 (A 3) = some (.inl (gI G, 120, .inl (g109 3))) from hT.2.1 3 (by decide)) rfl (by exact vp_in_nI (show y_108 < 120 by have := hle; omega) (by decide)) dX4_root_223 ?_
                refine W.eq (g2 := F0 m 224 ls [.int (bD S1 y_108)]) (by rw [nI_clamp (show y_108 < 2 ^ 31 by have := hle; omega), hB.D h_y_108]) ?_
                refine lv_istore (lv' := [(10, .int (bD S1 y_108)), (9, .int (bH S1 y_108)), (8, .int (nI y_108)), (7, .int 0), (6, .int (md_pl S (sF S (fIx k)) (ro_l S st x))), (5, .int (ro_l S st x)), (4, .int ((pV S (fIx st) 13) + ((fAb (pV S (fIx st) 14)) / 4))), (0, .ref o), (1, .int (nI (fIx st))), (2, .int (nI (fIx x))), (3, .int (nI (fIx k)))]) hx hb dX4_root_224 hl (by decide) rfl (fun ls hl => ?_)
                refine lv_iload hx hb dX4_root_226 (lv_at hl 0 rfl) ?_
                refine lv_aload_n hx hb dX4_root_228 rfl (lv_at hl 7 rfl) ?_
                refine lv_iload_n hx hb dX4_root_229 rfl (lv_at hl 9 rfl) ?_
                refine mw_callV (C := RX4) (As := [.int (nI (fIx x))]) (rest := [.int (bD S1 y_108)]) hx hb hml hown hl (kX4_tall l htr G H.size M_107 o A 0 (nI (fSz (fIx st))) S1 (⟨np109, bg109, g109, hT, hB⟩ : md_R G o A M_107 0 (nI (fSz (fIx st))) S1) (nI (fIx x)) (Or.inr ⟨(fIx x), h_x, rfl⟩)) (g_B (n := 1) htb wd645 wd3 wd642 (by decide +kernel) ⟨Nat.le_of_ble_eq_true rfl, Nat.le_of_ble_eq_true rfl⟩) (htb _ wd644) (htb _ ws30) hE hP hS hT.1 rfl rfl rfl (Nat.le_of_ble_eq_true rfl) dX4_root_230 ⟨Nat.le_of_ble_eq_true rfl, Nat.le_of_ble_eq_true rfl⟩ (fun v9 M9 H locs hpo hP hz hS => ?_) (fun x9 E9 cell9 H9 locs9 hE9 => hE9.elim)
                obtain ⟨rfl, rfl⟩ := hpo
                refine W.eq (g2 := F0 m 233 ls [.int (fEx S1 (nI (fIx x))), .int (bD S1 y_108)]) rfl ?_
                refine lv_iload hx hb dX4_root_233 (lv_at hl 6 rfl) ?_
                refine lv_iadd hx hb dX4_root_235 ?_
                refine lv_isub hx hb dX4_root_236 ?_
                refine lv_istore (lv' := [(11, .int ((bD S1 y_108) - ((fEx S1 (nI (fIx x))) + ((pV S (fIx st) 13) + ((fAb (pV S (fIx st) 14)) / 4))))), (10, .int (bD S1 y_108)), (9, .int (bH S1 y_108)), (8, .int (nI y_108)), (7, .int 0), (6, .int (md_pl S (sF S (fIx k)) (ro_l S st x))), (5, .int (ro_l S st x)), (4, .int ((pV S (fIx st) 13) + ((fAb (pV S (fIx st) 14)) / 4))), (0, .ref o), (1, .int (nI (fIx st))), (2, .int (nI (fIx x))), (3, .int (nI (fIx k)))]) hx hb dX4_root_237 hl (by decide) rfl (fun ls hl => ?_)
                refine lv_iload hx hb dX4_root_239 (lv_at hl 0 rfl) ?_
                refine lv_if_le (tgt := 255) hx hb dX4_root_241 (by decide) (fun c_112 => ?_) (fun c_112 => ?_)
                · refine lv_iload hx hb dX4_root_255 (lv_at hl 7 rfl) ?_
                  refine lv_istore (lv' := [(4, .int ((pV S (fIx st) 13) + ((fAb (pV S (fIx st) 14)) / 4))), (11, .int ((bD S1 y_108) - ((fEx S1 (nI (fIx x))) + ((pV S (fIx st) 13) + ((fAb (pV S (fIx st) 14)) / 4))))), (10, .int (bD S1 y_108)), (9, .int (bH S1 y_108)), (8, .int (nI y_108)), (7, .int 0), (6, .int (md_pl S (sF S (fIx k)) (ro_l S st x))), (5, .int (ro_l S st x)), (0, .ref o), (1, .int (nI (fIx st))), (2, .int (nI (fIx x))), (3, .int (nI (fIx k)))]) hx hb dX4_root_257 hl (by decide) rfl (fun ls hl => ?_)
                  refine lv_aload_n hx hb dX4_root_259 rfl (lv_at hl 8 rfl) ?_
                  refine mw_get (D := gD G) (ci := 4) (v := .ref (A 2)) (C := RX4) (T := TX4) (N := 21) hx hb htb inX4 hown hK hP hT.1 rfl 6 (by decide) (htb _ wd530) (fun _ h9 => h9) rfl dX4_root_260 ?_
                  refine lv_iload_n hx hb dX4_root_263 rfl (lv_at hl 10 rfl) ?_
                  refine mw_iald hx hb hK hP 0 (show M_107 (A 2) = some (.inl (gI G, 120, .inl (g109 2))) from hT.2.1 2 (by decide)) rfl (by exact vp_in_nI (show (fIx x) < 120 by have := hle; omega) (by decide)) dX4_root_264 ?_
                  refine W.eq (g2 := F0 m 265 ls [.int (bH S1 (fIx x))]) (by rw [nI_clamp (show (fIx x) < 2 ^ 31 by have := hle; omega), hB.H h_x]) ?_
                  refine lv_iload hx hb dX4_root_265 (lv_at hl 0 rfl) ?_
                  refine lv_iadd hx hb dX4_root_267 ?_
                  refine lv_istore (lv' := [(12, .int ((bH S1 (fIx x)) + ((pV S (fIx st) 13) + ((fAb (pV S (fIx st) 14)) / 4)))), (4, .int ((pV S (fIx st) 13) + ((fAb (pV S (fIx st) 14)) / 4))), (11, .int ((bD S1 y_108) - ((fEx S1 (nI (fIx x))) + ((pV S (fIx st) 13) + ((fAb (pV S (fIx st) 14)) / 4))))), (10, .int (bD S1 y_108)), (9, .int (bH S1 y_108)), (8, .int (nI y_108)), (7, .int 0), (6, .int (md_pl S (sF S (fIx k)) (ro_l S st x))), (5, .int (ro_l S st x)), (0, .ref o), (1, .int (nI (fIx st))), (2, .int (nI (fIx x))), (3, .int (nI (fIx k)))]) hx hb dX4_root_268 hl (by decide) rfl (fun ls hl => ?_)
                  refine lv_aload_n hx hb dX4_root_270 rfl (lv_at hl 9 rfl) ?_
                  refine lv_aload_n hx hb dX4_root_271 rfl (lv_at hl 9 rfl) ?_
                  refine mw_get (D := gD G) (ci := 4) (v := .ref (A 1)) (C := RX4) (T := TX4) (N := 21) hx hb htb inX4 hown hK hP hT.1 rfl 5 (by decide) (htb _ wd529) (fun _ h9 => h9) rfl dX4_root_272 ?_
                  refine lv_iload hx hb dX4_root_275 (lv_at hl 5 rfl) ?_
                  refine mw_iald hx hb hK hP 0 (show M_107 (A 1) = some (.inl (gI G, 120, .inl (g109 1))) from hT.2.1 1 (by decide)) rfl (by exact vp_in_nI (show y_108 < 120 by have := hle; omega) (by decide)) dX4_root_277 ?_
                  refine W.eq (g2 := F0 m 278 ls [.int (bW S1 y_108), .ref o]) (by rw [nI_clamp (show y_108 < 2 ^ 31 by have := hle; omega), hB.W h_y_108]) ?_
                  refine lv_aload_n hx hb dX4_root_278 rfl (lv_at hl 9 rfl) ?_
                  refine mw_get (D := gD G) (ci := 4) (v := .ref (A 1)) (C := RX4) (T := TX4) (N := 21) hx hb htb inX4 hown hK hP hT.1 rfl 5 (by decide) (htb _ wd529) (fun _ h9 => h9) rfl dX4_root_279 ?_
                  refine lv_iload_n hx hb dX4_root_282 rfl (lv_at hl 11 rfl) ?_
                  refine mw_iald hx hb hK hP 0 (show M_107 (A 1) = some (.inl (gI G, 120, .inl (g109 1))) from hT.2.1 1 (by decide)) rfl (by exact vp_in_nI (show (fIx x) < 120 by have := hle; omega) (by decide)) dX4_root_283 ?_
                  refine W.eq (g2 := F0 m 284 ls [.int (bW S1 (fIx x)), .int (bW S1 y_108), .ref o]) (by rw [nI_clamp (show (fIx x) < 2 ^ 31 by have := hle; omega), hB.W h_x]) ?_
                  refine lv_iadd hx hb dX4_root_284 ?_
                  refine lv_iload hx hb dX4_root_285 (lv_at hl 0 rfl) ?_
                  refine lv_iconst (v := 2) hx hb dX4_root_287 (by decide) ?_
                  refine lv_iload hx hb dX4_root_288 (lv_at hl 4 rfl) ?_
                  refine lv_imul hx hb dX4_root_290 ?_
                  refine lv_iadd hx hb dX4_root_291 ?_
                  refine lv_aload_n hx hb dX4_root_292 rfl (lv_at hl 9 rfl) ?_
                  refine mw_get (D := gD G) (ci := 4) (v := .ref (A 3)) (C := RX4) (T := TX4) (N := 21) hx hb htb inX4 hown hK hP hT.1 rfl 7 (by decide) (htb _ wd531) (fun _ h9 => h9) rfl dX4_root_293 ?_
                  refine lv_iload_n hx hb dX4_root_296 rfl (lv_at hl 11 rfl) ?_
                  refine mw_iald hx hb hK hP 0 (show M_107 (A 3) = some (.inl (gI G, 120, .inl (g109 3))) from hT.2.1 3 (by decide)) rfl (by exact vp_in_nI (show (fIx x) < 120 by have := hle; omega) (by decide)) dX4_root_297 ?_
                  refine W.eq (g2 := F0 m 298 ls [.int (bD S1 (fIx x)), .int (((bH S1 (fIx x)) + ((pV S (fIx st) 13) + ((fAb (pV S (fIx st) 14)) / 4))) + (2 * (bH S1 y_108))), .int ((bW S1 y_108) + (bW S1 (fIx x))), .ref o]) (by rw [nI_clamp (show (fIx x) < 2 ^ 31 by have := hle; omega), hB.D h_x]) ?_
                  refine lv_iload hx hb dX4_root_298 (lv_at hl 3 rfl) ?_
                  refine lv_iload hx hb dX4_root_300 (lv_at hl 0 rfl) ?_
                  refine lv_isub hx hb dX4_root_302 ?_
                  refine mw_callS (As := [.int (bD S1 (fIx x)), .int ((bD S1 y_108) - ((bH S1 (fIx x)) + ((pV S (fIx st) 13) + ((fAb (pV S (fIx st) 14)) / 4))))]) (rest := [.int (((bH S1 (fIx x)) + ((pV S (fIx st) 13) + ((fAb (pV S (fIx st) 14)) / 4))) + (2 * (bH S1 y_108))), .int ((bW S1 y_108) + (bW S1 (fIx x))), .ref o]) hx hb hml hown hl (kX4_greater l htr G H.size M_107 (bD S1 (fIx x)) ((bD S1 y_108) - ((bH S1 (fIx x)) + ((pV S (fIx st) 13) + ((fAb (pV S (fIx st) 14)) / 4))))) (g_B (n := 2) htb wd664 wd3 wd662 (by decide +kernel) ⟨Nat.le_of_ble_eq_true rfl, Nat.le_of_ble_eq_true rfl⟩) (htb _ wd663) hE hP hS rfl rfl (Nat.le_of_ble_eq_true rfl) dX4_root_303 ⟨Nat.le_of_ble_eq_true rfl, Nat.le_of_ble_eq_true rfl⟩ (fun v9 M9 H locs hpo hP hz hS => ?_) (fun x9 E9 cell9 H9 locs9 hE9 => hE9.elim)
                  obtain ⟨rfl, rfl⟩ := hpo
                  refine W.eq (g2 := F0 m 306 ls [.int (fMx (bD S1 (fIx x)) ((bD S1 y_108) - ((bH S1 (fIx x)) + ((pV S (fIx st) 13) + ((fAb (pV S (fIx st) 14)) / 4))))), .int (((bH S1 (fIx x)) + ((pV S (fIx st) 13) + ((fAb (pV S (fIx st) 14)) / 4))) + (2 * (bH S1 y_108))), .int ((bW S1 y_108) + (bW S1 (fIx x))), .ref o]) rfl ?_
                  refine mw_callV (C := RX4) (As := [.int ((bW S1 y_108) + (bW S1 (fIx x))), .int (((bH S1 (fIx x)) + ((pV S (fIx st) 13) + ((fAb (pV S (fIx st) 14)) / 4))) + (2 * (bH S1 y_108))), .int (fMx (bD S1 (fIx x)) ((bD S1 y_108) - ((bH S1 (fIx x)) + ((pV S (fIx st) 13) + ((fAb (pV S (fIx st) 14)) / 4)))))]) (rest := []) hx hb hml hown hl (kX4_make l htr G H.size M_107 o A 0 (nI (fSz (fIx st))) S1 (⟨np109, bg109, g109, hT, hB⟩ : md_R G o A M_107 0 (nI (fSz (fIx st))) S1) (show sN S1 < 120 from by rw [hS1, ro_S, kt_n, if_neg hrd]; omega) ((bW S1 y_108) + (bW S1 (fIx x))) (((bH S1 (fIx x)) + ((pV S (fIx st) 13) + ((fAb (pV S (fIx st) 14)) / 4))) + (2 * (bH S1 y_108))) (fMx (bD S1 (fIx x)) ((bD S1 y_108) - ((bH S1 (fIx x)) + ((pV S (fIx st) 13) + ((fAb (pV S (fIx st) 14)) / 4)))))) (g_B (n := 3) htb wd613 wd3 wd610 (by decide +kernel) ⟨Nat.le_of_ble_eq_true rfl, Nat.le_of_ble_eq_true rfl⟩) (htb _ wd612) (htb _ ws26) hE hP hS hT.1 rfl rfl rfl (Nat.le_of_ble_eq_true rfl) dX4_root_306 ⟨Nat.le_of_ble_eq_true rfl, Nat.le_of_ble_eq_true rfl⟩ (fun v9 M9 H locs hpo hP hz hS => ?_) (fun x9 E9 cell9 H9 locs9 hE9 => hE9.elim)
                  have hle0 := hle
                  obtain ⟨rfl, hRn, hkn⟩ := hpo
                  obtain ⟨M_113, hM_113⟩ : ∃ z9 : mw_M, z9 = M9 := ⟨_, rfl⟩
                  rw [← hM_113] at hP hRn hkn
                  have hk := md_keeps.tr hk hkn
                  have hRn : md_R G o A M_113 0 (nI (fSz (fIx st))) (fs_push S1 (((bW S1 y_108) + (bW S1 (fIx x))), (((bH S1 (fIx x)) + ((pV S (fIx st) 13) + ((fAb (pV S (fIx st) 14)) / 4))) + (2 * (bH S1 y_108))), (fMx (bD S1 (fIx x)) ((bD S1 y_108) - ((bH S1 (fIx x)) + ((pV S (fIx st) 13) + ((fAb (pV S (fIx st) 14)) / 4))))), [], 0, 0)) := hRn
                  obtain ⟨np114, bg114, g114, hT, hB⟩ := id hRn
                  rw [sN_push] at hT
                  have hT : md_at G o A M_113 0 (sSp S1) (sSh S1) (nI (sN S1 + 1)) (nI np114) (nI (fSz (fIx st))) g114 := hT
                  have hle : sN S1 + 1 ≤ 120 := by have := hB.1; rw [sN_push] at this; exact this
                  refine W.eq (g2 := F0 m 309 ls [.int (nI (sN S1))]) rfl ?_
                  refine lv_istore (lv' := [(13, .int (nI (sN S1))), (12, .int ((bH S1 (fIx x)) + ((pV S (fIx st) 13) + ((fAb (pV S (fIx st) 14)) / 4)))), (4, .int ((pV S (fIx st) 13) + ((fAb (pV S (fIx st) 14)) / 4))), (11, .int ((bD S1 y_108) - ((fEx S1 (nI (fIx x))) + ((pV S (fIx st) 13) + ((fAb (pV S (fIx st) 14)) / 4))))), (10, .int (bD S1 y_108)), (9, .int (bH S1 y_108)), (8, .int (nI y_108)), (7, .int 0), (6, .int (md_pl S (sF S (fIx k)) (ro_l S st x))), (5, .int (ro_l S st x)), (0, .ref o), (1, .int (nI (fIx st))), (2, .int (nI (fIx x))), (3, .int (nI (fIx k)))]) hx hb dX4_root_309 hl (by decide) rfl (fun ls hl => ?_)
                  refine lv_aload_n hx hb dX4_root_311 rfl (lv_at hl 10 rfl) ?_
                  refine lv_iload hx hb dX4_root_312 (lv_at hl 6 rfl) ?_
                  refine lv_iconst (v := 0) hx hb dX4_root_314 (by decide) ?_
                  refine lv_iload hx hb dX4_root_315 (lv_at hl 7 rfl) ?_
                  refine lv_if_eq (tgt := 333) hx hb dX4_root_317 (by decide) (fun c_115 => ?_) (fun c_115 => absurd (by decide) c_115)
                  refine lv_iload hx hb dX4_root_333 (lv_at hl 1 rfl) ?_
                  refine mw_callV (C := RX4) (As := [.int (nI y_108), .int 0, .int ((bH S1 (fIx x)) + ((pV S (fIx st) 13) + ((fAb (pV S (fIx st) 14)) / 4)))]) (rest := []) hx hb hml hown hl (kX4_lay l htr G H.size M_113 o A 0 (nI (fSz (fIx st))) S1 ((bW S1 y_108) + (bW S1 (fIx x))) (((bH S1 (fIx x)) + ((pV S (fIx st) 13) + ((fAb (pV S (fIx st) 14)) / 4))) + (2 * (bH S1 y_108))) (fMx (bD S1 (fIx x)) ((bD S1 y_108) - ((bH S1 (fIx x)) + ((pV S (fIx st) 13) + ((fAb (pV S (fIx st) 14)) / 4))))) ([]) 0 0 (md_R.of (np := np114) hT hB : md_R G o A M_113 0 (nI (fSz (fIx st))) (fs_push S1 (((bW S1 y_108) + (bW S1 (fIx x))), (((bH S1 (fIx x)) + ((pV S (fIx st) 13) + ((fAb (pV S (fIx st) 14)) / 4))) + (2 * (bH S1 y_108))), (fMx (bD S1 (fIx x)) ((bD S1 y_108) - ((bH S1 (fIx x)) + ((pV S (fIx st) 13) + ((fAb (pV S (fIx st) 14)) / 4))))), [], 0, 0))) (by simp) (nI y_108) 0 ((bH S1 (fIx x)) + ((pV S (fIx st) 13) + ((fAb (pV S (fIx st) 14)) / 4)))) (g_B (n := 3) htb wd661 wd3 wd658 (by decide +kernel) ⟨Nat.le_of_ble_eq_true rfl, Nat.le_of_ble_eq_true rfl⟩) (htb _ wd660) (htb _ ws34) hE hP hS hT.1 rfl rfl rfl (Nat.le_of_ble_eq_true rfl) dX4_root_335 ⟨Nat.le_of_ble_eq_true rfl, Nat.le_of_ble_eq_true rfl⟩ (fun v9 M9 H locs hpo hP hz hS => ?_) (fun x9 E9 cell9 H9 locs9 hE9 => hE9.elim)
                  obtain ⟨rfl, hRn, hkn⟩ := hpo
                  obtain ⟨M_116, hM_116⟩ : ∃ z9 : mw_M, z9 = M9 := ⟨_, rfl⟩
                  rw [← hM_116] at hP hRn hkn
                  have hk := md_keeps.tr hk hkn
                  have hRn : md_R G o A M_116 0 (nI (fSz (fIx st))) (fs_push S1 (((bW S1 y_108) + (bW S1 (fIx x))), (((bH S1 (fIx x)) + ((pV S (fIx st) 13) + ((fAb (pV S (fIx st) 14)) / 4))) + (2 * (bH S1 y_108))), (fMx (bD S1 (fIx x)) ((bD S1 y_108) - ((bH S1 (fIx x)) + ((pV S (fIx st) 13) + ((fAb (pV S (fIx st) 14)) / 4))))), [(nI y_108), 0, ((bH S1 (fIx x)) + ((pV S (fIx st) 13) + ((fAb (pV S (fIx st) 14)) / 4)))], 0, 0)) := hRn
                  obtain ⟨np117, bg117, g117, hT, hB⟩ := id hRn
                  rw [sN_push] at hT
                  have hT : md_at G o A M_116 0 (sSp S1) (sSh S1) (nI (sN S1 + 1)) (nI np117) (nI (fSz (fIx st))) g117 := hT
                  refine W.eq (g2 := F0 m 338 ls []) rfl ?_
                  refine lv_aload_n hx hb dX4_root_338 rfl (lv_at hl 10 rfl) ?_
                  refine lv_iload_n hx hb dX4_root_339 rfl (lv_at hl 12 rfl) ?_
                  refine lv_aload_n hx hb dX4_root_340 rfl (lv_at hl 10 rfl) ?_
                  refine mw_get (D := gD G) (ci := 4) (v := .ref (A 1)) (C := RX4) (T := TX4) (N := 21) hx hb htb inX4 hown hK hP hT.1 rfl 5 (by decide) (htb _ wd529) (fun _ h9 => h9) rfl dX4_root_341 ?_
                  refine lv_iload hx hb dX4_root_344 (lv_at hl 6 rfl) ?_
                  refine mw_iald hx hb hK hP 0 (show M_116 (A 1) = some (.inl (gI G, 120, .inl (g117 1))) from hT.2.1 1 (by decide)) rfl (by exact vp_in_nI (show y_108 < 120 by have := hle; omega) (by decide)) dX4_root_346 ?_
                  refine W.eq (g2 := F0 m 347 ls [.int (bW S1 y_108), .int (nI (fIx x)), .ref o]) (by rw [nI_clamp (show y_108 < 2 ^ 31 by have := hle; omega), hB.W (show y_108 < sN (fs_push S1 (((bW S1 y_108) + (bW S1 (fIx x))), (((bH S1 (fIx x)) + ((pV S (fIx st) 13) + ((fAb (pV S (fIx st) 14)) / 4))) + (2 * (bH S1 y_108))), (fMx (bD S1 (fIx x)) ((bD S1 y_108) - ((bH S1 (fIx x)) + ((pV S (fIx st) 13) + ((fAb (pV S (fIx st) 14)) / 4))))), [(nI y_108), 0, ((bH S1 (fIx x)) + ((pV S (fIx st) 13) + ((fAb (pV S (fIx st) 14)) / 4)))], 0, 0)) by rw [sN_push]; omega), bW_push _ h_y_108]) ?_
                  refine lv_iconst (v := 0) hx hb dX4_root_347 (by decide) ?_
                  refine mw_callV (C := RX4) (As := [.int (nI (fIx x)), .int (bW S1 y_108), .int 0]) (rest := []) hx hb hml hown hl (kX4_lay l htr G H.size M_116 o A 0 (nI (fSz (fIx st))) S1 ((bW S1 y_108) + (bW S1 (fIx x))) (((bH S1 (fIx x)) + ((pV S (fIx st) 13) + ((fAb (pV S (fIx st) 14)) / 4))) + (2 * (bH S1 y_108))) (fMx (bD S1 (fIx x)) ((bD S1 y_108) - ((bH S1 (fIx x)) + ((pV S (fIx st) 13) + ((fAb (pV S (fIx st) 14)) / 4))))) ([(nI y_108), 0, ((bH S1 (fIx x)) + ((pV S (fIx st) 13) + ((fAb (pV S (fIx st) 14)) / 4)))]) 0 0 (md_R.of (np := np117) hT hB : md_R G o A M_116 0 (nI (fSz (fIx st))) (fs_push S1 (((bW S1 y_108) + (bW S1 (fIx x))), (((bH S1 (fIx x)) + ((pV S (fIx st) 13) + ((fAb (pV S (fIx st) 14)) / 4))) + (2 * (bH S1 y_108))), (fMx (bD S1 (fIx x)) ((bD S1 y_108) - ((bH S1 (fIx x)) + ((pV S (fIx st) 13) + ((fAb (pV S (fIx st) 14)) / 4))))), [(nI y_108), 0, ((bH S1 (fIx x)) + ((pV S (fIx st) 13) + ((fAb (pV S (fIx st) 14)) / 4)))], 0, 0))) (by simp) (nI (fIx x)) (bW S1 y_108) 0) (g_B (n := 3) htb wd661 wd3 wd658 (by decide +kernel) ⟨Nat.le_of_ble_eq_true rfl, Nat.le_of_ble_eq_true rfl⟩) (htb _ wd660) (htb _ ws34) hE hP hS hT.1 rfl rfl rfl (Nat.le_of_ble_eq_true rfl) dX4_root_348 ⟨Nat.le_of_ble_eq_true rfl, Nat.le_of_ble_eq_true rfl⟩ (fun v9 M9 H locs hpo hP hz hS => ?_) (fun x9 E9 cell9 H9 locs9 hE9 => hE9.elim)
                  obtain ⟨rfl, hRn, hkn⟩ := hpo
                  obtain ⟨M_118, hM_118⟩ : ∃ z9 : mw_M, z9 = M9 := ⟨_, rfl⟩
                  rw [← hM_118] at hP hRn hkn
                  have hk := md_keeps.tr hk hkn
                  have hRn : md_R G o A M_118 0 (nI (fSz (fIx st))) (fs_push S1 (((bW S1 y_108) + (bW S1 (fIx x))), (((bH S1 (fIx x)) + ((pV S (fIx st) 13) + ((fAb (pV S (fIx st) 14)) / 4))) + (2 * (bH S1 y_108))), (fMx (bD S1 (fIx x)) ((bD S1 y_108) - ((bH S1 (fIx x)) + ((pV S (fIx st) 13) + ((fAb (pV S (fIx st) 14)) / 4))))), [(nI y_108), 0, ((bH S1 (fIx x)) + ((pV S (fIx st) 13) + ((fAb (pV S (fIx st) 14)) / 4))), (nI (fIx x)), (bW S1 y_108), 0], 0, 0)) := hRn
                  obtain ⟨np119, bg119, g119, hT, hB⟩ := id hRn
                  rw [sN_push] at hT
                  have hT : md_at G o A M_118 0 (sSp S1) (sSh S1) (nI (sN S1 + 1)) (nI np119) (nI (fSz (fIx st))) g119 := hT
                  refine W.eq (g2 := F0 m 351 ls []) rfl ?_
                  refine lv_aload_n hx hb dX4_root_351 rfl (lv_at hl 10 rfl) ?_
                  refine lv_iconst (v := (-1)) hx hb dX4_root_352 (by decide) ?_
                  refine lv_aload_n hx hb dX4_root_353 rfl (lv_at hl 10 rfl) ?_
                  refine mw_get (D := gD G) (ci := 4) (v := .ref (A 1)) (C := RX4) (T := TX4) (N := 21) hx hb htb inX4 hown hK hP hT.1 rfl 5 (by decide) (htb _ wd529) (fun _ h9 => h9) rfl dX4_root_354 ?_
                  refine lv_iload hx hb dX4_root_357 (lv_at hl 6 rfl) ?_
                  refine mw_iald hx hb hK hP 0 (show M_118 (A 1) = some (.inl (gI G, 120, .inl (g119 1))) from hT.2.1 1 (by decide)) rfl (by exact vp_in_nI (show y_108 < 120 by have := hle; omega) (by decide)) dX4_root_359 ?_
                  refine W.eq (g2 := F0 m 360 ls [.int (bW S1 y_108), .int (-1), .ref o]) (by rw [nI_clamp (show y_108 < 2 ^ 31 by have := hle; omega), hB.W (show y_108 < sN (fs_push S1 (((bW S1 y_108) + (bW S1 (fIx x))), (((bH S1 (fIx x)) + ((pV S (fIx st) 13) + ((fAb (pV S (fIx st) 14)) / 4))) + (2 * (bH S1 y_108))), (fMx (bD S1 (fIx x)) ((bD S1 y_108) - ((bH S1 (fIx x)) + ((pV S (fIx st) 13) + ((fAb (pV S (fIx st) 14)) / 4))))), [(nI y_108), 0, ((bH S1 (fIx x)) + ((pV S (fIx st) 13) + ((fAb (pV S (fIx st) 14)) / 4))), (nI (fIx x)), (bW S1 y_108), 0], 0, 0)) by rw [sN_push]; omega), bW_push _ h_y_108]) ?_
                  refine lv_iload hx hb dX4_root_360 (lv_at hl 1 rfl) ?_
                  refine mw_callV (C := RX4) (As := [.int (-1), .int (bW S1 y_108), .int ((bH S1 (fIx x)) + ((pV S (fIx st) 13) + ((fAb (pV S (fIx st) 14)) / 4)))]) (rest := []) hx hb hml hown hl (kX4_lay l htr G H.size M_118 o A 0 (nI (fSz (fIx st))) S1 ((bW S1 y_108) + (bW S1 (fIx x))) (((bH S1 (fIx x)) + ((pV S (fIx st) 13) + ((fAb (pV S (fIx st) 14)) / 4))) + (2 * (bH S1 y_108))) (fMx (bD S1 (fIx x)) ((bD S1 y_108) - ((bH S1 (fIx x)) + ((pV S (fIx st) 13) + ((fAb (pV S (fIx st) 14)) / 4))))) ([(nI y_108), 0, ((bH S1 (fIx x)) + ((pV S (fIx st) 13) + ((fAb (pV S (fIx st) 14)) / 4))), (nI (fIx x)), (bW S1 y_108), 0]) 0 0 (md_R.of (np := np119) hT hB : md_R G o A M_118 0 (nI (fSz (fIx st))) (fs_push S1 (((bW S1 y_108) + (bW S1 (fIx x))), (((bH S1 (fIx x)) + ((pV S (fIx st) 13) + ((fAb (pV S (fIx st) 14)) / 4))) + (2 * (bH S1 y_108))), (fMx (bD S1 (fIx x)) ((bD S1 y_108) - ((bH S1 (fIx x)) + ((pV S (fIx st) 13) + ((fAb (pV S (fIx st) 14)) / 4))))), [(nI y_108), 0, ((bH S1 (fIx x)) + ((pV S (fIx st) 13) + ((fAb (pV S (fIx st) 14)) / 4))), (nI (fIx x)), (bW S1 y_108), 0], 0, 0))) (by simp) (-1) (bW S1 y_108) ((bH S1 (fIx x)) + ((pV S (fIx st) 13) + ((fAb (pV S (fIx st) 14)) / 4)))) (g_B (n := 3) htb wd661 wd3 wd658 (by decide +kernel) ⟨Nat.le_of_ble_eq_true rfl, Nat.le_of_ble_eq_true rfl⟩) (htb _ wd660) (htb _ ws34) hE hP hS hT.1 rfl rfl rfl (Nat.le_of_ble_eq_true rfl) dX4_root_362 ⟨Nat.le_of_ble_eq_true rfl, Nat.le_of_ble_eq_true rfl⟩ (fun v9 M9 H locs hpo hP hz hS => ?_) (fun x9 E9 cell9 H9 locs9 hE9 => hE9.elim)
                  obtain ⟨rfl, hRn, hkn⟩ := hpo
                  obtain ⟨M_120, hM_120⟩ : ∃ z9 : mw_M, z9 = M9 := ⟨_, rfl⟩
                  rw [← hM_120] at hP hRn hkn
                  have hk := md_keeps.tr hk hkn
                  have hRn : md_R G o A M_120 0 (nI (fSz (fIx st))) (fs_push S1 (((bW S1 y_108) + (bW S1 (fIx x))), (((bH S1 (fIx x)) + ((pV S (fIx st) 13) + ((fAb (pV S (fIx st) 14)) / 4))) + (2 * (bH S1 y_108))), (fMx (bD S1 (fIx x)) ((bD S1 y_108) - ((bH S1 (fIx x)) + ((pV S (fIx st) 13) + ((fAb (pV S (fIx st) 14)) / 4))))), [(nI y_108), 0, ((bH S1 (fIx x)) + ((pV S (fIx st) 13) + ((fAb (pV S (fIx st) 14)) / 4))), (nI (fIx x)), (bW S1 y_108), 0, (-1), (bW S1 y_108), ((bH S1 (fIx x)) + ((pV S (fIx st) 13) + ((fAb (pV S (fIx st) 14)) / 4)))], 0, 0)) := hRn
                  obtain ⟨np121, bg121, g121, hT, hB⟩ := id hRn
                  rw [sN_push] at hT
                  have hT : md_at G o A M_120 0 (sSp S1) (sSh S1) (nI (sN S1 + 1)) (nI np121) (nI (fSz (fIx st))) g121 := hT
                  refine W.eq (g2 := F0 m 365 ls []) rfl ?_
                  refine lv_aload_n hx hb dX4_root_365 rfl (lv_at hl 10 rfl) ?_
                  refine mw_get (D := gD G) (ci := 4) (v := .ref (A 6)) (C := RX4) (T := TX4) (N := 21) hx hb htb inX4 hown hK hP hT.1 rfl 10 (by decide) (htb _ wd534) (fun _ h9 => h9) rfl dX4_root_366 ?_
                  refine lv_iload hx hb dX4_root_369 (lv_at hl 0 rfl) ?_
                  refine lv_aload_n hx hb dX4_root_371 rfl (lv_at hl 10 rfl) ?_
                  refine mw_get (D := gD G) (ci := 4) (v := .ref (A 1)) (C := RX4) (T := TX4) (N := 21) hx hb htb inX4 hown hK hP hT.1 rfl 5 (by decide) (htb _ wd529) (fun _ h9 => h9) rfl dX4_root_372 ?_
                  refine lv_iload_n hx hb dX4_root_375 rfl (lv_at hl 12 rfl) ?_
                  refine mw_iald hx hb hK hP 0 (show M_120 (A 1) = some (.inl (gI G, 120, .inl (g121 1))) from hT.2.1 1 (by decide)) rfl (by exact vp_in_nI (show (fIx x) < 120 by have := hle; omega) (by decide)) dX4_root_376 ?_
                  refine W.eq (g2 := F0 m 377 ls [.int (bW S1 (fIx x)), .int (nI (sN S1)), .ref (A 6)]) (by rw [nI_clamp (show (fIx x) < 2 ^ 31 by have := hle; omega), hB.W (show (fIx x) < sN (fs_push S1 (((bW S1 y_108) + (bW S1 (fIx x))), (((bH S1 (fIx x)) + ((pV S (fIx st) 13) + ((fAb (pV S (fIx st) 14)) / 4))) + (2 * (bH S1 y_108))), (fMx (bD S1 (fIx x)) ((bD S1 y_108) - ((bH S1 (fIx x)) + ((pV S (fIx st) 13) + ((fAb (pV S (fIx st) 14)) / 4))))), [(nI y_108), 0, ((bH S1 (fIx x)) + ((pV S (fIx st) 13) + ((fAb (pV S (fIx st) 14)) / 4))), (nI (fIx x)), (bW S1 y_108), 0, (-1), (bW S1 y_108), ((bH S1 (fIx x)) + ((pV S (fIx st) 13) + ((fAb (pV S (fIx st) 14)) / 4)))], 0, 0)) by rw [sN_push]; omega), bW_push _ h_x]) ?_
                  refine mw_iast hx hb hK hP hS 0 (show M_120 (A 6) = some (.inl (gI G, 120, .inl (g121 6))) from hT.2.1 6 (by decide)) (hT.2.2.2.2 6 (by decide)) rfl (by exact vp_in_nI (show (sN S1) < 120 by have := hle; omega) (by decide)) dX4_root_377 (fun H locs hP hS => ?_)
                  rw [nI_clamp (show (sN S1) < 2 ^ 31 by have := hle; omega)] at hP
                  obtain ⟨M_122, hM_122⟩ : ∃ z9 : mw_M, z9 = mw_up M_120 (A 6) (.inl (gI G, 120, .inl (upd (g121 6) (sN S1) (bW S1 (fIx x))))) := ⟨_, rfl⟩
                  have hP : mw_P (gD G) gx_cl M_122 H := by rw [hM_122]; exact hP
                  obtain ⟨g_123, hg_123⟩ : ∃ z9, z9 = ug g121 6 (sN S1) (bW S1 (fIx x)) := ⟨_, rfl⟩
                  have hT : md_at G o A M_122 0 (sSp S1) (sSh S1) (nI (sN S1 + 1)) (nI np121) (nI (fSz (fIx st))) g_123 := by rw [hg_123]; exact md_at.put hT (by decide) rfl rfl hM_122
                  have hk : md_keeps o A M M_122 := md_keeps.arr (j := 6) hk (by decide) hM_122
                  have hB : md_ab np121 bg121 g_123 (fs_push S1 (((bW S1 y_108) + (bW S1 (fIx x))), (((bH S1 (fIx x)) + ((pV S (fIx st) 13) + ((fAb (pV S (fIx st) 14)) / 4))) + (2 * (bH S1 y_108))), (fMx (bD S1 (fIx x)) ((bD S1 y_108) - ((bH S1 (fIx x)) + ((pV S (fIx st) 13) + ((fAb (pV S (fIx st) 14)) / 4))))), [(nI y_108), 0, ((bH S1 (fIx x)) + ((pV S (fIx st) 13) + ((fAb (pV S (fIx st) 14)) / 4))), (nI (fIx x)), (bW S1 y_108), 0, (-1), (bW S1 y_108), ((bH S1 (fIx x)) + ((pV S (fIx st) 13) + ((fAb (pV S (fIx st) 14)) / 4)))], (bW S1 (fIx x)), 0)) := by rw [hg_123]; exact md_ab.set6 hB _
                  refine lv_aload_n hx hb dX4_root_378 rfl (lv_at hl 10 rfl) ?_
                  refine mw_get (D := gD G) (ci := 4) (v := .ref (A 7)) (C := RX4) (T := TX4) (N := 21) hx hb htb inX4 hown hK hP hT.1 rfl 11 (by decide) (htb _ wd535) (fun _ h9 => h9) rfl dX4_root_379 ?_
                  refine lv_iload hx hb dX4_root_382 (lv_at hl 0 rfl) ?_
                  refine lv_iload hx hb dX4_root_384 (lv_at hl 5 rfl) ?_
                  refine mw_iast hx hb hK hP hS 0 (show M_122 (A 7) = some (.inl (gI G, 120, .inl (g_123 7))) from hT.2.1 7 (by decide)) (hT.2.2.2.2 7 (by decide)) rfl (by exact vp_in_nI (show (sN S1) < 120 by have := hle; omega) (by decide)) dX4_root_386 (fun H locs hP hS => ?_)
                  rw [nI_clamp (show (sN S1) < 2 ^ 31 by have := hle; omega)] at hP
                  obtain ⟨M_124, hM_124⟩ : ∃ z9 : mw_M, z9 = mw_up M_122 (A 7) (.inl (gI G, 120, .inl (upd (g_123 7) (sN S1) (bH S1 y_108)))) := ⟨_, rfl⟩
                  have hP : mw_P (gD G) gx_cl M_124 H := by rw [hM_124]; exact hP
                  obtain ⟨g_125, hg_125⟩ : ∃ z9, z9 = ug g_123 7 (sN S1) (bH S1 y_108) := ⟨_, rfl⟩
                  have hT : md_at G o A M_124 0 (sSp S1) (sSh S1) (nI (sN S1 + 1)) (nI np121) (nI (fSz (fIx st))) g_125 := by rw [hg_125]; exact md_at.put hT (by decide) rfl rfl hM_124
                  have hk : md_keeps o A M M_124 := md_keeps.arr (j := 7) hk (by decide) hM_124
                  have hB : md_ab np121 bg121 g_125 (fs_push S1 (((bW S1 y_108) + (bW S1 (fIx x))), (((bH S1 (fIx x)) + ((pV S (fIx st) 13) + ((fAb (pV S (fIx st) 14)) / 4))) + (2 * (bH S1 y_108))), (fMx (bD S1 (fIx x)) ((bD S1 y_108) - ((bH S1 (fIx x)) + ((pV S (fIx st) 13) + ((fAb (pV S (fIx st) 14)) / 4))))), [(nI y_108), 0, ((bH S1 (fIx x)) + ((pV S (fIx st) 13) + ((fAb (pV S (fIx st) 14)) / 4))), (nI (fIx x)), (bW S1 y_108), 0, (-1), (bW S1 y_108), ((bH S1 (fIx x)) + ((pV S (fIx st) 13) + ((fAb (pV S (fIx st) 14)) / 4)))], (bW S1 (fIx x)), (bH S1 y_108))) := by rw [hg_125]; exact md_ab.set7 hB _
                  refine lv_iload hx hb dX4_root_387 (lv_at hl 0 rfl) ?_
                  have hex : ex_root S st x k = 0 := by rw [ex_root, if_neg (fun z9 => z9 ⟨kb_5, kb_7⟩), if_neg (fun z9 => z9 kb_9), if_neg (fun z9 => z9 kG), if_neg (fun z9 => z9 kb_104)]
                  have hre : re_root S st x k = (((bW S1 y_108) + (bW S1 (fIx x))), (((bH S1 (fIx x)) + ((pV S (fIx st) 13) + ((fAb (pV S (fIx st) 14)) / 4))) + (2 * (bH S1 y_108))), (fMx (bD S1 (fIx x)) ((bD S1 y_108) - ((bH S1 (fIx x)) + ((pV S (fIx st) 13) + ((fAb (pV S (fIx st) 14)) / 4))))), [(nI y_108), 0, ((bH S1 (fIx x)) + ((pV S (fIx st) 13) + ((fAb (pV S (fIx st) 14)) / 4))), (nI (fIx x)), (bW S1 y_108), 0, (-1), (bW S1 y_108), ((bH S1 (fIx x)) + ((pV S (fIx st) 13) + ((fAb (pV S (fIx st) 14)) / 4)))], (bW S1 (fIx x)), (bH S1 y_108)) := by rw [re_root, ← hS1, ← ey_108]; simp only [fs_rs, fs_rs1, fs_rs2, fs_rc, if_neg hrd, if_pos c_14, if_pos c_112, if_true, if_false, Int32.add_zero, show ((1 : Int32) = 0) = False from eq_false (by decide), show ((0 : Int32) = 0) = True from eq_true rfl]; try simp only [Int32.add_assoc]
                  exact mx_iret (v := (nI (sN S1))) (M' := M_124) hx hb hr hlocks hP hS ⟨by rw [hex, if_pos rfl, ← hS1], ⟨_, by rw [hex, if_pos rfl, ← hS1, hre]; exact (md_R.of (np := np121) hT hB : md_R G o A M_124 0 (nI (fSz (fIx st))) (fs_push S1 (((bW S1 y_108) + (bW S1 (fIx x))), (((bH S1 (fIx x)) + ((pV S (fIx st) 13) + ((fAb (pV S (fIx st) 14)) / 4))) + (2 * (bH S1 y_108))), (fMx (bD S1 (fIx x)) ((bD S1 y_108) - ((bH S1 (fIx x)) + ((pV S (fIx st) 13) + ((fAb (pV S (fIx st) 14)) / 4))))), [(nI y_108), 0, ((bH S1 (fIx x)) + ((pV S (fIx st) 13) + ((fAb (pV S (fIx st) 14)) / 4))), (nI (fIx x)), (bW S1 y_108), 0, (-1), (bW S1 y_108), ((bH S1 (fIx x)) + ((pV S (fIx st) 13) + ((fAb (pV S (fIx st) 14)) / 4)))], (bW S1 (fIx x)), (bH S1 y_108))))⟩, hk⟩ dX4_root_389 (Nat.le_of_ble_eq_true rfl) (Nat.le_of_ble_eq_true rfl)
                · refine lv_iload hx hb dX4_root_244 (lv_at hl 7 rfl) ?_
                  refine lv_iload hx hb dX4_root_246 (lv_at hl 0 rfl) ?_
                  refine mw_callS (As := [.int ((bD S1 y_108) - ((fEx S1 (nI (fIx x))) + ((pV S (fIx st) 13) + ((fAb (pV S (fIx st) 14)) / 4))))]) (rest := [.int ((pV S (fIx st) 13) + ((fAb (pV S (fIx st) 14)) / 4))]) hx hb hml hown hl (kX4_half l htr G H.size M_107 ((bD S1 y_108) - ((fEx S1 (nI (fIx x))) + ((pV S (fIx st) 13) + ((fAb (pV S (fIx st) 14)) / 4))))) (g_B (n := 1) htb wd682 wd3 wd680 (by decide +kernel) ⟨Nat.le_of_ble_eq_true rfl, Nat.le_of_ble_eq_true rfl⟩) (htb _ wd681) hE hP hS rfl rfl (Nat.le_of_ble_eq_true rfl) dX4_root_248 ⟨Nat.le_of_ble_eq_true rfl, Nat.le_of_ble_eq_true rfl⟩ (fun v9 M9 H locs hpo hP hz hS => ?_) (fun x9 E9 cell9 H9 locs9 hE9 => hE9.elim)
                  obtain ⟨rfl, rfl⟩ := hpo
                  refine W.eq (g2 := F0 m 251 ls [.int (fHf ((bD S1 y_108) - ((fEx S1 (nI (fIx x))) + ((pV S (fIx st) 13) + ((fAb (pV S (fIx st) 14)) / 4))))), .int ((pV S (fIx st) 13) + ((fAb (pV S (fIx st) 14)) / 4))]) rfl ?_
                  refine lv_iadd hx hb dX4_root_251 ?_
                  refine lv_goto (tgt := 257) hx hb dX4_root_252 (by decide) ?_
                  refine lv_istore (lv' := [(4, .int (((pV S (fIx st) 13) + ((fAb (pV S (fIx st) 14)) / 4)) + (fHf ((bD S1 y_108) - ((fEx S1 (nI (fIx x))) + ((pV S (fIx st) 13) + ((fAb (pV S (fIx st) 14)) / 4))))))), (11, .int ((bD S1 y_108) - ((fEx S1 (nI (fIx x))) + ((pV S (fIx st) 13) + ((fAb (pV S (fIx st) 14)) / 4))))), (10, .int (bD S1 y_108)), (9, .int (bH S1 y_108)), (8, .int (nI y_108)), (7, .int 0), (6, .int (md_pl S (sF S (fIx k)) (ro_l S st x))), (5, .int (ro_l S st x)), (0, .ref o), (1, .int (nI (fIx st))), (2, .int (nI (fIx x))), (3, .int (nI (fIx k)))]) hx hb dX4_root_257 hl (by decide) rfl (fun ls hl => ?_)
                  refine lv_aload_n hx hb dX4_root_259 rfl (lv_at hl 8 rfl) ?_
                  refine mw_get (D := gD G) (ci := 4) (v := .ref (A 2)) (C := RX4) (T := TX4) (N := 21) hx hb htb inX4 hown hK hP hT.1 rfl 6 (by decide) (htb _ wd530) (fun _ h9 => h9) rfl dX4_root_260 ?_
                  refine lv_iload_n hx hb dX4_root_263 rfl (lv_at hl 10 rfl) ?_
                  refine mw_iald hx hb hK hP 0 (show M_107 (A 2) = some (.inl (gI G, 120, .inl (g109 2))) from hT.2.1 2 (by decide)) rfl (by exact vp_in_nI (show (fIx x) < 120 by have := hle; omega) (by decide)) dX4_root_264 ?_
                  refine W.eq (g2 := F0 m 265 ls [.int (bH S1 (fIx x))]) (by rw [nI_clamp (show (fIx x) < 2 ^ 31 by have := hle; omega), hB.H h_x]) ?_
                  refine lv_iload hx hb dX4_root_265 (lv_at hl 0 rfl) ?_
                  refine lv_iadd hx hb dX4_root_267 ?_
                  refine lv_istore (lv' := [(12, .int ((bH S1 (fIx x)) + (((pV S (fIx st) 13) + ((fAb (pV S (fIx st) 14)) / 4)) + (fHf ((bD S1 y_108) - ((fEx S1 (nI (fIx x))) + ((pV S (fIx st) 13) + ((fAb (pV S (fIx st) 14)) / 4)))))))), (4, .int (((pV S (fIx st) 13) + ((fAb (pV S (fIx st) 14)) / 4)) + (fHf ((bD S1 y_108) - ((fEx S1 (nI (fIx x))) + ((pV S (fIx st) 13) + ((fAb (pV S (fIx st) 14)) / 4))))))), (11, .int ((bD S1 y_108) - ((fEx S1 (nI (fIx x))) + ((pV S (fIx st) 13) + ((fAb (pV S (fIx st) 14)) / 4))))), (10, .int (bD S1 y_108)), (9, .int (bH S1 y_108)), (8, .int (nI y_108)), (7, .int 0), (6, .int (md_pl S (sF S (fIx k)) (ro_l S st x))), (5, .int (ro_l S st x)), (0, .ref o), (1, .int (nI (fIx st))), (2, .int (nI (fIx x))), (3, .int (nI (fIx k)))]) hx hb dX4_root_268 hl (by decide) rfl (fun ls hl => ?_)
                  refine lv_aload_n hx hb dX4_root_270 rfl (lv_at hl 9 rfl) ?_
                  refine lv_aload_n hx hb dX4_root_271 rfl (lv_at hl 9 rfl) ?_
                  refine mw_get (D := gD G) (ci := 4) (v := .ref (A 1)) (C := RX4) (T := TX4) (N := 21) hx hb htb inX4 hown hK hP hT.1 rfl 5 (by decide) (htb _ wd529) (fun _ h9 => h9) rfl dX4_root_272 ?_
                  refine lv_iload hx hb dX4_root_275 (lv_at hl 5 rfl) ?_
                  refine mw_iald hx hb hK hP 0 (show M_107 (A 1) = some (.inl (gI G, 120, .inl (g109 1))) from hT.2.1 1 (by decide)) rfl (by exact vp_in_nI (show y_108 < 120 by have := hle; omega) (by decide)) dX4_root_277 ?_
                  refine W.eq (g2 := F0 m 278 ls [.int (bW S1 y_108), .ref o]) (by rw [nI_clamp (show y_108 < 2 ^ 31 by have := hle; omega), hB.W h_y_108]) ?_
                  refine lv_aload_n hx hb dX4_root_278 rfl (lv_at hl 9 rfl) ?_
                  refine mw_get (D := gD G) (ci := 4) (v := .ref (A 1)) (C := RX4) (T := TX4) (N := 21) hx hb htb inX4 hown hK hP hT.1 rfl 5 (by decide) (htb _ wd529) (fun _ h9 => h9) rfl dX4_root_279 ?_
                  refine lv_iload_n hx hb dX4_root_282 rfl (lv_at hl 11 rfl) ?_
                  refine mw_iald hx hb hK hP 0 (show M_107 (A 1) = some (.inl (gI G, 120, .inl (g109 1))) from hT.2.1 1 (by decide)) rfl (by exact vp_in_nI (show (fIx x) < 120 by have := hle; omega) (by decide)) dX4_root_283 ?_
                  refine W.eq (g2 := F0 m 284 ls [.int (bW S1 (fIx x)), .int (bW S1 y_108), .ref o]) (by rw [nI_clamp (show (fIx x) < 2 ^ 31 by have := hle; omega), hB.W h_x]) ?_
                  refine lv_iadd hx hb dX4_root_284 ?_
                  refine lv_iload hx hb dX4_root_285 (lv_at hl 0 rfl) ?_
                  refine lv_iconst (v := 2) hx hb dX4_root_287 (by decide) ?_
                  refine lv_iload hx hb dX4_root_288 (lv_at hl 4 rfl) ?_
                  refine lv_imul hx hb dX4_root_290 ?_
                  refine lv_iadd hx hb dX4_root_291 ?_
                  refine lv_aload_n hx hb dX4_root_292 rfl (lv_at hl 9 rfl) ?_
                  refine mw_get (D := gD G) (ci := 4) (v := .ref (A 3)) (C := RX4) (T := TX4) (N := 21) hx hb htb inX4 hown hK hP hT.1 rfl 7 (by decide) (htb _ wd531) (fun _ h9 => h9) rfl dX4_root_293 ?_
                  refine lv_iload_n hx hb dX4_root_296 rfl (lv_at hl 11 rfl) ?_
                  refine mw_iald hx hb hK hP 0 (show M_107 (A 3) = some (.inl (gI G, 120, .inl (g109 3))) from hT.2.1 3 (by decide)) rfl (by exact vp_in_nI (show (fIx x) < 120 by have := hle; omega) (by decide)) dX4_root_297 ?_
                  refine W.eq (g2 := F0 m 298 ls [.int (bD S1 (fIx x)), .int (((bH S1 (fIx x)) + (((pV S (fIx st) 13) + ((fAb (pV S (fIx st) 14)) / 4)) + (fHf ((bD S1 y_108) - ((fEx S1 (nI (fIx x))) + ((pV S (fIx st) 13) + ((fAb (pV S (fIx st) 14)) / 4))))))) + (2 * (bH S1 y_108))), .int ((bW S1 y_108) + (bW S1 (fIx x))), .ref o]) (by rw [nI_clamp (show (fIx x) < 2 ^ 31 by have := hle; omega), hB.D h_x]) ?_
                  refine lv_iload hx hb dX4_root_298 (lv_at hl 3 rfl) ?_
                  refine lv_iload hx hb dX4_root_300 (lv_at hl 0 rfl) ?_
                  refine lv_isub hx hb dX4_root_302 ?_
                  refine mw_callS (As := [.int (bD S1 (fIx x)), .int ((bD S1 y_108) - ((bH S1 (fIx x)) + (((pV S (fIx st) 13) + ((fAb (pV S (fIx st) 14)) / 4)) + (fHf ((bD S1 y_108) - ((fEx S1 (nI (fIx x))) + ((pV S (fIx st) 13) + ((fAb (pV S (fIx st) 14)) / 4))))))))]) (rest := [.int (((bH S1 (fIx x)) + (((pV S (fIx st) 13) + ((fAb (pV S (fIx st) 14)) / 4)) + (fHf ((bD S1 y_108) - ((fEx S1 (nI (fIx x))) + ((pV S (fIx st) 13) + ((fAb (pV S (fIx st) 14)) / 4))))))) + (2 * (bH S1 y_108))), .int ((bW S1 y_108) + (bW S1 (fIx x))), .ref o]) hx hb hml hown hl (kX4_greater l htr G H.size M_107 (bD S1 (fIx x)) ((bD S1 y_108) - ((bH S1 (fIx x)) + (((pV S (fIx st) 13) + ((fAb (pV S (fIx st) 14)) / 4)) + (fHf ((bD S1 y_108) - ((fEx S1 (nI (fIx x))) + ((pV S (fIx st) 13) + ((fAb (pV S (fIx st) 14)) / 4))))))))) (g_B (n := 2) htb wd664 wd3 wd662 (by decide +kernel) ⟨Nat.le_of_ble_eq_true rfl, Nat.le_of_ble_eq_true rfl⟩) (htb _ wd663) hE hP hS rfl rfl (Nat.le_of_ble_eq_true rfl) dX4_root_303 ⟨Nat.le_of_ble_eq_true rfl, Nat.le_of_ble_eq_true rfl⟩ (fun v9 M9 H locs hpo hP hz hS => ?_) (fun x9 E9 cell9 H9 locs9 hE9 => hE9.elim)
                  obtain ⟨rfl, rfl⟩ := hpo
                  refine W.eq (g2 := F0 m 306 ls [.int (fMx (bD S1 (fIx x)) ((bD S1 y_108) - ((bH S1 (fIx x)) + (((pV S (fIx st) 13) + ((fAb (pV S (fIx st) 14)) / 4)) + (fHf ((bD S1 y_108) - ((fEx S1 (nI (fIx x))) + ((pV S (fIx st) 13) + ((fAb (pV S (fIx st) 14)) / 4))))))))), .int (((bH S1 (fIx x)) + (((pV S (fIx st) 13) + ((fAb (pV S (fIx st) 14)) / 4)) + (fHf ((bD S1 y_108) - ((fEx S1 (nI (fIx x))) + ((pV S (fIx st) 13) + ((fAb (pV S (fIx st) 14)) / 4))))))) + (2 * (bH S1 y_108))), .int ((bW S1 y_108) + (bW S1 (fIx x))), .ref o]) rfl ?_
                  refine mw_callV (C := RX4) (As := [.int ((bW S1 y_108) + (bW S1 (fIx x))), .int (((bH S1 (fIx x)) + (((pV S (fIx st) 13) + ((fAb (pV S (fIx st) 14)) / 4)) + (fHf ((bD S1 y_108) - ((fEx S1 (nI (fIx x))) + ((pV S (fIx st) 13) + ((fAb (pV S (fIx st) 14)) / 4))))))) + (2 * (bH S1 y_108))), .int (fMx (bD S1 (fIx x)) ((bD S1 y_108) - ((bH S1 (fIx x)) + (((pV S (fIx st) 13) + ((fAb (pV S (fIx st) 14)) / 4)) + (fHf ((bD S1 y_108) - ((fEx S1 (nI (fIx x))) + ((pV S (fIx st) 13) + ((fAb (pV S (fIx st) 14)) / 4)))))))))]) (rest := []) hx hb hml hown hl (kX4_make l htr G H.size M_107 o A 0 (nI (fSz (fIx st))) S1 (⟨np109, bg109, g109, hT, hB⟩ : md_R G o A M_107 0 (nI (fSz (fIx st))) S1) (show sN S1 < 120 from by rw [hS1, ro_S, kt_n, if_neg hrd]; omega) ((bW S1 y_108) + (bW S1 (fIx x))) (((bH S1 (fIx x)) + (((pV S (fIx st) 13) + ((fAb (pV S (fIx st) 14)) / 4)) + (fHf ((bD S1 y_108) - ((fEx S1 (nI (fIx x))) + ((pV S (fIx st) 13) + ((fAb (pV S (fIx st) 14)) / 4))))))) + (2 * (bH S1 y_108))) (fMx (bD S1 (fIx x)) ((bD S1 y_108) - ((bH S1 (fIx x)) + (((pV S (fIx st) 13) + ((fAb (pV S (fIx st) 14)) / 4)) + (fHf ((bD S1 y_108) - ((fEx S1 (nI (fIx x))) + ((pV S (fIx st) 13) + ((fAb (pV S (fIx st) 14)) / 4)))))))))) (g_B (n := 3) htb wd613 wd3 wd610 (by decide +kernel) ⟨Nat.le_of_ble_eq_true rfl, Nat.le_of_ble_eq_true rfl⟩) (htb _ wd612) (htb _ ws26) hE hP hS hT.1 rfl rfl rfl (Nat.le_of_ble_eq_true rfl) dX4_root_306 ⟨Nat.le_of_ble_eq_true rfl, Nat.le_of_ble_eq_true rfl⟩ (fun v9 M9 H locs hpo hP hz hS => ?_) (fun x9 E9 cell9 H9 locs9 hE9 => hE9.elim)
                  have hle0 := hle
                  obtain ⟨rfl, hRn, hkn⟩ := hpo
                  obtain ⟨M_126, hM_126⟩ : ∃ z9 : mw_M, z9 = M9 := ⟨_, rfl⟩
                  rw [← hM_126] at hP hRn hkn
                  have hk := md_keeps.tr hk hkn
                  have hRn : md_R G o A M_126 0 (nI (fSz (fIx st))) (fs_push S1 (((bW S1 y_108) + (bW S1 (fIx x))), (((bH S1 (fIx x)) + (((pV S (fIx st) 13) + ((fAb (pV S (fIx st) 14)) / 4)) + (fHf ((bD S1 y_108) - ((fEx S1 (nI (fIx x))) + ((pV S (fIx st) 13) + ((fAb (pV S (fIx st) 14)) / 4))))))) + (2 * (bH S1 y_108))), (fMx (bD S1 (fIx x)) ((bD S1 y_108) - ((bH S1 (fIx x)) + (((pV S (fIx st) 13) + ((fAb (pV S (fIx st) 14)) / 4)) + (fHf ((bD S1 y_108) - ((fEx S1 (nI (fIx x))) + ((pV S (fIx st) 13) + ((fAb (pV S (fIx st) 14)) / 4))))))))), [], 0, 0)) := hRn
                  obtain ⟨np127, bg127, g127, hT, hB⟩ := id hRn
                  rw [sN_push] at hT
                  have hT : md_at G o A M_126 0 (sSp S1) (sSh S1) (nI (sN S1 + 1)) (nI np127) (nI (fSz (fIx st))) g127 := hT
                  have hle : sN S1 + 1 ≤ 120 := by have := hB.1; rw [sN_push] at this; exact this
                  refine W.eq (g2 := F0 m 309 ls [.int (nI (sN S1))]) rfl ?_
                  refine lv_istore (lv' := [(13, .int (nI (sN S1))), (12, .int ((bH S1 (fIx x)) + (((pV S (fIx st) 13) + ((fAb (pV S (fIx st) 14)) / 4)) + (fHf ((bD S1 y_108) - ((fEx S1 (nI (fIx x))) + ((pV S (fIx st) 13) + ((fAb (pV S (fIx st) 14)) / 4)))))))), (4, .int (((pV S (fIx st) 13) + ((fAb (pV S (fIx st) 14)) / 4)) + (fHf ((bD S1 y_108) - ((fEx S1 (nI (fIx x))) + ((pV S (fIx st) 13) + ((fAb (pV S (fIx st) 14)) / 4))))))), (11, .int ((bD S1 y_108) - ((fEx S1 (nI (fIx x))) + ((pV S (fIx st) 13) + ((fAb (pV S (fIx st) 14)) / 4))))), (10, .int (bD S1 y_108)), (9, .int (bH S1 y_108)), (8, .int (nI y_108)), (7, .int 0), (6, .int (md_pl S (sF S (fIx k)) (ro_l S st x))), (5, .int (ro_l S st x)), (0, .ref o), (1, .int (nI (fIx st))), (2, .int (nI (fIx x))), (3, .int (nI (fIx k)))]) hx hb dX4_root_309 hl (by decide) rfl (fun ls hl => ?_)
                  refine lv_aload_n hx hb dX4_root_311 rfl (lv_at hl 10 rfl) ?_
                  refine lv_iload hx hb dX4_root_312 (lv_at hl 6 rfl) ?_
                  refine lv_iconst (v := 0) hx hb dX4_root_314 (by decide) ?_
                  refine lv_iload hx hb dX4_root_315 (lv_at hl 7 rfl) ?_
                  refine lv_if_eq (tgt := 333) hx hb dX4_root_317 (by decide) (fun c_128 => ?_) (fun c_128 => absurd (by decide) c_128)
                  refine lv_iload hx hb dX4_root_333 (lv_at hl 1 rfl) ?_
                  refine mw_callV (C := RX4) (As := [.int (nI y_108), .int 0, .int ((bH S1 (fIx x)) + (((pV S (fIx st) 13) + ((fAb (pV S (fIx st) 14)) / 4)) + (fHf ((bD S1 y_108) - ((fEx S1 (nI (fIx x))) + ((pV S (fIx st) 13) + ((fAb (pV S (fIx st) 14)) / 4)))))))]) (rest := []) hx hb hml hown hl (kX4_lay l htr G H.size M_126 o A 0 (nI (fSz (fIx st))) S1 ((bW S1 y_108) + (bW S1 (fIx x))) (((bH S1 (fIx x)) + (((pV S (fIx st) 13) + ((fAb (pV S (fIx st) 14)) / 4)) + (fHf ((bD S1 y_108) - ((fEx S1 (nI (fIx x))) + ((pV S (fIx st) 13) + ((fAb (pV S (fIx st) 14)) / 4))))))) + (2 * (bH S1 y_108))) (fMx (bD S1 (fIx x)) ((bD S1 y_108) - ((bH S1 (fIx x)) + (((pV S (fIx st) 13) + ((fAb (pV S (fIx st) 14)) / 4)) + (fHf ((bD S1 y_108) - ((fEx S1 (nI (fIx x))) + ((pV S (fIx st) 13) + ((fAb (pV S (fIx st) 14)) / 4))))))))) ([]) 0 0 (md_R.of (np := np127) hT hB : md_R G o A M_126 0 (nI (fSz (fIx st))) (fs_push S1 (((bW S1 y_108) + (bW S1 (fIx x))), (((bH S1 (fIx x)) + (((pV S (fIx st) 13) + ((fAb (pV S (fIx st) 14)) / 4)) + (fHf ((bD S1 y_108) - ((fEx S1 (nI (fIx x))) + ((pV S (fIx st) 13) + ((fAb (pV S (fIx st) 14)) / 4))))))) + (2 * (bH S1 y_108))), (fMx (bD S1 (fIx x)) ((bD S1 y_108) - ((bH S1 (fIx x)) + (((pV S (fIx st) 13) + ((fAb (pV S (fIx st) 14)) / 4)) + (fHf ((bD S1 y_108) - ((fEx S1 (nI (fIx x))) + ((pV S (fIx st) 13) + ((fAb (pV S (fIx st) 14)) / 4))))))))), [], 0, 0))) (by simp) (nI y_108) 0 ((bH S1 (fIx x)) + (((pV S (fIx st) 13) + ((fAb (pV S (fIx st) 14)) / 4)) + (fHf ((bD S1 y_108) - ((fEx S1 (nI (fIx x))) + ((pV S (fIx st) 13) + ((fAb (pV S (fIx st) 14)) / 4)))))))) (g_B (n := 3) htb wd661 wd3 wd658 (by decide +kernel) ⟨Nat.le_of_ble_eq_true rfl, Nat.le_of_ble_eq_true rfl⟩) (htb _ wd660) (htb _ ws34) hE hP hS hT.1 rfl rfl rfl (Nat.le_of_ble_eq_true rfl) dX4_root_335 ⟨Nat.le_of_ble_eq_true rfl, Nat.le_of_ble_eq_true rfl⟩ (fun v9 M9 H locs hpo hP hz hS => ?_) (fun x9 E9 cell9 H9 locs9 hE9 => hE9.elim)
                  obtain ⟨rfl, hRn, hkn⟩ := hpo
                  obtain ⟨M_129, hM_129⟩ : ∃ z9 : mw_M, z9 = M9 := ⟨_, rfl⟩
                  rw [← hM_129] at hP hRn hkn
                  have hk := md_keeps.tr hk hkn
                  have hRn : md_R G o A M_129 0 (nI (fSz (fIx st))) (fs_push S1 (((bW S1 y_108) + (bW S1 (fIx x))), (((bH S1 (fIx x)) + (((pV S (fIx st) 13) + ((fAb (pV S (fIx st) 14)) / 4)) + (fHf ((bD S1 y_108) - ((fEx S1 (nI (fIx x))) + ((pV S (fIx st) 13) + ((fAb (pV S (fIx st) 14)) / 4))))))) + (2 * (bH S1 y_108))), (fMx (bD S1 (fIx x)) ((bD S1 y_108) - ((bH S1 (fIx x)) + (((pV S (fIx st) 13) + ((fAb (pV S (fIx st) 14)) / 4)) + (fHf ((bD S1 y_108) - ((fEx S1 (nI (fIx x))) + ((pV S (fIx st) 13) + ((fAb (pV S (fIx st) 14)) / 4))))))))), [(nI y_108), 0, ((bH S1 (fIx x)) + (((pV S (fIx st) 13) + ((fAb (pV S (fIx st) 14)) / 4)) + (fHf ((bD S1 y_108) - ((fEx S1 (nI (fIx x))) + ((pV S (fIx st) 13) + ((fAb (pV S (fIx st) 14)) / 4)))))))], 0, 0)) := hRn
                  obtain ⟨np130, bg130, g130, hT, hB⟩ := id hRn
                  rw [sN_push] at hT
                  have hT : md_at G o A M_129 0 (sSp S1) (sSh S1) (nI (sN S1 + 1)) (nI np130) (nI (fSz (fIx st))) g130 := hT
                  refine W.eq (g2 := F0 m 338 ls []) rfl ?_
                  refine lv_aload_n hx hb dX4_root_338 rfl (lv_at hl 10 rfl) ?_
                  refine lv_iload_n hx hb dX4_root_339 rfl (lv_at hl 12 rfl) ?_
                  refine lv_aload_n hx hb dX4_root_340 rfl (lv_at hl 10 rfl) ?_
                  refine mw_get (D := gD G) (ci := 4) (v := .ref (A 1)) (C := RX4) (T := TX4) (N := 21) hx hb htb inX4 hown hK hP hT.1 rfl 5 (by decide) (htb _ wd529) (fun _ h9 => h9) rfl dX4_root_341 ?_
                  refine lv_iload hx hb dX4_root_344 (lv_at hl 6 rfl) ?_
                  refine mw_iald hx hb hK hP 0 (show M_129 (A 1) = some (.inl (gI G, 120, .inl (g130 1))) from hT.2.1 1 (by decide)) rfl (by exact vp_in_nI (show y_108 < 120 by have := hle; omega) (by decide)) dX4_root_346 ?_
                  refine W.eq (g2 := F0 m 347 ls [.int (bW S1 y_108), .int (nI (fIx x)), .ref o]) (by rw [nI_clamp (show y_108 < 2 ^ 31 by have := hle; omega), hB.W (show y_108 < sN (fs_push S1 (((bW S1 y_108) + (bW S1 (fIx x))), (((bH S1 (fIx x)) + (((pV S (fIx st) 13) + ((fAb (pV S (fIx st) 14)) / 4)) + (fHf ((bD S1 y_108) - ((fEx S1 (nI (fIx x))) + ((pV S (fIx st) 13) + ((fAb (pV S (fIx st) 14)) / 4))))))) + (2 * (bH S1 y_108))), (fMx (bD S1 (fIx x)) ((bD S1 y_108) - ((bH S1 (fIx x)) + (((pV S (fIx st) 13) + ((fAb (pV S (fIx st) 14)) / 4)) + (fHf ((bD S1 y_108) - ((fEx S1 (nI (fIx x))) + ((pV S (fIx st) 13) + ((fAb (pV S (fIx st) 14)) / 4))))))))), [(nI y_108), 0, ((bH S1 (fIx x)) + (((pV S (fIx st) 13) + ((fAb (pV S (fIx st) 14)) / 4)) + (fHf ((bD S1 y_108) - ((fEx S1 (nI (fIx x))) + ((pV S (fIx st) 13) + ((fAb (pV S (fIx st) 14)) / 4)))))))], 0, 0)) by rw [sN_push]; omega), bW_push _ h_y_108]) ?_
                  refine lv_iconst (v := 0) hx hb dX4_root_347 (by decide) ?_
                  refine mw_callV (C := RX4) (As := [.int (nI (fIx x)), .int (bW S1 y_108), .int 0]) (rest := []) hx hb hml hown hl (kX4_lay l htr G H.size M_129 o A 0 (nI (fSz (fIx st))) S1 ((bW S1 y_108) + (bW S1 (fIx x))) (((bH S1 (fIx x)) + (((pV S (fIx st) 13) + ((fAb (pV S (fIx st) 14)) / 4)) + (fHf ((bD S1 y_108) - ((fEx S1 (nI (fIx x))) + ((pV S (fIx st) 13) + ((fAb (pV S (fIx st) 14)) / 4))))))) + (2 * (bH S1 y_108))) (fMx (bD S1 (fIx x)) ((bD S1 y_108) - ((bH S1 (fIx x)) + (((pV S (fIx st) 13) + ((fAb (pV S (fIx st) 14)) / 4)) + (fHf ((bD S1 y_108) - ((fEx S1 (nI (fIx x))) + ((pV S (fIx st) 13) + ((fAb (pV S (fIx st) 14)) / 4))))))))) ([(nI y_108), 0, ((bH S1 (fIx x)) + (((pV S (fIx st) 13) + ((fAb (pV S (fIx st) 14)) / 4)) + (fHf ((bD S1 y_108) - ((fEx S1 (nI (fIx x))) + ((pV S (fIx st) 13) + ((fAb (pV S (fIx st) 14)) / 4)))))))]) 0 0 (md_R.of (np := np130) hT hB : md_R G o A M_129 0 (nI (fSz (fIx st))) (fs_push S1 (((bW S1 y_108) + (bW S1 (fIx x))), (((bH S1 (fIx x)) + (((pV S (fIx st) 13) + ((fAb (pV S (fIx st) 14)) / 4)) + (fHf ((bD S1 y_108) - ((fEx S1 (nI (fIx x))) + ((pV S (fIx st) 13) + ((fAb (pV S (fIx st) 14)) / 4))))))) + (2 * (bH S1 y_108))), (fMx (bD S1 (fIx x)) ((bD S1 y_108) - ((bH S1 (fIx x)) + (((pV S (fIx st) 13) + ((fAb (pV S (fIx st) 14)) / 4)) + (fHf ((bD S1 y_108) - ((fEx S1 (nI (fIx x))) + ((pV S (fIx st) 13) + ((fAb (pV S (fIx st) 14)) / 4))))))))), [(nI y_108), 0, ((bH S1 (fIx x)) + (((pV S (fIx st) 13) + ((fAb (pV S (fIx st) 14)) / 4)) + (fHf ((bD S1 y_108) - ((fEx S1 (nI (fIx x))) + ((pV S (fIx st) 13) + ((fAb (pV S (fIx st) 14)) / 4)))))))], 0, 0))) (by simp) (nI (fIx x)) (bW S1 y_108) 0) (g_B (n := 3) htb wd661 wd3 wd658 (by decide +kernel) ⟨Nat.le_of_ble_eq_true rfl, Nat.le_of_ble_eq_true rfl⟩) (htb _ wd660) (htb _ ws34) hE hP hS hT.1 rfl rfl rfl (Nat.le_of_ble_eq_true rfl) dX4_root_348 ⟨Nat.le_of_ble_eq_true rfl, Nat.le_of_ble_eq_true rfl⟩ (fun v9 M9 H locs hpo hP hz hS => ?_) (fun x9 E9 cell9 H9 locs9 hE9 => hE9.elim)
                  obtain ⟨rfl, hRn, hkn⟩ := hpo
                  obtain ⟨M_131, hM_131⟩ : ∃ z9 : mw_M, z9 = M9 := ⟨_, rfl⟩
                  rw [← hM_131] at hP hRn hkn
                  have hk := md_keeps.tr hk hkn
                  have hRn : md_R G o A M_131 0 (nI (fSz (fIx st))) (fs_push S1 (((bW S1 y_108) + (bW S1 (fIx x))), (((bH S1 (fIx x)) + (((pV S (fIx st) 13) + ((fAb (pV S (fIx st) 14)) / 4)) + (fHf ((bD S1 y_108) - ((fEx S1 (nI (fIx x))) + ((pV S (fIx st) 13) + ((fAb (pV S (fIx st) 14)) / 4))))))) + (2 * (bH S1 y_108))), (fMx (bD S1 (fIx x)) ((bD S1 y_108) - ((bH S1 (fIx x)) + (((pV S (fIx st) 13) + ((fAb (pV S (fIx st) 14)) / 4)) + (fHf ((bD S1 y_108) - ((fEx S1 (nI (fIx x))) + ((pV S (fIx st) 13) + ((fAb (pV S (fIx st) 14)) / 4))))))))), [(nI y_108), 0, ((bH S1 (fIx x)) + (((pV S (fIx st) 13) + ((fAb (pV S (fIx st) 14)) / 4)) + (fHf ((bD S1 y_108) - ((fEx S1 (nI (fIx x))) + ((pV S (fIx st) 13) + ((fAb (pV S (fIx st) 14)) / 4))))))), (nI (fIx x)), (bW S1 y_108), 0], 0, 0)) := hRn
                  obtain ⟨np132, bg132, g132, hT, hB⟩ := id hRn
                  rw [sN_push] at hT
                  have hT : md_at G o A M_131 0 (sSp S1) (sSh S1) (nI (sN S1 + 1)) (nI np132) (nI (fSz (fIx st))) g132 := hT
                  refine W.eq (g2 := F0 m 351 ls []) rfl ?_
                  refine lv_aload_n hx hb dX4_root_351 rfl (lv_at hl 10 rfl) ?_
                  refine lv_iconst (v := (-1)) hx hb dX4_root_352 (by decide) ?_
                  refine lv_aload_n hx hb dX4_root_353 rfl (lv_at hl 10 rfl) ?_
                  refine mw_get (D := gD G) (ci := 4) (v := .ref (A 1)) (C := RX4) (T := TX4) (N := 21) hx hb htb inX4 hown hK hP hT.1 rfl 5 (by decide) (htb _ wd529) (fun _ h9 => h9) rfl dX4_root_354 ?_
                  refine lv_iload hx hb dX4_root_357 (lv_at hl 6 rfl) ?_
                  refine mw_iald hx hb hK hP 0 (show M_131 (A 1) = some (.inl (gI G, 120, .inl (g132 1))) from hT.2.1 1 (by decide)) rfl (by exact vp_in_nI (show y_108 < 120 by have := hle; omega) (by decide)) dX4_root_359 ?_
                  refine W.eq (g2 := F0 m 360 ls [.int (bW S1 y_108), .int (-1), .ref o]) (by rw [nI_clamp (show y_108 < 2 ^ 31 by have := hle; omega), hB.W (show y_108 < sN (fs_push S1 (((bW S1 y_108) + (bW S1 (fIx x))), (((bH S1 (fIx x)) + (((pV S (fIx st) 13) + ((fAb (pV S (fIx st) 14)) / 4)) + (fHf ((bD S1 y_108) - ((fEx S1 (nI (fIx x))) + ((pV S (fIx st) 13) + ((fAb (pV S (fIx st) 14)) / 4))))))) + (2 * (bH S1 y_108))), (fMx (bD S1 (fIx x)) ((bD S1 y_108) - ((bH S1 (fIx x)) + (((pV S (fIx st) 13) + ((fAb (pV S (fIx st) 14)) / 4)) + (fHf ((bD S1 y_108) - ((fEx S1 (nI (fIx x))) + ((pV S (fIx st) 13) + ((fAb (pV S (fIx st) 14)) / 4))))))))), [(nI y_108), 0, ((bH S1 (fIx x)) + (((pV S (fIx st) 13) + ((fAb (pV S (fIx st) 14)) / 4)) + (fHf ((bD S1 y_108) - ((fEx S1 (nI (fIx x))) + ((pV S (fIx st) 13) + ((fAb (pV S (fIx st) 14)) / 4))))))), (nI (fIx x)), (bW S1 y_108), 0], 0, 0)) by rw [sN_push]; omega), bW_push _ h_y_108]) ?_
                  refine lv_iload hx hb dX4_root_360 (lv_at hl 1 rfl) ?_
                  refine mw_callV (C := RX4) (As := [.int (-1), .int (bW S1 y_108), .int ((bH S1 (fIx x)) + (((pV S (fIx st) 13) + ((fAb (pV S (fIx st) 14)) / 4)) + (fHf ((bD S1 y_108) - ((fEx S1 (nI (fIx x))) + ((pV S (fIx st) 13) + ((fAb (pV S (fIx st) 14)) / 4)))))))]) (rest := []) hx hb hml hown hl (kX4_lay l htr G H.size M_131 o A 0 (nI (fSz (fIx st))) S1 ((bW S1 y_108) + (bW S1 (fIx x))) (((bH S1 (fIx x)) + (((pV S (fIx st) 13) + ((fAb (pV S (fIx st) 14)) / 4)) + (fHf ((bD S1 y_108) - ((fEx S1 (nI (fIx x))) + ((pV S (fIx st) 13) + ((fAb (pV S (fIx st) 14)) / 4))))))) + (2 * (bH S1 y_108))) (fMx (bD S1 (fIx x)) ((bD S1 y_108) - ((bH S1 (fIx x)) + (((pV S (fIx st) 13) + ((fAb (pV S (fIx st) 14)) / 4)) + (fHf ((bD S1 y_108) - ((fEx S1 (nI (fIx x))) + ((pV S (fIx st) 13) + ((fAb (pV S (fIx st) 14)) / 4))))))))) ([(nI y_108), 0, ((bH S1 (fIx x)) + (((pV S (fIx st) 13) + ((fAb (pV S (fIx st) 14)) / 4)) + (fHf ((bD S1 y_108) - ((fEx S1 (nI (fIx x))) + ((pV S (fIx st) 13) + ((fAb (pV S (fIx st) 14)) / 4))))))), (nI (fIx x)), (bW S1 y_108), 0]) 0 0 (md_R.of (np := np132) hT hB : md_R G o A M_131 0 (nI (fSz (fIx st))) (fs_push S1 (((bW S1 y_108) + (bW S1 (fIx x))), (((bH S1 (fIx x)) + (((pV S (fIx st) 13) + ((fAb (pV S (fIx st) 14)) / 4)) + (fHf ((bD S1 y_108) - ((fEx S1 (nI (fIx x))) + ((pV S (fIx st) 13) + ((fAb (pV S (fIx st) 14)) / 4))))))) + (2 * (bH S1 y_108))), (fMx (bD S1 (fIx x)) ((bD S1 y_108) - ((bH S1 (fIx x)) + (((pV S (fIx st) 13) + ((fAb (pV S (fIx st) 14)) / 4)) + (fHf ((bD S1 y_108) - ((fEx S1 (nI (fIx x))) + ((pV S (fIx st) 13) + ((fAb (pV S (fIx st) 14)) / 4))))))))), [(nI y_108), 0, ((bH S1 (fIx x)) + (((pV S (fIx st) 13) + ((fAb (pV S (fIx st) 14)) / 4)) + (fHf ((bD S1 y_108) - ((fEx S1 (nI (fIx x))) + ((pV S (fIx st) 13) + ((fAb (pV S (fIx st) 14)) / 4))))))), (nI (fIx x)), (bW S1 y_108), 0], 0, 0))) (by simp) (-1) (bW S1 y_108) ((bH S1 (fIx x)) + (((pV S (fIx st) 13) + ((fAb (pV S (fIx st) 14)) / 4)) + (fHf ((bD S1 y_108) - ((fEx S1 (nI (fIx x))) + ((pV S (fIx st) 13) + ((fAb (pV S (fIx st) 14)) / 4)))))))) (g_B (n := 3) htb wd661 wd3 wd658 (by decide +kernel) ⟨Nat.le_of_ble_eq_true rfl, Nat.le_of_ble_eq_true rfl⟩) (htb _ wd660) (htb _ ws34) hE hP hS hT.1 rfl rfl rfl (Nat.le_of_ble_eq_true rfl) dX4_root_362 ⟨Nat.le_of_ble_eq_true rfl, Nat.le_of_ble_eq_true rfl⟩ (fun v9 M9 H locs hpo hP hz hS => ?_) (fun x9 E9 cell9 H9 locs9 hE9 => hE9.elim)
                  obtain ⟨rfl, hRn, hkn⟩ := hpo
                  obtain ⟨M_133, hM_133⟩ : ∃ z9 : mw_M, z9 = M9 := ⟨_, rfl⟩
                  rw [← hM_133] at hP hRn hkn
                  have hk := md_keeps.tr hk hkn
                  have hRn : md_R G o A M_133 0 (nI (fSz (fIx st))) (fs_push S1 (((bW S1 y_108) + (bW S1 (fIx x))), (((bH S1 (fIx x)) + (((pV S (fIx st) 13) + ((fAb (pV S (fIx st) 14)) / 4)) + (fHf ((bD S1 y_108) - ((fEx S1 (nI (fIx x))) + ((pV S (fIx st) 13) + ((fAb (pV S (fIx st) 14)) / 4))))))) + (2 * (bH S1 y_108))), (fMx (bD S1 (fIx x)) ((bD S1 y_108) - ((bH S1 (fIx x)) + (((pV S (fIx st) 13) + ((fAb (pV S (fIx st) 14)) / 4)) + (fHf ((bD S1 y_108) - ((fEx S1 (nI (fIx x))) + ((pV S (fIx st) 13) + ((fAb (pV S (fIx st) 14)) / 4))))))))), [(nI y_108), 0, ((bH S1 (fIx x)) + (((pV S (fIx st) 13) + ((fAb (pV S (fIx st) 14)) / 4)) + (fHf ((bD S1 y_108) - ((fEx S1 (nI (fIx x))) + ((pV S (fIx st) 13) + ((fAb (pV S (fIx st) 14)) / 4))))))), (nI (fIx x)), (bW S1 y_108), 0, (-1), (bW S1 y_108), ((bH S1 (fIx x)) + (((pV S (fIx st) 13) + ((fAb (pV S (fIx st) 14)) / 4)) + (fHf ((bD S1 y_108) - ((fEx S1 (nI (fIx x))) + ((pV S (fIx st) 13) + ((fAb (pV S (fIx st) 14)) / 4)))))))], 0, 0)) := hRn
                  obtain ⟨np134, bg134, g134, hT, hB⟩ := id hRn
                  rw [sN_push] at hT
                  have hT : md_at G o A M_133 0 (sSp S1) (sSh S1) (nI (sN S1 + 1)) (nI np134) (nI (fSz (fIx st))) g134 := hT
                  refine W.eq (g2 := F0 m 365 ls []) rfl ?_
                  refine lv_aload_n hx hb dX4_root_365 rfl (lv_at hl 10 rfl) ?_
                  refine mw_get (D := gD G) (ci := 4) (v := .ref (A 6)) (C := RX4) (T := TX4) (N := 21) hx hb htb inX4 hown hK hP hT.1 rfl 10 (by decide) (htb _ wd534) (fun _ h9 => h9) rfl dX4_root_366 ?_
                  refine lv_iload hx hb dX4_root_369 (lv_at hl 0 rfl) ?_
                  refine lv_aload_n hx hb dX4_root_371 rfl (lv_at hl 10 rfl) ?_
                  refine mw_get (D := gD G) (ci := 4) (v := .ref (A 1)) (C := RX4) (T := TX4) (N := 21) hx hb htb inX4 hown hK hP hT.1 rfl 5 (by decide) (htb _ wd529) (fun _ h9 => h9) rfl dX4_root_372 ?_
                  refine lv_iload_n hx hb dX4_root_375 rfl (lv_at hl 12 rfl) ?_
                  refine mw_iald hx hb hK hP 0 (show M_133 (A 1) = some (.inl (gI G, 120, .inl (g134 1))) from hT.2.1 1 (by decide)) rfl (by exact vp_in_nI (show (fIx x) < 120 by have := hle; omega) (by decide)) dX4_root_376 ?_
                  refine W.eq (g2 := F0 m 377 ls [.int (bW S1 (fIx x)), .int (nI (sN S1)), .ref (A 6)]) (by rw [nI_clamp (show (fIx x) < 2 ^ 31 by have := hle; omega), hB.W (show (fIx x) < sN (fs_push S1 (((bW S1 y_108) + (bW S1 (fIx x))), (((bH S1 (fIx x)) + (((pV S (fIx st) 13) + ((fAb (pV S (fIx st) 14)) / 4)) + (fHf ((bD S1 y_108) - ((fEx S1 (nI (fIx x))) + ((pV S (fIx st) 13) + ((fAb (pV S (fIx st) 14)) / 4))))))) + (2 * (bH S1 y_108))), (fMx (bD S1 (fIx x)) ((bD S1 y_108) - ((bH S1 (fIx x)) + (((pV S (fIx st) 13) + ((fAb (pV S (fIx st) 14)) / 4)) + (fHf ((bD S1 y_108) - ((fEx S1 (nI (fIx x))) + ((pV S (fIx st) 13) + ((fAb (pV S (fIx st) 14)) / 4))))))))), [(nI y_108), 0, ((bH S1 (fIx x)) + (((pV S (fIx st) 13) + ((fAb (pV S (fIx st) 14)) / 4)) + (fHf ((bD S1 y_108) - ((fEx S1 (nI (fIx x))) + ((pV S (fIx st) 13) + ((fAb (pV S (fIx st) 14)) / 4))))))), (nI (fIx x)), (bW S1 y_108), 0, (-1), (bW S1 y_108), ((bH S1 (fIx x)) + (((pV S (fIx st) 13) + ((fAb (pV S (fIx st) 14)) / 4)) + (fHf ((bD S1 y_108) - ((fEx S1 (nI (fIx x))) + ((pV S (fIx st) 13) + ((fAb (pV S (fIx st) 14)) / 4)))))))], 0, 0)) by rw [sN_push]; omega), bW_push _ h_x]) ?_
                  refine mw_iast hx hb hK hP hS 0 (show M_133 (A 6) = some (.inl (gI G, 120, .inl (g134 6))) from hT.2.1 6 (by decide)) (hT.2.2.2.2 6 (by decide)) rfl (by exact vp_in_nI (show (sN S1) < 120 by have := hle; omega) (by decide)) dX4_root_377 (fun H locs hP hS => ?_)
                  rw [nI_clamp (show (sN S1) < 2 ^ 31 by have := hle; omega)] at hP
                  obtain ⟨M_135, hM_135⟩ : ∃ z9 : mw_M, z9 = mw_up M_133 (A 6) (.inl (gI G, 120, .inl (upd (g134 6) (sN S1) (bW S1 (fIx x))))) := ⟨_, rfl⟩
                  have hP : mw_P (gD G) gx_cl M_135 H := by rw [hM_135]; exact hP
                  obtain ⟨g_136, hg_136⟩ : ∃ z9, z9 = ug g134 6 (sN S1) (bW S1 (fIx x)) := ⟨_, rfl⟩
                  have hT : md_at G o A M_135 0 (sSp S1) (sSh S1) (nI (sN S1 + 1)) (nI np134) (nI (fSz (fIx st))) g_136 := by rw [hg_136]; exact md_at.put hT (by decide) rfl rfl hM_135
                  have hk : md_keeps o A M M_135 := md_keeps.arr (j := 6) hk (by decide) hM_135
                  have hB : md_ab np134 bg134 g_136 (fs_push S1 (((bW S1 y_108) + (bW S1 (fIx x))), (((bH S1 (fIx x)) + (((pV S (fIx st) 13) + ((fAb (pV S (fIx st) 14)) / 4)) + (fHf ((bD S1 y_108) - ((fEx S1 (nI (fIx x))) + ((pV S (fIx st) 13) + ((fAb (pV S (fIx st) 14)) / 4))))))) + (2 * (bH S1 y_108))), (fMx (bD S1 (fIx x)) ((bD S1 y_108) - ((bH S1 (fIx x)) + (((pV S (fIx st) 13) + ((fAb (pV S (fIx st) 14)) / 4)) + (fHf ((bD S1 y_108) - ((fEx S1 (nI (fIx x))) + ((pV S (fIx st) 13) + ((fAb (pV S (fIx st) 14)) / 4))))))))), [(nI y_108), 0, ((bH S1 (fIx x)) + (((pV S (fIx st) 13) + ((fAb (pV S (fIx st) 14)) / 4)) + (fHf ((bD S1 y_108) - ((fEx S1 (nI (fIx x))) + ((pV S (fIx st) 13) + ((fAb (pV S (fIx st) 14)) / 4))))))), (nI (fIx x)), (bW S1 y_108), 0, (-1), (bW S1 y_108), ((bH S1 (fIx x)) + (((pV S (fIx st) 13) + ((fAb (pV S (fIx st) 14)) / 4)) + (fHf ((bD S1 y_108) - ((fEx S1 (nI (fIx x))) + ((pV S (fIx st) 13) + ((fAb (pV S (fIx st) 14)) / 4)))))))], (bW S1 (fIx x)), 0)) := by rw [hg_136]; exact md_ab.set6 hB _
                  refine lv_aload_n hx hb dX4_root_378 rfl (lv_at hl 10 rfl) ?_
                  refine mw_get (D := gD G) (ci := 4) (v := .ref (A 7)) (C := RX4) (T := TX4) (N := 21) hx hb htb inX4 hown hK hP hT.1 rfl 11 (by decide) (htb _ wd535) (fun _ h9 => h9) rfl dX4_root_379 ?_
                  refine lv_iload hx hb dX4_root_382 (lv_at hl 0 rfl) ?_
                  refine lv_iload hx hb dX4_root_384 (lv_at hl 5 rfl) ?_
                  refine mw_iast hx hb hK hP hS 0 (show M_135 (A 7) = some (.inl (gI G, 120, .inl (g_136 7))) from hT.2.1 7 (by decide)) (hT.2.2.2.2 7 (by decide)) rfl (by exact vp_in_nI (show (sN S1) < 120 by have := hle; omega) (by decide)) dX4_root_386 (fun H locs hP hS => ?_)
                  rw [nI_clamp (show (sN S1) < 2 ^ 31 by have := hle; omega)] at hP
                  obtain ⟨M_137, hM_137⟩ : ∃ z9 : mw_M, z9 = mw_up M_135 (A 7) (.inl (gI G, 120, .inl (upd (g_136 7) (sN S1) (bH S1 y_108)))) := ⟨_, rfl⟩
                  have hP : mw_P (gD G) gx_cl M_137 H := by rw [hM_137]; exact hP
                  obtain ⟨g_138, hg_138⟩ : ∃ z9, z9 = ug g_136 7 (sN S1) (bH S1 y_108) := ⟨_, rfl⟩
                  have hT : md_at G o A M_137 0 (sSp S1) (sSh S1) (nI (sN S1 + 1)) (nI np134) (nI (fSz (fIx st))) g_138 := by rw [hg_138]; exact md_at.put hT (by decide) rfl rfl hM_137
                  have hk : md_keeps o A M M_137 := md_keeps.arr (j := 7) hk (by decide) hM_137
                  have hB : md_ab np134 bg134 g_138 (fs_push S1 (((bW S1 y_108) + (bW S1 (fIx x))), (((bH S1 (fIx x)) + (((pV S (fIx st) 13) + ((fAb (pV S (fIx st) 14)) / 4)) + (fHf ((bD S1 y_108) - ((fEx S1 (nI (fIx x))) + ((pV S (fIx st) 13) + ((fAb (pV S (fIx st) 14)) / 4))))))) + (2 * (bH S1 y_108))), (fMx (bD S1 (fIx x)) ((bD S1 y_108) - ((bH S1 (fIx x)) + (((pV S (fIx st) 13) + ((fAb (pV S (fIx st) 14)) / 4)) + (fHf ((bD S1 y_108) - ((fEx S1 (nI (fIx x))) + ((pV S (fIx st) 13) + ((fAb (pV S (fIx st) 14)) / 4))))))))), [(nI y_108), 0, ((bH S1 (fIx x)) + (((pV S (fIx st) 13) + ((fAb (pV S (fIx st) 14)) / 4)) + (fHf ((bD S1 y_108) - ((fEx S1 (nI (fIx x))) + ((pV S (fIx st) 13) + ((fAb (pV S (fIx st) 14)) / 4))))))), (nI (fIx x)), (bW S1 y_108), 0, (-1), (bW S1 y_108), ((bH S1 (fIx x)) + (((pV S (fIx st) 13) + ((fAb (pV S (fIx st) 14)) / 4)) + (fHf ((bD S1 y_108) - ((fEx S1 (nI (fIx x))) + ((pV S (fIx st) 13) + ((fAb (pV S (fIx st) 14)) / 4)))))))], (bW S1 (fIx x)), (bH S1 y_108))) := by rw [hg_138]; exact md_ab.set7 hB _
                  refine lv_iload hx hb dX4_root_387 (lv_at hl 0 rfl) ?_
                  have hex : ex_root S st x k = 0 := by rw [ex_root, if_neg (fun z9 => z9 ⟨kb_5, kb_7⟩), if_neg (fun z9 => z9 kb_9), if_neg (fun z9 => z9 kG), if_neg (fun z9 => z9 kb_104)]
                  have hre : re_root S st x k = (((bW S1 y_108) + (bW S1 (fIx x))), (((bH S1 (fIx x)) + (((pV S (fIx st) 13) + ((fAb (pV S (fIx st) 14)) / 4)) + (fHf ((bD S1 y_108) - ((fEx S1 (nI (fIx x))) + ((pV S (fIx st) 13) + ((fAb (pV S (fIx st) 14)) / 4))))))) + (2 * (bH S1 y_108))), (fMx (bD S1 (fIx x)) ((bD S1 y_108) - ((bH S1 (fIx x)) + (((pV S (fIx st) 13) + ((fAb (pV S (fIx st) 14)) / 4)) + (fHf ((bD S1 y_108) - ((fEx S1 (nI (fIx x))) + ((pV S (fIx st) 13) + ((fAb (pV S (fIx st) 14)) / 4))))))))), [(nI y_108), 0, ((bH S1 (fIx x)) + (((pV S (fIx st) 13) + ((fAb (pV S (fIx st) 14)) / 4)) + (fHf ((bD S1 y_108) - ((fEx S1 (nI (fIx x))) + ((pV S (fIx st) 13) + ((fAb (pV S (fIx st) 14)) / 4))))))), (nI (fIx x)), (bW S1 y_108), 0, (-1), (bW S1 y_108), ((bH S1 (fIx x)) + (((pV S (fIx st) 13) + ((fAb (pV S (fIx st) 14)) / 4)) + (fHf ((bD S1 y_108) - ((fEx S1 (nI (fIx x))) + ((pV S (fIx st) 13) + ((fAb (pV S (fIx st) 14)) / 4)))))))], (bW S1 (fIx x)), (bH S1 y_108)) := by rw [re_root, ← hS1, ← ey_108]; simp only [fs_rs, fs_rs1, fs_rs2, fs_rc, if_neg hrd, if_pos c_14, if_neg c_112, if_true, if_false, Int32.add_zero, show ((1 : Int32) = 0) = False from eq_false (by decide), show ((0 : Int32) = 0) = True from eq_true rfl]; try simp only [Int32.add_assoc]
                  exact mx_iret (v := (nI (sN S1))) (M' := M_137) hx hb hr hlocks hP hS ⟨by rw [hex, if_pos rfl, ← hS1], ⟨_, by rw [hex, if_pos rfl, ← hS1, hre]; exact (md_R.of (np := np134) hT hB : md_R G o A M_137 0 (nI (fSz (fIx st))) (fs_push S1 (((bW S1 y_108) + (bW S1 (fIx x))), (((bH S1 (fIx x)) + (((pV S (fIx st) 13) + ((fAb (pV S (fIx st) 14)) / 4)) + (fHf ((bD S1 y_108) - ((fEx S1 (nI (fIx x))) + ((pV S (fIx st) 13) + ((fAb (pV S (fIx st) 14)) / 4))))))) + (2 * (bH S1 y_108))), (fMx (bD S1 (fIx x)) ((bD S1 y_108) - ((bH S1 (fIx x)) + (((pV S (fIx st) 13) + ((fAb (pV S (fIx st) 14)) / 4)) + (fHf ((bD S1 y_108) - ((fEx S1 (nI (fIx x))) + ((pV S (fIx st) 13) + ((fAb (pV S (fIx st) 14)) / 4))))))))), [(nI y_108), 0, ((bH S1 (fIx x)) + (((pV S (fIx st) 13) + ((fAb (pV S (fIx st) 14)) / 4)) + (fHf ((bD S1 y_108) - ((fEx S1 (nI (fIx x))) + ((pV S (fIx st) 13) + ((fAb (pV S (fIx st) 14)) / 4))))))), (nI (fIx x)), (bW S1 y_108), 0, (-1), (bW S1 y_108), ((bH S1 (fIx x)) + (((pV S (fIx st) 13) + ((fAb (pV S (fIx st) 14)) / 4)) + (fHf ((bD S1 y_108) - ((fEx S1 (nI (fIx x))) + ((pV S (fIx st) 13) + ((fAb (pV S (fIx st) 14)) / 4)))))))], (bW S1 (fIx x)), (bH S1 y_108))))⟩, hk⟩ dX4_root_389 (Nat.le_of_ble_eq_true rfl) (Nat.le_of_ble_eq_true rfl)
              · have kb_139 : ¬ rmk S ((if ro_r S st x k = (-1) then 1 else 0) + 1) := by rw [if_neg hrd, show (0 : Int32) + 1 = 1 from rfl]; exact fun z9 => z9 (Int32.not_le.mp c_103)
                refine lv_iconst (v := 4) hx hb dX4_root_158 (by decide) ?_
                refine lv_goto (tgt := 163) hx hb dX4_root_159 (by decide) ?_
                refine mw_put (D := gD G) (ci := 4) (v := .int 4) (ty := .int) (C := RX4) (T := TX4) (N := 21) hx hb htb inX4 tyX4 tyX4_ok nmX4 hown hK hP hS hT.1 hT.2.2.2.1 rfl 0 (by decide) (htb _ wd524) (fun _ h9 => h9) rfl (by decide +kernel) rfl rfl (Nat.le_of_ble_eq_true rfl) dX4_root_163 (fun H locs hP hS => ?_)
                obtain ⟨M_140, hM_140⟩ : ∃ z9 : mw_M, z9 = mw_up M_12 o (.inr (4, [.int 4, .ref (A 0), .int (sSp S), .int (sSh S), .int (nI (sN S)), .ref (A 1), .ref (A 2), .ref (A 3), .ref (A 4), .ref (A 5), .ref (A 6), .ref (A 7), .int (nI np13), .ref (A 8), .ref (A 9), .ref (A 10), .ref (A 11), .ref (A 12), .ref (A 13), .ref (A 14), .int (nI (fSz (fIx st)))])) := ⟨_, rfl⟩
                have hP : mw_P (gD G) gx_cl M_140 H := by rw [hM_140]; exact hP
                have hT : md_at G o A M_140 4 (sSp S) (sSh S) (nI (sN S)) (nI np13) (nI (fSz (fIx st))) g13 := md_at.fld hT hM_140
                have hk : md_keeps o A M M_140 := md_keeps.fld hk hM_140
                refine lv_aload_n hx hb dX4_root_166 rfl (lv_at hl 4 rfl) ?_
                refine mw_get (D := gD G) (ci := 4) (v := .int 4) (C := RX4) (T := TX4) (N := 21) hx hb htb inX4 hown hK hP hT.1 rfl 0 (by decide) (htb _ wd524) (fun _ h9 => h9) rfl dX4_root_167 ?_
                refine lv_if_le (tgt := 175) hx hb dX4_root_170 (by decide) (fun c_141 => absurd c_141 (by decide)) (fun c_141 => ?_)
                refine lv_iconst (v := 0) hx hb dX4_root_173 (by decide) ?_
                have hex : ex_root S st x k = 4 := by rw [ex_root, if_neg (fun z9 => z9 ⟨kb_5, kb_7⟩), if_neg (fun z9 => z9 kb_9), if_neg (fun z9 => z9 kG), if_pos (fun z9 => kb_139 z9)]
                exact mx_iret (v := 0) (M' := M_140) hx hb hr hlocks hP hS ⟨by rw [hex]; rfl, ⟨_, by rw [hex]; exact (⟨np13, bg13, g13, hT, hB⟩ : md_R G o A M_140 4 (nI (fSz (fIx st))) S)⟩, hk⟩ dX4_root_174 (Nat.le_of_ble_eq_true rfl) (Nat.le_of_ble_eq_true rfl)
            · have kG : ¬ isG S (fIx k) := fun z9 => z9 ((pl_2 hle o1 o2).mp c_101)
              refine lv_iconst (v := 3) hx hb dX4_root_134 (by decide) ?_
              refine lv_goto (tgt := 163) hx hb dX4_root_135 (by decide) ?_
              refine mw_put (D := gD G) (ci := 4) (v := .int 3) (ty := .int) (C := RX4) (T := TX4) (N := 21) hx hb htb inX4 tyX4 tyX4_ok nmX4 hown hK hP hS hT.1 hT.2.2.2.1 rfl 0 (by decide) (htb _ wd524) (fun _ h9 => h9) rfl (by decide +kernel) rfl rfl (Nat.le_of_ble_eq_true rfl) dX4_root_163 (fun H locs hP hS => ?_)
              obtain ⟨M_142, hM_142⟩ : ∃ z9 : mw_M, z9 = mw_up M_12 o (.inr (4, [.int 3, .ref (A 0), .int (sSp S), .int (sSh S), .int (nI (sN S)), .ref (A 1), .ref (A 2), .ref (A 3), .ref (A 4), .ref (A 5), .ref (A 6), .ref (A 7), .int (nI np13), .ref (A 8), .ref (A 9), .ref (A 10), .ref (A 11), .ref (A 12), .ref (A 13), .ref (A 14), .int (nI (fSz (fIx st)))])) := ⟨_, rfl⟩
              have hP : mw_P (gD G) gx_cl M_142 H := by rw [hM_142]; exact hP
              have hT : md_at G o A M_142 3 (sSp S) (sSh S) (nI (sN S)) (nI np13) (nI (fSz (fIx st))) g13 := md_at.fld hT hM_142
              have hk : md_keeps o A M M_142 := md_keeps.fld hk hM_142
              refine lv_aload_n hx hb dX4_root_166 rfl (lv_at hl 4 rfl) ?_
              refine mw_get (D := gD G) (ci := 4) (v := .int 3) (C := RX4) (T := TX4) (N := 21) hx hb htb inX4 hown hK hP hT.1 rfl 0 (by decide) (htb _ wd524) (fun _ h9 => h9) rfl dX4_root_167 ?_
              refine lv_if_le (tgt := 175) hx hb dX4_root_170 (by decide) (fun c_143 => absurd c_143 (by decide)) (fun c_143 => ?_)
              refine lv_iconst (v := 0) hx hb dX4_root_173 (by decide) ?_
              have hex : ex_root S st x k = 3 := by rw [ex_root, if_neg (fun z9 => z9 ⟨kb_5, kb_7⟩), if_neg (fun z9 => z9 kb_9), if_pos (fun z9 => kG z9)]
              exact mx_iret (v := 0) (M' := M_142) hx hb hr hlocks hP hS ⟨by rw [hex]; rfl, ⟨_, by rw [hex]; exact (⟨np13, bg13, g13, hT, hB⟩ : md_R G o A M_142 3 (nI (fSz (fIx st))) S)⟩, hk⟩ dX4_root_174 (Nat.le_of_ble_eq_true rfl) (Nat.le_of_ble_eq_true rfl)
          · obtain ⟨kG, hrd⟩ := pl_3g hle o1 o2 c_100
            have hrd : ro_r S st x k = (-1) := hrd
            refine lv_iconst (v := 1) hx hb dX4_root_119 (by decide) ?_
            refine lv_goto (tgt := 124) hx hb dX4_root_120 (by decide) ?_
            refine lv_istore (lv' := [(7, .int 1), (6, .int (md_pl S (sF S (fIx k)) (ro_l S st x))), (5, .int (ro_l S st x)), (4, .int ((pV S (fIx st) 13) + ((fAb (pV S (fIx st) 14)) / 4))), (0, .ref o), (1, .int (nI (fIx st))), (2, .int (nI (fIx x))), (3, .int (nI (fIx k)))]) hx hb dX4_root_124 hl (by decide) rfl (fun ls hl => ?_)
            refine lv_aload_n hx hb dX4_root_126 rfl (lv_at hl 4 rfl) ?_
            refine lv_iload hx hb dX4_root_127 (lv_at hl 1 rfl) ?_
            refine lv_bipush (v := (-2)) hx hb dX4_root_129 (by decide) ?_
            refine lv_icmp_ne (tgt := 138) hx hb dX4_root_131 (by decide) (fun c_144 => ?_) (fun c_144 => absurd c_144 (fun z9 => absurd (c_100.symm.trans z9) (by decide)))
            refine lv_aload_n hx hb dX4_root_138 rfl (lv_at hl 4 rfl) ?_
            refine mw_get (D := gD G) (ci := 4) (v := .int (nI (sN S))) (C := RX4) (T := TX4) (N := 21) hx hb htb inX4 hown hK hP hT.1 rfl 4 (by decide) (htb _ wd528) (fun _ h9 => h9) rfl dX4_root_139 ?_
            refine lv_iload hx hb dX4_root_142 (lv_at hl 0 rfl) ?_
            refine lv_if_eq (tgt := 151) hx hb dX4_root_144 (by decide) (fun c_145 => absurd c_145 (by decide)) (fun c_145 => ?_)
            refine lv_iconst (v := 2) hx hb dX4_root_147 (by decide) ?_
            refine lv_goto (tgt := 152) hx hb dX4_root_148 (by decide) ?_
            refine lv_iadd hx hb dX4_root_152 ?_
            refine lv_bipush (v := 120) hx hb dX4_root_153 (by decide) ?_
            refine lv_icmp_le (tgt := 162) hx hb dX4_root_155 (by decide) (fun c_146 => ?_) (fun c_146 => ?_)
            · have kb_147 : rmk S ((if ro_r S st x k = (-1) then 1 else 0) + 1) := by rw [if_pos hrd, show (1 : Int32) + 1 = 2 from rfl]; exact Int32.not_lt.mpr c_146
              have hrm : sN S + 2 ≤ 120 := rmk_le (n := 2) (by decide) hle (Int32.not_lt.mpr c_146)
              refine lv_iconst (v := 0) hx hb dX4_root_162 (by decide) ?_
              refine mw_put (D := gD G) (ci := 4) (v := .int 0) (ty := .int) (C := RX4) (T := TX4) (N := 21) hx hb htb inX4 tyX4 tyX4_ok nmX4 hown hK hP hS hT.1 hT.2.2.2.1 rfl 0 (by decide) (htb _ wd524) (fun _ h9 => h9) rfl (by decide +kernel) rfl rfl (Nat.le_of_ble_eq_true rfl) dX4_root_163 (fun H locs hP hS => ?_)
              obtain ⟨M_148, hM_148⟩ : ∃ z9 : mw_M, z9 = mw_up M_12 o (.inr (4, [.int 0, .ref (A 0), .int (sSp S), .int (sSh S), .int (nI (sN S)), .ref (A 1), .ref (A 2), .ref (A 3), .ref (A 4), .ref (A 5), .ref (A 6), .ref (A 7), .int (nI np13), .ref (A 8), .ref (A 9), .ref (A 10), .ref (A 11), .ref (A 12), .ref (A 13), .ref (A 14), .int (nI (fSz (fIx st)))])) := ⟨_, rfl⟩
              have hP : mw_P (gD G) gx_cl M_148 H := by rw [hM_148]; exact hP
              have hT : md_at G o A M_148 0 (sSp S) (sSh S) (nI (sN S)) (nI np13) (nI (fSz (fIx st))) g13 := md_at.fld hT hM_148
              have hk : md_keeps o A M M_148 := md_keeps.fld hk hM_148
              refine lv_aload_n hx hb dX4_root_166 rfl (lv_at hl 4 rfl) ?_
              refine mw_get (D := gD G) (ci := 4) (v := .int 0) (C := RX4) (T := TX4) (N := 21) hx hb htb inX4 hown hK hP hT.1 rfl 0 (by decide) (htb _ wd524) (fun _ h9 => h9) rfl dX4_root_167 ?_
              refine lv_if_le (tgt := 175) hx hb dX4_root_170 (by decide) (fun c_149 => ?_) (fun c_149 => absurd (by decide) c_149)
              refine lv_aload_n hx hb dX4_root_175 rfl (lv_at hl 4 rfl) ?_
              refine lv_iload_n hx hb dX4_root_176 rfl (lv_at hl 7 rfl) ?_
              refine lv_iload hx hb dX4_root_177 (lv_at hl 2 rfl) ?_
              refine mw_callV (C := RX4) (As := [.int (nI (fIx k)), .int (ro_l S st x)]) (rest := []) hx hb hml hown hl (kX4_signBy l htr G H.size M_148 o A 0 (nI (fSz (fIx st))) S (⟨np13, bg13, g13, hT, hB⟩ : md_R G o A M_148 0 (nI (fSz (fIx st))) S) hok (fIx k) h_k (ro_l S st x) kG (fun z9 => by omega)) (g_B (n := 2) htb wd649 wd3 wd646 (by decide +kernel) ⟨Nat.le_of_ble_eq_true rfl, Nat.le_of_ble_eq_true rfl⟩) (htb _ wd648) (htb _ ws31) hE hP hS hT.1 rfl rfl rfl (Nat.le_of_ble_eq_true rfl) dX4_root_179 ⟨Nat.le_of_ble_eq_true rfl, Nat.le_of_ble_eq_true rfl⟩ (fun v9 M9 H locs hpo hP hz hS => ?_) (fun x9 E9 cell9 H9 locs9 hE9 => hE9.elim)
              obtain ⟨rfl, hRn, hkn⟩ := hpo
              obtain ⟨M_150, hM_150⟩ : ∃ z9 : mw_M, z9 = M9 := ⟨_, rfl⟩
              rw [← hM_150] at hP hRn hkn
              have hk := md_keeps.tr hk hkn
              obtain ⟨S1, hS1⟩ : ∃ z9, z9 = ro_S S st x k := ⟨_, rfl⟩
              have hRn : md_R G o A M_150 0 (nI (fSz (fIx st))) S1 := by rw [hS1]; exact hRn
              obtain ⟨hy1, hy2⟩ := kt_in (sF S (fIx k)) (ro_l S st x) hle (fs_rd_on (ro_l S st x) o2)
              obtain ⟨y_151, ey_151⟩ : ∃ z9, z9 = fIx (kt_y S (ro_r S st x k)) := ⟨_, rfl⟩
              have h_y_151 : y_151 < sN S1 := by rw [ey_151, hS1]; exact hy1
              have hy3 : kt_y S (fs_rd S (sF S (fIx k)) (ro_l S st x)) = nI y_151 := by rw [ey_151]; exact hy2
              have hle1 : sN S ≤ sN S1 := by rw [hS1]; exact kt_le _ _ _ _
              have h_x := Nat.lt_of_lt_of_le h_x hle1
              obtain ⟨np152, bg152, g152, hT, hB⟩ := id hRn
              have hle0 := hle
              have hle : sN S1 ≤ 120 := hB.1
              refine W.eq (g2 := F0 m 182 ls [.int (nI y_151)]) (show F0 m 182 ls [.int (kt_y S (fs_rd S (sF S (fIx k)) (ro_l S st x)))] = F0 m 182 ls [.int (nI y_151)] from by rw [hy3]) ?_
              refine lv_istore (lv' := [(8, .int (nI y_151)), (7, .int 1), (6, .int (md_pl S (sF S (fIx k)) (ro_l S st x))), (5, .int (ro_l S st x)), (4, .int ((pV S (fIx st) 13) + ((fAb (pV S (fIx st) 14)) / 4))), (0, .ref o), (1, .int (nI (fIx st))), (2, .int (nI (fIx x))), (3, .int (nI (fIx k)))]) hx hb dX4_root_182 hl (by decide) rfl (fun ls hl => ?_)
              refine lv_iload hx hb dX4_root_184 (lv_at hl 1 rfl) ?_
              refine lv_if_eq (tgt := 193) hx hb dX4_root_186 (by decide) (fun c_153 => absurd c_153 (by decide)) (fun c_153 => ?_)
              refine lv_iconst (v := 0) hx hb dX4_root_189 (by decide) ?_
              refine lv_goto (tgt := 200) hx hb dX4_root_190 (by decide) ?_
              refine lv_istore (lv' := [(9, .int 0), (8, .int (nI y_151)), (7, .int 1), (6, .int (md_pl S (sF S (fIx k)) (ro_l S st x))), (5, .int (ro_l S st x)), (4, .int ((pV S (fIx st) 13) + ((fAb (pV S (fIx st) 14)) / 4))), (0, .ref o), (1, .int (nI (fIx st))), (2, .int (nI (fIx x))), (3, .int (nI (fIx k)))]) hx hb dX4_root_200 hl (by decide) rfl (fun ls hl => ?_)
              refine lv_iload hx hb dX4_root_202 (lv_at hl 2 rfl) ?_
              refine lv_if_eq (tgt := 217) hx hb dX4_root_204 (by decide) (fun c_154 => absurd c_154 (by decide)) (fun c_154 => ?_)
              refine lv_aload_n hx hb dX4_root_207 rfl (lv_at hl 6 rfl) ?_
              refine mw_get (D := gD G) (ci := 4) (v := .ref (A 2)) (C := RX4) (T := TX4) (N := 21) hx hb htb inX4 hown hK hP hT.1 rfl 6 (by decide) (htb _ wd530) (fun _ h9 => h9) rfl dX4_root_208 ?_
              refine lv_iload hx hb dX4_root_211 (lv_at hl 1 rfl) ?_
              refine mw_iald hx hb hK hP 0 (show M_150 (A 2) = some (.inl (gI G, 120, .inl (g152 2))) from hT.2.1 2 (by decide)) rfl (by exact vp_in_nI (show y_151 < 120 by have := hle; omega) (by decide)) dX4_root_213 ?_
              refine W.eq (g2 := F0 m 214 ls [.int (bH S1 y_151)]) (by rw [nI_clamp (show y_151 < 2 ^ 31 by have := hle; omega), hB.H h_y_151]) ?_
              refine lv_goto (tgt := 224) hx hb dX4_root_214 (by decide) ?_
              refine lv_istore (lv' := [(10, .int (bH S1 y_151)), (9, .int 0), (8, .int (nI y_151)), (7, .int 1), (6, .int (md_pl S (sF S (fIx k)) (ro_l S st x))), (5, .int (ro_l S st x)), (4, .int ((pV S (fIx st) 13) + ((fAb (pV S (fIx st) 14)) / 4))), (0, .ref o), (1, .int (nI (fIx st))), (2, .int (nI (fIx x))), (3, .int (nI (fIx k)))]) hx hb dX4_root_224 hl (by decide) rfl (fun ls hl => ?_)
              refine lv_iload hx hb dX4_root_226 (lv_at hl 0 rfl) ?_
              refine lv_aload_n hx hb dX4_root_228 rfl (lv_at hl 7 rfl) ?_
              refine lv_iload_n hx hb dX4_root_229 rfl (lv_at hl 9 rfl) ?_
              refine mw_callV (C := RX4) (As := [.int (nI (fIx x))]) (rest := [.int (bH S1 y_151)]) hx hb hml hown hl (kX4_tall l htr G H.size M_150 o A 0 (nI (fSz (fIx st))) S1 (⟨np152, bg152, g152, hT, hB⟩ : md_R G o A M_150 0 (nI (fSz (fIx st))) S1) (nI (fIx x)) (Or.inr ⟨(fIx x), h_x, rfl⟩)) (g_B (n := 1) htb wd645 wd3 wd642 (by decide +kernel) ⟨Nat.le_of_ble_eq_true rfl, Nat.le_of_ble_eq_true rfl⟩) (htb _ wd644) (htb _ ws30) hE hP hS hT.1 rfl rfl rfl (Nat.le_of_ble_eq_true rfl) dX4_root_230 ⟨Nat.le_of_ble_eq_true rfl, Nat.le_of_ble_eq_true rfl⟩ (fun v9 M9 H locs hpo hP hz hS => ?_) (fun x9 E9 cell9 H9 locs9 hE9 => hE9.elim)
              obtain ⟨rfl, rfl⟩ := hpo
              refine W.eq (g2 := F0 m 233 ls [.int (fEx S1 (nI (fIx x))), .int (bH S1 y_151)]) rfl ?_
              refine lv_iload hx hb dX4_root_233 (lv_at hl 6 rfl) ?_
              refine lv_iadd hx hb dX4_root_235 ?_
              refine lv_isub hx hb dX4_root_236 ?_
              refine lv_istore (lv' := [(11, .int ((bH S1 y_151) - ((fEx S1 (nI (fIx x))) + ((pV S (fIx st) 13) + ((fAb (pV S (fIx st) 14)) / 4))))), (10, .int (bH S1 y_151)), (9, .int 0), (8, .int (nI y_151)), (7, .int 1), (6, .int (md_pl S (sF S (fIx k)) (ro_l S st x))), (5, .int (ro_l S st x)), (4, .int ((pV S (fIx st) 13) + ((fAb (pV S (fIx st) 14)) / 4))), (0, .ref o), (1, .int (nI (fIx st))), (2, .int (nI (fIx x))), (3, .int (nI (fIx k)))]) hx hb dX4_root_237 hl (by decide) rfl (fun ls hl => ?_)
              refine lv_iload hx hb dX4_root_239 (lv_at hl 0 rfl) ?_
              refine lv_if_le (tgt := 255) hx hb dX4_root_241 (by decide) (fun c_155 => ?_) (fun c_155 => ?_)
              · refine lv_iload hx hb dX4_root_255 (lv_at hl 7 rfl) ?_
                refine lv_istore (lv' := [(4, .int ((pV S (fIx st) 13) + ((fAb (pV S (fIx st) 14)) / 4))), (11, .int ((bH S1 y_151) - ((fEx S1 (nI (fIx x))) + ((pV S (fIx st) 13) + ((fAb (pV S (fIx st) 14)) / 4))))), (10, .int (bH S1 y_151)), (9, .int 0), (8, .int (nI y_151)), (7, .int 1), (6, .int (md_pl S (sF S (fIx k)) (ro_l S st x))), (5, .int (ro_l S st x)), (0, .ref o), (1, .int (nI (fIx st))), (2, .int (nI (fIx x))), (3, .int (nI (fIx k)))]) hx hb dX4_root_257 hl (by decide) rfl (fun ls hl => ?_)
                refine lv_aload_n hx hb dX4_root_259 rfl (lv_at hl 8 rfl) ?_
                refine mw_get (D := gD G) (ci := 4) (v := .ref (A 2)) (C := RX4) (T := TX4) (N := 21) hx hb htb inX4 hown hK hP hT.1 rfl 6 (by decide) (htb _ wd530) (fun _ h9 => h9) rfl dX4_root_260 ?_
                refine lv_iload_n hx hb dX4_root_263 rfl (lv_at hl 10 rfl) ?_
                refine mw_iald hx hb hK hP 0 (show M_150 (A 2) = some (.inl (gI G, 120, .inl (g152 2))) from hT.2.1 2 (by decide)) rfl (by exact vp_in_nI (show (fIx x) < 120 by have := hle; omega) (by decide)) dX4_root_264 ?_
                refine W.eq (g2 := F0 m 265 ls [.int (bH S1 (fIx x))]) (by rw [nI_clamp (show (fIx x) < 2 ^ 31 by have := hle; omega), hB.H h_x]) ?_
                refine lv_iload hx hb dX4_root_265 (lv_at hl 0 rfl) ?_
                refine lv_iadd hx hb dX4_root_267 ?_
                refine lv_istore (lv' := [(12, .int ((bH S1 (fIx x)) + ((pV S (fIx st) 13) + ((fAb (pV S (fIx st) 14)) / 4)))), (4, .int ((pV S (fIx st) 13) + ((fAb (pV S (fIx st) 14)) / 4))), (11, .int ((bH S1 y_151) - ((fEx S1 (nI (fIx x))) + ((pV S (fIx st) 13) + ((fAb (pV S (fIx st) 14)) / 4))))), (10, .int (bH S1 y_151)), (9, .int 0), (8, .int (nI y_151)), (7, .int 1), (6, .int (md_pl S (sF S (fIx k)) (ro_l S st x))), (5, .int (ro_l S st x)), (0, .ref o), (1, .int (nI (fIx st))), (2, .int (nI (fIx x))), (3, .int (nI (fIx k)))]) hx hb dX4_root_268 hl (by decide) rfl (fun ls hl => ?_)
                refine lv_aload_n hx hb dX4_root_270 rfl (lv_at hl 9 rfl) ?_
                refine lv_aload_n hx hb dX4_root_271 rfl (lv_at hl 9 rfl) ?_
                refine mw_get (D := gD G) (ci := 4) (v := .ref (A 1)) (C := RX4) (T := TX4) (N := 21) hx hb htb inX4 hown hK hP hT.1 rfl 5 (by decide) (htb _ wd529) (fun _ h9 => h9) rfl dX4_root_272 ?_
                refine lv_iload hx hb dX4_root_275 (lv_at hl 5 rfl) ?_
                refine mw_iald hx hb hK hP 0 (show M_150 (A 1) = some (.inl (gI G, 120, .inl (g152 1))) from hT.2.1 1 (by decide)) rfl (by exact vp_in_nI (show y_151 < 120 by have := hle; omega) (by decide)) dX4_root_277 ?_
                refine W.eq (g2 := F0 m 278 ls [.int (bW S1 y_151), .ref o]) (by rw [nI_clamp (show y_151 < 2 ^ 31 by have := hle; omega), hB.W h_y_151]) ?_
                refine lv_aload_n hx hb dX4_root_278 rfl (lv_at hl 9 rfl) ?_
                refine mw_get (D := gD G) (ci := 4) (v := .ref (A 1)) (C := RX4) (T := TX4) (N := 21) hx hb htb inX4 hown hK hP hT.1 rfl 5 (by decide) (htb _ wd529) (fun _ h9 => h9) rfl dX4_root_279 ?_
                refine lv_iload_n hx hb dX4_root_282 rfl (lv_at hl 11 rfl) ?_
                refine mw_iald hx hb hK hP 0 (show M_150 (A 1) = some (.inl (gI G, 120, .inl (g152 1))) from hT.2.1 1 (by decide)) rfl (by exact vp_in_nI (show (fIx x) < 120 by have := hle; omega) (by decide)) dX4_root_283 ?_
                refine W.eq (g2 := F0 m 284 ls [.int (bW S1 (fIx x)), .int (bW S1 y_151), .ref o]) (by rw [nI_clamp (show (fIx x) < 2 ^ 31 by have := hle; omega), hB.W h_x]) ?_
                refine lv_iadd hx hb dX4_root_284 ?_
                refine lv_iload hx hb dX4_root_285 (lv_at hl 0 rfl) ?_
                refine lv_iconst (v := 2) hx hb dX4_root_287 (by decide) ?_
                refine lv_iload hx hb dX4_root_288 (lv_at hl 4 rfl) ?_
                refine lv_imul hx hb dX4_root_290 ?_
                refine lv_iadd hx hb dX4_root_291 ?_
                refine lv_aload_n hx hb dX4_root_292 rfl (lv_at hl 9 rfl) ?_
                refine mw_get (D := gD G) (ci := 4) (v := .ref (A 3)) (C := RX4) (T := TX4) (N := 21) hx hb htb inX4 hown hK hP hT.1 rfl 7 (by decide) (htb _ wd531) (fun _ h9 => h9) rfl dX4_root_293 ?_
                refine lv_iload_n hx hb dX4_root_296 rfl (lv_at hl 11 rfl) ?_
                refine mw_iald hx hb hK hP 0 (show M_150 (A 3) = some (.inl (gI G, 120, .inl (g152 3))) from hT.2.1 3 (by decide)) rfl (by exact vp_in_nI (show (fIx x) < 120 by have := hle; omega) (by decide)) dX4_root_297 ?_
                refine W.eq (g2 := F0 m 298 ls [.int (bD S1 (fIx x)), .int (((bH S1 (fIx x)) + ((pV S (fIx st) 13) + ((fAb (pV S (fIx st) 14)) / 4))) + (2 * 0)), .int ((bW S1 y_151) + (bW S1 (fIx x))), .ref o]) (by rw [nI_clamp (show (fIx x) < 2 ^ 31 by have := hle; omega), hB.D h_x]) ?_
                refine lv_iload hx hb dX4_root_298 (lv_at hl 3 rfl) ?_
                refine lv_iload hx hb dX4_root_300 (lv_at hl 0 rfl) ?_
                refine lv_isub hx hb dX4_root_302 ?_
                refine mw_callS (As := [.int (bD S1 (fIx x)), .int ((bH S1 y_151) - ((bH S1 (fIx x)) + ((pV S (fIx st) 13) + ((fAb (pV S (fIx st) 14)) / 4))))]) (rest := [.int (((bH S1 (fIx x)) + ((pV S (fIx st) 13) + ((fAb (pV S (fIx st) 14)) / 4))) + (2 * 0)), .int ((bW S1 y_151) + (bW S1 (fIx x))), .ref o]) hx hb hml hown hl (kX4_greater l htr G H.size M_150 (bD S1 (fIx x)) ((bH S1 y_151) - ((bH S1 (fIx x)) + ((pV S (fIx st) 13) + ((fAb (pV S (fIx st) 14)) / 4))))) (g_B (n := 2) htb wd664 wd3 wd662 (by decide +kernel) ⟨Nat.le_of_ble_eq_true rfl, Nat.le_of_ble_eq_true rfl⟩) (htb _ wd663) hE hP hS rfl rfl (Nat.le_of_ble_eq_true rfl) dX4_root_303 ⟨Nat.le_of_ble_eq_true rfl, Nat.le_of_ble_eq_true rfl⟩ (fun v9 M9 H locs hpo hP hz hS => ?_) (fun x9 E9 cell9 H9 locs9 hE9 => hE9.elim)
                obtain ⟨rfl, rfl⟩ := hpo
                refine W.eq (g2 := F0 m 306 ls [.int (fMx (bD S1 (fIx x)) ((bH S1 y_151) - ((bH S1 (fIx x)) + ((pV S (fIx st) 13) + ((fAb (pV S (fIx st) 14)) / 4))))), .int (((bH S1 (fIx x)) + ((pV S (fIx st) 13) + ((fAb (pV S (fIx st) 14)) / 4))) + (2 * 0)), .int ((bW S1 y_151) + (bW S1 (fIx x))), .ref o]) rfl ?_
                refine mw_callV (C := RX4) (As := [.int ((bW S1 y_151) + (bW S1 (fIx x))), .int (((bH S1 (fIx x)) + ((pV S (fIx st) 13) + ((fAb (pV S (fIx st) 14)) / 4))) + (2 * 0)), .int (fMx (bD S1 (fIx x)) ((bH S1 y_151) - ((bH S1 (fIx x)) + ((pV S (fIx st) 13) + ((fAb (pV S (fIx st) 14)) / 4)))))]) (rest := []) hx hb hml hown hl (kX4_make l htr G H.size M_150 o A 0 (nI (fSz (fIx st))) S1 (⟨np152, bg152, g152, hT, hB⟩ : md_R G o A M_150 0 (nI (fSz (fIx st))) S1) (show sN S1 < 120 from by rw [hS1, ro_S, kt_n, if_pos hrd]; omega) ((bW S1 y_151) + (bW S1 (fIx x))) (((bH S1 (fIx x)) + ((pV S (fIx st) 13) + ((fAb (pV S (fIx st) 14)) / 4))) + (2 * 0)) (fMx (bD S1 (fIx x)) ((bH S1 y_151) - ((bH S1 (fIx x)) + ((pV S (fIx st) 13) + ((fAb (pV S (fIx st) 14)) / 4)))))) (g_B (n := 3) htb wd613 wd3 wd610 (by decide +kernel) ⟨Nat.le_of_ble_eq_true rfl, Nat.le_of_ble_eq_true rfl⟩) (htb _ wd612) (htb _ ws26) hE hP hS hT.1 rfl rfl rfl (Nat.le_of_ble_eq_true rfl) dX4_root_306 ⟨Nat.le_of_ble_eq_true rfl, Nat.le_of_ble_eq_true rfl⟩ (fun v9 M9 H locs hpo hP hz hS => ?_) (fun x9 E9 cell9 H9 locs9 hE9 => hE9.elim)
                have hle0 := hle
                obtain ⟨rfl, hRn, hkn⟩ := hpo
                obtain ⟨M_156, hM_156⟩ : ∃ z9 : mw_M, z9 = M9 := ⟨_, rfl⟩
                rw [← hM_156] at hP hRn hkn
                have hk := md_keeps.tr hk hkn
                have hRn : md_R G o A M_156 0 (nI (fSz (fIx st))) (fs_push S1 (((bW S1 y_151) + (bW S1 (fIx x))), (((bH S1 (fIx x)) + ((pV S (fIx st) 13) + ((fAb (pV S (fIx st) 14)) / 4))) + (2 * 0)), (fMx (bD S1 (fIx x)) ((bH S1 y_151) - ((bH S1 (fIx x)) + ((pV S (fIx st) 13) + ((fAb (pV S (fIx st) 14)) / 4))))), [], 0, 0)) := hRn
                obtain ⟨np157, bg157, g157, hT, hB⟩ := id hRn
                rw [sN_push] at hT
                have hT : md_at G o A M_156 0 (sSp S1) (sSh S1) (nI (sN S1 + 1)) (nI np157) (nI (fSz (fIx st))) g157 := hT
                have hle : sN S1 + 1 ≤ 120 := by have := hB.1; rw [sN_push] at this; exact this
                refine W.eq (g2 := F0 m 309 ls [.int (nI (sN S1))]) rfl ?_
                refine lv_istore (lv' := [(13, .int (nI (sN S1))), (12, .int ((bH S1 (fIx x)) + ((pV S (fIx st) 13) + ((fAb (pV S (fIx st) 14)) / 4)))), (4, .int ((pV S (fIx st) 13) + ((fAb (pV S (fIx st) 14)) / 4))), (11, .int ((bH S1 y_151) - ((fEx S1 (nI (fIx x))) + ((pV S (fIx st) 13) + ((fAb (pV S (fIx st) 14)) / 4))))), (10, .int (bH S1 y_151)), (9, .int 0), (8, .int (nI y_151)), (7, .int 1), (6, .int (md_pl S (sF S (fIx k)) (ro_l S st x))), (5, .int (ro_l S st x)), (0, .ref o), (1, .int (nI (fIx st))), (2, .int (nI (fIx x))), (3, .int (nI (fIx k)))]) hx hb dX4_root_309 hl (by decide) rfl (fun ls hl => ?_)
                refine lv_aload_n hx hb dX4_root_311 rfl (lv_at hl 10 rfl) ?_
                refine lv_iload hx hb dX4_root_312 (lv_at hl 6 rfl) ?_
                refine lv_iconst (v := 0) hx hb dX4_root_314 (by decide) ?_
                refine lv_iload hx hb dX4_root_315 (lv_at hl 7 rfl) ?_
                refine lv_if_eq (tgt := 333) hx hb dX4_root_317 (by decide) (fun c_158 => absurd c_158 (by decide)) (fun c_158 => ?_)
                refine lv_iload hx hb dX4_root_320 (lv_at hl 1 rfl) ?_
                refine lv_aload_n hx hb dX4_root_322 rfl (lv_at hl 10 rfl) ?_
                refine mw_get (D := gD G) (ci := 4) (v := .ref (A 2)) (C := RX4) (T := TX4) (N := 21) hx hb htb inX4 hown hK hP hT.1 rfl 6 (by decide) (htb _ wd530) (fun _ h9 => h9) rfl dX4_root_323 ?_
                refine lv_iload hx hb dX4_root_326 (lv_at hl 6 rfl) ?_
                refine mw_iald hx hb hK hP 0 (show M_156 (A 2) = some (.inl (gI G, 120, .inl (g157 2))) from hT.2.1 2 (by decide)) rfl (by exact vp_in_nI (show y_151 < 120 by have := hle; omega) (by decide)) dX4_root_328 ?_
                refine W.eq (g2 := F0 m 329 ls [.int (bH S1 y_151), .int ((bH S1 (fIx x)) + ((pV S (fIx st) 13) + ((fAb (pV S (fIx st) 14)) / 4))), .int 0, .int (nI y_151), .ref o]) (by rw [nI_clamp (show y_151 < 2 ^ 31 by have := hle; omega), hB.H (show y_151 < sN (fs_push S1 (((bW S1 y_151) + (bW S1 (fIx x))), (((bH S1 (fIx x)) + ((pV S (fIx st) 13) + ((fAb (pV S (fIx st) 14)) / 4))) + (2 * 0)), (fMx (bD S1 (fIx x)) ((bH S1 y_151) - ((bH S1 (fIx x)) + ((pV S (fIx st) 13) + ((fAb (pV S (fIx st) 14)) / 4))))), [], 0, 0)) by rw [sN_push]; omega), bH_push _ h_y_151]) ?_
                refine lv_isub hx hb dX4_root_329 ?_
                refine lv_goto (tgt := 335) hx hb dX4_root_330 (by decide) ?_
                refine mw_callV (C := RX4) (As := [.int (nI y_151), .int 0, .int (((bH S1 (fIx x)) + ((pV S (fIx st) 13) + ((fAb (pV S (fIx st) 14)) / 4))) - (bH S1 y_151))]) (rest := []) hx hb hml hown hl (kX4_lay l htr G H.size M_156 o A 0 (nI (fSz (fIx st))) S1 ((bW S1 y_151) + (bW S1 (fIx x))) (((bH S1 (fIx x)) + ((pV S (fIx st) 13) + ((fAb (pV S (fIx st) 14)) / 4))) + (2 * 0)) (fMx (bD S1 (fIx x)) ((bH S1 y_151) - ((bH S1 (fIx x)) + ((pV S (fIx st) 13) + ((fAb (pV S (fIx st) 14)) / 4))))) ([]) 0 0 (md_R.of (np := np157) hT hB : md_R G o A M_156 0 (nI (fSz (fIx st))) (fs_push S1 (((bW S1 y_151) + (bW S1 (fIx x))), (((bH S1 (fIx x)) + ((pV S (fIx st) 13) + ((fAb (pV S (fIx st) 14)) / 4))) + (2 * 0)), (fMx (bD S1 (fIx x)) ((bH S1 y_151) - ((bH S1 (fIx x)) + ((pV S (fIx st) 13) + ((fAb (pV S (fIx st) 14)) / 4))))), [], 0, 0))) (by simp) (nI y_151) 0 (((bH S1 (fIx x)) + ((pV S (fIx st) 13) + ((fAb (pV S (fIx st) 14)) / 4))) - (bH S1 y_151))) (g_B (n := 3) htb wd661 wd3 wd658 (by decide +kernel) ⟨Nat.le_of_ble_eq_true rfl, Nat.le_of_ble_eq_true rfl⟩) (htb _ wd660) (htb _ ws34) hE hP hS hT.1 rfl rfl rfl (Nat.le_of_ble_eq_true rfl) dX4_root_335 ⟨Nat.le_of_ble_eq_true rfl, Nat.le_of_ble_eq_true rfl⟩ (fun v9 M9 H locs hpo hP hz hS => ?_) (fun x9 E9 cell9 H9 locs9 hE9 => hE9.elim)
                obtain ⟨rfl, hRn, hkn⟩ := hpo
                obtain ⟨M_159, hM_159⟩ : ∃ z9 : mw_M, z9 = M9 := ⟨_, rfl⟩
                rw [← hM_159] at hP hRn hkn
                have hk := md_keeps.tr hk hkn
                have hRn : md_R G o A M_159 0 (nI (fSz (fIx st))) (fs_push S1 (((bW S1 y_151) + (bW S1 (fIx x))), (((bH S1 (fIx x)) + ((pV S (fIx st) 13) + ((fAb (pV S (fIx st) 14)) / 4))) + (2 * 0)), (fMx (bD S1 (fIx x)) ((bH S1 y_151) - ((bH S1 (fIx x)) + ((pV S (fIx st) 13) + ((fAb (pV S (fIx st) 14)) / 4))))), [(nI y_151), 0, (((bH S1 (fIx x)) + ((pV S (fIx st) 13) + ((fAb (pV S (fIx st) 14)) / 4))) - (bH S1 y_151))], 0, 0)) := hRn
                obtain ⟨np160, bg160, g160, hT, hB⟩ := id hRn
                rw [sN_push] at hT
                have hT : md_at G o A M_159 0 (sSp S1) (sSh S1) (nI (sN S1 + 1)) (nI np160) (nI (fSz (fIx st))) g160 := hT
                refine W.eq (g2 := F0 m 338 ls []) rfl ?_
                refine lv_aload_n hx hb dX4_root_338 rfl (lv_at hl 10 rfl) ?_
                refine lv_iload_n hx hb dX4_root_339 rfl (lv_at hl 12 rfl) ?_
                refine lv_aload_n hx hb dX4_root_340 rfl (lv_at hl 10 rfl) ?_
                refine mw_get (D := gD G) (ci := 4) (v := .ref (A 1)) (C := RX4) (T := TX4) (N := 21) hx hb htb inX4 hown hK hP hT.1 rfl 5 (by decide) (htb _ wd529) (fun _ h9 => h9) rfl dX4_root_341 ?_
                refine lv_iload hx hb dX4_root_344 (lv_at hl 6 rfl) ?_
                refine mw_iald hx hb hK hP 0 (show M_159 (A 1) = some (.inl (gI G, 120, .inl (g160 1))) from hT.2.1 1 (by decide)) rfl (by exact vp_in_nI (show y_151 < 120 by have := hle; omega) (by decide)) dX4_root_346 ?_
                refine W.eq (g2 := F0 m 347 ls [.int (bW S1 y_151), .int (nI (fIx x)), .ref o]) (by rw [nI_clamp (show y_151 < 2 ^ 31 by have := hle; omega), hB.W (show y_151 < sN (fs_push S1 (((bW S1 y_151) + (bW S1 (fIx x))), (((bH S1 (fIx x)) + ((pV S (fIx st) 13) + ((fAb (pV S (fIx st) 14)) / 4))) + (2 * 0)), (fMx (bD S1 (fIx x)) ((bH S1 y_151) - ((bH S1 (fIx x)) + ((pV S (fIx st) 13) + ((fAb (pV S (fIx st) 14)) / 4))))), [(nI y_151), 0, (((bH S1 (fIx x)) + ((pV S (fIx st) 13) + ((fAb (pV S (fIx st) 14)) / 4))) - (bH S1 y_151))], 0, 0)) by rw [sN_push]; omega), bW_push _ h_y_151]) ?_
                refine lv_iconst (v := 0) hx hb dX4_root_347 (by decide) ?_
                refine mw_callV (C := RX4) (As := [.int (nI (fIx x)), .int (bW S1 y_151), .int 0]) (rest := []) hx hb hml hown hl (kX4_lay l htr G H.size M_159 o A 0 (nI (fSz (fIx st))) S1 ((bW S1 y_151) + (bW S1 (fIx x))) (((bH S1 (fIx x)) + ((pV S (fIx st) 13) + ((fAb (pV S (fIx st) 14)) / 4))) + (2 * 0)) (fMx (bD S1 (fIx x)) ((bH S1 y_151) - ((bH S1 (fIx x)) + ((pV S (fIx st) 13) + ((fAb (pV S (fIx st) 14)) / 4))))) ([(nI y_151), 0, (((bH S1 (fIx x)) + ((pV S (fIx st) 13) + ((fAb (pV S (fIx st) 14)) / 4))) - (bH S1 y_151))]) 0 0 (md_R.of (np := np160) hT hB : md_R G o A M_159 0 (nI (fSz (fIx st))) (fs_push S1 (((bW S1 y_151) + (bW S1 (fIx x))), (((bH S1 (fIx x)) + ((pV S (fIx st) 13) + ((fAb (pV S (fIx st) 14)) / 4))) + (2 * 0)), (fMx (bD S1 (fIx x)) ((bH S1 y_151) - ((bH S1 (fIx x)) + ((pV S (fIx st) 13) + ((fAb (pV S (fIx st) 14)) / 4))))), [(nI y_151), 0, (((bH S1 (fIx x)) + ((pV S (fIx st) 13) + ((fAb (pV S (fIx st) 14)) / 4))) - (bH S1 y_151))], 0, 0))) (by simp) (nI (fIx x)) (bW S1 y_151) 0) (g_B (n := 3) htb wd661 wd3 wd658 (by decide +kernel) ⟨Nat.le_of_ble_eq_true rfl, Nat.le_of_ble_eq_true rfl⟩) (htb _ wd660) (htb _ ws34) hE hP hS hT.1 rfl rfl rfl (Nat.le_of_ble_eq_true rfl) dX4_root_348 ⟨Nat.le_of_ble_eq_true rfl, Nat.le_of_ble_eq_true rfl⟩ (fun v9 M9 H locs hpo hP hz hS => ?_) (fun x9 E9 cell9 H9 locs9 hE9 => hE9.elim)
                obtain ⟨rfl, hRn, hkn⟩ := hpo
                obtain ⟨M_161, hM_161⟩ : ∃ z9 : mw_M, z9 = M9 := ⟨_, rfl⟩
                rw [← hM_161] at hP hRn hkn
                have hk := md_keeps.tr hk hkn
                have hRn : md_R G o A M_161 0 (nI (fSz (fIx st))) (fs_push S1 (((bW S1 y_151) + (bW S1 (fIx x))), (((bH S1 (fIx x)) + ((pV S (fIx st) 13) + ((fAb (pV S (fIx st) 14)) / 4))) + (2 * 0)), (fMx (bD S1 (fIx x)) ((bH S1 y_151) - ((bH S1 (fIx x)) + ((pV S (fIx st) 13) + ((fAb (pV S (fIx st) 14)) / 4))))), [(nI y_151), 0, (((bH S1 (fIx x)) + ((pV S (fIx st) 13) + ((fAb (pV S (fIx st) 14)) / 4))) - (bH S1 y_151)), (nI (fIx x)), (bW S1 y_151), 0], 0, 0)) := hRn
                obtain ⟨np162, bg162, g162, hT, hB⟩ := id hRn
                rw [sN_push] at hT
                have hT : md_at G o A M_161 0 (sSp S1) (sSh S1) (nI (sN S1 + 1)) (nI np162) (nI (fSz (fIx st))) g162 := hT
                refine W.eq (g2 := F0 m 351 ls []) rfl ?_
                refine lv_aload_n hx hb dX4_root_351 rfl (lv_at hl 10 rfl) ?_
                refine lv_iconst (v := (-1)) hx hb dX4_root_352 (by decide) ?_
                refine lv_aload_n hx hb dX4_root_353 rfl (lv_at hl 10 rfl) ?_
                refine mw_get (D := gD G) (ci := 4) (v := .ref (A 1)) (C := RX4) (T := TX4) (N := 21) hx hb htb inX4 hown hK hP hT.1 rfl 5 (by decide) (htb _ wd529) (fun _ h9 => h9) rfl dX4_root_354 ?_
                refine lv_iload hx hb dX4_root_357 (lv_at hl 6 rfl) ?_
                refine mw_iald hx hb hK hP 0 (show M_161 (A 1) = some (.inl (gI G, 120, .inl (g162 1))) from hT.2.1 1 (by decide)) rfl (by exact vp_in_nI (show y_151 < 120 by have := hle; omega) (by decide)) dX4_root_359 ?_
                refine W.eq (g2 := F0 m 360 ls [.int (bW S1 y_151), .int (-1), .ref o]) (by rw [nI_clamp (show y_151 < 2 ^ 31 by have := hle; omega), hB.W (show y_151 < sN (fs_push S1 (((bW S1 y_151) + (bW S1 (fIx x))), (((bH S1 (fIx x)) + ((pV S (fIx st) 13) + ((fAb (pV S (fIx st) 14)) / 4))) + (2 * 0)), (fMx (bD S1 (fIx x)) ((bH S1 y_151) - ((bH S1 (fIx x)) + ((pV S (fIx st) 13) + ((fAb (pV S (fIx st) 14)) / 4))))), [(nI y_151), 0, (((bH S1 (fIx x)) + ((pV S (fIx st) 13) + ((fAb (pV S (fIx st) 14)) / 4))) - (bH S1 y_151)), (nI (fIx x)), (bW S1 y_151), 0], 0, 0)) by rw [sN_push]; omega), bW_push _ h_y_151]) ?_
                refine lv_iload hx hb dX4_root_360 (lv_at hl 1 rfl) ?_
                refine mw_callV (C := RX4) (As := [.int (-1), .int (bW S1 y_151), .int ((bH S1 (fIx x)) + ((pV S (fIx st) 13) + ((fAb (pV S (fIx st) 14)) / 4)))]) (rest := []) hx hb hml hown hl (kX4_lay l htr G H.size M_161 o A 0 (nI (fSz (fIx st))) S1 ((bW S1 y_151) + (bW S1 (fIx x))) (((bH S1 (fIx x)) + ((pV S (fIx st) 13) + ((fAb (pV S (fIx st) 14)) / 4))) + (2 * 0)) (fMx (bD S1 (fIx x)) ((bH S1 y_151) - ((bH S1 (fIx x)) + ((pV S (fIx st) 13) + ((fAb (pV S (fIx st) 14)) / 4))))) ([(nI y_151), 0, (((bH S1 (fIx x)) + ((pV S (fIx st) 13) + ((fAb (pV S (fIx st) 14)) / 4))) - (bH S1 y_151)), (nI (fIx x)), (bW S1 y_151), 0]) 0 0 (md_R.of (np := np162) hT hB : md_R G o A M_161 0 (nI (fSz (fIx st))) (fs_push S1 (((bW S1 y_151) + (bW S1 (fIx x))), (((bH S1 (fIx x)) + ((pV S (fIx st) 13) + ((fAb (pV S (fIx st) 14)) / 4))) + (2 * 0)), (fMx (bD S1 (fIx x)) ((bH S1 y_151) - ((bH S1 (fIx x)) + ((pV S (fIx st) 13) + ((fAb (pV S (fIx st) 14)) / 4))))), [(nI y_151), 0, (((bH S1 (fIx x)) + ((pV S (fIx st) 13) + ((fAb (pV S (fIx st) 14)) / 4))) - (bH S1 y_151)), (nI (fIx x)), (bW S1 y_151), 0], 0, 0))) (by simp) (-1) (bW S1 y_151) ((bH S1 (fIx x)) + ((pV S (fIx st) 13) + ((fAb (pV S (fIx st) 14)) / 4)))) (g_B (n := 3) htb wd661 wd3 wd658 (by decide +kernel) ⟨Nat.le_of_ble_eq_true rfl, Nat.le_of_ble_eq_true rfl⟩) (htb _ wd660) (htb _ ws34) hE hP hS hT.1 rfl rfl rfl (Nat.le_of_ble_eq_true rfl) dX4_root_362 ⟨Nat.le_of_ble_eq_true rfl, Nat.le_of_ble_eq_true rfl⟩ (fun v9 M9 H locs hpo hP hz hS => ?_) (fun x9 E9 cell9 H9 locs9 hE9 => hE9.elim)
                obtain ⟨rfl, hRn, hkn⟩ := hpo
                obtain ⟨M_163, hM_163⟩ : ∃ z9 : mw_M, z9 = M9 := ⟨_, rfl⟩
                rw [← hM_163] at hP hRn hkn
                have hk := md_keeps.tr hk hkn
                have hRn : md_R G o A M_163 0 (nI (fSz (fIx st))) (fs_push S1 (((bW S1 y_151) + (bW S1 (fIx x))), (((bH S1 (fIx x)) + ((pV S (fIx st) 13) + ((fAb (pV S (fIx st) 14)) / 4))) + (2 * 0)), (fMx (bD S1 (fIx x)) ((bH S1 y_151) - ((bH S1 (fIx x)) + ((pV S (fIx st) 13) + ((fAb (pV S (fIx st) 14)) / 4))))), [(nI y_151), 0, (((bH S1 (fIx x)) + ((pV S (fIx st) 13) + ((fAb (pV S (fIx st) 14)) / 4))) - (bH S1 y_151)), (nI (fIx x)), (bW S1 y_151), 0, (-1), (bW S1 y_151), ((bH S1 (fIx x)) + ((pV S (fIx st) 13) + ((fAb (pV S (fIx st) 14)) / 4)))], 0, 0)) := hRn
                obtain ⟨np164, bg164, g164, hT, hB⟩ := id hRn
                rw [sN_push] at hT
                have hT : md_at G o A M_163 0 (sSp S1) (sSh S1) (nI (sN S1 + 1)) (nI np164) (nI (fSz (fIx st))) g164 := hT
                refine W.eq (g2 := F0 m 365 ls []) rfl ?_
                refine lv_aload_n hx hb dX4_root_365 rfl (lv_at hl 10 rfl) ?_
                refine mw_get (D := gD G) (ci := 4) (v := .ref (A 6)) (C := RX4) (T := TX4) (N := 21) hx hb htb inX4 hown hK hP hT.1 rfl 10 (by decide) (htb _ wd534) (fun _ h9 => h9) rfl dX4_root_366 ?_
                refine lv_iload hx hb dX4_root_369 (lv_at hl 0 rfl) ?_
                refine lv_aload_n hx hb dX4_root_371 rfl (lv_at hl 10 rfl) ?_
                refine mw_get (D := gD G) (ci := 4) (v := .ref (A 1)) (C := RX4) (T := TX4) (N := 21) hx hb htb inX4 hown hK hP hT.1 rfl 5 (by decide) (htb _ wd529) (fun _ h9 => h9) rfl dX4_root_372 ?_
                refine lv_iload_n hx hb dX4_root_375 rfl (lv_at hl 12 rfl) ?_
                refine mw_iald hx hb hK hP 0 (show M_163 (A 1) = some (.inl (gI G, 120, .inl (g164 1))) from hT.2.1 1 (by decide)) rfl (by exact vp_in_nI (show (fIx x) < 120 by have := hle; omega) (by decide)) dX4_root_376 ?_
                refine W.eq (g2 := F0 m 377 ls [.int (bW S1 (fIx x)), .int (nI (sN S1)), .ref (A 6)]) (by rw [nI_clamp (show (fIx x) < 2 ^ 31 by have := hle; omega), hB.W (show (fIx x) < sN (fs_push S1 (((bW S1 y_151) + (bW S1 (fIx x))), (((bH S1 (fIx x)) + ((pV S (fIx st) 13) + ((fAb (pV S (fIx st) 14)) / 4))) + (2 * 0)), (fMx (bD S1 (fIx x)) ((bH S1 y_151) - ((bH S1 (fIx x)) + ((pV S (fIx st) 13) + ((fAb (pV S (fIx st) 14)) / 4))))), [(nI y_151), 0, (((bH S1 (fIx x)) + ((pV S (fIx st) 13) + ((fAb (pV S (fIx st) 14)) / 4))) - (bH S1 y_151)), (nI (fIx x)), (bW S1 y_151), 0, (-1), (bW S1 y_151), ((bH S1 (fIx x)) + ((pV S (fIx st) 13) + ((fAb (pV S (fIx st) 14)) / 4)))], 0, 0)) by rw [sN_push]; omega), bW_push _ h_x]) ?_
                refine mw_iast hx hb hK hP hS 0 (show M_163 (A 6) = some (.inl (gI G, 120, .inl (g164 6))) from hT.2.1 6 (by decide)) (hT.2.2.2.2 6 (by decide)) rfl (by exact vp_in_nI (show (sN S1) < 120 by have := hle; omega) (by decide)) dX4_root_377 (fun H locs hP hS => ?_)
                rw [nI_clamp (show (sN S1) < 2 ^ 31 by have := hle; omega)] at hP
                obtain ⟨M_165, hM_165⟩ : ∃ z9 : mw_M, z9 = mw_up M_163 (A 6) (.inl (gI G, 120, .inl (upd (g164 6) (sN S1) (bW S1 (fIx x))))) := ⟨_, rfl⟩
                have hP : mw_P (gD G) gx_cl M_165 H := by rw [hM_165]; exact hP
                obtain ⟨g_166, hg_166⟩ : ∃ z9, z9 = ug g164 6 (sN S1) (bW S1 (fIx x)) := ⟨_, rfl⟩
                have hT : md_at G o A M_165 0 (sSp S1) (sSh S1) (nI (sN S1 + 1)) (nI np164) (nI (fSz (fIx st))) g_166 := by rw [hg_166]; exact md_at.put hT (by decide) rfl rfl hM_165
                have hk : md_keeps o A M M_165 := md_keeps.arr (j := 6) hk (by decide) hM_165
                have hB : md_ab np164 bg164 g_166 (fs_push S1 (((bW S1 y_151) + (bW S1 (fIx x))), (((bH S1 (fIx x)) + ((pV S (fIx st) 13) + ((fAb (pV S (fIx st) 14)) / 4))) + (2 * 0)), (fMx (bD S1 (fIx x)) ((bH S1 y_151) - ((bH S1 (fIx x)) + ((pV S (fIx st) 13) + ((fAb (pV S (fIx st) 14)) / 4))))), [(nI y_151), 0, (((bH S1 (fIx x)) + ((pV S (fIx st) 13) + ((fAb (pV S (fIx st) 14)) / 4))) - (bH S1 y_151)), (nI (fIx x)), (bW S1 y_151), 0, (-1), (bW S1 y_151), ((bH S1 (fIx x)) + ((pV S (fIx st) 13) + ((fAb (pV S (fIx st) 14)) / 4)))], (bW S1 (fIx x)), 0)) := by rw [hg_166]; exact md_ab.set6 hB _
                refine lv_aload_n hx hb dX4_root_378 rfl (lv_at hl 10 rfl) ?_
                refine mw_get (D := gD G) (ci := 4) (v := .ref (A 7)) (C := RX4) (T := TX4) (N := 21) hx hb htb inX4 hown hK hP hT.1 rfl 11 (by decide) (htb _ wd535) (fun _ h9 => h9) rfl dX4_root_379 ?_
                refine lv_iload hx hb dX4_root_382 (lv_at hl 0 rfl) ?_
                refine lv_iload hx hb dX4_root_384 (lv_at hl 5 rfl) ?_
                refine mw_iast hx hb hK hP hS 0 (show M_165 (A 7) = some (.inl (gI G, 120, .inl (g_166 7))) from hT.2.1 7 (by decide)) (hT.2.2.2.2 7 (by decide)) rfl (by exact vp_in_nI (show (sN S1) < 120 by have := hle; omega) (by decide)) dX4_root_386 (fun H locs hP hS => ?_)
                rw [nI_clamp (show (sN S1) < 2 ^ 31 by have := hle; omega)] at hP
                obtain ⟨M_167, hM_167⟩ : ∃ z9 : mw_M, z9 = mw_up M_165 (A 7) (.inl (gI G, 120, .inl (upd (g_166 7) (sN S1) 0))) := ⟨_, rfl⟩
                have hP : mw_P (gD G) gx_cl M_167 H := by rw [hM_167]; exact hP
                obtain ⟨g_168, hg_168⟩ : ∃ z9, z9 = ug g_166 7 (sN S1) 0 := ⟨_, rfl⟩
                have hT : md_at G o A M_167 0 (sSp S1) (sSh S1) (nI (sN S1 + 1)) (nI np164) (nI (fSz (fIx st))) g_168 := by rw [hg_168]; exact md_at.put hT (by decide) rfl rfl hM_167
                have hk : md_keeps o A M M_167 := md_keeps.arr (j := 7) hk (by decide) hM_167
                have hB : md_ab np164 bg164 g_168 (fs_push S1 (((bW S1 y_151) + (bW S1 (fIx x))), (((bH S1 (fIx x)) + ((pV S (fIx st) 13) + ((fAb (pV S (fIx st) 14)) / 4))) + (2 * 0)), (fMx (bD S1 (fIx x)) ((bH S1 y_151) - ((bH S1 (fIx x)) + ((pV S (fIx st) 13) + ((fAb (pV S (fIx st) 14)) / 4))))), [(nI y_151), 0, (((bH S1 (fIx x)) + ((pV S (fIx st) 13) + ((fAb (pV S (fIx st) 14)) / 4))) - (bH S1 y_151)), (nI (fIx x)), (bW S1 y_151), 0, (-1), (bW S1 y_151), ((bH S1 (fIx x)) + ((pV S (fIx st) 13) + ((fAb (pV S (fIx st) 14)) / 4)))], (bW S1 (fIx x)), 0)) := by rw [hg_168]; exact md_ab.set7 hB _
                refine lv_iload hx hb dX4_root_387 (lv_at hl 0 rfl) ?_
                have hex : ex_root S st x k = 0 := by rw [ex_root, if_neg (fun z9 => z9 ⟨kb_5, kb_7⟩), if_neg (fun z9 => z9 kb_9), if_neg (fun z9 => z9 kG), if_neg (fun z9 => z9 kb_147)]
                have hre : re_root S st x k = (((bW S1 y_151) + (bW S1 (fIx x))), (((bH S1 (fIx x)) + ((pV S (fIx st) 13) + ((fAb (pV S (fIx st) 14)) / 4))) + (2 * 0)), (fMx (bD S1 (fIx x)) ((bH S1 y_151) - ((bH S1 (fIx x)) + ((pV S (fIx st) 13) + ((fAb (pV S (fIx st) 14)) / 4))))), [(nI y_151), 0, (((bH S1 (fIx x)) + ((pV S (fIx st) 13) + ((fAb (pV S (fIx st) 14)) / 4))) - (bH S1 y_151)), (nI (fIx x)), (bW S1 y_151), 0, (-1), (bW S1 y_151), ((bH S1 (fIx x)) + ((pV S (fIx st) 13) + ((fAb (pV S (fIx st) 14)) / 4)))], (bW S1 (fIx x)), 0) := by rw [re_root, ← hS1, ← ey_151]; simp only [fs_rs, fs_rs1, fs_rs2, fs_rc, if_pos hrd, if_pos c_14, if_pos c_155, if_true, if_false, Int32.add_zero, show ((1 : Int32) = 0) = False from eq_false (by decide), show ((0 : Int32) = 0) = True from eq_true rfl]; try simp only [Int32.add_assoc]
                exact mx_iret (v := (nI (sN S1))) (M' := M_167) hx hb hr hlocks hP hS ⟨by rw [hex, if_pos rfl, ← hS1], ⟨_, by rw [hex, if_pos rfl, ← hS1, hre]; exact (md_R.of (np := np164) hT hB : md_R G o A M_167 0 (nI (fSz (fIx st))) (fs_push S1 (((bW S1 y_151) + (bW S1 (fIx x))), (((bH S1 (fIx x)) + ((pV S (fIx st) 13) + ((fAb (pV S (fIx st) 14)) / 4))) + (2 * 0)), (fMx (bD S1 (fIx x)) ((bH S1 y_151) - ((bH S1 (fIx x)) + ((pV S (fIx st) 13) + ((fAb (pV S (fIx st) 14)) / 4))))), [(nI y_151), 0, (((bH S1 (fIx x)) + ((pV S (fIx st) 13) + ((fAb (pV S (fIx st) 14)) / 4))) - (bH S1 y_151)), (nI (fIx x)), (bW S1 y_151), 0, (-1), (bW S1 y_151), ((bH S1 (fIx x)) + ((pV S (fIx st) 13) + ((fAb (pV S (fIx st) 14)) / 4)))], (bW S1 (fIx x)), 0)))⟩, hk⟩ dX4_root_389 (Nat.le_of_ble_eq_true rfl) (Nat.le_of_ble_eq_true rfl)
              · refine lv_iload hx hb dX4_root_244 (lv_at hl 7 rfl) ?_
                refine lv_iload hx hb dX4_root_246 (lv_at hl 0 rfl) ?_
                refine mw_callS (As := [.int ((bH S1 y_151) - ((fEx S1 (nI (fIx x))) + ((pV S (fIx st) 13) + ((fAb (pV S (fIx st) 14)) / 4))))]) (rest := [.int ((pV S (fIx st) 13) + ((fAb (pV S (fIx st) 14)) / 4))]) hx hb hml hown hl (kX4_half l htr G H.size M_150 ((bH S1 y_151) - ((fEx S1 (nI (fIx x))) + ((pV S (fIx st) 13) + ((fAb (pV S (fIx st) 14)) / 4))))) (g_B (n := 1) htb wd682 wd3 wd680 (by decide +kernel) ⟨Nat.le_of_ble_eq_true rfl, Nat.le_of_ble_eq_true rfl⟩) (htb _ wd681) hE hP hS rfl rfl (Nat.le_of_ble_eq_true rfl) dX4_root_248 ⟨Nat.le_of_ble_eq_true rfl, Nat.le_of_ble_eq_true rfl⟩ (fun v9 M9 H locs hpo hP hz hS => ?_) (fun x9 E9 cell9 H9 locs9 hE9 => hE9.elim)
                obtain ⟨rfl, rfl⟩ := hpo
                refine W.eq (g2 := F0 m 251 ls [.int (fHf ((bH S1 y_151) - ((fEx S1 (nI (fIx x))) + ((pV S (fIx st) 13) + ((fAb (pV S (fIx st) 14)) / 4))))), .int ((pV S (fIx st) 13) + ((fAb (pV S (fIx st) 14)) / 4))]) rfl ?_
                refine lv_iadd hx hb dX4_root_251 ?_
                refine lv_goto (tgt := 257) hx hb dX4_root_252 (by decide) ?_
                refine lv_istore (lv' := [(4, .int (((pV S (fIx st) 13) + ((fAb (pV S (fIx st) 14)) / 4)) + (fHf ((bH S1 y_151) - ((fEx S1 (nI (fIx x))) + ((pV S (fIx st) 13) + ((fAb (pV S (fIx st) 14)) / 4))))))), (11, .int ((bH S1 y_151) - ((fEx S1 (nI (fIx x))) + ((pV S (fIx st) 13) + ((fAb (pV S (fIx st) 14)) / 4))))), (10, .int (bH S1 y_151)), (9, .int 0), (8, .int (nI y_151)), (7, .int 1), (6, .int (md_pl S (sF S (fIx k)) (ro_l S st x))), (5, .int (ro_l S st x)), (0, .ref o), (1, .int (nI (fIx st))), (2, .int (nI (fIx x))), (3, .int (nI (fIx k)))]) hx hb dX4_root_257 hl (by decide) rfl (fun ls hl => ?_)
                refine lv_aload_n hx hb dX4_root_259 rfl (lv_at hl 8 rfl) ?_
                refine mw_get (D := gD G) (ci := 4) (v := .ref (A 2)) (C := RX4) (T := TX4) (N := 21) hx hb htb inX4 hown hK hP hT.1 rfl 6 (by decide) (htb _ wd530) (fun _ h9 => h9) rfl dX4_root_260 ?_
                refine lv_iload_n hx hb dX4_root_263 rfl (lv_at hl 10 rfl) ?_
                refine mw_iald hx hb hK hP 0 (show M_150 (A 2) = some (.inl (gI G, 120, .inl (g152 2))) from hT.2.1 2 (by decide)) rfl (by exact vp_in_nI (show (fIx x) < 120 by have := hle; omega) (by decide)) dX4_root_264 ?_
                refine W.eq (g2 := F0 m 265 ls [.int (bH S1 (fIx x))]) (by rw [nI_clamp (show (fIx x) < 2 ^ 31 by have := hle; omega), hB.H h_x]) ?_
                refine lv_iload hx hb dX4_root_265 (lv_at hl 0 rfl) ?_
                refine lv_iadd hx hb dX4_root_267 ?_
                refine lv_istore (lv' := [(12, .int ((bH S1 (fIx x)) + (((pV S (fIx st) 13) + ((fAb (pV S (fIx st) 14)) / 4)) + (fHf ((bH S1 y_151) - ((fEx S1 (nI (fIx x))) + ((pV S (fIx st) 13) + ((fAb (pV S (fIx st) 14)) / 4)))))))), (4, .int (((pV S (fIx st) 13) + ((fAb (pV S (fIx st) 14)) / 4)) + (fHf ((bH S1 y_151) - ((fEx S1 (nI (fIx x))) + ((pV S (fIx st) 13) + ((fAb (pV S (fIx st) 14)) / 4))))))), (11, .int ((bH S1 y_151) - ((fEx S1 (nI (fIx x))) + ((pV S (fIx st) 13) + ((fAb (pV S (fIx st) 14)) / 4))))), (10, .int (bH S1 y_151)), (9, .int 0), (8, .int (nI y_151)), (7, .int 1), (6, .int (md_pl S (sF S (fIx k)) (ro_l S st x))), (5, .int (ro_l S st x)), (0, .ref o), (1, .int (nI (fIx st))), (2, .int (nI (fIx x))), (3, .int (nI (fIx k)))]) hx hb dX4_root_268 hl (by decide) rfl (fun ls hl => ?_)
                refine lv_aload_n hx hb dX4_root_270 rfl (lv_at hl 9 rfl) ?_
                refine lv_aload_n hx hb dX4_root_271 rfl (lv_at hl 9 rfl) ?_
                refine mw_get (D := gD G) (ci := 4) (v := .ref (A 1)) (C := RX4) (T := TX4) (N := 21) hx hb htb inX4 hown hK hP hT.1 rfl 5 (by decide) (htb _ wd529) (fun _ h9 => h9) rfl dX4_root_272 ?_
                refine lv_iload hx hb dX4_root_275 (lv_at hl 5 rfl) ?_
                refine mw_iald hx hb hK hP 0 (show M_150 (A 1) = some (.inl (gI G, 120, .inl (g152 1))) from hT.2.1 1 (by decide)) rfl (by exact vp_in_nI (show y_151 < 120 by have := hle; omega) (by decide)) dX4_root_277 ?_
                refine W.eq (g2 := F0 m 278 ls [.int (bW S1 y_151), .ref o]) (by rw [nI_clamp (show y_151 < 2 ^ 31 by have := hle; omega), hB.W h_y_151]) ?_
                refine lv_aload_n hx hb dX4_root_278 rfl (lv_at hl 9 rfl) ?_
                refine mw_get (D := gD G) (ci := 4) (v := .ref (A 1)) (C := RX4) (T := TX4) (N := 21) hx hb htb inX4 hown hK hP hT.1 rfl 5 (by decide) (htb _ wd529) (fun _ h9 => h9) rfl dX4_root_279 ?_
                refine lv_iload_n hx hb dX4_root_282 rfl (lv_at hl 11 rfl) ?_
                refine mw_iald hx hb hK hP 0 (show M_150 (A 1) = some (.inl (gI G, 120, .inl (g152 1))) from hT.2.1 1 (by decide)) rfl (by exact vp_in_nI (show (fIx x) < 120 by have := hle; omega) (by decide)) dX4_root_283 ?_
                refine W.eq (g2 := F0 m 284 ls [.int (bW S1 (fIx x)), .int (bW S1 y_151), .ref o]) (by rw [nI_clamp (show (fIx x) < 2 ^ 31 by have := hle; omega), hB.W h_x]) ?_
                refine lv_iadd hx hb dX4_root_284 ?_
                refine lv_iload hx hb dX4_root_285 (lv_at hl 0 rfl) ?_
                refine lv_iconst (v := 2) hx hb dX4_root_287 (by decide) ?_
                refine lv_iload hx hb dX4_root_288 (lv_at hl 4 rfl) ?_
                refine lv_imul hx hb dX4_root_290 ?_
                refine lv_iadd hx hb dX4_root_291 ?_
                refine lv_aload_n hx hb dX4_root_292 rfl (lv_at hl 9 rfl) ?_
                refine mw_get (D := gD G) (ci := 4) (v := .ref (A 3)) (C := RX4) (T := TX4) (N := 21) hx hb htb inX4 hown hK hP hT.1 rfl 7 (by decide) (htb _ wd531) (fun _ h9 => h9) rfl dX4_root_293 ?_
                refine lv_iload_n hx hb dX4_root_296 rfl (lv_at hl 11 rfl) ?_
                refine mw_iald hx hb hK hP 0 (show M_150 (A 3) = some (.inl (gI G, 120, .inl (g152 3))) from hT.2.1 3 (by decide)) rfl (by exact vp_in_nI (show (fIx x) < 120 by have := hle; omega) (by decide)) dX4_root_297 ?_
                refine W.eq (g2 := F0 m 298 ls [.int (bD S1 (fIx x)), .int (((bH S1 (fIx x)) + (((pV S (fIx st) 13) + ((fAb (pV S (fIx st) 14)) / 4)) + (fHf ((bH S1 y_151) - ((fEx S1 (nI (fIx x))) + ((pV S (fIx st) 13) + ((fAb (pV S (fIx st) 14)) / 4))))))) + (2 * 0)), .int ((bW S1 y_151) + (bW S1 (fIx x))), .ref o]) (by rw [nI_clamp (show (fIx x) < 2 ^ 31 by have := hle; omega), hB.D h_x]) ?_
                refine lv_iload hx hb dX4_root_298 (lv_at hl 3 rfl) ?_
                refine lv_iload hx hb dX4_root_300 (lv_at hl 0 rfl) ?_
                refine lv_isub hx hb dX4_root_302 ?_
                refine mw_callS (As := [.int (bD S1 (fIx x)), .int ((bH S1 y_151) - ((bH S1 (fIx x)) + (((pV S (fIx st) 13) + ((fAb (pV S (fIx st) 14)) / 4)) + (fHf ((bH S1 y_151) - ((fEx S1 (nI (fIx x))) + ((pV S (fIx st) 13) + ((fAb (pV S (fIx st) 14)) / 4))))))))]) (rest := [.int (((bH S1 (fIx x)) + (((pV S (fIx st) 13) + ((fAb (pV S (fIx st) 14)) / 4)) + (fHf ((bH S1 y_151) - ((fEx S1 (nI (fIx x))) + ((pV S (fIx st) 13) + ((fAb (pV S (fIx st) 14)) / 4))))))) + (2 * 0)), .int ((bW S1 y_151) + (bW S1 (fIx x))), .ref o]) hx hb hml hown hl (kX4_greater l htr G H.size M_150 (bD S1 (fIx x)) ((bH S1 y_151) - ((bH S1 (fIx x)) + (((pV S (fIx st) 13) + ((fAb (pV S (fIx st) 14)) / 4)) + (fHf ((bH S1 y_151) - ((fEx S1 (nI (fIx x))) + ((pV S (fIx st) 13) + ((fAb (pV S (fIx st) 14)) / 4))))))))) (g_B (n := 2) htb wd664 wd3 wd662 (by decide +kernel) ⟨Nat.le_of_ble_eq_true rfl, Nat.le_of_ble_eq_true rfl⟩) (htb _ wd663) hE hP hS rfl rfl (Nat.le_of_ble_eq_true rfl) dX4_root_303 ⟨Nat.le_of_ble_eq_true rfl, Nat.le_of_ble_eq_true rfl⟩ (fun v9 M9 H locs hpo hP hz hS => ?_) (fun x9 E9 cell9 H9 locs9 hE9 => hE9.elim)
                obtain ⟨rfl, rfl⟩ := hpo
                refine W.eq (g2 := F0 m 306 ls [.int (fMx (bD S1 (fIx x)) ((bH S1 y_151) - ((bH S1 (fIx x)) + (((pV S (fIx st) 13) + ((fAb (pV S (fIx st) 14)) / 4)) + (fHf ((bH S1 y_151) - ((fEx S1 (nI (fIx x))) + ((pV S (fIx st) 13) + ((fAb (pV S (fIx st) 14)) / 4))))))))), .int (((bH S1 (fIx x)) + (((pV S (fIx st) 13) + ((fAb (pV S (fIx st) 14)) / 4)) + (fHf ((bH S1 y_151) - ((fEx S1 (nI (fIx x))) + ((pV S (fIx st) 13) + ((fAb (pV S (fIx st) 14)) / 4))))))) + (2 * 0)), .int ((bW S1 y_151) + (bW S1 (fIx x))), .ref o]) rfl ?_
                refine mw_callV (C := RX4) (As := [.int ((bW S1 y_151) + (bW S1 (fIx x))), .int (((bH S1 (fIx x)) + (((pV S (fIx st) 13) + ((fAb (pV S (fIx st) 14)) / 4)) + (fHf ((bH S1 y_151) - ((fEx S1 (nI (fIx x))) + ((pV S (fIx st) 13) + ((fAb (pV S (fIx st) 14)) / 4))))))) + (2 * 0)), .int (fMx (bD S1 (fIx x)) ((bH S1 y_151) - ((bH S1 (fIx x)) + (((pV S (fIx st) 13) + ((fAb (pV S (fIx st) 14)) / 4)) + (fHf ((bH S1 y_151) - ((fEx S1 (nI (fIx x))) + ((pV S (fIx st) 13) + ((fAb (pV S (fIx st) 14)) / 4)))))))))]) (rest := []) hx hb hml hown hl (kX4_make l htr G H.size M_150 o A 0 (nI (fSz (fIx st))) S1 (⟨np152, bg152, g152, hT, hB⟩ : md_R G o A M_150 0 (nI (fSz (fIx st))) S1) (show sN S1 < 120 from by rw [hS1, ro_S, kt_n, if_pos hrd]; omega) ((bW S1 y_151) + (bW S1 (fIx x))) (((bH S1 (fIx x)) + (((pV S (fIx st) 13) + ((fAb (pV S (fIx st) 14)) / 4)) + (fHf ((bH S1 y_151) - ((fEx S1 (nI (fIx x))) + ((pV S (fIx st) 13) + ((fAb (pV S (fIx st) 14)) / 4))))))) + (2 * 0)) (fMx (bD S1 (fIx x)) ((bH S1 y_151) - ((bH S1 (fIx x)) + (((pV S (fIx st) 13) + ((fAb (pV S (fIx st) 14)) / 4)) + (fHf ((bH S1 y_151) - ((fEx S1 (nI (fIx x))) + ((pV S (fIx st) 13) + ((fAb (pV S (fIx st) 14)) / 4)))))))))) (g_B (n := 3) htb wd613 wd3 wd610 (by decide +kernel) ⟨Nat.le_of_ble_eq_true rfl, Nat.le_of_ble_eq_true rfl⟩) (htb _ wd612) (htb _ ws26) hE hP hS hT.1 rfl rfl rfl (Nat.le_of_ble_eq_true rfl) dX4_root_306 ⟨Nat.le_of_ble_eq_true rfl, Nat.le_of_ble_eq_true rfl⟩ (fun v9 M9 H locs hpo hP hz hS => ?_) (fun x9 E9 cell9 H9 locs9 hE9 => hE9.elim)
                have hle0 := hle
                obtain ⟨rfl, hRn, hkn⟩ := hpo
                obtain ⟨M_169, hM_169⟩ : ∃ z9 : mw_M, z9 = M9 := ⟨_, rfl⟩
                rw [← hM_169] at hP hRn hkn
                have hk := md_keeps.tr hk hkn
                have hRn : md_R G o A M_169 0 (nI (fSz (fIx st))) (fs_push S1 (((bW S1 y_151) + (bW S1 (fIx x))), (((bH S1 (fIx x)) + (((pV S (fIx st) 13) + ((fAb (pV S (fIx st) 14)) / 4)) + (fHf ((bH S1 y_151) - ((fEx S1 (nI (fIx x))) + ((pV S (fIx st) 13) + ((fAb (pV S (fIx st) 14)) / 4))))))) + (2 * 0)), (fMx (bD S1 (fIx x)) ((bH S1 y_151) - ((bH S1 (fIx x)) + (((pV S (fIx st) 13) + ((fAb (pV S (fIx st) 14)) / 4)) + (fHf ((bH S1 y_151) - ((fEx S1 (nI (fIx x))) + ((pV S (fIx st) 13) + ((fAb (pV S (fIx st) 14)) / 4))))))))), [], 0, 0)) := hRn
                obtain ⟨np170, bg170, g170, hT, hB⟩ := id hRn
                rw [sN_push] at hT
                have hT : md_at G o A M_169 0 (sSp S1) (sSh S1) (nI (sN S1 + 1)) (nI np170) (nI (fSz (fIx st))) g170 := hT
                have hle : sN S1 + 1 ≤ 120 := by have := hB.1; rw [sN_push] at this; exact this
                refine W.eq (g2 := F0 m 309 ls [.int (nI (sN S1))]) rfl ?_
                refine lv_istore (lv' := [(13, .int (nI (sN S1))), (12, .int ((bH S1 (fIx x)) + (((pV S (fIx st) 13) + ((fAb (pV S (fIx st) 14)) / 4)) + (fHf ((bH S1 y_151) - ((fEx S1 (nI (fIx x))) + ((pV S (fIx st) 13) + ((fAb (pV S (fIx st) 14)) / 4)))))))), (4, .int (((pV S (fIx st) 13) + ((fAb (pV S (fIx st) 14)) / 4)) + (fHf ((bH S1 y_151) - ((fEx S1 (nI (fIx x))) + ((pV S (fIx st) 13) + ((fAb (pV S (fIx st) 14)) / 4))))))), (11, .int ((bH S1 y_151) - ((fEx S1 (nI (fIx x))) + ((pV S (fIx st) 13) + ((fAb (pV S (fIx st) 14)) / 4))))), (10, .int (bH S1 y_151)), (9, .int 0), (8, .int (nI y_151)), (7, .int 1), (6, .int (md_pl S (sF S (fIx k)) (ro_l S st x))), (5, .int (ro_l S st x)), (0, .ref o), (1, .int (nI (fIx st))), (2, .int (nI (fIx x))), (3, .int (nI (fIx k)))]) hx hb dX4_root_309 hl (by decide) rfl (fun ls hl => ?_)
                refine lv_aload_n hx hb dX4_root_311 rfl (lv_at hl 10 rfl) ?_
                refine lv_iload hx hb dX4_root_312 (lv_at hl 6 rfl) ?_
                refine lv_iconst (v := 0) hx hb dX4_root_314 (by decide) ?_
                refine lv_iload hx hb dX4_root_315 (lv_at hl 7 rfl) ?_
                refine lv_if_eq (tgt := 333) hx hb dX4_root_317 (by decide) (fun c_171 => absurd c_171 (by decide)) (fun c_171 => ?_)
                refine lv_iload hx hb dX4_root_320 (lv_at hl 1 rfl) ?_
                refine lv_aload_n hx hb dX4_root_322 rfl (lv_at hl 10 rfl) ?_
                refine mw_get (D := gD G) (ci := 4) (v := .ref (A 2)) (C := RX4) (T := TX4) (N := 21) hx hb htb inX4 hown hK hP hT.1 rfl 6 (by decide) (htb _ wd530) (fun _ h9 => h9) rfl dX4_root_323 ?_
                refine lv_iload hx hb dX4_root_326 (lv_at hl 6 rfl) ?_
                refine mw_iald hx hb hK hP 0 (show M_169 (A 2) = some (.inl (gI G, 120, .inl (g170 2))) from hT.2.1 2 (by decide)) rfl (by exact vp_in_nI (show y_151 < 120 by have := hle; omega) (by decide)) dX4_root_328 ?_
                refine W.eq (g2 := F0 m 329 ls [.int (bH S1 y_151), .int ((bH S1 (fIx x)) + (((pV S (fIx st) 13) + ((fAb (pV S (fIx st) 14)) / 4)) + (fHf ((bH S1 y_151) - ((fEx S1 (nI (fIx x))) + ((pV S (fIx st) 13) + ((fAb (pV S (fIx st) 14)) / 4))))))), .int 0, .int (nI y_151), .ref o]) (by rw [nI_clamp (show y_151 < 2 ^ 31 by have := hle; omega), hB.H (show y_151 < sN (fs_push S1 (((bW S1 y_151) + (bW S1 (fIx x))), (((bH S1 (fIx x)) + (((pV S (fIx st) 13) + ((fAb (pV S (fIx st) 14)) / 4)) + (fHf ((bH S1 y_151) - ((fEx S1 (nI (fIx x))) + ((pV S (fIx st) 13) + ((fAb (pV S (fIx st) 14)) / 4))))))) + (2 * 0)), (fMx (bD S1 (fIx x)) ((bH S1 y_151) - ((bH S1 (fIx x)) + (((pV S (fIx st) 13) + ((fAb (pV S (fIx st) 14)) / 4)) + (fHf ((bH S1 y_151) - ((fEx S1 (nI (fIx x))) + ((pV S (fIx st) 13) + ((fAb (pV S (fIx st) 14)) / 4))))))))), [], 0, 0)) by rw [sN_push]; omega), bH_push _ h_y_151]) ?_
                refine lv_isub hx hb dX4_root_329 ?_
                refine lv_goto (tgt := 335) hx hb dX4_root_330 (by decide) ?_
                refine mw_callV (C := RX4) (As := [.int (nI y_151), .int 0, .int (((bH S1 (fIx x)) + (((pV S (fIx st) 13) + ((fAb (pV S (fIx st) 14)) / 4)) + (fHf ((bH S1 y_151) - ((fEx S1 (nI (fIx x))) + ((pV S (fIx st) 13) + ((fAb (pV S (fIx st) 14)) / 4))))))) - (bH S1 y_151))]) (rest := []) hx hb hml hown hl (kX4_lay l htr G H.size M_169 o A 0 (nI (fSz (fIx st))) S1 ((bW S1 y_151) + (bW S1 (fIx x))) (((bH S1 (fIx x)) + (((pV S (fIx st) 13) + ((fAb (pV S (fIx st) 14)) / 4)) + (fHf ((bH S1 y_151) - ((fEx S1 (nI (fIx x))) + ((pV S (fIx st) 13) + ((fAb (pV S (fIx st) 14)) / 4))))))) + (2 * 0)) (fMx (bD S1 (fIx x)) ((bH S1 y_151) - ((bH S1 (fIx x)) + (((pV S (fIx st) 13) + ((fAb (pV S (fIx st) 14)) / 4)) + (fHf ((bH S1 y_151) - ((fEx S1 (nI (fIx x))) + ((pV S (fIx st) 13) + ((fAb (pV S (fIx st) 14)) / 4))))))))) ([]) 0 0 (md_R.of (np := np170) hT hB : md_R G o A M_169 0 (nI (fSz (fIx st))) (fs_push S1 (((bW S1 y_151) + (bW S1 (fIx x))), (((bH S1 (fIx x)) + (((pV S (fIx st) 13) + ((fAb (pV S (fIx st) 14)) / 4)) + (fHf ((bH S1 y_151) - ((fEx S1 (nI (fIx x))) + ((pV S (fIx st) 13) + ((fAb (pV S (fIx st) 14)) / 4))))))) + (2 * 0)), (fMx (bD S1 (fIx x)) ((bH S1 y_151) - ((bH S1 (fIx x)) + (((pV S (fIx st) 13) + ((fAb (pV S (fIx st) 14)) / 4)) + (fHf ((bH S1 y_151) - ((fEx S1 (nI (fIx x))) + ((pV S (fIx st) 13) + ((fAb (pV S (fIx st) 14)) / 4))))))))), [], 0, 0))) (by simp) (nI y_151) 0 (((bH S1 (fIx x)) + (((pV S (fIx st) 13) + ((fAb (pV S (fIx st) 14)) / 4)) + (fHf ((bH S1 y_151) - ((fEx S1 (nI (fIx x))) + ((pV S (fIx st) 13) + ((fAb (pV S (fIx st) 14)) / 4))))))) - (bH S1 y_151))) (g_B (n := 3) htb wd661 wd3 wd658 (by decide +kernel) ⟨Nat.le_of_ble_eq_true rfl, Nat.le_of_ble_eq_true rfl⟩) (htb _ wd660) (htb _ ws34) hE hP hS hT.1 rfl rfl rfl (Nat.le_of_ble_eq_true rfl) dX4_root_335 ⟨Nat.le_of_ble_eq_true rfl, Nat.le_of_ble_eq_true rfl⟩ (fun v9 M9 H locs hpo hP hz hS => ?_) (fun x9 E9 cell9 H9 locs9 hE9 => hE9.elim)
                obtain ⟨rfl, hRn, hkn⟩ := hpo
                obtain ⟨M_172, hM_172⟩ : ∃ z9 : mw_M, z9 = M9 := ⟨_, rfl⟩
                rw [← hM_172] at hP hRn hkn
                have hk := md_keeps.tr hk hkn
                have hRn : md_R G o A M_172 0 (nI (fSz (fIx st))) (fs_push S1 (((bW S1 y_151) + (bW S1 (fIx x))), (((bH S1 (fIx x)) + (((pV S (fIx st) 13) + ((fAb (pV S (fIx st) 14)) / 4)) + (fHf ((bH S1 y_151) - ((fEx S1 (nI (fIx x))) + ((pV S (fIx st) 13) + ((fAb (pV S (fIx st) 14)) / 4))))))) + (2 * 0)), (fMx (bD S1 (fIx x)) ((bH S1 y_151) - ((bH S1 (fIx x)) + (((pV S (fIx st) 13) + ((fAb (pV S (fIx st) 14)) / 4)) + (fHf ((bH S1 y_151) - ((fEx S1 (nI (fIx x))) + ((pV S (fIx st) 13) + ((fAb (pV S (fIx st) 14)) / 4))))))))), [(nI y_151), 0, (((bH S1 (fIx x)) + (((pV S (fIx st) 13) + ((fAb (pV S (fIx st) 14)) / 4)) + (fHf ((bH S1 y_151) - ((fEx S1 (nI (fIx x))) + ((pV S (fIx st) 13) + ((fAb (pV S (fIx st) 14)) / 4))))))) - (bH S1 y_151))], 0, 0)) := hRn
                obtain ⟨np173, bg173, g173, hT, hB⟩ := id hRn
                rw [sN_push] at hT
                have hT : md_at G o A M_172 0 (sSp S1) (sSh S1) (nI (sN S1 + 1)) (nI np173) (nI (fSz (fIx st))) g173 := hT
                refine W.eq (g2 := F0 m 338 ls []) rfl ?_
                refine lv_aload_n hx hb dX4_root_338 rfl (lv_at hl 10 rfl) ?_
                refine lv_iload_n hx hb dX4_root_339 rfl (lv_at hl 12 rfl) ?_
                refine lv_aload_n hx hb dX4_root_340 rfl (lv_at hl 10 rfl) ?_
                refine mw_get (D := gD G) (ci := 4) (v := .ref (A 1)) (C := RX4) (T := TX4) (N := 21) hx hb htb inX4 hown hK hP hT.1 rfl 5 (by decide) (htb _ wd529) (fun _ h9 => h9) rfl dX4_root_341 ?_
                refine lv_iload hx hb dX4_root_344 (lv_at hl 6 rfl) ?_
                refine mw_iald hx hb hK hP 0 (show M_172 (A 1) = some (.inl (gI G, 120, .inl (g173 1))) from hT.2.1 1 (by decide)) rfl (by exact vp_in_nI (show y_151 < 120 by have := hle; omega) (by decide)) dX4_root_346 ?_
                refine W.eq (g2 := F0 m 347 ls [.int (bW S1 y_151), .int (nI (fIx x)), .ref o]) (by rw [nI_clamp (show y_151 < 2 ^ 31 by have := hle; omega), hB.W (show y_151 < sN (fs_push S1 (((bW S1 y_151) + (bW S1 (fIx x))), (((bH S1 (fIx x)) + (((pV S (fIx st) 13) + ((fAb (pV S (fIx st) 14)) / 4)) + (fHf ((bH S1 y_151) - ((fEx S1 (nI (fIx x))) + ((pV S (fIx st) 13) + ((fAb (pV S (fIx st) 14)) / 4))))))) + (2 * 0)), (fMx (bD S1 (fIx x)) ((bH S1 y_151) - ((bH S1 (fIx x)) + (((pV S (fIx st) 13) + ((fAb (pV S (fIx st) 14)) / 4)) + (fHf ((bH S1 y_151) - ((fEx S1 (nI (fIx x))) + ((pV S (fIx st) 13) + ((fAb (pV S (fIx st) 14)) / 4))))))))), [(nI y_151), 0, (((bH S1 (fIx x)) + (((pV S (fIx st) 13) + ((fAb (pV S (fIx st) 14)) / 4)) + (fHf ((bH S1 y_151) - ((fEx S1 (nI (fIx x))) + ((pV S (fIx st) 13) + ((fAb (pV S (fIx st) 14)) / 4))))))) - (bH S1 y_151))], 0, 0)) by rw [sN_push]; omega), bW_push _ h_y_151]) ?_
                refine lv_iconst (v := 0) hx hb dX4_root_347 (by decide) ?_
                refine mw_callV (C := RX4) (As := [.int (nI (fIx x)), .int (bW S1 y_151), .int 0]) (rest := []) hx hb hml hown hl (kX4_lay l htr G H.size M_172 o A 0 (nI (fSz (fIx st))) S1 ((bW S1 y_151) + (bW S1 (fIx x))) (((bH S1 (fIx x)) + (((pV S (fIx st) 13) + ((fAb (pV S (fIx st) 14)) / 4)) + (fHf ((bH S1 y_151) - ((fEx S1 (nI (fIx x))) + ((pV S (fIx st) 13) + ((fAb (pV S (fIx st) 14)) / 4))))))) + (2 * 0)) (fMx (bD S1 (fIx x)) ((bH S1 y_151) - ((bH S1 (fIx x)) + (((pV S (fIx st) 13) + ((fAb (pV S (fIx st) 14)) / 4)) + (fHf ((bH S1 y_151) - ((fEx S1 (nI (fIx x))) + ((pV S (fIx st) 13) + ((fAb (pV S (fIx st) 14)) / 4))))))))) ([(nI y_151), 0, (((bH S1 (fIx x)) + (((pV S (fIx st) 13) + ((fAb (pV S (fIx st) 14)) / 4)) + (fHf ((bH S1 y_151) - ((fEx S1 (nI (fIx x))) + ((pV S (fIx st) 13) + ((fAb (pV S (fIx st) 14)) / 4))))))) - (bH S1 y_151))]) 0 0 (md_R.of (np := np173) hT hB : md_R G o A M_172 0 (nI (fSz (fIx st))) (fs_push S1 (((bW S1 y_151) + (bW S1 (fIx x))), (((bH S1 (fIx x)) + (((pV S (fIx st) 13) + ((fAb (pV S (fIx st) 14)) / 4)) + (fHf ((bH S1 y_151) - ((fEx S1 (nI (fIx x))) + ((pV S (fIx st) 13) + ((fAb (pV S (fIx st) 14)) / 4))))))) + (2 * 0)), (fMx (bD S1 (fIx x)) ((bH S1 y_151) - ((bH S1 (fIx x)) + (((pV S (fIx st) 13) + ((fAb (pV S (fIx st) 14)) / 4)) + (fHf ((bH S1 y_151) - ((fEx S1 (nI (fIx x))) + ((pV S (fIx st) 13) + ((fAb (pV S (fIx st) 14)) / 4))))))))), [(nI y_151), 0, (((bH S1 (fIx x)) + (((pV S (fIx st) 13) + ((fAb (pV S (fIx st) 14)) / 4)) + (fHf ((bH S1 y_151) - ((fEx S1 (nI (fIx x))) + ((pV S (fIx st) 13) + ((fAb (pV S (fIx st) 14)) / 4))))))) - (bH S1 y_151))], 0, 0))) (by simp) (nI (fIx x)) (bW S1 y_151) 0) (g_B (n := 3) htb wd661 wd3 wd658 (by decide +kernel) ⟨Nat.le_of_ble_eq_true rfl, Nat.le_of_ble_eq_true rfl⟩) (htb _ wd660) (htb _ ws34) hE hP hS hT.1 rfl rfl rfl (Nat.le_of_ble_eq_true rfl) dX4_root_348 ⟨Nat.le_of_ble_eq_true rfl, Nat.le_of_ble_eq_true rfl⟩ (fun v9 M9 H locs hpo hP hz hS => ?_) (fun x9 E9 cell9 H9 locs9 hE9 => hE9.elim)
                obtain ⟨rfl, hRn, hkn⟩ := hpo
                obtain ⟨M_174, hM_174⟩ : ∃ z9 : mw_M, z9 = M9 := ⟨_, rfl⟩
                rw [← hM_174] at hP hRn hkn
                have hk := md_keeps.tr hk hkn
                have hRn : md_R G o A M_174 0 (nI (fSz (fIx st))) (fs_push S1 (((bW S1 y_151) + (bW S1 (fIx x))), (((bH S1 (fIx x)) + (((pV S (fIx st) 13) + ((fAb (pV S (fIx st) 14)) / 4)) + (fHf ((bH S1 y_151) - ((fEx S1 (nI (fIx x))) + ((pV S (fIx st) 13) + ((fAb (pV S (fIx st) 14)) / 4))))))) + (2 * 0)), (fMx (bD S1 (fIx x)) ((bH S1 y_151) - ((bH S1 (fIx x)) + (((pV S (fIx st) 13) + ((fAb (pV S (fIx st) 14)) / 4)) + (fHf ((bH S1 y_151) - ((fEx S1 (nI (fIx x))) + ((pV S (fIx st) 13) + ((fAb (pV S (fIx st) 14)) / 4))))))))), [(nI y_151), 0, (((bH S1 (fIx x)) + (((pV S (fIx st) 13) + ((fAb (pV S (fIx st) 14)) / 4)) + (fHf ((bH S1 y_151) - ((fEx S1 (nI (fIx x))) + ((pV S (fIx st) 13) + ((fAb (pV S (fIx st) 14)) / 4))))))) - (bH S1 y_151)), (nI (fIx x)), (bW S1 y_151), 0], 0, 0)) := hRn
                obtain ⟨np175, bg175, g175, hT, hB⟩ := id hRn
                rw [sN_push] at hT
                have hT : md_at G o A M_174 0 (sSp S1) (sSh S1) (nI (sN S1 + 1)) (nI np175) (nI (fSz (fIx st))) g175 := hT
                refine W.eq (g2 := F0 m 351 ls []) rfl ?_
                refine lv_aload_n hx hb dX4_root_351 rfl (lv_at hl 10 rfl) ?_
                refine lv_iconst (v := (-1)) hx hb dX4_root_352 (by decide) ?_
                refine lv_aload_n hx hb dX4_root_353 rfl (lv_at hl 10 rfl) ?_
                refine mw_get (D := gD G) (ci := 4) (v := .ref (A 1)) (C := RX4) (T := TX4) (N := 21) hx hb htb inX4 hown hK hP hT.1 rfl 5 (by decide) (htb _ wd529) (fun _ h9 => h9) rfl dX4_root_354 ?_
                refine lv_iload hx hb dX4_root_357 (lv_at hl 6 rfl) ?_
                refine mw_iald hx hb hK hP 0 (show M_174 (A 1) = some (.inl (gI G, 120, .inl (g175 1))) from hT.2.1 1 (by decide)) rfl (by exact vp_in_nI (show y_151 < 120 by have := hle; omega) (by decide)) dX4_root_359 ?_
                refine W.eq (g2 := F0 m 360 ls [.int (bW S1 y_151), .int (-1), .ref o]) (by rw [nI_clamp (show y_151 < 2 ^ 31 by have := hle; omega), hB.W (show y_151 < sN (fs_push S1 (((bW S1 y_151) + (bW S1 (fIx x))), (((bH S1 (fIx x)) + (((pV S (fIx st) 13) + ((fAb (pV S (fIx st) 14)) / 4)) + (fHf ((bH S1 y_151) - ((fEx S1 (nI (fIx x))) + ((pV S (fIx st) 13) + ((fAb (pV S (fIx st) 14)) / 4))))))) + (2 * 0)), (fMx (bD S1 (fIx x)) ((bH S1 y_151) - ((bH S1 (fIx x)) + (((pV S (fIx st) 13) + ((fAb (pV S (fIx st) 14)) / 4)) + (fHf ((bH S1 y_151) - ((fEx S1 (nI (fIx x))) + ((pV S (fIx st) 13) + ((fAb (pV S (fIx st) 14)) / 4))))))))), [(nI y_151), 0, (((bH S1 (fIx x)) + (((pV S (fIx st) 13) + ((fAb (pV S (fIx st) 14)) / 4)) + (fHf ((bH S1 y_151) - ((fEx S1 (nI (fIx x))) + ((pV S (fIx st) 13) + ((fAb (pV S (fIx st) 14)) / 4))))))) - (bH S1 y_151)), (nI (fIx x)), (bW S1 y_151), 0], 0, 0)) by rw [sN_push]; omega), bW_push _ h_y_151]) ?_
                refine lv_iload hx hb dX4_root_360 (lv_at hl 1 rfl) ?_
                refine mw_callV (C := RX4) (As := [.int (-1), .int (bW S1 y_151), .int ((bH S1 (fIx x)) + (((pV S (fIx st) 13) + ((fAb (pV S (fIx st) 14)) / 4)) + (fHf ((bH S1 y_151) - ((fEx S1 (nI (fIx x))) + ((pV S (fIx st) 13) + ((fAb (pV S (fIx st) 14)) / 4)))))))]) (rest := []) hx hb hml hown hl (kX4_lay l htr G H.size M_174 o A 0 (nI (fSz (fIx st))) S1 ((bW S1 y_151) + (bW S1 (fIx x))) (((bH S1 (fIx x)) + (((pV S (fIx st) 13) + ((fAb (pV S (fIx st) 14)) / 4)) + (fHf ((bH S1 y_151) - ((fEx S1 (nI (fIx x))) + ((pV S (fIx st) 13) + ((fAb (pV S (fIx st) 14)) / 4))))))) + (2 * 0)) (fMx (bD S1 (fIx x)) ((bH S1 y_151) - ((bH S1 (fIx x)) + (((pV S (fIx st) 13) + ((fAb (pV S (fIx st) 14)) / 4)) + (fHf ((bH S1 y_151) - ((fEx S1 (nI (fIx x))) + ((pV S (fIx st) 13) + ((fAb (pV S (fIx st) 14)) / 4))))))))) ([(nI y_151), 0, (((bH S1 (fIx x)) + (((pV S (fIx st) 13) + ((fAb (pV S (fIx st) 14)) / 4)) + (fHf ((bH S1 y_151) - ((fEx S1 (nI (fIx x))) + ((pV S (fIx st) 13) + ((fAb (pV S (fIx st) 14)) / 4))))))) - (bH S1 y_151)), (nI (fIx x)), (bW S1 y_151), 0]) 0 0 (md_R.of (np := np175) hT hB : md_R G o A M_174 0 (nI (fSz (fIx st))) (fs_push S1 (((bW S1 y_151) + (bW S1 (fIx x))), (((bH S1 (fIx x)) + (((pV S (fIx st) 13) + ((fAb (pV S (fIx st) 14)) / 4)) + (fHf ((bH S1 y_151) - ((fEx S1 (nI (fIx x))) + ((pV S (fIx st) 13) + ((fAb (pV S (fIx st) 14)) / 4))))))) + (2 * 0)), (fMx (bD S1 (fIx x)) ((bH S1 y_151) - ((bH S1 (fIx x)) + (((pV S (fIx st) 13) + ((fAb (pV S (fIx st) 14)) / 4)) + (fHf ((bH S1 y_151) - ((fEx S1 (nI (fIx x))) + ((pV S (fIx st) 13) + ((fAb (pV S (fIx st) 14)) / 4))))))))), [(nI y_151), 0, (((bH S1 (fIx x)) + (((pV S (fIx st) 13) + ((fAb (pV S (fIx st) 14)) / 4)) + (fHf ((bH S1 y_151) - ((fEx S1 (nI (fIx x))) + ((pV S (fIx st) 13) + ((fAb (pV S (fIx st) 14)) / 4))))))) - (bH S1 y_151)), (nI (fIx x)), (bW S1 y_151), 0], 0, 0))) (by simp) (-1) (bW S1 y_151) ((bH S1 (fIx x)) + (((pV S (fIx st) 13) + ((fAb (pV S (fIx st) 14)) / 4)) + (fHf ((bH S1 y_151) - ((fEx S1 (nI (fIx x))) + ((pV S (fIx st) 13) + ((fAb (pV S (fIx st) 14)) / 4)))))))) (g_B (n := 3) htb wd661 wd3 wd658 (by decide +kernel) ⟨Nat.le_of_ble_eq_true rfl, Nat.le_of_ble_eq_true rfl⟩) (htb _ wd660) (htb _ ws34) hE hP hS hT.1 rfl rfl rfl (Nat.le_of_ble_eq_true rfl) dX4_root_362 ⟨Nat.le_of_ble_eq_true rfl, Nat.le_of_ble_eq_true rfl⟩ (fun v9 M9 H locs hpo hP hz hS => ?_) (fun x9 E9 cell9 H9 locs9 hE9 => hE9.elim)
                obtain ⟨rfl, hRn, hkn⟩ := hpo
                obtain ⟨M_176, hM_176⟩ : ∃ z9 : mw_M, z9 = M9 := ⟨_, rfl⟩
                rw [← hM_176] at hP hRn hkn
                have hk := md_keeps.tr hk hkn
                have hRn : md_R G o A M_176 0 (nI (fSz (fIx st))) (fs_push S1 (((bW S1 y_151) + (bW S1 (fIx x))), (((bH S1 (fIx x)) + (((pV S (fIx st) 13) + ((fAb (pV S (fIx st) 14)) / 4)) + (fHf ((bH S1 y_151) - ((fEx S1 (nI (fIx x))) + ((pV S (fIx st) 13) + ((fAb (pV S (fIx st) 14)) / 4))))))) + (2 * 0)), (fMx (bD S1 (fIx x)) ((bH S1 y_151) - ((bH S1 (fIx x)) + (((pV S (fIx st) 13) + ((fAb (pV S (fIx st) 14)) / 4)) + (fHf ((bH S1 y_151) - ((fEx S1 (nI (fIx x))) + ((pV S (fIx st) 13) + ((fAb (pV S (fIx st) 14)) / 4))))))))), [(nI y_151), 0, (((bH S1 (fIx x)) + (((pV S (fIx st) 13) + ((fAb (pV S (fIx st) 14)) / 4)) + (fHf ((bH S1 y_151) - ((fEx S1 (nI (fIx x))) + ((pV S (fIx st) 13) + ((fAb (pV S (fIx st) 14)) / 4))))))) - (bH S1 y_151)), (nI (fIx x)), (bW S1 y_151), 0, (-1), (bW S1 y_151), ((bH S1 (fIx x)) + (((pV S (fIx st) 13) + ((fAb (pV S (fIx st) 14)) / 4)) + (fHf ((bH S1 y_151) - ((fEx S1 (nI (fIx x))) + ((pV S (fIx st) 13) + ((fAb (pV S (fIx st) 14)) / 4)))))))], 0, 0)) := hRn
                obtain ⟨np177, bg177, g177, hT, hB⟩ := id hRn
                rw [sN_push] at hT
                have hT : md_at G o A M_176 0 (sSp S1) (sSh S1) (nI (sN S1 + 1)) (nI np177) (nI (fSz (fIx st))) g177 := hT
                refine W.eq (g2 := F0 m 365 ls []) rfl ?_
                refine lv_aload_n hx hb dX4_root_365 rfl (lv_at hl 10 rfl) ?_
                refine mw_get (D := gD G) (ci := 4) (v := .ref (A 6)) (C := RX4) (T := TX4) (N := 21) hx hb htb inX4 hown hK hP hT.1 rfl 10 (by decide) (htb _ wd534) (fun _ h9 => h9) rfl dX4_root_366 ?_
                refine lv_iload hx hb dX4_root_369 (lv_at hl 0 rfl) ?_
                refine lv_aload_n hx hb dX4_root_371 rfl (lv_at hl 10 rfl) ?_
                refine mw_get (D := gD G) (ci := 4) (v := .ref (A 1)) (C := RX4) (T := TX4) (N := 21) hx hb htb inX4 hown hK hP hT.1 rfl 5 (by decide) (htb _ wd529) (fun _ h9 => h9) rfl dX4_root_372 ?_
                refine lv_iload_n hx hb dX4_root_375 rfl (lv_at hl 12 rfl) ?_
                refine mw_iald hx hb hK hP 0 (show M_176 (A 1) = some (.inl (gI G, 120, .inl (g177 1))) from hT.2.1 1 (by decide)) rfl (by exact vp_in_nI (show (fIx x) < 120 by have := hle; omega) (by decide)) dX4_root_376 ?_
                refine W.eq (g2 := F0 m 377 ls [.int (bW S1 (fIx x)), .int (nI (sN S1)), .ref (A 6)]) (by rw [nI_clamp (show (fIx x) < 2 ^ 31 by have := hle; omega), hB.W (show (fIx x) < sN (fs_push S1 (((bW S1 y_151) + (bW S1 (fIx x))), (((bH S1 (fIx x)) + (((pV S (fIx st) 13) + ((fAb (pV S (fIx st) 14)) / 4)) + (fHf ((bH S1 y_151) - ((fEx S1 (nI (fIx x))) + ((pV S (fIx st) 13) + ((fAb (pV S (fIx st) 14)) / 4))))))) + (2 * 0)), (fMx (bD S1 (fIx x)) ((bH S1 y_151) - ((bH S1 (fIx x)) + (((pV S (fIx st) 13) + ((fAb (pV S (fIx st) 14)) / 4)) + (fHf ((bH S1 y_151) - ((fEx S1 (nI (fIx x))) + ((pV S (fIx st) 13) + ((fAb (pV S (fIx st) 14)) / 4))))))))), [(nI y_151), 0, (((bH S1 (fIx x)) + (((pV S (fIx st) 13) + ((fAb (pV S (fIx st) 14)) / 4)) + (fHf ((bH S1 y_151) - ((fEx S1 (nI (fIx x))) + ((pV S (fIx st) 13) + ((fAb (pV S (fIx st) 14)) / 4))))))) - (bH S1 y_151)), (nI (fIx x)), (bW S1 y_151), 0, (-1), (bW S1 y_151), ((bH S1 (fIx x)) + (((pV S (fIx st) 13) + ((fAb (pV S (fIx st) 14)) / 4)) + (fHf ((bH S1 y_151) - ((fEx S1 (nI (fIx x))) + ((pV S (fIx st) 13) + ((fAb (pV S (fIx st) 14)) / 4)))))))], 0, 0)) by rw [sN_push]; omega), bW_push _ h_x]) ?_
                refine mw_iast hx hb hK hP hS 0 (show M_176 (A 6) = some (.inl (gI G, 120, .inl (g177 6))) from hT.2.1 6 (by decide)) (hT.2.2.2.2 6 (by decide)) rfl (by exact vp_in_nI (show (sN S1) < 120 by have := hle; omega) (by decide)) dX4_root_377 (fun H locs hP hS => ?_)
                rw [nI_clamp (show (sN S1) < 2 ^ 31 by have := hle; omega)] at hP
                obtain ⟨M_178, hM_178⟩ : ∃ z9 : mw_M, z9 = mw_up M_176 (A 6) (.inl (gI G, 120, .inl (upd (g177 6) (sN S1) (bW S1 (fIx x))))) := ⟨_, rfl⟩
                have hP : mw_P (gD G) gx_cl M_178 H := by rw [hM_178]; exact hP
                obtain ⟨g_179, hg_179⟩ : ∃ z9, z9 = ug g177 6 (sN S1) (bW S1 (fIx x)) := ⟨_, rfl⟩
                have hT : md_at G o A M_178 0 (sSp S1) (sSh S1) (nI (sN S1 + 1)) (nI np177) (nI (fSz (fIx st))) g_179 := by rw [hg_179]; exact md_at.put hT (by decide) rfl rfl hM_178
                have hk : md_keeps o A M M_178 := md_keeps.arr (j := 6) hk (by decide) hM_178
                have hB : md_ab np177 bg177 g_179 (fs_push S1 (((bW S1 y_151) + (bW S1 (fIx x))), (((bH S1 (fIx x)) + (((pV S (fIx st) 13) + ((fAb (pV S (fIx st) 14)) / 4)) + (fHf ((bH S1 y_151) - ((fEx S1 (nI (fIx x))) + ((pV S (fIx st) 13) + ((fAb (pV S (fIx st) 14)) / 4))))))) + (2 * 0)), (fMx (bD S1 (fIx x)) ((bH S1 y_151) - ((bH S1 (fIx x)) + (((pV S (fIx st) 13) + ((fAb (pV S (fIx st) 14)) / 4)) + (fHf ((bH S1 y_151) - ((fEx S1 (nI (fIx x))) + ((pV S (fIx st) 13) + ((fAb (pV S (fIx st) 14)) / 4))))))))), [(nI y_151), 0, (((bH S1 (fIx x)) + (((pV S (fIx st) 13) + ((fAb (pV S (fIx st) 14)) / 4)) + (fHf ((bH S1 y_151) - ((fEx S1 (nI (fIx x))) + ((pV S (fIx st) 13) + ((fAb (pV S (fIx st) 14)) / 4))))))) - (bH S1 y_151)), (nI (fIx x)), (bW S1 y_151), 0, (-1), (bW S1 y_151), ((bH S1 (fIx x)) + (((pV S (fIx st) 13) + ((fAb (pV S (fIx st) 14)) / 4)) + (fHf ((bH S1 y_151) - ((fEx S1 (nI (fIx x))) + ((pV S (fIx st) 13) + ((fAb (pV S (fIx st) 14)) / 4)))))))], (bW S1 (fIx x)), 0)) := by rw [hg_179]; exact md_ab.set6 hB _
                refine lv_aload_n hx hb dX4_root_378 rfl (lv_at hl 10 rfl) ?_
                refine mw_get (D := gD G) (ci := 4) (v := .ref (A 7)) (C := RX4) (T := TX4) (N := 21) hx hb htb inX4 hown hK hP hT.1 rfl 11 (by decide) (htb _ wd535) (fun _ h9 => h9) rfl dX4_root_379 ?_
                refine lv_iload hx hb dX4_root_382 (lv_at hl 0 rfl) ?_
                refine lv_iload hx hb dX4_root_384 (lv_at hl 5 rfl) ?_
                refine mw_iast hx hb hK hP hS 0 (show M_178 (A 7) = some (.inl (gI G, 120, .inl (g_179 7))) from hT.2.1 7 (by decide)) (hT.2.2.2.2 7 (by decide)) rfl (by exact vp_in_nI (show (sN S1) < 120 by have := hle; omega) (by decide)) dX4_root_386 (fun H locs hP hS => ?_)
                rw [nI_clamp (show (sN S1) < 2 ^ 31 by have := hle; omega)] at hP
                obtain ⟨M_180, hM_180⟩ : ∃ z9 : mw_M, z9 = mw_up M_178 (A 7) (.inl (gI G, 120, .inl (upd (g_179 7) (sN S1) 0))) := ⟨_, rfl⟩
                have hP : mw_P (gD G) gx_cl M_180 H := by rw [hM_180]; exact hP
                obtain ⟨g_181, hg_181⟩ : ∃ z9, z9 = ug g_179 7 (sN S1) 0 := ⟨_, rfl⟩
                have hT : md_at G o A M_180 0 (sSp S1) (sSh S1) (nI (sN S1 + 1)) (nI np177) (nI (fSz (fIx st))) g_181 := by rw [hg_181]; exact md_at.put hT (by decide) rfl rfl hM_180
                have hk : md_keeps o A M M_180 := md_keeps.arr (j := 7) hk (by decide) hM_180
                have hB : md_ab np177 bg177 g_181 (fs_push S1 (((bW S1 y_151) + (bW S1 (fIx x))), (((bH S1 (fIx x)) + (((pV S (fIx st) 13) + ((fAb (pV S (fIx st) 14)) / 4)) + (fHf ((bH S1 y_151) - ((fEx S1 (nI (fIx x))) + ((pV S (fIx st) 13) + ((fAb (pV S (fIx st) 14)) / 4))))))) + (2 * 0)), (fMx (bD S1 (fIx x)) ((bH S1 y_151) - ((bH S1 (fIx x)) + (((pV S (fIx st) 13) + ((fAb (pV S (fIx st) 14)) / 4)) + (fHf ((bH S1 y_151) - ((fEx S1 (nI (fIx x))) + ((pV S (fIx st) 13) + ((fAb (pV S (fIx st) 14)) / 4))))))))), [(nI y_151), 0, (((bH S1 (fIx x)) + (((pV S (fIx st) 13) + ((fAb (pV S (fIx st) 14)) / 4)) + (fHf ((bH S1 y_151) - ((fEx S1 (nI (fIx x))) + ((pV S (fIx st) 13) + ((fAb (pV S (fIx st) 14)) / 4))))))) - (bH S1 y_151)), (nI (fIx x)), (bW S1 y_151), 0, (-1), (bW S1 y_151), ((bH S1 (fIx x)) + (((pV S (fIx st) 13) + ((fAb (pV S (fIx st) 14)) / 4)) + (fHf ((bH S1 y_151) - ((fEx S1 (nI (fIx x))) + ((pV S (fIx st) 13) + ((fAb (pV S (fIx st) 14)) / 4)))))))], (bW S1 (fIx x)), 0)) := by rw [hg_181]; exact md_ab.set7 hB _
                refine lv_iload hx hb dX4_root_387 (lv_at hl 0 rfl) ?_
                have hex : ex_root S st x k = 0 := by rw [ex_root, if_neg (fun z9 => z9 ⟨kb_5, kb_7⟩), if_neg (fun z9 => z9 kb_9), if_neg (fun z9 => z9 kG), if_neg (fun z9 => z9 kb_147)]
                have hre : re_root S st x k = (((bW S1 y_151) + (bW S1 (fIx x))), (((bH S1 (fIx x)) + (((pV S (fIx st) 13) + ((fAb (pV S (fIx st) 14)) / 4)) + (fHf ((bH S1 y_151) - ((fEx S1 (nI (fIx x))) + ((pV S (fIx st) 13) + ((fAb (pV S (fIx st) 14)) / 4))))))) + (2 * 0)), (fMx (bD S1 (fIx x)) ((bH S1 y_151) - ((bH S1 (fIx x)) + (((pV S (fIx st) 13) + ((fAb (pV S (fIx st) 14)) / 4)) + (fHf ((bH S1 y_151) - ((fEx S1 (nI (fIx x))) + ((pV S (fIx st) 13) + ((fAb (pV S (fIx st) 14)) / 4))))))))), [(nI y_151), 0, (((bH S1 (fIx x)) + (((pV S (fIx st) 13) + ((fAb (pV S (fIx st) 14)) / 4)) + (fHf ((bH S1 y_151) - ((fEx S1 (nI (fIx x))) + ((pV S (fIx st) 13) + ((fAb (pV S (fIx st) 14)) / 4))))))) - (bH S1 y_151)), (nI (fIx x)), (bW S1 y_151), 0, (-1), (bW S1 y_151), ((bH S1 (fIx x)) + (((pV S (fIx st) 13) + ((fAb (pV S (fIx st) 14)) / 4)) + (fHf ((bH S1 y_151) - ((fEx S1 (nI (fIx x))) + ((pV S (fIx st) 13) + ((fAb (pV S (fIx st) 14)) / 4)))))))], (bW S1 (fIx x)), 0) := by rw [re_root, ← hS1, ← ey_151]; simp only [fs_rs, fs_rs1, fs_rs2, fs_rc, if_pos hrd, if_pos c_14, if_neg c_155, if_true, if_false, Int32.add_zero, show ((1 : Int32) = 0) = False from eq_false (by decide), show ((0 : Int32) = 0) = True from eq_true rfl]; try simp only [Int32.add_assoc]
                exact mx_iret (v := (nI (sN S1))) (M' := M_180) hx hb hr hlocks hP hS ⟨by rw [hex, if_pos rfl, ← hS1], ⟨_, by rw [hex, if_pos rfl, ← hS1, hre]; exact (md_R.of (np := np177) hT hB : md_R G o A M_180 0 (nI (fSz (fIx st))) (fs_push S1 (((bW S1 y_151) + (bW S1 (fIx x))), (((bH S1 (fIx x)) + (((pV S (fIx st) 13) + ((fAb (pV S (fIx st) 14)) / 4)) + (fHf ((bH S1 y_151) - ((fEx S1 (nI (fIx x))) + ((pV S (fIx st) 13) + ((fAb (pV S (fIx st) 14)) / 4))))))) + (2 * 0)), (fMx (bD S1 (fIx x)) ((bH S1 y_151) - ((bH S1 (fIx x)) + (((pV S (fIx st) 13) + ((fAb (pV S (fIx st) 14)) / 4)) + (fHf ((bH S1 y_151) - ((fEx S1 (nI (fIx x))) + ((pV S (fIx st) 13) + ((fAb (pV S (fIx st) 14)) / 4))))))))), [(nI y_151), 0, (((bH S1 (fIx x)) + (((pV S (fIx st) 13) + ((fAb (pV S (fIx st) 14)) / 4)) + (fHf ((bH S1 y_151) - ((fEx S1 (nI (fIx x))) + ((pV S (fIx st) 13) + ((fAb (pV S (fIx st) 14)) / 4))))))) - (bH S1 y_151)), (nI (fIx x)), (bW S1 y_151), 0, (-1), (bW S1 y_151), ((bH S1 (fIx x)) + (((pV S (fIx st) 13) + ((fAb (pV S (fIx st) 14)) / 4)) + (fHf ((bH S1 y_151) - ((fEx S1 (nI (fIx x))) + ((pV S (fIx st) 13) + ((fAb (pV S (fIx st) 14)) / 4)))))))], (bW S1 (fIx x)), 0)))⟩, hk⟩ dX4_root_389 (Nat.le_of_ble_eq_true rfl) (Nat.le_of_ble_eq_true rfl)
            · have kb_182 : ¬ rmk S ((if ro_r S st x k = (-1) then 1 else 0) + 1) := by rw [if_pos hrd, show (1 : Int32) + 1 = 2 from rfl]; exact fun z9 => z9 (Int32.not_le.mp c_146)
              refine lv_iconst (v := 4) hx hb dX4_root_158 (by decide) ?_
              refine lv_goto (tgt := 163) hx hb dX4_root_159 (by decide) ?_
              refine mw_put (D := gD G) (ci := 4) (v := .int 4) (ty := .int) (C := RX4) (T := TX4) (N := 21) hx hb htb inX4 tyX4 tyX4_ok nmX4 hown hK hP hS hT.1 hT.2.2.2.1 rfl 0 (by decide) (htb _ wd524) (fun _ h9 => h9) rfl (by decide +kernel) rfl rfl (Nat.le_of_ble_eq_true rfl) dX4_root_163 (fun H locs hP hS => ?_)
              obtain ⟨M_183, hM_183⟩ : ∃ z9 : mw_M, z9 = mw_up M_12 o (.inr (4, [.int 4, .ref (A 0), .int (sSp S), .int (sSh S), .int (nI (sN S)), .ref (A 1), .ref (A 2), .ref (A 3), .ref (A 4), .ref (A 5), .ref (A 6), .ref (A 7), .int (nI np13), .ref (A 8), .ref (A 9), .ref (A 10), .ref (A 11), .ref (A 12), .ref (A 13), .ref (A 14), .int (nI (fSz (fIx st)))])) := ⟨_, rfl⟩
              have hP : mw_P (gD G) gx_cl M_183 H := by rw [hM_183]; exact hP
              have hT : md_at G o A M_183 4 (sSp S) (sSh S) (nI (sN S)) (nI np13) (nI (fSz (fIx st))) g13 := md_at.fld hT hM_183
              have hk : md_keeps o A M M_183 := md_keeps.fld hk hM_183
              refine lv_aload_n hx hb dX4_root_166 rfl (lv_at hl 4 rfl) ?_
              refine mw_get (D := gD G) (ci := 4) (v := .int 4) (C := RX4) (T := TX4) (N := 21) hx hb htb inX4 hown hK hP hT.1 rfl 0 (by decide) (htb _ wd524) (fun _ h9 => h9) rfl dX4_root_167 ?_
              refine lv_if_le (tgt := 175) hx hb dX4_root_170 (by decide) (fun c_184 => absurd c_184 (by decide)) (fun c_184 => ?_)
              refine lv_iconst (v := 0) hx hb dX4_root_173 (by decide) ?_
              have hex : ex_root S st x k = 4 := by rw [ex_root, if_neg (fun z9 => z9 ⟨kb_5, kb_7⟩), if_neg (fun z9 => z9 kb_9), if_neg (fun z9 => z9 kG), if_pos (fun z9 => kb_182 z9)]
              exact mx_iret (v := 0) (M' := M_183) hx hb hr hlocks hP hS ⟨by rw [hex]; rfl, ⟨_, by rw [hex]; exact (⟨np13, bg13, g13, hT, hB⟩ : md_R G o A M_183 4 (nI (fSz (fIx st))) S)⟩, hk⟩ dX4_root_174 (Nat.le_of_ble_eq_true rfl) (Nat.le_of_ble_eq_true rfl)
      · have kb_185 : ¬ (isT st) := bI_f c_8
        refine lv_iconst (v := 2) hx hb dX4_root_27 (by decide) ?_
        refine lv_goto (tgt := 32) hx hb dX4_root_28 (by decide) ?_
        refine mw_put (D := gD G) (ci := 4) (v := .int 2) (ty := .int) (C := RX4) (T := TX4) (N := 21) hx hb htb inX4 tyX4 tyX4_ok nmX4 hown hK hP hS hT.1 hT.2.2.2.1 rfl 0 (by decide) (htb _ wd524) (fun _ h9 => h9) rfl (by decide +kernel) rfl rfl (Nat.le_of_ble_eq_true rfl) dX4_root_32 (fun H locs hP hS => ?_)
        obtain ⟨M_186, hM_186⟩ : ∃ z9 : mw_M, z9 = mw_up M o (.inr (4, [.int 2, .ref (A 0), .int (sSp S), .int (sSh S), .int (nI (sN S)), .ref (A 1), .ref (A 2), .ref (A 3), .ref (A 4), .ref (A 5), .ref (A 6), .ref (A 7), .int (nI np), .ref (A 8), .ref (A 9), .ref (A 10), .ref (A 11), .ref (A 12), .ref (A 13), .ref (A 14), .int z])) := ⟨_, rfl⟩
        have hP : mw_P (gD G) gx_cl M_186 H := by rw [hM_186]; exact hP
        have hT : md_at G o A M_186 2 (sSp S) (sSh S) (nI (sN S)) (nI np) z g := md_at.fld hT hM_186
        have hk : md_keeps o A M M_186 := md_keeps.fld hk hM_186
        refine lv_aload_n hx hb dX4_root_35 rfl (lv_at hl 0 rfl) ?_
        refine mw_get (D := gD G) (ci := 4) (v := .int 2) (C := RX4) (T := TX4) (N := 21) hx hb htb inX4 hown hK hP hT.1 rfl 0 (by decide) (htb _ wd524) (fun _ h9 => h9) rfl dX4_root_36 ?_
        refine lv_if_le (tgt := 44) hx hb dX4_root_39 (by decide) (fun c_187 => absurd c_187 (by decide)) (fun c_187 => ?_)
        refine lv_iconst (v := 0) hx hb dX4_root_42 (by decide) ?_
        have hex : ex_root S st x k = 2 := by rw [ex_root, if_neg (fun z9 => z9 ⟨kb_5, kb_7⟩), if_pos (fun z9 => kb_185 z9)]
        exact mx_iret (v := 0) (M' := M_186) hx hb hr hlocks hP hS ⟨by rw [hex]; rfl, ⟨_, by rw [hex]; exact (⟨np, bg, g, hT, hB⟩ : md_R G o A M_186 2 z S)⟩, hk⟩ dX4_root_43 (Nat.le_of_ble_eq_true rfl) (Nat.le_of_ble_eq_true rfl)
    · have kb_188 : ¬ (isF k) := bI_f c_6
      refine lv_iconst (v := 1) hx hb dX4_root_16 (by decide) ?_
      refine lv_goto (tgt := 32) hx hb dX4_root_17 (by decide) ?_
      refine mw_put (D := gD G) (ci := 4) (v := .int 1) (ty := .int) (C := RX4) (T := TX4) (N := 21) hx hb htb inX4 tyX4 tyX4_ok nmX4 hown hK hP hS hT.1 hT.2.2.2.1 rfl 0 (by decide) (htb _ wd524) (fun _ h9 => h9) rfl (by decide +kernel) rfl rfl (Nat.le_of_ble_eq_true rfl) dX4_root_32 (fun H locs hP hS => ?_)
      obtain ⟨M_189, hM_189⟩ : ∃ z9 : mw_M, z9 = mw_up M o (.inr (4, [.int 1, .ref (A 0), .int (sSp S), .int (sSh S), .int (nI (sN S)), .ref (A 1), .ref (A 2), .ref (A 3), .ref (A 4), .ref (A 5), .ref (A 6), .ref (A 7), .int (nI np), .ref (A 8), .ref (A 9), .ref (A 10), .ref (A 11), .ref (A 12), .ref (A 13), .ref (A 14), .int z])) := ⟨_, rfl⟩
      have hP : mw_P (gD G) gx_cl M_189 H := by rw [hM_189]; exact hP
      have hT : md_at G o A M_189 1 (sSp S) (sSh S) (nI (sN S)) (nI np) z g := md_at.fld hT hM_189
      have hk : md_keeps o A M M_189 := md_keeps.fld hk hM_189
      refine lv_aload_n hx hb dX4_root_35 rfl (lv_at hl 0 rfl) ?_
      refine mw_get (D := gD G) (ci := 4) (v := .int 1) (C := RX4) (T := TX4) (N := 21) hx hb htb inX4 hown hK hP hT.1 rfl 0 (by decide) (htb _ wd524) (fun _ h9 => h9) rfl dX4_root_36 ?_
      refine lv_if_le (tgt := 44) hx hb dX4_root_39 (by decide) (fun c_190 => absurd c_190 (by decide)) (fun c_190 => ?_)
      refine lv_iconst (v := 0) hx hb dX4_root_42 (by decide) ?_
      have hex : ex_root S st x k = 1 := by rw [ex_root, if_pos (fun z9 => kb_188 z9.2)]
      exact mx_iret (v := 0) (M' := M_189) hx hb hr hlocks hP hS ⟨by rw [hex]; rfl, ⟨_, by rw [hex]; exact (⟨np, bg, g, hT, hB⟩ : md_R G o A M_189 1 z S)⟩, hk⟩ dX4_root_43 (Nat.le_of_ble_eq_true rfl) (Nat.le_of_ble_eq_true rfl)
