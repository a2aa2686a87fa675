/-! printed by wip/whole/spec*.py -/
-- X4_brackets
set_option maxHeartbeats 4000000 in
set_option maxRecDepth 100000 in
theorem kX4_brackets (l : Launch) (htr : l.stackTraces = false) (G : gx_G) (sz : Nat) (M : mw_M) (o : Nat) (A : Nat → Nat) (th z : Int32) (S : fs_S) (hR : md_R G o A M th z S) (hok : fs_ok S) (st a x b : Int32) : g_Met l G yX4_brackets (.code yX4_brackets cX4_brackets 13 (some .int)) ({ frames := 5, cells := 0, slots := 0, locals := 200 } : Room) sz M [.ref o, .int st, .int a, .int x, .int b] (md_Mk G o A M S (ex_brackets S st a x b) (fs_push (br_S S st a x b) (re_brackets S st a x b)) (some (.int (if ex_brackets S st a x b = 0 then nI (sN (br_S S st a x b)) else 0)))) (fun _ => False) := by
  refine MetE.ofW (cc := cX4_brackets) (maxL := 13) (ret := (some .int)) (by decide) rfl ?_
  intro p e s m args below meth c s₁ B hml hv
  obtain ⟨rfl, hsz, hP, hE⟩ := hv
  have hx := B.exec
  have hb := B.bytes
  have hr := B.returns
  have hts := atoms_spec (ws := _ :: lw_big) B.pre
  have htb : ∀ w ∈ lw_big, w.before _ s = true := fun w h => hts w (List.mem_cons_of_mem _ h)
  have hno := B.noHandlers (hts _ List.mem_cons_self)
  have hown : s.vm.findClass RX4 = some m.cls := findClass_of_methodNamed B.named
  have hlocks := B.notSynchronized
  have hK := hE.1
  subst hsz
  have hS : va_S (gA G) s.heap s.heap [] := va_S.rf
  have hl := lv_entry ([.ref o, .int st, .int a, .int x, .int b]) (n := 13) (Nat.le_of_ble_eq_true rfl)
  rw [lg_entry_eq]
  generalize (lg_sl ([.ref o, .int st, .int a, .int x, .int b]) ++ List.replicate (13 - (lg_sl ([.ref o, .int st, .int a, .int x, .int b])).length) Slot.unset).toArray = ls at hl ⊢
  have hl : lv_has ls 13 [(0, .ref o), (1, .int st), (2, .int a), (3, .int x), (4, .int b)] := hl
  obtain ⟨np, bg, g, hT, hB⟩ := id hR
  have hk : md_keeps o A M M := md_keeps.rf o A M
  have hle : sN S ≤ 120 := hB.1
  refine lv_aload_n hx hb dX4_brackets_0 rfl (lv_at hl 0 rfl) ?_
  refine lv_iload_n hx hb dX4_brackets_1 rfl (lv_at hl 2 rfl) ?_
  refine mw_callS (As := [.int a]) (rest := [.ref o]) hx hb hml hown hl (kX4_isFamily l htr G s.heap.size M a) (g_B (n := 1) htb wd620 wd3 wd618 (by decide +kernel) ⟨Nat.le_of_ble_eq_true rfl, Nat.le_of_ble_eq_true rfl⟩) (htb _ wd619) hE hP hS rfl rfl (Nat.le_of_ble_eq_true rfl) dX4_brackets_2 ⟨Nat.le_of_ble_eq_true rfl, Nat.le_of_ble_eq_true rfl⟩ (fun v9 M9 H locs hpo hP hz hS => ?_) (fun x9 E9 cell9 H9 locs9 hE9 => hE9.elim)
  obtain ⟨rfl, rfl⟩ := hpo
  refine W.eq (g2 := F0 m 5 ls [.int (bI (isF a)), .ref o]) rfl ?_
  refine lv_if_eq (tgt := 24) hx hb dX4_brackets_5 (by decide) (fun c_1 => ?_) (fun c_1 => ?_)
  · have kb_2 : ¬ (isF a) := bI_f c_1
    refine lv_iconst (v := 1) hx hb dX4_brackets_24 (by decide) ?_
    refine lv_goto (tgt := 40) hx hb dX4_brackets_25 (by decide) ?_
    refine mw_put (D := gD G) (ci := 4) (v := .int 1) (ty := .int) (C := RX4) (T := TX4) (N := 21) hx hb htb inX4 tyX4 tyX4_ok nmX4 hown hK hP hS hT.1 hT.2.2.2.1 rfl 0 (by decide) (htb _ wd524) (fun _ h9 => h9) rfl (by decide +kernel) rfl rfl (Nat.le_of_ble_eq_true rfl) dX4_brackets_40 (fun H locs hP hS => ?_)
    obtain ⟨M_3, hM_3⟩ : ∃ z9 : mw_M, z9 = mw_up M o (.inr (4, [.int 1, .ref (A 0), .int (sSp S), .int (sSh S), .int (nI (sN S)), .ref (A 1), .ref (A 2), .ref (A 3), .ref (A 4), .ref (A 5), .ref (A 6), .ref (A 7), .int (nI np), .ref (A 8), .ref (A 9), .ref (A 10), .ref (A 11), .ref (A 12), .ref (A 13), .ref (A 14), .int z])) := ⟨_, rfl⟩
    have hP : mw_P (gD G) gx_cl M_3 H := by rw [hM_3]; exact hP
    have hT : md_at G o A M_3 1 (sSp S) (sSh S) (nI (sN S)) (nI np) z g := md_at.fld hT hM_3
    have hk : md_keeps o A M M_3 := md_keeps.fld hk hM_3
    refine lv_aload_n hx hb dX4_brackets_43 rfl (lv_at hl 0 rfl) ?_
    refine mw_get (D := gD G) (ci := 4) (v := .int 1) (C := RX4) (T := TX4) (N := 21) hx hb htb inX4 hown hK hP hT.1 rfl 0 (by decide) (htb _ wd524) (fun _ h9 => h9) rfl dX4_brackets_44 ?_
    refine lv_if_le (tgt := 52) hx hb dX4_brackets_47 (by decide) (fun c_4 => absurd c_4 (by decide)) (fun c_4 => ?_)
    refine lv_iconst (v := 0) hx hb dX4_brackets_50 (by decide) ?_
    have hex : ex_brackets S st a x b = 1 := by rw [ex_brackets, if_pos (fun z9 => kb_2 z9.1)]
    exact mx_iret (v := 0) (M' := M_3) hx hb hr hlocks hP hS ⟨by rw [hex]; rfl, ⟨_, by rw [hex]; exact (⟨np, bg, g, hT, hB⟩ : md_R G o A M_3 1 z S)⟩, hk⟩ dX4_brackets_51 (Nat.le_of_ble_eq_true rfl) (Nat.le_of_ble_eq_true rfl)
  · have kb_5 : isF a := bI_t c_1
    have h_a := isF_lt kb_5
    have e_a := fIx_of kb_5.1
    rw [e_a] at hl
    obtain ⟨oa1, oa2, oa3, oa4, oa5, oa6⟩ := hok.2.2 (fIx a) h_a
    refine lv_aload_n hx hb dX4_brackets_8 rfl (lv_at hl 0 rfl) ?_
    refine lv_iload_n hx hb dX4_brackets_9 rfl (lv_at hl 3 rfl) ?_
    refine mw_callV (C := RX4) (As := [.int x]) (rest := [.ref o]) hx hb hml hown hl (kX4_isBox l htr G H.size M o A th z S (⟨np, bg, g, hT, hB⟩ : md_R G o A M th z S) x) (g_B (n := 1) htb wd624 wd3 wd621 (by decide +kernel) ⟨Nat.le_of_ble_eq_true rfl, Nat.le_of_ble_eq_true rfl⟩) (htb _ wd623) (htb _ ws27) hE hP hS hT.1 rfl rfl rfl (Nat.le_of_ble_eq_true rfl) dX4_brackets_10 ⟨Nat.le_of_ble_eq_true rfl, Nat.le_of_ble_eq_true rfl⟩ (fun v9 M9 H locs hpo hP hz hS => ?_) (fun x9 E9 cell9 H9 locs9 hE9 => hE9.elim)
    obtain ⟨rfl, rfl⟩ := hpo
    refine W.eq (g2 := F0 m 13 ls [.int (bI (isB S x)), .ref o]) rfl ?_
    refine lv_if_eq (tgt := 24) hx hb dX4_brackets_13 (by decide) (fun c_6 => ?_) (fun c_6 => ?_)
    · have kb_7 : ¬ (isB S x) := bI_f c_6
      refine lv_iconst (v := 1) hx hb dX4_brackets_24 (by decide) ?_
      refine lv_goto (tgt := 40) hx hb dX4_brackets_25 (by decide) ?_
      refine mw_put (D := gD G) (ci := 4) (v := .int 1) (ty := .int) (C := RX4) (T := TX4) (N := 21) hx hb htb inX4 tyX4 tyX4_ok nmX4 hown hK hP hS hT.1 hT.2.2.2.1 rfl 0 (by decide) (htb _ wd524) (fun _ h9 => h9) rfl (by decide +kernel) rfl rfl (Nat.le_of_ble_eq_true rfl) dX4_brackets_40 (fun H locs hP hS => ?_)
      obtain ⟨M_8, hM_8⟩ : ∃ z9 : mw_M, z9 = mw_up M o (.inr (4, [.int 1, .ref (A 0), .int (sSp S), .int (sSh S), .int (nI (sN S)), .ref (A 1), .ref (A 2), .ref (A 3), .ref (A 4), .ref (A 5), .ref (A 6), .ref (A 7), .int (nI np), .ref (A 8), .ref (A 9), .ref (A 10), .ref (A 11), .ref (A 12), .ref (A 13), .ref (A 14), .int z])) := ⟨_, rfl⟩
      have hP : mw_P (gD G) gx_cl M_8 H := by rw [hM_8]; exact hP
      have hT : md_at G o A M_8 1 (sSp S) (sSh S) (nI (sN S)) (nI np) z g := md_at.fld hT hM_8
      have hk : md_keeps o A M M_8 := md_keeps.fld hk hM_8
      refine lv_aload_n hx hb dX4_brackets_43 rfl (lv_at hl 0 rfl) ?_
      refine mw_get (D := gD G) (ci := 4) (v := .int 1) (C := RX4) (T := TX4) (N := 21) hx hb htb inX4 hown hK hP hT.1 rfl 0 (by decide) (htb _ wd524) (fun _ h9 => h9) rfl dX4_brackets_44 ?_
      refine lv_if_le (tgt := 52) hx hb dX4_brackets_47 (by decide) (fun c_9 => absurd c_9 (by decide)) (fun c_9 => ?_)
      refine lv_iconst (v := 0) hx hb dX4_brackets_50 (by decide) ?_
      have hex : ex_brackets S st a x b = 1 := by rw [ex_brackets, if_pos (fun z9 => kb_7 z9.2.1)]
      exact mx_iret (v := 0) (M' := M_8) hx hb hr hlocks hP hS ⟨by rw [hex]; rfl, ⟨_, by rw [hex]; exact (⟨np, bg, g, hT, hB⟩ : md_R G o A M_8 1 z S)⟩, hk⟩ dX4_brackets_51 (Nat.le_of_ble_eq_true rfl) (Nat.le_of_ble_eq_true rfl)
    · have kb_10 : isB S x := bI_t c_6
      have h_x := isB_lt kb_10 hle
      have e_x := fIx_of kb_10.1
      rw [e_x] at hl
      refine lv_iload hx hb dX4_brackets_16 (lv_at hl 4 rfl) ?_
      refine mw_callS (As := [.int b]) (rest := [.ref o]) hx hb hml hown hl (kX4_isFamily l htr G H.size M b) (g_B (n := 1) htb wd620 wd3 wd618 (by decide +kernel) ⟨Nat.le_of_ble_eq_true rfl, Nat.le_of_ble_eq_true rfl⟩) (htb _ wd619) hE hP hS rfl rfl (Nat.le_of_ble_eq_true rfl) dX4_brackets_18 ⟨Nat.le_of_ble_eq_true rfl, Nat.le_of_ble_eq_true rfl⟩ (fun v9 M9 H locs hpo hP hz hS => ?_) (fun x9 E9 cell9 H9 locs9 hE9 => hE9.elim)
      obtain ⟨rfl, rfl⟩ := hpo
      refine W.eq (g2 := F0 m 21 ls [.int (bI (isF b)), .ref o]) rfl ?_
      refine lv_if_ne (tgt := 28) hx hb dX4_brackets_21 (by decide) (fun c_11 => ?_) (fun c_11 => ?_)
      · have kb_12 : isF b := bI_t c_11
        have h_b := isF_lt kb_12
        have e_b := fIx_of kb_12.1
        rw [e_b] at hl
        obtain ⟨ob1, ob2, ob3, ob4, ob5, ob6⟩ := hok.2.2 (fIx b) h_b
        refine lv_iload_n hx hb dX4_brackets_28 rfl (lv_at hl 1 rfl) ?_
        refine mw_callS (As := [.int st]) (rest := [.ref o]) hx hb hml hown hl (kX4_isStyle l htr G H.size M st) (g_B (n := 1) htb wd671 wd3 wd669 (by decide +kernel) ⟨Nat.le_of_ble_eq_true rfl, Nat.le_of_ble_eq_true rfl⟩) (htb _ wd670) hE hP hS rfl rfl (Nat.le_of_ble_eq_true rfl) dX4_brackets_29 ⟨Nat.le_of_ble_eq_true rfl, Nat.le_of_ble_eq_true rfl⟩ (fun v9 M9 H locs hpo hP hz hS => ?_) (fun x9 E9 cell9 H9 locs9 hE9 => hE9.elim)
        obtain ⟨rfl, rfl⟩ := hpo
        refine W.eq (g2 := F0 m 32 ls [.int (bI (isT st)), .ref o]) rfl ?_
        refine lv_if_ne (tgt := 39) hx hb dX4_brackets_32 (by decide) (fun c_13 => ?_) (fun c_13 => ?_)
        · have kb_14 : isT st := bI_t c_13
          have h_st := isT_lt kb_14
          have e_st := fIx_of kb_14.1
          rw [e_st] at hl
          refine lv_iconst (v := 0) hx hb dX4_brackets_39 (by decide) ?_
          refine mw_put (D := gD G) (ci := 4) (v := .int 0) (ty := .int) (C := RX4) (T := TX4) (N := 21) hx hb htb inX4 tyX4 tyX4_ok nmX4 hown hK hP hS hT.1 hT.2.2.2.1 rfl 0 (by decide) (htb _ wd524) (fun _ h9 => h9) rfl (by decide +kernel) rfl rfl (Nat.le_of_ble_eq_true rfl) dX4_brackets_40 (fun H locs hP hS => ?_)
          obtain ⟨M_15, hM_15⟩ : ∃ z9 : mw_M, z9 = mw_up M o (.inr (4, [.int 0, .ref (A 0), .int (sSp S), .int (sSh S), .int (nI (sN S)), .ref (A 1), .ref (A 2), .ref (A 3), .ref (A 4), .ref (A 5), .ref (A 6), .ref (A 7), .int (nI np), .ref (A 8), .ref (A 9), .ref (A 10), .ref (A 11), .ref (A 12), .ref (A 13), .ref (A 14), .int z])) := ⟨_, rfl⟩
          have hP : mw_P (gD G) gx_cl M_15 H := by rw [hM_15]; exact hP
          have hT : md_at G o A M_15 0 (sSp S) (sSh S) (nI (sN S)) (nI np) z g := md_at.fld hT hM_15
          have hk : md_keeps o A M M_15 := md_keeps.fld hk hM_15
          refine lv_aload_n hx hb dX4_brackets_43 rfl (lv_at hl 0 rfl) ?_
          refine mw_get (D := gD G) (ci := 4) (v := .int 0) (C := RX4) (T := TX4) (N := 21) hx hb htb inX4 hown hK hP hT.1 rfl 0 (by decide) (htb _ wd524) (fun _ h9 => h9) rfl dX4_brackets_44 ?_
          refine lv_if_le (tgt := 52) hx hb dX4_brackets_47 (by decide) (fun c_16 => ?_) (fun c_16 => absurd (by decide) c_16)
          refine lv_aload_n hx hb dX4_brackets_52 rfl (lv_at hl 0 rfl) ?_
          refine lv_iload_n hx hb dX4_brackets_53 rfl (lv_at hl 1 rfl) ?_
          refine mw_callV (C := RX4) (As := [.int (nI (fIx st))]) (rest := []) hx hb hml hown hl (kX4_use l htr G H.size M_15 o A 0 z S (⟨np, bg, g, hT, hB⟩ : md_R G o A M_15 0 z S) (fIx st) h_st) (g_B (n := 1) htb wd675 wd3 wd672 (by decide +kernel) ⟨Nat.le_of_ble_eq_true rfl, Nat.le_of_ble_eq_true rfl⟩) (htb _ wd674) (htb _ ws35) hE hP hS hT.1 rfl rfl rfl (Nat.le_of_ble_eq_true rfl) dX4_brackets_54 ⟨Nat.le_of_ble_eq_true rfl, Nat.le_of_ble_eq_true rfl⟩ (fun v9 M9 H locs hpo hP hz hS => ?_) (fun x9 E9 cell9 H9 locs9 hE9 => hE9.elim)
          obtain ⟨rfl, hRn, hkn⟩ := hpo
          obtain ⟨M_17, hM_17⟩ : ∃ z9 : mw_M, z9 = M9 := ⟨_, rfl⟩
          rw [← hM_17] at hP hRn hkn
          have hk := md_keeps.tr hk hkn
          obtain ⟨np18, bg18, g18, hT, hB⟩ := id hRn
          refine W.eq (g2 := F0 m 57 ls []) rfl ?_
          refine lv_aload_n hx hb dX4_brackets_57 rfl (lv_at hl 0 rfl) ?_
          refine mw_get (D := gD G) (ci := 4) (v := .ref (A 2)) (C := RX4) (T := TX4) (N := 21) hx hb htb inX4 hown hK hP hT.1 rfl 6 (by decide) (htb _ wd530) (fun _ h9 => h9) rfl dX4_brackets_58 ?_
          refine lv_iload_n hx hb dX4_brackets_61 rfl (lv_at hl 3 rfl) ?_
          refine mw_iald hx hb hK hP 0 (show M_17 (A 2) = some (.inl (gI G, 120, .inl (g18 2))) from hT.2.1 2 (by decide)) rfl (by exact vp_in_nI (show (fIx x) < 120 by have := hle; omega) (by decide)) dX4_brackets_62 ?_
          refine W.eq (g2 := F0 m 63 ls [.int (bH S (fIx x))]) (by rw [nI_clamp (show (fIx x) < 2 ^ 31 by have := hle; omega), hB.H h_x]) ?_
          refine lv_aload_n hx hb dX4_brackets_63 rfl (lv_at hl 0 rfl) ?_
          refine lv_iconst (v := 0) hx hb dX4_brackets_64 (by decide) ?_
          refine mw_callV (C := RX4) (As := [.int 0]) (rest := [.int (bH S (fIx x))]) hx hb hml hown hl (kX4_p l htr G H.size M_17 o A 0 S (fIx st) 0 h_st (by decide) (⟨np18, bg18, g18, hT, hB⟩ : md_R G o A M_17 0 (nI (fSz (fIx st))) S)) (g_B (n := 1) htb wd679 wd3 wd676 (by decide +kernel) ⟨Nat.le_of_ble_eq_true rfl, Nat.le_of_ble_eq_true rfl⟩) (htb _ wd678) (htb _ ws36) hE hP hS hT.1 rfl rfl rfl (Nat.le_of_ble_eq_true rfl) dX4_brackets_65 ⟨Nat.le_of_ble_eq_true rfl, Nat.le_of_ble_eq_true rfl⟩ (fun v9 M9 H locs hpo hP hz hS => ?_) (fun x9 E9 cell9 H9 locs9 hE9 => hE9.elim)
          obtain ⟨rfl, rfl⟩ := hpo
          refine W.eq (g2 := F0 m 68 ls [.int (pV S (fIx st) 0), .int (bH S (fIx x))]) rfl ?_
          refine lv_isub hx hb dX4_brackets_68 ?_
          refine lv_aload_n hx hb dX4_brackets_69 rfl (lv_at hl 0 rfl) ?_
          refine mw_get (D := gD G) (ci := 4) (v := .ref (A 3)) (C := RX4) (T := TX4) (N := 21) hx hb htb inX4 hown hK hP hT.1 rfl 7 (by decide) (htb _ wd531) (fun _ h9 => h9) rfl dX4_brackets_70 ?_
          refine lv_iload_n hx hb dX4_brackets_73 rfl (lv_at hl 3 rfl) ?_
          refine mw_iald hx hb hK hP 0 (show M_17 (A 3) = some (.inl (gI G, 120, .inl (g18 3))) from hT.2.1 3 (by decide)) rfl (by exact vp_in_nI (show (fIx x) < 120 by have := hle; omega) (by decide)) dX4_brackets_74 ?_
          refine W.eq (g2 := F0 m 75 ls [.int (bD S (fIx x)), .int ((bH S (fIx x)) - (pV S (fIx st) 0))]) (by rw [nI_clamp (show (fIx x) < 2 ^ 31 by have := hle; omega), hB.D h_x]) ?_
          refine lv_aload_n hx hb dX4_brackets_75 rfl (lv_at hl 0 rfl) ?_
          refine lv_iconst (v := 0) hx hb dX4_brackets_76 (by decide) ?_
          refine mw_callV (C := RX4) (As := [.int 0]) (rest := [.int (bD S (fIx x)), .int ((bH S (fIx x)) - (pV S (fIx st) 0))]) hx hb hml hown hl (kX4_p l htr G H.size M_17 o A 0 S (fIx st) 0 h_st (by decide) (⟨np18, bg18, g18, hT, hB⟩ : md_R G o A M_17 0 (nI (fSz (fIx st))) S)) (g_B (n := 1) htb wd679 wd3 wd676 (by decide +kernel) ⟨Nat.le_of_ble_eq_true rfl, Nat.le_of_ble_eq_true rfl⟩) (htb _ wd678) (htb _ ws36) hE hP hS hT.1 rfl rfl rfl (Nat.le_of_ble_eq_true rfl) dX4_brackets_77 ⟨Nat.le_of_ble_eq_true rfl, Nat.le_of_ble_eq_true rfl⟩ (fun v9 M9 H locs hpo hP hz hS => ?_) (fun x9 E9 cell9 H9 locs9 hE9 => hE9.elim)
          obtain ⟨rfl, rfl⟩ := hpo
          refine W.eq (g2 := F0 m 80 ls [.int (pV S (fIx st) 0), .int (bD S (fIx x)), .int ((bH S (fIx x)) - (pV S (fIx st) 0))]) rfl ?_
          refine lv_iadd hx hb dX4_brackets_80 ?_
          refine mw_callS (As := [.int ((bH S (fIx x)) - (pV S (fIx st) 0)), .int ((bD S (fIx x)) + (pV S (fIx st) 0))]) (rest := []) hx hb hml hown hl (kX4_greater l htr G H.size M_17 ((bH S (fIx x)) - (pV S (fIx st) 0)) ((bD S (fIx x)) + (pV S (fIx st) 0))) (g_B (n := 2) htb wd664 wd3 wd662 (by decide +kernel) ⟨Nat.le_of_ble_eq_true rfl, Nat.le_of_ble_eq_true rfl⟩) (htb _ wd663) hE hP hS rfl rfl (Nat.le_of_ble_eq_true rfl) dX4_brackets_81 ⟨Nat.le_of_ble_eq_true rfl, Nat.le_of_ble_eq_true rfl⟩ (fun v9 M9 H locs hpo hP hz hS => ?_) (fun x9 E9 cell9 H9 locs9 hE9 => hE9.elim)
          obtain ⟨rfl, rfl⟩ := hpo
          refine W.eq (g2 := F0 m 84 ls [.int (fMx ((bH S (fIx x)) - (pV S (fIx st) 0)) ((bD S (fIx x)) + (pV S (fIx st) 0)))]) rfl ?_
          refine lv_istore (lv' := [(5, .int (fMx ((bH S (fIx x)) - (pV S (fIx st) 0)) ((bD S (fIx x)) + (pV S (fIx st) 0)))), (0, .ref o), (1, .int (nI (fIx st))), (2, .int (nI (fIx a))), (3, .int (nI (fIx x))), (4, .int (nI (fIx b)))]) hx hb dX4_brackets_84 hl (by decide) rfl (fun ls hl => ?_)
          refine lv_iconst (v := 0) hx hb dX4_brackets_86 (by decide) ?_
          refine lv_iload hx hb dX4_brackets_87 (lv_at hl 0 rfl) ?_
          refine lv_sipush (v := 500) hx hb dX4_brackets_89 (by decide) ?_
          refine lv_idiv hx hb dX4_brackets_92 (by decide) ?_
          refine lv_sipush (v := 901) hx hb dX4_brackets_93 (by decide) ?_
          refine lv_imul hx hb dX4_brackets_96 ?_
          refine lv_iconst (v := 2) hx hb dX4_brackets_97 (by decide) ?_
          refine lv_iload hx hb dX4_brackets_98 (lv_at hl 0 rfl) ?_
          refine lv_imul hx hb dX4_brackets_100 ?_
          refine lv_aload_n hx hb dX4_brackets_101 rfl (lv_at hl 1 rfl) ?_
          refine mw_get (D := gD G) (ci := 4) (v := .int (sSh S)) (C := RX4) (T := TX4) (N := 21) hx hb htb inX4 hown hK hP hT.1 rfl 3 (by decide) (htb _ wd527) (fun _ h9 => h9) rfl dX4_brackets_102 ?_
          refine lv_isub hx hb dX4_brackets_105 ?_
          refine mw_callS (As := [.int (((fMx ((bH S (fIx x)) - (pV S (fIx st) 0)) ((bD S (fIx x)) + (pV S (fIx st) 0))) / 500) * 901), .int ((2 * (fMx ((bH S (fIx x)) - (pV S (fIx st) 0)) ((bD S (fIx x)) + (pV S (fIx st) 0)))) - (sSh S))]) (rest := [.int 0]) hx hb hml hown hl (kX4_greater l htr G H.size M_17 (((fMx ((bH S (fIx x)) - (pV S (fIx st) 0)) ((bD S (fIx x)) + (pV S (fIx st) 0))) / 500) * 901) ((2 * (fMx ((bH S (fIx x)) - (pV S (fIx st) 0)) ((bD S (fIx x)) + (pV S (fIx st) 0)))) - (sSh S))) (g_B (n := 2) htb wd664 wd3 wd662 (by decide +kernel) ⟨Nat.le_of_ble_eq_true rfl, Nat.le_of_ble_eq_true rfl⟩) (htb _ wd663) hE hP hS rfl rfl (Nat.le_of_ble_eq_true rfl) dX4_brackets_106 ⟨Nat.le_of_ble_eq_true rfl, Nat.le_of_ble_eq_true rfl⟩ (fun v9 M9 H locs hpo hP hz hS => ?_) (fun x9 E9 cell9 H9 locs9 hE9 => hE9.elim)
          obtain ⟨rfl, rfl⟩ := hpo
          refine W.eq (g2 := F0 m 109 ls [.int (fMx (((fMx ((bH S (fIx x)) - (pV S (fIx st) 0)) ((bD S (fIx x)) + (pV S (fIx st) 0))) / 500) * 901) ((2 * (fMx ((bH S (fIx x)) - (pV S (fIx st) 0)) ((bD S (fIx x)) + (pV S (fIx st) 0)))) - (sSh S))), .int 0]) rfl ?_
          refine mw_callS (As := [.int 0, .int (fMx (((fMx ((bH S (fIx x)) - (pV S (fIx st) 0)) ((bD S (fIx x)) + (pV S (fIx st) 0))) / 500) * 901) ((2 * (fMx ((bH S (fIx x)) - (pV S (fIx st) 0)) ((bD S (fIx x)) + (pV S (fIx st) 0)))) - (sSh S)))]) (rest := []) hx hb hml hown hl (kX4_greater l htr G H.size M_17 0 (fMx (((fMx ((bH S (fIx x)) - (pV S (fIx st) 0)) ((bD S (fIx x)) + (pV S (fIx st) 0))) / 500) * 901) ((2 * (fMx ((bH S (fIx x)) - (pV S (fIx st) 0)) ((bD S (fIx x)) + (pV S (fIx st) 0)))) - (sSh S)))) (g_B (n := 2) htb wd664 wd3 wd662 (by decide +kernel) ⟨Nat.le_of_ble_eq_true rfl, Nat.le_of_ble_eq_true rfl⟩) (htb _ wd663) hE hP hS rfl rfl (Nat.le_of_ble_eq_true rfl) dX4_brackets_109 ⟨Nat.le_of_ble_eq_true rfl, Nat.le_of_ble_eq_true rfl⟩ (fun v9 M9 H locs hpo hP hz hS => ?_) (fun x9 E9 cell9 H9 locs9 hE9 => hE9.elim)
          obtain ⟨rfl, rfl⟩ := hpo
          refine W.eq (g2 := F0 m 112 ls [.int (fMx 0 (fMx (((fMx ((bH S (fIx x)) - (pV S (fIx st) 0)) ((bD S (fIx x)) + (pV S (fIx st) 0))) / 500) * 901) ((2 * (fMx ((bH S (fIx x)) - (pV S (fIx st) 0)) ((bD S (fIx x)) + (pV S (fIx st) 0)))) - (sSh S))))]) rfl ?_
          refine lv_istore (lv' := [(6, .int (fMx 0 (fMx (((fMx ((bH S (fIx x)) - (pV S (fIx st) 0)) ((bD S (fIx x)) + (pV S (fIx st) 0))) / 500) * 901) ((2 * (fMx ((bH S (fIx x)) - (pV S (fIx st) 0)) ((bD S (fIx x)) + (pV S (fIx st) 0)))) - (sSh S))))), (5, .int (fMx ((bH S (fIx x)) - (pV S (fIx st) 0)) ((bD S (fIx x)) + (pV S (fIx st) 0)))), (0, .ref o), (1, .int (nI (fIx st))), (2, .int (nI (fIx a))), (3, .int (nI (fIx x))), (4, .int (nI (fIx b)))]) hx hb dX4_brackets_112 hl (by decide) rfl (fun ls hl => ?_)
          refine lv_aload_n hx hb dX4_brackets_114 rfl (lv_at hl 2 rfl) ?_
          refine lv_iload_n hx hb dX4_brackets_115 rfl (lv_at hl 4 rfl) ?_
          refine lv_iload hx hb dX4_brackets_116 (lv_at hl 0 rfl) ?_
          have eL : (fMx 0 (fMx (((fMx ((bH S (fIx x)) - (pV S (fIx st) 0)) ((bD S (fIx x)) + (pV S (fIx st) 0))) / 500) * 901) ((2 * (fMx ((bH S (fIx x)) - (pV S (fIx st) 0)) ((bD S (fIx x)) + (pV S (fIx st) 0)))) - (sSh S)))) = br_l S st x := rfl
          rw [eL] at hl
          rw [eL]
          refine mw_callV (C := RX4) (As := [.int (nI (fIx a)), .int (br_l S st x)]) (rest := []) hx hb hml hown hl (kX4_plan l htr G H.size M_17 o A 0 (nI (fSz (fIx st))) S (⟨np18, bg18, g18, hT, hB⟩ : md_R G o A M_17 0 (nI (fSz (fIx st))) S) hok (fIx a) h_a (br_l S st x)) (g_B (n := 2) htb wd641 wd3 wd638 (by decide +kernel) ⟨Nat.le_of_ble_eq_true rfl, Nat.le_of_ble_eq_true rfl⟩) (htb _ wd640) (htb _ ws29) hE hP hS hT.1 rfl rfl rfl (Nat.le_of_ble_eq_true rfl) dX4_brackets_118 ⟨Nat.le_of_ble_eq_true rfl, Nat.le_of_ble_eq_true rfl⟩ (fun v9 M9 H locs hpo hP hz hS => ?_) (fun x9 E9 cell9 H9 locs9 hE9 => hE9.elim)
          obtain ⟨rfl, rfl⟩ := hpo
          refine W.eq (g2 := F0 m 121 ls [.int (md_pl S (sF S (fIx a)) (br_l S st x))]) rfl ?_
          refine lv_istore (lv' := [(7, .int (md_pl S (sF S (fIx a)) (br_l S st x))), (6, .int (br_l S st x)), (5, .int (fMx ((bH S (fIx x)) - (pV S (fIx st) 0)) ((bD S (fIx x)) + (pV S (fIx st) 0)))), (0, .ref o), (1, .int (nI (fIx st))), (2, .int (nI (fIx a))), (3, .int (nI (fIx x))), (4, .int (nI (fIx b)))]) hx hb dX4_brackets_121 hl (by decide) rfl (fun ls hl => ?_)
          refine lv_aload_n hx hb dX4_brackets_123 rfl (lv_at hl 3 rfl) ?_
          refine lv_iload hx hb dX4_brackets_124 (lv_at hl 7 rfl) ?_
          refine lv_iload hx hb dX4_brackets_126 (lv_at hl 1 rfl) ?_
          refine mw_callV (C := RX4) (As := [.int (nI (fIx b)), .int (br_l S st x)]) (rest := []) hx hb hml hown hl (kX4_plan l htr G H.size M_17 o A 0 (nI (fSz (fIx st))) S (⟨np18, bg18, g18, hT, hB⟩ : md_R G o A M_17 0 (nI (fSz (fIx st))) S) hok (fIx b) h_b (br_l S st x)) (g_B (n := 2) htb wd641 wd3 wd638 (by decide +kernel) ⟨Nat.le_of_ble_eq_true rfl, Nat.le_of_ble_eq_true rfl⟩) (htb _ wd640) (htb _ ws29) hE hP hS hT.1 rfl rfl rfl (Nat.le_of_ble_eq_true rfl) dX4_brackets_128 ⟨Nat.le_of_ble_eq_true rfl, Nat.le_of_ble_eq_true rfl⟩ (fun v9 M9 H locs hpo hP hz hS => ?_) (fun x9 E9 cell9 H9 locs9 hE9 => hE9.elim)
          obtain ⟨rfl, rfl⟩ := hpo
          refine W.eq (g2 := F0 m 131 ls [.int (md_pl S (sF S (fIx b)) (br_l S st x))]) rfl ?_
          refine lv_istore (lv' := [(8, .int (md_pl S (sF S (fIx b)) (br_l S st x))), (7, .int (md_pl S (sF S (fIx a)) (br_l S st x))), (6, .int (br_l S st x)), (5, .int (fMx ((bH S (fIx x)) - (pV S (fIx st) 0)) ((bD S (fIx x)) + (pV S (fIx st) 0)))), (0, .ref o), (1, .int (nI (fIx st))), (2, .int (nI (fIx a))), (3, .int (nI (fIx x))), (4, .int (nI (fIx b)))]) hx hb dX4_brackets_131 hl (by decide) rfl (fun ls hl => ?_)
          refine lv_iconst (v := 1) hx hb dX4_brackets_133 (by decide) ?_
          refine lv_iload hx hb dX4_brackets_134 (lv_at hl 1 rfl) ?_
          refine lv_bipush (v := (-3)) hx hb dX4_brackets_136 (by decide) ?_
          refine lv_icmp_ne (tgt := 145) hx hb dX4_brackets_138 (by decide) (fun c_19 => ?_) (fun c_19 => ?_)
          · refine lv_iconst (v := 0) hx hb dX4_brackets_145 (by decide) ?_
            refine lv_iadd hx hb dX4_brackets_146 ?_
            refine lv_iload hx hb dX4_brackets_147 (lv_at hl 0 rfl) ?_
            refine lv_bipush (v := (-3)) hx hb dX4_brackets_149 (by decide) ?_
            refine lv_icmp_ne (tgt := 158) hx hb dX4_brackets_151 (by decide) (fun c_20 => ?_) (fun c_20 => ?_)
            · refine lv_iconst (v := 0) hx hb dX4_brackets_158 (by decide) ?_
              refine lv_iadd hx hb dX4_brackets_159 ?_
              refine lv_istore (lv' := [(9, .int ((1 + 0) + 0)), (8, .int (md_pl S (sF S (fIx b)) (br_l S st x))), (7, .int (md_pl S (sF S (fIx a)) (br_l S st x))), (6, .int (br_l S st x)), (5, .int (fMx ((bH S (fIx x)) - (pV S (fIx st) 0)) ((bD S (fIx x)) + (pV S (fIx st) 0)))), (0, .ref o), (1, .int (nI (fIx st))), (2, .int (nI (fIx a))), (3, .int (nI (fIx x))), (4, .int (nI (fIx b)))]) hx hb dX4_brackets_160 hl (by decide) rfl (fun ls hl => ?_)
              refine lv_aload_n hx hb dX4_brackets_162 rfl (lv_at hl 5 rfl) ?_
              refine lv_iload hx hb dX4_brackets_163 (lv_at hl 2 rfl) ?_
              refine lv_bipush (v := (-2)) hx hb dX4_brackets_165 (by decide) ?_
              refine lv_icmp_eq (tgt := 177) hx hb dX4_brackets_167 (by decide) (fun c_21 => ?_) (fun c_21 => ?_)
              · have kGa : ¬ isG S (fIx a) := fun z9 => z9 ((pl_2 hle oa1 oa2).mp c_21)
                refine lv_iconst (v := 3) hx hb dX4_brackets_177 (by decide) ?_
                refine lv_goto (tgt := 198) hx hb dX4_brackets_178 (by decide) ?_
                refine mw_put (D := gD G) (ci := 4) (v := .int 3) (ty := .int) (C := RX4) (T := TX4) (N := 21) hx hb htb inX4 tyX4 tyX4_ok nmX4 hown hK hP hS hT.1 hT.2.2.2.1 rfl 0 (by decide) (htb _ wd524) (fun _ h9 => h9) rfl (by decide +kernel) rfl rfl (Nat.le_of_ble_eq_true rfl) dX4_brackets_198 (fun H locs hP hS => ?_)
                obtain ⟨M_22, hM_22⟩ : ∃ z9 : mw_M, z9 = mw_up M_17 o (.inr (4, [.int 3, .ref (A 0), .int (sSp S), .int (sSh S), .int (nI (sN S)), .ref (A 1), .ref (A 2), .ref (A 3), .ref (A 4), .ref (A 5), .ref (A 6), .ref (A 7), .int (nI np18), .ref (A 8), .ref (A 9), .ref (A 10), .ref (A 11), .ref (A 12), .ref (A 13), .ref (A 14), .int (nI (fSz (fIx st)))])) := ⟨_, rfl⟩
                have hP : mw_P (gD G) gx_cl M_22 H := by rw [hM_22]; exact hP
                have hT : md_at G o A M_22 3 (sSp S) (sSh S) (nI (sN S)) (nI np18) (nI (fSz (fIx st))) g18 := md_at.fld hT hM_22
                have hk : md_keeps o A M M_22 := md_keeps.fld hk hM_22
                refine lv_aload_n hx hb dX4_brackets_201 rfl (lv_at hl 5 rfl) ?_
                refine mw_get (D := gD G) (ci := 4) (v := .int 3) (C := RX4) (T := TX4) (N := 21) hx hb htb inX4 hown hK hP hT.1 rfl 0 (by decide) (htb _ wd524) (fun _ h9 => h9) rfl dX4_brackets_202 ?_
                refine lv_if_le (tgt := 210) hx hb dX4_brackets_205 (by decide) (fun c_23 => absurd c_23 (by decide)) (fun c_23 => ?_)
                refine lv_iconst (v := 0) hx hb dX4_brackets_208 (by decide) ?_
                have hex : ex_brackets S st a x b = 3 := by rw [ex_brackets, if_neg (fun z9 => z9 ⟨kb_5, kb_10, kb_12⟩), if_neg (fun z9 => z9 kb_14), if_pos (fun z9 => kGa z9.1)]
                exact mx_iret (v := 0) (M' := M_22) hx hb hr hlocks hP hS ⟨by rw [hex]; rfl, ⟨_, by rw [hex]; exact (⟨np18, bg18, g18, hT, hB⟩ : md_R G o A M_22 3 (nI (fSz (fIx st))) S)⟩, hk⟩ dX4_brackets_209 (Nat.le_of_ble_eq_true rfl) (Nat.le_of_ble_eq_true rfl)
              · have kGa : isG S (fIx a) := fun z9 => c_21 ((pl_2 hle oa1 oa2).mpr z9)
                have hra : ¬ br_r S st x a = (-1) := (pl_n3 hle oa1 oa2 kGa c_19).2
                refine lv_iload hx hb dX4_brackets_170 (lv_at hl 1 rfl) ?_
                refine lv_bipush (v := (-2)) hx hb dX4_brackets_172 (by decide) ?_
                refine lv_icmp_ne (tgt := 181) hx hb dX4_brackets_174 (by decide) (fun c_24 => ?_) (fun c_24 => ?_)
                · have kGb : isG S (fIx b) := fun z9 => c_24 ((pl_2 hle ob1 ob2).mpr z9)
                  have hrb : ¬ br_r S st x b = (-1) := (pl_n3 hle ob1 ob2 kGb c_20).2
                  refine lv_aload_n hx hb dX4_brackets_181 rfl (lv_at hl 5 rfl) ?_
                  refine mw_get (D := gD G) (ci := 4) (v := .int (nI (sN S))) (C := RX4) (T := TX4) (N := 21) hx hb htb inX4 hown hK hP hT.1 rfl 4 (by decide) (htb _ wd528) (fun _ h9 => h9) rfl dX4_brackets_182 ?_
                  refine lv_iload hx hb dX4_brackets_185 (lv_at hl 0 rfl) ?_
                  refine lv_iadd hx hb dX4_brackets_187 ?_
                  refine lv_bipush (v := 120) hx hb dX4_brackets_188 (by decide) ?_
                  refine lv_icmp_le (tgt := 197) hx hb dX4_brackets_190 (by decide) (fun c_25 => ?_) (fun c_25 => ?_)
                  · have kb_26 : rmk S ((if br_r S st x a = (-1) then 1 else 0) + (if br_r S st x b = (-1) then 1 else 0) + 1) := by rw [if_neg hra, if_neg hrb, show (0 : Int32) + 0 + 1 = 1 + 0 + 0 from rfl]; exact Int32.not_lt.mpr c_25
                    have hrm : sN S + 1 ≤ 120 := rmk_le (n := 1) (by decide) hle (by rw [show nI 1 = (1 : Int32) + 0 + 0 from rfl]; exact Int32.not_lt.mpr c_25)
                    refine lv_iconst (v := 0) hx hb dX4_brackets_197 (by decide) ?_
                    refine mw_put (D := gD G) (ci := 4) (v := .int 0) (ty := .int) (C := RX4) (T := TX4) (N := 21) hx hb htb inX4 tyX4 tyX4_ok nmX4 hown hK hP hS hT.1 hT.2.2.2.1 rfl 0 (by decide) (htb _ wd524) (fun _ h9 => h9) rfl (by decide +kernel) rfl rfl (Nat.le_of_ble_eq_true rfl) dX4_brackets_198 (fun H locs hP hS => ?_)
                    obtain ⟨M_27, hM_27⟩ : ∃ z9 : mw_M, z9 = mw_up M_17 o (.inr (4, [.int 0, .ref (A 0), .int (sSp S), .int (sSh S), .int (nI (sN S)), .ref (A 1), .ref (A 2), .ref (A 3), .ref (A 4), .ref (A 5), .ref (A 6), .ref (A 7), .int (nI np18), .ref (A 8), .ref (A 9), .ref (A 10), .ref (A 11), .ref (A 12), .ref (A 13), .ref (A 14), .int (nI (fSz (fIx st)))])) := ⟨_, rfl⟩
                    have hP : mw_P (gD G) gx_cl M_27 H := by rw [hM_27]; exact hP
                    have hT : md_at G o A M_27 0 (sSp S) (sSh S) (nI (sN S)) (nI np18) (nI (fSz (fIx st))) g18 := md_at.fld hT hM_27
                    have hk : md_keeps o A M M_27 := md_keeps.fld hk hM_27
                    refine lv_aload_n hx hb dX4_brackets_201 rfl (lv_at hl 5 rfl) ?_
                    refine mw_get (D := gD G) (ci := 4) (v := .int 0) (C := RX4) (T := TX4) (N := 21) hx hb htb inX4 hown hK hP hT.1 rfl 0 (by decide) (htb _ wd524) (fun _ h9 => h9) rfl dX4_brackets_202 ?_
                    refine lv_if_le (tgt := 210) hx hb dX4_brackets_205 (by decide) (fun c_28 => ?_) (fun c_28 => absurd (by decide) c_28)
                    refine lv_aload_n hx hb dX4_brackets_210 rfl (lv_at hl 5 rfl) ?_
                    refine lv_iload_n hx hb dX4_brackets_211 rfl (lv_at hl 7 rfl) ?_
                    refine lv_iload hx hb dX4_brackets_212 (lv_at hl 3 rfl) ?_
                    refine mw_callV (C := RX4) (As := [.int (nI (fIx a)), .int (br_l S st x)]) (rest := []) hx hb hml hown hl (kX4_signBy l htr G H.size M_27 o A 0 (nI (fSz (fIx st))) S (⟨np18, bg18, g18, hT, hB⟩ : md_R G o A M_27 0 (nI (fSz (fIx st))) S) hok (fIx a) h_a (br_l S st x) kGa (fun z9 => by omega)) (g_B (n := 2) htb wd649 wd3 wd646 (by decide +kernel) ⟨Nat.le_of_ble_eq_true rfl, Nat.le_of_ble_eq_true rfl⟩) (htb _ wd648) (htb _ ws31) hE hP hS hT.1 rfl rfl rfl (Nat.le_of_ble_eq_true rfl) dX4_brackets_214 ⟨Nat.le_of_ble_eq_true rfl, Nat.le_of_ble_eq_true rfl⟩ (fun v9 M9 H locs hpo hP hz hS => ?_) (fun x9 E9 cell9 H9 locs9 hE9 => hE9.elim)
                    obtain ⟨rfl, hRn, hkn⟩ := hpo
                    obtain ⟨M_29, hM_29⟩ : ∃ z9 : mw_M, z9 = M9 := ⟨_, rfl⟩
                    rw [← hM_29] at hP hRn hkn
                    have hk := md_keeps.tr hk hkn
                    obtain ⟨S1, hS1⟩ : ∃ z9, z9 = br_S1 S st a x := ⟨_, rfl⟩
                    have hRn : md_R G o A M_29 0 (nI (fSz (fIx st))) S1 := by rw [hS1]; exact hRn
                    obtain ⟨hy1, hy2⟩ := kt_in (sF S (fIx a)) (br_l S st x) hle (fs_rd_on (br_l S st x) oa2)
                    obtain ⟨y_30, ey_30⟩ : ∃ z9, z9 = br_y S st a x := ⟨_, rfl⟩
                    have h_y_30 : y_30 < sN S1 := by rw [ey_30, hS1]; exact hy1
                    have hyA : kt_y S (fs_rd S (sF S (fIx a)) (br_l S st x)) = nI y_30 := by rw [ey_30]; exact hy2
                    have hle1 : sN S ≤ sN S1 := by rw [hS1]; exact kt_le _ _ _ _
                    have eF : sF S1 (fIx b) = sF S (fIx b) := by rw [hS1, br_S1, kt_F]
                    have hok1 : fs_ok S1 := by rw [hS1]; exact kt_ok hok h_a _ _ (fun _ => by omega)
                    have eR : fs_rd S1 (sF S (fIx b)) (br_l S st x) = br_r S st x b := by rw [hS1, br_S1]; exact rd_kt (Or.inl (by omega)) _ _ _ ob2
                    have h_x := Nat.lt_of_lt_of_le h_x hle1
                    obtain ⟨np31, bg31, g31, hT, hB⟩ := id hRn
                    have hle : sN S1 ≤ 120 := hB.1
                    refine W.eq (g2 := F0 m 217 ls [.int (nI y_30)]) (show F0 m 217 ls [.int (kt_y S (fs_rd S (sF S (fIx a)) (br_l S st x)))] = F0 m 217 ls [.int (nI y_30)] from by rw [hyA]) ?_
                    refine lv_istore (lv' := [(10, .int (nI y_30)), (9, .int ((1 + 0) + 0)), (8, .int (md_pl S (sF S (fIx b)) (br_l S st x))), (7, .int (md_pl S (sF S (fIx a)) (br_l S st x))), (6, .int (br_l S st x)), (5, .int (fMx ((bH S (fIx x)) - (pV S (fIx st) 0)) ((bD S (fIx x)) + (pV S (fIx st) 0)))), (0, .ref o), (1, .int (nI (fIx st))), (2, .int (nI (fIx a))), (3, .int (nI (fIx x))), (4, .int (nI (fIx b)))]) hx hb dX4_brackets_217 hl (by decide) rfl (fun ls hl => ?_)
                    refine lv_aload_n hx hb dX4_brackets_219 rfl (lv_at hl 6 rfl) ?_
                    refine lv_iload hx hb dX4_brackets_220 (lv_at hl 10 rfl) ?_
                    refine lv_iload hx hb dX4_brackets_222 (lv_at hl 4 rfl) ?_
                    refine mw_callV (C := RX4) (As := [.int (nI (fIx b)), .int (br_l S st x)]) (rest := []) hx hb hml hown hl (kX4_signBy l htr G H.size M_29 o A 0 (nI (fSz (fIx st))) S1 (⟨np31, bg31, g31, hT, hB⟩ : md_R G o A M_29 0 (nI (fSz (fIx st))) S1) hok1 (fIx b) h_b (br_l S st x) (show isG S1 (fIx b) from by unfold isG; rw [eF]; exact kGb) (fun z9 => by rw [hS1, br_S1, kt_n, if_neg hra]; omega)) (g_B (n := 2) htb wd649 wd3 wd646 (by decide +kernel) ⟨Nat.le_of_ble_eq_true rfl, Nat.le_of_ble_eq_true rfl⟩) (htb _ wd648) (htb _ ws31) hE hP hS hT.1 rfl rfl rfl (Nat.le_of_ble_eq_true rfl) dX4_brackets_224 ⟨Nat.le_of_ble_eq_true rfl, Nat.le_of_ble_eq_true rfl⟩ (fun v9 M9 H locs hpo hP hz hS => ?_) (fun x9 E9 cell9 H9 locs9 hE9 => hE9.elim)
                    obtain ⟨rfl, hRn, hkn⟩ := hpo
                    obtain ⟨M_32, hM_32⟩ : ∃ z9 : mw_M, z9 = M9 := ⟨_, rfl⟩
                    rw [← hM_32] at hP hRn hkn
                    have hk := md_keeps.tr hk hkn
                    rw [eF, eR] at hRn
                    obtain ⟨S2, hS2⟩ : ∃ z9, z9 = br_S S st a x b := ⟨_, rfl⟩
                    have hRn : md_R G o A M_32 0 (nI (fSz (fIx st))) S2 := by rw [hS2, br_S, ← hS1]; exact hRn
                    have on2 : fs_on S1 (br_r S st x b) := by rw [hS1, br_S1]; exact rd_on_kt ob2
                    obtain ⟨hy1, hy2⟩ := kt_in (sF S (fIx b)) (br_l S st x) hle on2
                    obtain ⟨y_33, ey_33⟩ : ∃ z9, z9 = br_z S st a x b := ⟨_, rfl⟩
                    have ez9 : y_33 = fIx (kt_y S1 (br_r S st x b)) := by rw [ey_33, br_z, ← hS1]
                    have h_y_33 : y_33 < sN S2 := by rw [ez9, hS2, br_S, ← hS1]; exact hy1
                    have hyB : kt_y S1 (fs_rd S1 (sF S1 (fIx b)) (br_l S st x)) = nI y_33 := by rw [eF, eR, ez9]; exact hy2
                    have hle2 : sN S1 ≤ sN S2 := by rw [hS2, br_S, ← hS1]; exact kt_le _ _ _ _
                    have h_x := Nat.lt_of_lt_of_le h_x hle2
                    have h_y_30 := Nat.lt_of_lt_of_le h_y_30 hle2
                    obtain ⟨np34, bg34, g34, hT, hB⟩ := id hRn
                    have hle : sN S2 ≤ 120 := hB.1
                    refine W.eq (g2 := F0 m 227 ls [.int (nI y_33)]) (show F0 m 227 ls [.int (kt_y S1 (fs_rd S1 (sF S1 (fIx b)) (br_l S st x)))] = F0 m 227 ls [.int (nI y_33)] from by rw [hyB]) ?_
                    refine lv_istore (lv' := [(11, .int (nI y_33)), (10, .int (nI y_30)), (9, .int ((1 + 0) + 0)), (8, .int (md_pl S (sF S (fIx b)) (br_l S st x))), (7, .int (md_pl S (sF S (fIx a)) (br_l S st x))), (6, .int (br_l S st x)), (5, .int (fMx ((bH S (fIx x)) - (pV S (fIx st) 0)) ((bD S (fIx x)) + (pV S (fIx st) 0)))), (0, .ref o), (1, .int (nI (fIx st))), (2, .int (nI (fIx a))), (3, .int (nI (fIx x))), (4, .int (nI (fIx b)))]) hx hb dX4_brackets_227 hl (by decide) rfl (fun ls hl => ?_)
                    refine lv_aload_n hx hb dX4_brackets_229 rfl (lv_at hl 7 rfl) ?_
                    refine lv_aload_n hx hb dX4_brackets_230 rfl (lv_at hl 7 rfl) ?_
                    refine mw_get (D := gD G) (ci := 4) (v := .ref (A 1)) (C := RX4) (T := TX4) (N := 21) hx hb htb inX4 hown hK hP hT.1 rfl 5 (by decide) (htb _ wd529) (fun _ h9 => h9) rfl dX4_brackets_231 ?_
                    refine lv_iload hx hb dX4_brackets_234 (lv_at hl 1 rfl) ?_
                    refine mw_iald hx hb hK hP 0 (show M_32 (A 1) = some (.inl (gI G, 120, .inl (g34 1))) from hT.2.1 1 (by decide)) rfl (by exact vp_in_nI (show y_30 < 120 by have := hle; omega) (by decide)) dX4_brackets_236 ?_
                    refine W.eq (g2 := F0 m 237 ls [.int (bW S2 y_30), .ref o]) (by rw [nI_clamp (show y_30 < 2 ^ 31 by have := hle; omega), hB.W h_y_30]) ?_
                    refine lv_aload_n hx hb dX4_brackets_237 rfl (lv_at hl 7 rfl) ?_
                    refine mw_get (D := gD G) (ci := 4) (v := .ref (A 1)) (C := RX4) (T := TX4) (N := 21) hx hb htb inX4 hown hK hP hT.1 rfl 5 (by decide) (htb _ wd529) (fun _ h9 => h9) rfl dX4_brackets_238 ?_
                    refine lv_iload_n hx hb dX4_brackets_241 rfl (lv_at hl 10 rfl) ?_
                    refine mw_iald hx hb hK hP 0 (show M_32 (A 1) = some (.inl (gI G, 120, .inl (g34 1))) from hT.2.1 1 (by decide)) rfl (by exact vp_in_nI (show (fIx x) < 120 by have := hle; omega) (by decide)) dX4_brackets_242 ?_
                    refine W.eq (g2 := F0 m 243 ls [.int (bW S2 (fIx x)), .int (bW S2 y_30), .ref o]) (by rw [nI_clamp (show (fIx x) < 2 ^ 31 by have := hle; omega), hB.W h_x]) ?_
                    refine lv_iadd hx hb dX4_brackets_243 ?_
                    refine lv_aload_n hx hb dX4_brackets_244 rfl (lv_at hl 7 rfl) ?_
                    refine mw_get (D := gD G) (ci := 4) (v := .ref (A 1)) (C := RX4) (T := TX4) (N := 21) hx hb htb inX4 hown hK hP hT.1 rfl 5 (by decide) (htb _ wd529) (fun _ h9 => h9) rfl dX4_brackets_245 ?_
                    refine lv_iload hx hb dX4_brackets_248 (lv_at hl 0 rfl) ?_
                    refine mw_iald hx hb hK hP 0 (show M_32 (A 1) = some (.inl (gI G, 120, .inl (g34 1))) from hT.2.1 1 (by decide)) rfl (by exact vp_in_nI (show y_33 < 120 by have := hle; omega) (by decide)) dX4_brackets_250 ?_
                    refine W.eq (g2 := F0 m 251 ls [.int (bW S2 y_33), .int ((bW S2 y_30) + (bW S2 (fIx x))), .ref o]) (by rw [nI_clamp (show y_33 < 2 ^ 31 by have := hle; omega), hB.W h_y_33]) ?_
                    refine lv_iadd hx hb dX4_brackets_251 ?_
                    refine lv_iconst (v := 0) hx hb dX4_brackets_252 (by decide) ?_
                    refine lv_iconst (v := 0) hx hb dX4_brackets_253 (by decide) ?_
                    refine mw_callV (C := RX4) (As := [.int (((bW S2 y_30) + (bW S2 (fIx x))) + (bW S2 y_33)), .int 0, .int 0]) (rest := []) hx hb hml hown hl (kX4_make l htr G H.size M_32 o A 0 (nI (fSz (fIx st))) S2 (⟨np34, bg34, g34, hT, hB⟩ : md_R G o A M_32 0 (nI (fSz (fIx st))) S2) (show sN S2 < 120 from by rw [hS2, br_S, kt_n, br_S1, kt_n, if_neg hrb, if_neg hra]; omega) (((bW S2 y_30) + (bW S2 (fIx x))) + (bW S2 y_33)) 0 0) (g_B (n := 3) htb wd613 wd3 wd610 (by decide +kernel) ⟨Nat.le_of_ble_eq_true rfl, Nat.le_of_ble_eq_true rfl⟩) (htb _ wd612) (htb _ ws26) hE hP hS hT.1 rfl rfl rfl (Nat.le_of_ble_eq_true rfl) dX4_brackets_254 ⟨Nat.le_of_ble_eq_true rfl, Nat.le_of_ble_eq_true rfl⟩ (fun v9 M9 H locs hpo hP hz hS => ?_) (fun x9 E9 cell9 H9 locs9 hE9 => hE9.elim)
                    have hle0 := hle
                    obtain ⟨rfl, hRn, hkn⟩ := hpo
                    obtain ⟨M_35, hM_35⟩ : ∃ z9 : mw_M, z9 = M9 := ⟨_, rfl⟩
                    rw [← hM_35] at hP hRn hkn
                    have hk := md_keeps.tr hk hkn
                    have hRn : md_R G o A M_35 0 (nI (fSz (fIx st))) (fs_push S2 ((((bW S2 y_30) + (bW S2 (fIx x))) + (bW S2 y_33)), 0, 0, [], 0, 0)) := hRn
                    obtain ⟨np36, bg36, g36, hT, hB⟩ := id hRn
                    rw [sN_push] at hT
                    have hT : md_at G o A M_35 0 (sSp S2) (sSh S2) (nI (sN S2 + 1)) (nI np36) (nI (fSz (fIx st))) g36 := hT
                    have hle : sN S2 + 1 ≤ 120 := by have := hB.1; rw [sN_push] at this; exact this
                    refine W.eq (g2 := F0 m 257 ls [.int (nI (sN S2))]) rfl ?_
                    refine lv_istore (lv' := [(12, .int (nI (sN S2))), (11, .int (nI y_33)), (10, .int (nI y_30)), (9, .int ((1 + 0) + 0)), (8, .int (md_pl S (sF S (fIx b)) (br_l S st x))), (7, .int (md_pl S (sF S (fIx a)) (br_l S st x))), (6, .int (br_l S st x)), (5, .int (fMx ((bH S (fIx x)) - (pV S (fIx st) 0)) ((bD S (fIx x)) + (pV S (fIx st) 0)))), (0, .ref o), (1, .int (nI (fIx st))), (2, .int (nI (fIx a))), (3, .int (nI (fIx x))), (4, .int (nI (fIx b)))]) hx hb dX4_brackets_257 hl (by decide) rfl (fun ls hl => ?_)
                    refine lv_aload_n hx hb dX4_brackets_259 rfl (lv_at hl 8 rfl) ?_
                    refine lv_iload hx hb dX4_brackets_260 (lv_at hl 2 rfl) ?_
                    refine lv_iconst (v := 0) hx hb dX4_brackets_262 (by decide) ?_
                    refine lv_aload_n hx hb dX4_brackets_263 rfl (lv_at hl 8 rfl) ?_
                    refine lv_iconst (v := 0) hx hb dX4_brackets_264 (by decide) ?_
                    refine mw_callV (C := RX4) (As := [.int 0]) (rest := [.int 0, .int (nI y_30), .ref o]) hx hb hml hown hl (kX4_p l htr G H.size M_35 o A 0 (fs_push S2 ((((bW S2 y_30) + (bW S2 (fIx x))) + (bW S2 y_33)), 0, 0, [], 0, 0)) (fIx st) 0 h_st (by decide) (md_R.of (np := np36) hT hB : md_R G o A M_35 0 (nI (fSz (fIx st))) (fs_push S2 ((((bW S2 y_30) + (bW S2 (fIx x))) + (bW S2 y_33)), 0, 0, [], 0, 0)))) (g_B (n := 1) htb wd679 wd3 wd676 (by decide +kernel) ⟨Nat.le_of_ble_eq_true rfl, Nat.le_of_ble_eq_true rfl⟩) (htb _ wd678) (htb _ ws36) hE hP hS hT.1 rfl rfl rfl (Nat.le_of_ble_eq_true rfl) dX4_brackets_265 ⟨Nat.le_of_ble_eq_true rfl, Nat.le_of_ble_eq_true rfl⟩ (fun v9 M9 H locs hpo hP hz hS => ?_) (fun x9 E9 cell9 H9 locs9 hE9 => hE9.elim)
                    obtain ⟨rfl, rfl⟩ := hpo
                    refine W.eq (g2 := F0 m 268 ls [.int (pV S2 (fIx st) 0), .int 0, .int (nI y_30), .ref o]) rfl ?_
                    refine lv_aload_n hx hb dX4_brackets_268 rfl (lv_at hl 8 rfl) ?_
                    refine mw_get (D := gD G) (ci := 4) (v := .ref (A 2)) (C := RX4) (T := TX4) (N := 21) hx hb htb inX4 hown hK hP hT.1 rfl 6 (by decide) (htb _ wd530) (fun _ h9 => h9) rfl dX4_brackets_269 ?_
                    refine lv_iload hx hb dX4_brackets_272 (lv_at hl 2 rfl) ?_
                    refine mw_iald hx hb hK hP 0 (show M_35 (A 2) = some (.inl (gI G, 120, .inl (g36 2))) from hT.2.1 2 (by decide)) rfl (by exact vp_in_nI (show y_30 < 120 by have := hle; omega) (by decide)) dX4_brackets_274 ?_
                    refine W.eq (g2 := F0 m 275 ls [.int (bH S2 y_30), .int (pV S2 (fIx st) 0), .int 0, .int (nI y_30), .ref o]) (by rw [nI_clamp (show y_30 < 2 ^ 31 by have := hle; omega), hB.H (show y_30 < sN (fs_push S2 ((((bW S2 y_30) + (bW S2 (fIx x))) + (bW S2 y_33)), 0, 0, [], 0, 0)) by rw [sN_push]; omega), bH_push _ h_y_30]) ?_
                    refine lv_aload_n hx hb dX4_brackets_275 rfl (lv_at hl 8 rfl) ?_
                    refine mw_get (D := gD G) (ci := 4) (v := .ref (A 3)) (C := RX4) (T := TX4) (N := 21) hx hb htb inX4 hown hK hP hT.1 rfl 7 (by decide) (htb _ wd531) (fun _ h9 => h9) rfl dX4_brackets_276 ?_
                    refine lv_iload hx hb dX4_brackets_279 (lv_at hl 2 rfl) ?_
                    refine mw_iald hx hb hK hP 0 (show M_35 (A 3) = some (.inl (gI G, 120, .inl (g36 3))) from hT.2.1 3 (by decide)) rfl (by exact vp_in_nI (show y_30 < 120 by have := hle; omega) (by decide)) dX4_brackets_281 ?_
                    refine W.eq (g2 := F0 m 282 ls [.int (bD S2 y_30), .int (bH S2 y_30), .int (pV S2 (fIx st) 0), .int 0, .int (nI y_30), .ref o]) (by rw [nI_clamp (show y_30 < 2 ^ 31 by have := hle; omega), hB.D (show y_30 < sN (fs_push S2 ((((bW S2 y_30) + (bW S2 (fIx x))) + (bW S2 y_33)), 0, 0, [], 0, 0)) by rw [sN_push]; omega), bD_push _ h_y_30]) ?_
                    refine lv_isub hx hb dX4_brackets_282 ?_
                    refine mw_callS (As := [.int ((bH S2 y_30) - (bD S2 y_30))]) (rest := [.int (pV S2 (fIx st) 0), .int 0, .int (nI y_30), .ref o]) hx hb hml hown hl (kX4_half l htr G H.size M_35 ((bH S2 y_30) - (bD S2 y_30))) (g_B (n := 1) htb wd682 wd3 wd680 (by decide +kernel) ⟨Nat.le_of_ble_eq_true rfl, Nat.le_of_ble_eq_true rfl⟩) (htb _ wd681) hE hP hS rfl rfl (Nat.le_of_ble_eq_true rfl) dX4_brackets_283 ⟨Nat.le_of_ble_eq_true rfl, Nat.le_of_ble_eq_true rfl⟩ (fun v9 M9 H locs hpo hP hz hS => ?_) (fun x9 E9 cell9 H9 locs9 hE9 => hE9.elim)
                    obtain ⟨rfl, rfl⟩ := hpo
                    refine W.eq (g2 := F0 m 286 ls [.int (fHf ((bH S2 y_30) - (bD S2 y_30))), .int (pV S2 (fIx st) 0), .int 0, .int (nI y_30), .ref o]) rfl ?_
                    refine lv_isub hx hb dX4_brackets_286 ?_
                    refine mw_callV (C := RX4) (As := [.int (nI y_30), .int 0, .int ((pV S2 (fIx st) 0) - (fHf ((bH S2 y_30) - (bD S2 y_30))))]) (rest := []) hx hb hml hown hl (kX4_lay l htr G H.size M_35 o A 0 (nI (fSz (fIx st))) S2 (((bW S2 y_30) + (bW S2 (fIx x))) + (bW S2 y_33)) 0 0 ([]) 0 0 (md_R.of (np := np36) hT hB : md_R G o A M_35 0 (nI (fSz (fIx st))) (fs_push S2 ((((bW S2 y_30) + (bW S2 (fIx x))) + (bW S2 y_33)), 0, 0, [], 0, 0))) (by simp) (nI y_30) 0 ((pV S2 (fIx st) 0) - (fHf ((bH S2 y_30) - (bD S2 y_30))))) (g_B (n := 3) htb wd661 wd3 wd658 (by decide +kernel) ⟨Nat.le_of_ble_eq_true rfl, Nat.le_of_ble_eq_true rfl⟩) (htb _ wd660) (htb _ ws34) hE hP hS hT.1 rfl rfl rfl (Nat.le_of_ble_eq_true rfl) dX4_brackets_287 ⟨Nat.le_of_ble_eq_true rfl, Nat.le_of_ble_eq_true rfl⟩ (fun v9 M9 H locs hpo hP hz hS => ?_) (fun x9 E9 cell9 H9 locs9 hE9 => hE9.elim)
                    obtain ⟨rfl, hRn, hkn⟩ := hpo
                    obtain ⟨M_37, hM_37⟩ : ∃ z9 : mw_M, z9 = M9 := ⟨_, rfl⟩
                    rw [← hM_37] at hP hRn hkn
                    have hk := md_keeps.tr hk hkn
                    have hRn : md_R G o A M_37 0 (nI (fSz (fIx st))) (fs_push S2 ((((bW S2 y_30) + (bW S2 (fIx x))) + (bW S2 y_33)), 0, 0, [(nI y_30), 0, ((pV S2 (fIx st) 0) - (fHf ((bH S2 y_30) - (bD S2 y_30))))], 0, 0)) := hRn
                    obtain ⟨np38, bg38, g38, hT, hB⟩ := id hRn
                    rw [sN_push] at hT
                    have hT : md_at G o A M_37 0 (sSp S2) (sSh S2) (nI (sN S2 + 1)) (nI np38) (nI (fSz (fIx st))) g38 := hT
                    refine W.eq (g2 := F0 m 290 ls []) rfl ?_
                    refine lv_aload_n hx hb dX4_brackets_290 rfl (lv_at hl 8 rfl) ?_
                    refine lv_iload_n hx hb dX4_brackets_291 rfl (lv_at hl 11 rfl) ?_
                    refine lv_aload_n hx hb dX4_brackets_292 rfl (lv_at hl 8 rfl) ?_
                    refine mw_get (D := gD G) (ci := 4) (v := .ref (A 1)) (C := RX4) (T := TX4) (N := 21) hx hb htb inX4 hown hK hP hT.1 rfl 5 (by decide) (htb _ wd529) (fun _ h9 => h9) rfl dX4_brackets_293 ?_
                    refine lv_iload hx hb dX4_brackets_296 (lv_at hl 2 rfl) ?_
                    refine mw_iald hx hb hK hP 0 (show M_37 (A 1) = some (.inl (gI G, 120, .inl (g38 1))) from hT.2.1 1 (by decide)) rfl (by exact vp_in_nI (show y_30 < 120 by have := hle; omega) (by decide)) dX4_brackets_298 ?_
                    refine W.eq (g2 := F0 m 299 ls [.int (bW S2 y_30), .int (nI (fIx x)), .ref o]) (by rw [nI_clamp (show y_30 < 2 ^ 31 by have := hle; omega), hB.W (show y_30 < sN (fs_push S2 ((((bW S2 y_30) + (bW S2 (fIx x))) + (bW S2 y_33)), 0, 0, [(nI y_30), 0, ((pV S2 (fIx st) 0) - (fHf ((bH S2 y_30) - (bD S2 y_30))))], 0, 0)) by rw [sN_push]; omega), bW_push _ h_y_30]) ?_
                    refine lv_iconst (v := 0) hx hb dX4_brackets_299 (by decide) ?_
                    refine mw_callV (C := RX4) (As := [.int (nI (fIx x)), .int (bW S2 y_30), .int 0]) (rest := []) hx hb hml hown hl (kX4_lay l htr G H.size M_37 o A 0 (nI (fSz (fIx st))) S2 (((bW S2 y_30) + (bW S2 (fIx x))) + (bW S2 y_33)) 0 0 ([(nI y_30), 0, ((pV S2 (fIx st) 0) - (fHf ((bH S2 y_30) - (bD S2 y_30))))]) 0 0 (md_R.of (np := np38) hT hB : md_R G o A M_37 0 (nI (fSz (fIx st))) (fs_push S2 ((((bW S2 y_30) + (bW S2 (fIx x))) + (bW S2 y_33)), 0, 0, [(nI y_30), 0, ((pV S2 (fIx st) 0) - (fHf ((bH S2 y_30) - (bD S2 y_30))))], 0, 0))) (by simp) (nI (fIx x)) (bW S2 y_30) 0) (g_B (n := 3) htb wd661 wd3 wd658 (by decide +kernel) ⟨Nat.le_of_ble_eq_true rfl, Nat.le_of_ble_eq_true rfl⟩) (htb _ wd660) (htb _ ws34) hE hP hS hT.1 rfl rfl rfl (Nat.le_of_ble_eq_true rfl) dX4_brackets_300 ⟨Nat.le_of_ble_eq_true rfl, Nat.le_of_ble_eq_true rfl⟩ (fun v9 M9 H locs hpo hP hz hS => ?_) (fun x9 E9 cell9 H9 locs9 hE9 => hE9.elim)
                    obtain ⟨rfl, hRn, hkn⟩ := hpo
                    obtain ⟨M_39, hM_39⟩ : ∃ z9 : mw_M, z9 = M9 := ⟨_, rfl⟩
                    rw [← hM_39] at hP hRn hkn
                    have hk := md_keeps.tr hk hkn
                    have hRn : md_R G o A M_39 0 (nI (fSz (fIx st))) (fs_push S2 ((((bW S2 y_30) + (bW S2 (fIx x))) + (bW S2 y_33)), 0, 0, [(nI y_30), 0, ((pV S2 (fIx st) 0) - (fHf ((bH S2 y_30) - (bD S2 y_30)))), (nI (fIx x)), (bW S2 y_30), 0], 0, 0)) := hRn
                    obtain ⟨np40, bg40, g40, hT, hB⟩ := id hRn
                    rw [sN_push] at hT
                    have hT : md_at G o A M_39 0 (sSp S2) (sSh S2) (nI (sN S2 + 1)) (nI np40) (nI (fSz (fIx st))) g40 := hT
                    refine W.eq (g2 := F0 m 303 ls []) rfl ?_
                    refine lv_aload_n hx hb dX4_brackets_303 rfl (lv_at hl 8 rfl) ?_
                    refine lv_iload hx hb dX4_brackets_304 (lv_at hl 1 rfl) ?_
                    refine lv_aload_n hx hb dX4_brackets_306 rfl (lv_at hl 8 rfl) ?_
                    refine mw_get (D := gD G) (ci := 4) (v := .ref (A 1)) (C := RX4) (T := TX4) (N := 21) hx hb htb inX4 hown hK hP hT.1 rfl 5 (by decide) (htb _ wd529) (fun _ h9 => h9) rfl dX4_brackets_307 ?_
                    refine lv_iload hx hb dX4_brackets_310 (lv_at hl 2 rfl) ?_
                    refine mw_iald hx hb hK hP 0 (show M_39 (A 1) = some (.inl (gI G, 120, .inl (g40 1))) from hT.2.1 1 (by decide)) rfl (by exact vp_in_nI (show y_30 < 120 by have := hle; omega) (by decide)) dX4_brackets_312 ?_
                    refine W.eq (g2 := F0 m 313 ls [.int (bW S2 y_30), .int (nI y_33), .ref o]) (by rw [nI_clamp (show y_30 < 2 ^ 31 by have := hle; omega), hB.W (show y_30 < sN (fs_push S2 ((((bW S2 y_30) + (bW S2 (fIx x))) + (bW S2 y_33)), 0, 0, [(nI y_30), 0, ((pV S2 (fIx st) 0) - (fHf ((bH S2 y_30) - (bD S2 y_30)))), (nI (fIx x)), (bW S2 y_30), 0], 0, 0)) by rw [sN_push]; omega), bW_push _ h_y_30]) ?_
                    refine lv_aload_n hx hb dX4_brackets_313 rfl (lv_at hl 8 rfl) ?_
                    refine mw_get (D := gD G) (ci := 4) (v := .ref (A 1)) (C := RX4) (T := TX4) (N := 21) hx hb htb inX4 hown hK hP hT.1 rfl 5 (by decide) (htb _ wd529) (fun _ h9 => h9) rfl dX4_brackets_314 ?_
                    refine lv_iload_n hx hb dX4_brackets_317 rfl (lv_at hl 11 rfl) ?_
                    refine mw_iald hx hb hK hP 0 (show M_39 (A 1) = some (.inl (gI G, 120, .inl (g40 1))) from hT.2.1 1 (by decide)) rfl (by exact vp_in_nI (show (fIx x) < 120 by have := hle; omega) (by decide)) dX4_brackets_318 ?_
                    refine W.eq (g2 := F0 m 319 ls [.int (bW S2 (fIx x)), .int (bW S2 y_30), .int (nI y_33), .ref o]) (by rw [nI_clamp (show (fIx x) < 2 ^ 31 by have := hle; omega), hB.W (show (fIx x) < sN (fs_push S2 ((((bW S2 y_30) + (bW S2 (fIx x))) + (bW S2 y_33)), 0, 0, [(nI y_30), 0, ((pV S2 (fIx st) 0) - (fHf ((bH S2 y_30) - (bD S2 y_30)))), (nI (fIx x)), (bW S2 y_30), 0], 0, 0)) by rw [sN_push]; omega), bW_push _ h_x]) ?_
                    refine lv_iadd hx hb dX4_brackets_319 ?_
                    refine lv_aload_n hx hb dX4_brackets_320 rfl (lv_at hl 8 rfl) ?_
                    refine lv_iconst (v := 0) hx hb dX4_brackets_321 (by decide) ?_
                    refine mw_callV (C := RX4) (As := [.int 0]) (rest := [.int ((bW S2 y_30) + (bW S2 (fIx x))), .int (nI y_33), .ref o]) hx hb hml hown hl (kX4_p l htr G H.size M_39 o A 0 (fs_push S2 ((((bW S2 y_30) + (bW S2 (fIx x))) + (bW S2 y_33)), 0, 0, [(nI y_30), 0, ((pV S2 (fIx st) 0) - (fHf ((bH S2 y_30) - (bD S2 y_30)))), (nI (fIx x)), (bW S2 y_30), 0], 0, 0)) (fIx st) 0 h_st (by decide) (md_R.of (np := np40) hT hB : md_R G o A M_39 0 (nI (fSz (fIx st))) (fs_push S2 ((((bW S2 y_30) + (bW S2 (fIx x))) + (bW S2 y_33)), 0, 0, [(nI y_30), 0, ((pV S2 (fIx st) 0) - (fHf ((bH S2 y_30) - (bD S2 y_30)))), (nI (fIx x)), (bW S2 y_30), 0], 0, 0)))) (g_B (n := 1) htb wd679 wd3 wd676 (by decide +kernel) ⟨Nat.le_of_ble_eq_true rfl, Nat.le_of_ble_eq_true rfl⟩) (htb _ wd678) (htb _ ws36) hE hP hS hT.1 rfl rfl rfl (Nat.le_of_ble_eq_true rfl) dX4_brackets_322 ⟨Nat.le_of_ble_eq_true rfl, Nat.le_of_ble_eq_true rfl⟩ (fun v9 M9 H locs hpo hP hz hS => ?_) (fun x9 E9 cell9 H9 locs9 hE9 => hE9.elim)
                    obtain ⟨rfl, rfl⟩ := hpo
                    refine W.eq (g2 := F0 m 325 ls [.int (pV S2 (fIx st) 0), .int ((bW S2 y_30) + (bW S2 (fIx x))), .int (nI y_33), .ref o]) rfl ?_
                    refine lv_aload_n hx hb dX4_brackets_325 rfl (lv_at hl 8 rfl) ?_
                    refine mw_get (D := gD G) (ci := 4) (v := .ref (A 2)) (C := RX4) (T := TX4) (N := 21) hx hb htb inX4 hown hK hP hT.1 rfl 6 (by decide) (htb _ wd530) (fun _ h9 => h9) rfl dX4_brackets_326 ?_
                    refine lv_iload hx hb dX4_brackets_329 (lv_at hl 1 rfl) ?_
                    refine mw_iald hx hb hK hP 0 (show M_39 (A 2) = some (.inl (gI G, 120, .inl (g40 2))) from hT.2.1 2 (by decide)) rfl (by exact vp_in_nI (show y_33 < 120 by have := hle; omega) (by decide)) dX4_brackets_331 ?_
                    refine W.eq (g2 := F0 m 332 ls [.int (bH S2 y_33), .int (pV S2 (fIx st) 0), .int ((bW S2 y_30) + (bW S2 (fIx x))), .int (nI y_33), .ref o]) (by rw [nI_clamp (show y_33 < 2 ^ 31 by have := hle; omega), hB.H (show y_33 < sN (fs_push S2 ((((bW S2 y_30) + (bW S2 (fIx x))) + (bW S2 y_33)), 0, 0, [(nI y_30), 0, ((pV S2 (fIx st) 0) - (fHf ((bH S2 y_30) - (bD S2 y_30)))), (nI (fIx x)), (bW S2 y_30), 0], 0, 0)) by rw [sN_push]; omega), bH_push _ h_y_33]) ?_
                    refine lv_aload_n hx hb dX4_brackets_332 rfl (lv_at hl 8 rfl) ?_
                    refine mw_get (D := gD G) (ci := 4) (v := .ref (A 3)) (C := RX4) (T := TX4) (N := 21) hx hb htb inX4 hown hK hP hT.1 rfl 7 (by decide) (htb _ wd531) (fun _ h9 => h9) rfl dX4_brackets_333 ?_
                    refine lv_iload hx hb dX4_brackets_336 (lv_at hl 1 rfl) ?_
                    refine mw_iald hx hb hK hP 0 (show M_39 (A 3) = some (.inl (gI G, 120, .inl (g40 3))) from hT.2.1 3 (by decide)) rfl (by exact vp_in_nI (show y_33 < 120 by have := hle; omega) (by decide)) dX4_brackets_338 ?_
                    refine W.eq (g2 := F0 m 339 ls [.int (bD S2 y_33), .int (bH S2 y_33), .int (pV S2 (fIx st) 0), .int ((bW S2 y_30) + (bW S2 (fIx x))), .int (nI y_33), .ref o]) (by rw [nI_clamp (show y_33 < 2 ^ 31 by have := hle; omega), hB.D (show y_33 < sN (fs_push S2 ((((bW S2 y_30) + (bW S2 (fIx x))) + (bW S2 y_33)), 0, 0, [(nI y_30), 0, ((pV S2 (fIx st) 0) - (fHf ((bH S2 y_30) - (bD S2 y_30)))), (nI (fIx x)), (bW S2 y_30), 0], 0, 0)) by rw [sN_push]; omega), bD_push _ h_y_33]) ?_
                    refine lv_isub hx hb dX4_brackets_339 ?_
                    refine mw_callS (As := [.int ((bH S2 y_33) - (bD S2 y_33))]) (rest := [.int (pV S2 (fIx st) 0), .int ((bW S2 y_30) + (bW S2 (fIx x))), .int (nI y_33), .ref o]) hx hb hml hown hl (kX4_half l htr G H.size M_39 ((bH S2 y_33) - (bD S2 y_33))) (g_B (n := 1) htb wd682 wd3 wd680 (by decide +kernel) ⟨Nat.le_of_ble_eq_true rfl, Nat.le_of_ble_eq_true rfl⟩) (htb _ wd681) hE hP hS rfl rfl (Nat.le_of_ble_eq_true rfl) dX4_brackets_340 ⟨Nat.le_of_ble_eq_true rfl, Nat.le_of_ble_eq_true rfl⟩ (fun v9 M9 H locs hpo hP hz hS => ?_) (fun x9 E9 cell9 H9 locs9 hE9 => hE9.elim)
                    obtain ⟨rfl, rfl⟩ := hpo
                    refine W.eq (g2 := F0 m 343 ls [.int (fHf ((bH S2 y_33) - (bD S2 y_33))), .int (pV S2 (fIx st) 0), .int ((bW S2 y_30) + (bW S2 (fIx x))), .int (nI y_33), .ref o]) rfl ?_
                    refine lv_isub hx hb dX4_brackets_343 ?_
                    refine mw_callV (C := RX4) (As := [.int (nI y_33), .int ((bW S2 y_30) + (bW S2 (fIx x))), .int ((pV S2 (fIx st) 0) - (fHf ((bH S2 y_33) - (bD S2 y_33))))]) (rest := []) hx hb hml hown hl (kX4_lay l htr G H.size M_39 o A 0 (nI (fSz (fIx st))) S2 (((bW S2 y_30) + (bW S2 (fIx x))) + (bW S2 y_33)) 0 0 ([(nI y_30), 0, ((pV S2 (fIx st) 0) - (fHf ((bH S2 y_30) - (bD S2 y_30)))), (nI (fIx x)), (bW S2 y_30), 0]) 0 0 (md_R.of (np := np40) hT hB : md_R G o A M_39 0 (nI (fSz (fIx st))) (fs_push S2 ((((bW S2 y_30) + (bW S2 (fIx x))) + (bW S2 y_33)), 0, 0, [(nI y_30), 0, ((pV S2 (fIx st) 0) - (fHf ((bH S2 y_30) - (bD S2 y_30)))), (nI (fIx x)), (bW S2 y_30), 0], 0, 0))) (by simp) (nI y_33) ((bW S2 y_30) + (bW S2 (fIx x))) ((pV S2 (fIx st) 0) - (fHf ((bH S2 y_33) - (bD S2 y_33))))) (g_B (n := 3) htb wd661 wd3 wd658 (by decide +kernel) ⟨Nat.le_of_ble_eq_true rfl, Nat.le_of_ble_eq_true rfl⟩) (htb _ wd660) (htb _ ws34) hE hP hS hT.1 rfl rfl rfl (Nat.le_of_ble_eq_true rfl) dX4_brackets_344 ⟨Nat.le_of_ble_eq_true rfl, Nat.le_of_ble_eq_true rfl⟩ (fun v9 M9 H locs hpo hP hz hS => ?_) (fun x9 E9 cell9 H9 locs9 hE9 => hE9.elim)
                    obtain ⟨rfl, hRn, hkn⟩ := hpo
                    obtain ⟨M_41, hM_41⟩ : ∃ z9 : mw_M, z9 = M9 := ⟨_, rfl⟩
                    rw [← hM_41] at hP hRn hkn
                    have hk := md_keeps.tr hk hkn
                    have hRn : md_R G o A M_41 0 (nI (fSz (fIx st))) (fs_push S2 ((((bW S2 y_30) + (bW S2 (fIx x))) + (bW S2 y_33)), 0, 0, [(nI y_30), 0, ((pV S2 (fIx st) 0) - (fHf ((bH S2 y_30) - (bD S2 y_30)))), (nI (fIx x)), (bW S2 y_30), 0, (nI y_33), ((bW S2 y_30) + (bW S2 (fIx x))), ((pV S2 (fIx st) 0) - (fHf ((bH S2 y_33) - (bD S2 y_33))))], 0, 0)) := hRn
                    obtain ⟨np42, bg42, g42, hT, hB⟩ := id hRn
                    rw [sN_push] at hT
                    have hT : md_at G o A M_41 0 (sSp S2) (sSh S2) (nI (sN S2 + 1)) (nI np42) (nI (fSz (fIx st))) g42 := hT
                    refine W.eq (g2 := F0 m 347 ls []) rfl ?_
                    refine lv_aload_n hx hb dX4_brackets_347 rfl (lv_at hl 8 rfl) ?_
                    refine mw_callV (C := RX4) (As := []) (rest := []) hx hb hml hown hl (kX4_reach l htr G H.size M_41 o A 0 (nI (fSz (fIx st))) S2 (((bW S2 y_30) + (bW S2 (fIx x))) + (bW S2 y_33)) [(nI y_30), 0, ((pV S2 (fIx st) 0) - (fHf ((bH S2 y_30) - (bD S2 y_30)))), (nI (fIx x)), (bW S2 y_30), 0, (nI y_33), ((bW S2 y_30) + (bW S2 (fIx x))), ((pV S2 (fIx st) 0) - (fHf ((bH S2 y_33) - (bD S2 y_33))))] (md_R.of (np := np42) hT hB : md_R G o A M_41 0 (nI (fSz (fIx st))) (fs_push S2 ((((bW S2 y_30) + (bW S2 (fIx x))) + (bW S2 y_33)), 0, 0, [(nI y_30), 0, ((pV S2 (fIx st) 0) - (fHf ((bH S2 y_30) - (bD S2 y_30)))), (nI (fIx x)), (bW S2 y_30), 0, (nI y_33), ((bW S2 y_30) + (bW S2 (fIx x))), ((pV S2 (fIx st) 0) - (fHf ((bH S2 y_33) - (bD S2 y_33))))], 0, 0))) (fun j hj => by
                        rcases (show j = 0 ∨ j = 1 ∨ j = 2 by simp at hj; omega) with rfl | rfl | rfl
                        · exact ⟨y_30, h_y_30, rfl⟩
                        · exact ⟨(fIx x), h_x, rfl⟩
                        · exact ⟨y_33, h_y_33, rfl⟩)) (g_B (n := 0) htb wd705 wd3 wd702 (by decide +kernel) ⟨Nat.le_of_ble_eq_true rfl, Nat.le_of_ble_eq_true rfl⟩) (htb _ wd704) (htb _ ws37) hE hP hS hT.1 rfl rfl rfl (Nat.le_of_ble_eq_true rfl) dX4_brackets_348 ⟨Nat.le_of_ble_eq_true rfl, Nat.le_of_ble_eq_true rfl⟩ (fun v9 M9 H locs hpo hP hz hS => ?_) (fun x9 E9 cell9 H9 locs9 hE9 => hE9.elim)
                    obtain ⟨rfl, hRn, hkn⟩ := hpo
                    obtain ⟨M_43, hM_43⟩ : ∃ z9 : mw_M, z9 = M9 := ⟨_, rfl⟩
                    rw [← hM_43] at hP hRn hkn
                    have hk := md_keeps.tr hk hkn
                    refine W.eq (g2 := F0 m 351 ls []) rfl ?_
                    refine lv_iload hx hb dX4_brackets_351 (lv_at hl 0 rfl) ?_
                    have hex : ex_brackets S st a x b = 0 := by rw [ex_brackets, if_neg (fun z9 => z9 ⟨kb_5, kb_10, kb_12⟩), if_neg (fun z9 => z9 kb_14), if_neg (fun z9 => z9 ⟨kGa, kGb⟩), if_neg (fun z9 => z9 kb_26)]
                    have hre : re_brackets S st a x b = (fs_en S2 (((bW S2 y_30) + (bW S2 (fIx x))) + (bW S2 y_33)) [(nI y_30), 0, ((pV S2 (fIx st) 0) - (fHf ((bH S2 y_30) - (bD S2 y_30)))), (nI (fIx x)), (bW S2 y_30), 0, (nI y_33), ((bW S2 y_30) + (bW S2 (fIx x))), ((pV S2 (fIx st) 0) - (fHf ((bH S2 y_33) - (bD S2 y_33))))]) := by rw [re_brackets, ← hS2, ← ey_30, ← ey_33]; rfl
                    exact mx_iret (v := (nI (sN S2))) (M' := M_43) hx hb hr hlocks hP hS ⟨by rw [hex, if_pos rfl, ← hS2], ⟨_, by rw [hex, if_pos rfl, ← hS2, hre]; exact hRn⟩, hk⟩ dX4_brackets_353 (Nat.le_of_ble_eq_true rfl) (Nat.le_of_ble_eq_true rfl)
                  · have kb_44 : ¬ rmk S ((if br_r S st x a = (-1) then 1 else 0) + (if br_r S st x b = (-1) then 1 else 0) + 1) := by rw [if_neg hra, if_neg hrb, show (0 : Int32) + 0 + 1 = 1 + 0 + 0 from rfl]; exact fun z9 => z9 (Int32.not_le.mp c_25)
                    refine lv_iconst (v := 4) hx hb dX4_brackets_193 (by decide) ?_
                    refine lv_goto (tgt := 198) hx hb dX4_brackets_194 (by decide) ?_
                    refine mw_put (D := gD G) (ci := 4) (v := .int 4) (ty := .int) (C := RX4) (T := TX4) (N := 21) hx hb htb inX4 tyX4 tyX4_ok nmX4 hown hK hP hS hT.1 hT.2.2.2.1 rfl 0 (by decide) (htb _ wd524) (fun _ h9 => h9) rfl (by decide +kernel) rfl rfl (Nat.le_of_ble_eq_true rfl) dX4_brackets_198 (fun H locs hP hS => ?_)
                    obtain ⟨M_45, hM_45⟩ : ∃ z9 : mw_M, z9 = mw_up M_17 o (.inr (4, [.int 4, .ref (A 0), .int (sSp S), .int (sSh S), .int (nI (sN S)), .ref (A 1), .ref (A 2), .ref (A 3), .ref (A 4), .ref (A 5), .ref (A 6), .ref (A 7), .int (nI np18), .ref (A 8), .ref (A 9), .ref (A 10), .ref (A 11), .ref (A 12), .ref (A 13), .ref (A 14), .int (nI (fSz (fIx st)))])) := ⟨_, rfl⟩
                    have hP : mw_P (gD G) gx_cl M_45 H := by rw [hM_45]; exact hP
                    have hT : md_at G o A M_45 4 (sSp S) (sSh S) (nI (sN S)) (nI np18) (nI (fSz (fIx st))) g18 := md_at.fld hT hM_45
                    have hk : md_keeps o A M M_45 := md_keeps.fld hk hM_45
                    refine lv_aload_n hx hb dX4_brackets_201 rfl (lv_at hl 5 rfl) ?_
                    refine mw_get (D := gD G) (ci := 4) (v := .int 4) (C := RX4) (T := TX4) (N := 21) hx hb htb inX4 hown hK hP hT.1 rfl 0 (by decide) (htb _ wd524) (fun _ h9 => h9) rfl dX4_brackets_202 ?_
                    refine lv_if_le (tgt := 210) hx hb dX4_brackets_205 (by decide) (fun c_46 => absurd c_46 (by decide)) (fun c_46 => ?_)
                    refine lv_iconst (v := 0) hx hb dX4_brackets_208 (by decide) ?_
                    have hex : ex_brackets S st a x b = 4 := by rw [ex_brackets, if_neg (fun z9 => z9 ⟨kb_5, kb_10, kb_12⟩), if_neg (fun z9 => z9 kb_14), if_neg (fun z9 => z9 ⟨kGa, kGb⟩), if_pos (fun z9 => kb_44 z9)]
                    exact mx_iret (v := 0) (M' := M_45) hx hb hr hlocks hP hS ⟨by rw [hex]; rfl, ⟨_, by rw [hex]; exact (⟨np18, bg18, g18, hT, hB⟩ : md_R G o A M_45 4 (nI (fSz (fIx st))) S)⟩, hk⟩ dX4_brackets_209 (Nat.le_of_ble_eq_true rfl) (Nat.le_of_ble_eq_true rfl)
                · have kGb : ¬ isG S (fIx b) := fun z9 => z9 ((pl_2 hle ob1 ob2).mp c_24)
                  refine lv_iconst (v := 3) hx hb dX4_brackets_177 (by decide) ?_
                  refine lv_goto (tgt := 198) hx hb dX4_brackets_178 (by decide) ?_
                  refine mw_put (D := gD G) (ci := 4) (v := .int 3) (ty := .int) (C := RX4) (T := TX4) (N := 21) hx hb htb inX4 tyX4 tyX4_ok nmX4 hown hK hP hS hT.1 hT.2.2.2.1 rfl 0 (by decide) (htb _ wd524) (fun _ h9 => h9) rfl (by decide +kernel) rfl rfl (Nat.le_of_ble_eq_true rfl) dX4_brackets_198 (fun H locs hP hS => ?_)
                  obtain ⟨M_47, hM_47⟩ : ∃ z9 : mw_M, z9 = mw_up M_17 o (.inr (4, [.int 3, .ref (A 0), .int (sSp S), .int (sSh S), .int (nI (sN S)), .ref (A 1), .ref (A 2), .ref (A 3), .ref (A 4), .ref (A 5), .ref (A 6), .ref (A 7), .int (nI np18), .ref (A 8), .ref (A 9), .ref (A 10), .ref (A 11), .ref (A 12), .ref (A 13), .ref (A 14), .int (nI (fSz (fIx st)))])) := ⟨_, rfl⟩
                  have hP : mw_P (gD G) gx_cl M_47 H := by rw [hM_47]; exact hP
                  have hT : md_at G o A M_47 3 (sSp S) (sSh S) (nI (sN S)) (nI np18) (nI (fSz (fIx st))) g18 := md_at.fld hT hM_47
                  have hk : md_keeps o A M M_47 := md_keeps.fld hk hM_47
                  refine lv_aload_n hx hb dX4_brackets_201 rfl (lv_at hl 5 rfl) ?_
                  refine mw_get (D := gD G) (ci := 4) (v := .int 3) (C := RX4) (T := TX4) (N := 21) hx hb htb inX4 hown hK hP hT.1 rfl 0 (by decide) (htb _ wd524) (fun _ h9 => h9) rfl dX4_brackets_202 ?_
                  refine lv_if_le (tgt := 210) hx hb dX4_brackets_205 (by decide) (fun c_48 => absurd c_48 (by decide)) (fun c_48 => ?_)
                  refine lv_iconst (v := 0) hx hb dX4_brackets_208 (by decide) ?_
                  have hex : ex_brackets S st a x b = 3 := by rw [ex_brackets, if_neg (fun z9 => z9 ⟨kb_5, kb_10, kb_12⟩), if_neg (fun z9 => z9 kb_14), if_pos (fun z9 => kGb z9.2)]
                  exact mx_iret (v := 0) (M' := M_47) hx hb hr hlocks hP hS ⟨by rw [hex]; rfl, ⟨_, by rw [hex]; exact (⟨np18, bg18, g18, hT, hB⟩ : md_R G o A M_47 3 (nI (fSz (fIx st))) S)⟩, hk⟩ dX4_brackets_209 (Nat.le_of_ble_eq_true rfl) (Nat.le_of_ble_eq_true rfl)
            · obtain ⟨kGb, hrb⟩ := pl_3g hle ob1 ob2 c_20
              have hrb : br_r S st x b = (-1) := hrb
              refine lv_iconst (v := 1) hx hb dX4_brackets_154 (by decide) ?_
              refine lv_goto (tgt := 159) hx hb dX4_brackets_155 (by decide) ?_
              refine lv_iadd hx hb dX4_brackets_159 ?_
              refine lv_istore (lv' := [(9, .int ((1 + 0) + 1)), (8, .int (md_pl S (sF S (fIx b)) (br_l S st x))), (7, .int (md_pl S (sF S (fIx a)) (br_l S st x))), (6, .int (br_l S st x)), (5, .int (fMx ((bH S (fIx x)) - (pV S (fIx st) 0)) ((bD S (fIx x)) + (pV S (fIx st) 0)))), (0, .ref o), (1, .int (nI (fIx st))), (2, .int (nI (fIx a))), (3, .int (nI (fIx x))), (4, .int (nI (fIx b)))]) hx hb dX4_brackets_160 hl (by decide) rfl (fun ls hl => ?_)
              refine lv_aload_n hx hb dX4_brackets_162 rfl (lv_at hl 5 rfl) ?_
              refine lv_iload hx hb dX4_brackets_163 (lv_at hl 2 rfl) ?_
              refine lv_bipush (v := (-2)) hx hb dX4_brackets_165 (by decide) ?_
              refine lv_icmp_eq (tgt := 177) hx hb dX4_brackets_167 (by decide) (fun c_49 => ?_) (fun c_49 => ?_)
              · have kGa : ¬ isG S (fIx a) := fun z9 => z9 ((pl_2 hle oa1 oa2).mp c_49)
                refine lv_iconst (v := 3) hx hb dX4_brackets_177 (by decide) ?_
                refine lv_goto (tgt := 198) hx hb dX4_brackets_178 (by decide) ?_
                refine mw_put (D := gD G) (ci := 4) (v := .int 3) (ty := .int) (C := RX4) (T := TX4) (N := 21) hx hb htb inX4 tyX4 tyX4_ok nmX4 hown hK hP hS hT.1 hT.2.2.2.1 rfl 0 (by decide) (htb _ wd524) (fun _ h9 => h9) rfl (by decide +kernel) rfl rfl (Nat.le_of_ble_eq_true rfl) dX4_brackets_198 (fun H locs hP hS => ?_)
                obtain ⟨M_50, hM_50⟩ : ∃ z9 : mw_M, z9 = mw_up M_17 o (.inr (4, [.int 3, .ref (A 0), .int (sSp S), .int (sSh S), .int (nI (sN S)), .ref (A 1), .ref (A 2), .ref (A 3), .ref (A 4), .ref (A 5), .ref (A 6), .ref (A 7), .int (nI np18), .ref (A 8), .ref (A 9), .ref (A 10), .ref (A 11), .ref (A 12), .ref (A 13), .ref (A 14), .int (nI (fSz (fIx st)))])) := ⟨_, rfl⟩
                have hP : mw_P (gD G) gx_cl M_50 H := by rw [hM_50]; exact hP
                have hT : md_at G o A M_50 3 (sSp S) (sSh S) (nI (sN S)) (nI np18) (nI (fSz (fIx st))) g18 := md_at.fld hT hM_50
                have hk : md_keeps o A M M_50 := md_keeps.fld hk hM_50
                refine lv_aload_n hx hb dX4_brackets_201 rfl (lv_at hl 5 rfl) ?_
                refine mw_get (D := gD G) (ci := 4) (v := .int 3) (C := RX4) (T := TX4) (N := 21) hx hb htb inX4 hown hK hP hT.1 rfl 0 (by decide) (htb _ wd524) (fun _ h9 => h9) rfl dX4_brackets_202 ?_
                refine lv_if_le (tgt := 210) hx hb dX4_brackets_205 (by decide) (fun c_51 => absurd c_51 (by decide)) (fun c_51 => ?_)
                refine lv_iconst (v := 0) hx hb dX4_brackets_208 (by decide) ?_
                have hex : ex_brackets S st a x b = 3 := by rw [ex_brackets, if_neg (fun z9 => z9 ⟨kb_5, kb_10, kb_12⟩), if_neg (fun z9 => z9 kb_14), if_pos (fun z9 => kGa z9.1)]
                exact mx_iret (v := 0) (M' := M_50) hx hb hr hlocks hP hS ⟨by rw [hex]; rfl, ⟨_, by rw [hex]; exact (⟨np18, bg18, g18, hT, hB⟩ : md_R G o A M_50 3 (nI (fSz (fIx st))) S)⟩, hk⟩ dX4_brackets_209 (Nat.le_of_ble_eq_true rfl) (Nat.le_of_ble_eq_true rfl)
              · have kGa : isG S (fIx a) := fun z9 => c_49 ((pl_2 hle oa1 oa2).mpr z9)
                have hra : ¬ br_r S st x a = (-1) := (pl_n3 hle oa1 oa2 kGa c_19).2
                refine lv_iload hx hb dX4_brackets_170 (lv_at hl 1 rfl) ?_
                refine lv_bipush (v := (-2)) hx hb dX4_brackets_172 (by decide) ?_
                refine lv_icmp_ne (tgt := 181) hx hb dX4_brackets_174 (by decide) (fun c_52 => ?_) (fun c_52 => absurd c_52 (fun z9 => absurd (c_20.symm.trans z9) (by decide)))
                refine lv_aload_n hx hb dX4_brackets_181 rfl (lv_at hl 5 rfl) ?_
                refine mw_get (D := gD G) (ci := 4) (v := .int (nI (sN S))) (C := RX4) (T := TX4) (N := 21) hx hb htb inX4 hown hK hP hT.1 rfl 4 (by decide) (htb _ wd528) (fun _ h9 => h9) rfl dX4_brackets_182 ?_
                refine lv_iload hx hb dX4_brackets_185 (lv_at hl 0 rfl) ?_
                refine lv_iadd hx hb dX4_brackets_187 ?_
                refine lv_bipush (v := 120) hx hb dX4_brackets_188 (by decide) ?_
                refine lv_icmp_le (tgt := 197) hx hb dX4_brackets_190 (by decide) (fun c_53 => ?_) (fun c_53 => ?_)
                · have kb_54 : rmk S ((if br_r S st x a = (-1) then 1 else 0) + (if br_r S st x b = (-1) then 1 else 0) + 1) := by rw [if_neg hra, if_pos hrb, show (0 : Int32) + 1 + 1 = 1 + 0 + 1 from rfl]; exact Int32.not_lt.mpr c_53
                  have hrm : sN S + 2 ≤ 120 := rmk_le (n := 2) (by decide) hle (by rw [show nI 2 = (1 : Int32) + 0 + 1 from rfl]; exact Int32.not_lt.mpr c_53)
                  refine lv_iconst (v := 0) hx hb dX4_brackets_197 (by decide) ?_
                  refine mw_put (D := gD G) (ci := 4) (v := .int 0) (ty := .int) (C := RX4) (T := TX4) (N := 21) hx hb htb inX4 tyX4 tyX4_ok nmX4 hown hK hP hS hT.1 hT.2.2.2.1 rfl 0 (by decide) (htb _ wd524) (fun _ h9 => h9) rfl (by decide +kernel) rfl rfl (Nat.le_of_ble_eq_true rfl) dX4_brackets_198 (fun H locs hP hS => ?_)
                  obtain ⟨M_55, hM_55⟩ : ∃ z9 : mw_M, z9 = mw_up M_17 o (.inr (4, [.int 0, .ref (A 0), .int (sSp S), .int (sSh S), .int (nI (sN S)), .ref (A 1), .ref (A 2), .ref (A 3), .ref (A 4), .ref (A 5), .ref (A 6), .ref (A 7), .int (nI np18), .ref (A 8), .ref (A 9), .ref (A 10), .ref (A 11), .ref (A 12), .ref (A 13), .ref (A 14), .int (nI (fSz (fIx st)))])) := ⟨_, rfl⟩
                  have hP : mw_P (gD G) gx_cl M_55 H := by rw [hM_55]; exact hP
                  have hT : md_at G o A M_55 0 (sSp S) (sSh S) (nI (sN S)) (nI np18) (nI (fSz (fIx st))) g18 := md_at.fld hT hM_55
                  have hk : md_keeps o A M M_55 := md_keeps.fld hk hM_55
                  refine lv_aload_n hx hb dX4_brackets_201 rfl (lv_at hl 5 rfl) ?_
                  refine mw_get (D := gD G) (ci := 4) (v := .int 0) (C := RX4) (T := TX4) (N := 21) hx hb htb inX4 hown hK hP hT.1 rfl 0 (by decide) (htb _ wd524) (fun _ h9 => h9) rfl dX4_brackets_202 ?_
                  refine lv_if_le (tgt := 210) hx hb dX4_brackets_205 (by decide) (fun c_56 => ?_) (fun c_56 => absurd (by decide) c_56)
                  refine lv_aload_n hx hb dX4_brackets_210 rfl (lv_at hl 5 rfl) ?_
                  refine lv_iload_n hx hb dX4_brackets_211 rfl (lv_at hl 7 rfl) ?_
                  refine lv_iload hx hb dX4_brackets_212 (lv_at hl 3 rfl) ?_
                  refine mw_callV (C := RX4) (As := [.int (nI (fIx a)), .int (br_l S st x)]) (rest := []) hx hb hml hown hl (kX4_signBy l htr G H.size M_55 o A 0 (nI (fSz (fIx st))) S (⟨np18, bg18, g18, hT, hB⟩ : md_R G o A M_55 0 (nI (fSz (fIx st))) S) hok (fIx a) h_a (br_l S st x) kGa (fun z9 => by omega)) (g_B (n := 2) htb wd649 wd3 wd646 (by decide +kernel) ⟨Nat.le_of_ble_eq_true rfl, Nat.le_of_ble_eq_true rfl⟩) (htb _ wd648) (htb _ ws31) hE hP hS hT.1 rfl rfl rfl (Nat.le_of_ble_eq_true rfl) dX4_brackets_214 ⟨Nat.le_of_ble_eq_true rfl, Nat.le_of_ble_eq_true rfl⟩ (fun v9 M9 H locs hpo hP hz hS => ?_) (fun x9 E9 cell9 H9 locs9 hE9 => hE9.elim)
                  obtain ⟨rfl, hRn, hkn⟩ := hpo
                  obtain ⟨M_57, hM_57⟩ : ∃ z9 : mw_M, z9 = M9 := ⟨_, rfl⟩
                  rw [← hM_57] at hP hRn hkn
                  have hk := md_keeps.tr hk hkn
                  obtain ⟨S1, hS1⟩ : ∃ z9, z9 = br_S1 S st a x := ⟨_, rfl⟩
                  have hRn : md_R G o A M_57 0 (nI (fSz (fIx st))) S1 := by rw [hS1]; exact hRn
                  obtain ⟨hy1, hy2⟩ := kt_in (sF S (fIx a)) (br_l S st x) hle (fs_rd_on (br_l S st x) oa2)
                  obtain ⟨y_58, ey_58⟩ : ∃ z9, z9 = br_y S st a x := ⟨_, rfl⟩
                  have h_y_58 : y_58 < sN S1 := by rw [ey_58, hS1]; exact hy1
                  have hyA : kt_y S (fs_rd S (sF S (fIx a)) (br_l S st x)) = nI y_58 := by rw [ey_58]; exact hy2
                  have hle1 : sN S ≤ sN S1 := by rw [hS1]; exact kt_le _ _ _ _
                  have eF : sF S1 (fIx b) = sF S (fIx b) := by rw [hS1, br_S1, kt_F]
                  have hok1 : fs_ok S1 := by rw [hS1]; exact kt_ok hok h_a _ _ (fun _ => by omega)
                  have eR : fs_rd S1 (sF S (fIx b)) (br_l S st x) = br_r S st x b := by rw [hS1, br_S1]; exact rd_kt (Or.inl (by omega)) _ _ _ ob2
                  have h_x := Nat.lt_of_lt_of_le h_x hle1
                  obtain ⟨np59, bg59, g59, hT, hB⟩ := id hRn
                  have hle : sN S1 ≤ 120 := hB.1
                  refine W.eq (g2 := F0 m 217 ls [.int (nI y_58)]) (show F0 m 217 ls [.int (kt_y S (fs_rd S (sF S (fIx a)) (br_l S st x)))] = F0 m 217 ls [.int (nI y_58)] from by rw [hyA]) ?_
                  refine lv_istore (lv' := [(10, .int (nI y_58)), (9, .int ((1 + 0) + 1)), (8, .int (md_pl S (sF S (fIx b)) (br_l S st x))), (7, .int (md_pl S (sF S (fIx a)) (br_l S st x))), (6, .int (br_l S st x)), (5, .int (fMx ((bH S (fIx x)) - (pV S (fIx st) 0)) ((bD S (fIx x)) + (pV S (fIx st) 0)))), (0, .ref o), (1, .int (nI (fIx st))), (2, .int (nI (fIx a))), (3, .int (nI (fIx x))), (4, .int (nI (fIx b)))]) hx hb dX4_brackets_217 hl (by decide) rfl (fun ls hl => ?_)
                  refine lv_aload_n hx hb dX4_brackets_219 rfl (lv_at hl 6 rfl) ?_
                  refine lv_iload hx hb dX4_brackets_220 (lv_at hl 10 rfl) ?_
                  refine lv_iload hx hb dX4_brackets_222 (lv_at hl 4 rfl) ?_
                  refine mw_callV (C := RX4) (As := [.int (nI (fIx b)), .int (br_l S st x)]) (rest := []) hx hb hml hown hl (kX4_signBy l htr G H.size M_57 o A 0 (nI (fSz (fIx st))) S1 (⟨np59, bg59, g59, hT, hB⟩ : md_R G o A M_57 0 (nI (fSz (fIx st))) S1) hok1 (fIx b) h_b (br_l S st x) (show isG S1 (fIx b) from by unfold isG; rw [eF]; exact kGb) (fun z9 => by rw [hS1, br_S1, kt_n, if_neg hra]; omega)) (g_B (n := 2) htb wd649 wd3 wd646 (by decide +kernel) ⟨Nat.le_of_ble_eq_true rfl, Nat.le_of_ble_eq_true rfl⟩) (htb _ wd648) (htb _ ws31) hE hP hS hT.1 rfl rfl rfl (Nat.le_of_ble_eq_true rfl) dX4_brackets_224 ⟨Nat.le_of_ble_eq_true rfl, Nat.le_of_ble_eq_true rfl⟩ (fun v9 M9 H locs hpo hP hz hS => ?_) (fun x9 E9 cell9 H9 locs9 hE9 => hE9.elim)
                  obtain ⟨rfl, hRn, hkn⟩ := hpo
                  obtain ⟨M_60, hM_60⟩ : ∃ z9 : mw_M, z9 = M9 := ⟨_, rfl⟩
                  rw [← hM_60] at hP hRn hkn
                  have hk := md_keeps.tr hk hkn
                  rw [eF, eR] at hRn
                  obtain ⟨S2, hS2⟩ : ∃ z9, z9 = br_S S st a x b := ⟨_, rfl⟩
                  have hRn : md_R G o A M_60 0 (nI (fSz (fIx st))) S2 := by rw [hS2, br_S, ← hS1]; exact hRn
                  have on2 : fs_on S1 (br_r S st x b) := by rw [hS1, br_S1]; exact rd_on_kt ob2
                  obtain ⟨hy1, hy2⟩ := kt_in (sF S (fIx b)) (br_l S st x) hle on2
                  obtain ⟨y_61, ey_61⟩ : ∃ z9, z9 = br_z S st a x b := ⟨_, rfl⟩
                  have ez9 : y_61 = fIx (kt_y S1 (br_r S st x b)) := by rw [ey_61, br_z, ← hS1]
                  have h_y_61 : y_61 < sN S2 := by rw [ez9, hS2, br_S, ← hS1]; exact hy1
                  have hyB : kt_y S1 (fs_rd S1 (sF S1 (fIx b)) (br_l S st x)) = nI y_61 := by rw [eF, eR, ez9]; exact hy2
                  have hle2 : sN S1 ≤ sN S2 := by rw [hS2, br_S, ← hS1]; exact kt_le _ _ _ _
                  have h_x := Nat.lt_of_lt_of_le h_x hle2
                  have h_y_58 := Nat.lt_of_lt_of_le h_y_58 hle2
                  obtain ⟨np62, bg62, g62, hT, hB⟩ := id hRn
                  have hle : sN S2 ≤ 120 := hB.1
                  refine W.eq (g2 := F0 m 227 ls [.int (nI y_61)]) (show F0 m 227 ls [.int (kt_y S1 (fs_rd S1 (sF S1 (fIx b)) (br_l S st x)))] = F0 m 227 ls [.int (nI y_61)] from by rw [hyB]) ?_
                  refine lv_istore (lv' := [(11, .int (nI y_61)), (10, .int (nI y_58)), (9, .int ((1 + 0) + 1)), (8, .int (md_pl S (sF S (fIx b)) (br_l S st x))), (7, .int (md_pl S (sF S (fIx a)) (br_l S st x))), (6, .int (br_l S st x)), (5, .int (fMx ((bH S (fIx x)) - (pV S (fIx st) 0)) ((bD S (fIx x)) + (pV S (fIx st) 0)))), (0, .ref o), (1, .int (nI (fIx st))), (2, .int (nI (fIx a))), (3, .int (nI (fIx x))), (4, .int (nI (fIx b)))]) hx hb dX4_brackets_227 hl (by decide) rfl (fun ls hl => ?_)
                  refine lv_aload_n hx hb dX4_brackets_229 rfl (lv_at hl 7 rfl) ?_
                  refine lv_aload_n hx hb dX4_brackets_230 rfl (lv_at hl 7 rfl) ?_
                  refine mw_get (D := gD G) (ci := 4) (v := .ref (A 1)) (C := RX4) (T := TX4) (N := 21) hx hb htb inX4 hown hK hP hT.1 rfl 5 (by decide) (htb _ wd529) (fun _ h9 => h9) rfl dX4_brackets_231 ?_
                  refine lv_iload hx hb dX4_brackets_234 (lv_at hl 1 rfl) ?_
                  refine mw_iald hx hb hK hP 0 (show M_60 (A 1) = some (.inl (gI G, 120, .inl (g62 1))) from hT.2.1 1 (by decide)) rfl (by exact vp_in_nI (show y_58 < 120 by have := hle; omega) (by decide)) dX4_brackets_236 ?_
                  refine W.eq (g2 := F0 m 237 ls [.int (bW S2 y_58), .ref o]) (by rw [nI_clamp (show y_58 < 2 ^ 31 by have := hle; omega), hB.W h_y_58]) ?_
                  refine lv_aload_n hx hb dX4_brackets_237 rfl (lv_at hl 7 rfl) ?_
                  refine mw_get (D := gD G) (ci := 4) (v := .ref (A 1)) (C := RX4) (T := TX4) (N := 21) hx hb htb inX4 hown hK hP hT.1 rfl 5 (by decide) (htb _ wd529) (fun _ h9 => h9) rfl dX4_brackets_238 ?_
                  refine lv_iload_n hx hb dX4_brackets_241 rfl (lv_at hl 10 rfl) ?_
                  refine mw_iald hx hb hK hP 0 (show M_60 (A 1) = some (.inl (gI G, 120, .inl (g62 1))) from hT.2.1 1 (by decide)) rfl (by exact vp_in_nI (show (fIx x) < 120 by have := hle; omega) (by decide)) dX4_brackets_242 ?_
                  refine W.eq (g2 := F0 m 243 ls [.int (bW S2 (fIx x)), .int (bW S2 y_58), .ref o]) (by rw [nI_clamp (show (fIx x) < 2 ^ 31 by have := hle; omega), hB.W h_x]) ?_
                  refine lv_iadd hx hb dX4_brackets_243 ?_
                  refine lv_aload_n hx hb dX4_brackets_244 rfl (lv_at hl 7 rfl) ?_
                  refine mw_get (D := gD G) (ci := 4) (v := .ref (A 1)) (C := RX4) (T := TX4) (N := 21) hx hb htb inX4 hown hK hP hT.1 rfl 5 (by decide) (htb _ wd529) (fun _ h9 => h9) rfl dX4_brackets_245 ?_
                  refine lv_iload hx hb dX4_brackets_248 (lv_at hl 0 rfl) ?_
                  refine mw_iald hx hb hK hP 0 (show M_60 (A 1) = some (.inl (gI G, 120, .inl (g62 1))) from hT.2.1 1 (by decide)) rfl (by exact vp_in_nI (show y_61 < 120 by have := hle; omega) (by decide)) dX4_brackets_250 ?_
                  refine W.eq (g2 := F0 m 251 ls [.int (bW S2 y_61), .int ((bW S2 y_58) + (bW S2 (fIx x))), .ref o]) (by rw [nI_clamp (show y_61 < 2 ^ 31 by have := hle; omega), hB.W h_y_61]) ?_
                  refine lv_iadd hx hb dX4_brackets_251 ?_
                  refine lv_iconst (v := 0) hx hb dX4_brackets_252 (by decide) ?_
                  refine lv_iconst (v := 0) hx hb dX4_brackets_253 (by decide) ?_
                  refine mw_callV (C := RX4) (As := [.int (((bW S2 y_58) + (bW S2 (fIx x))) + (bW S2 y_61)), .int 0, .int 0]) (rest := []) hx hb hml hown hl (kX4_make l htr G H.size M_60 o A 0 (nI (fSz (fIx st))) S2 (⟨np62, bg62, g62, hT, hB⟩ : md_R G o A M_60 0 (nI (fSz (fIx st))) S2) (show sN S2 < 120 from by rw [hS2, br_S, kt_n, br_S1, kt_n, if_pos hrb, if_neg hra]; omega) (((bW S2 y_58) + (bW S2 (fIx x))) + (bW S2 y_61)) 0 0) (g_B (n := 3) htb wd613 wd3 wd610 (by decide +kernel) ⟨Nat.le_of_ble_eq_true rfl, Nat.le_of_ble_eq_true rfl⟩) (htb _ wd612) (htb _ ws26) hE hP hS hT.1 rfl rfl rfl (Nat.le_of_ble_eq_true rfl) dX4_brackets_254 ⟨Nat.le_of_ble_eq_true rfl, Nat.le_of_ble_eq_true rfl⟩ (fun v9 M9 H locs hpo hP hz hS => ?_) (fun x9 E9 cell9 H9 locs9 hE9 => hE9.elim)
                  have hle0 := hle
                  obtain ⟨rfl, hRn, hkn⟩ := hpo
                  obtain ⟨M_63, hM_63⟩ : ∃ z9 : mw_M, z9 = M9 := ⟨_, rfl⟩
                  rw [← hM_63] at hP hRn hkn
                  have hk := md_keeps.tr hk hkn
                  have hRn : md_R G o A M_63 0 (nI (fSz (fIx st))) (fs_push S2 ((((bW S2 y_58) + (bW S2 (fIx x))) + (bW S2 y_61)), 0, 0, [], 0, 0)) := hRn
                  obtain ⟨np64, bg64, g64, hT, hB⟩ := id hRn
                  rw [sN_push] at hT
                  have hT : md_at G o A M_63 0 (sSp S2) (sSh S2) (nI (sN S2 + 1)) (nI np64) (nI (fSz (fIx st))) g64 := hT
                  have hle : sN S2 + 1 ≤ 120 := by have := hB.1; rw [sN_push] at this; exact this
                  refine W.eq (g2 := F0 m 257 ls [.int (nI (sN S2))]) rfl ?_
                  refine lv_istore (lv' := [(12, .int (nI (sN S2))), (11, .int (nI y_61)), (10, .int (nI y_58)), (9, .int ((1 + 0) + 1)), (8, .int (md_pl S (sF S (fIx b)) (br_l S st x))), (7, .int (md_pl S (sF S (fIx a)) (br_l S st x))), (6, .int (br_l S st x)), (5, .int (fMx ((bH S (fIx x)) - (pV S (fIx st) 0)) ((bD S (fIx x)) + (pV S (fIx st) 0)))), (0, .ref o), (1, .int (nI (fIx st))), (2, .int (nI (fIx a))), (3, .int (nI (fIx x))), (4, .int (nI (fIx b)))]) hx hb dX4_brackets_257 hl (by decide) rfl (fun ls hl => ?_)
                  refine lv_aload_n hx hb dX4_brackets_259 rfl (lv_at hl 8 rfl) ?_
                  refine lv_iload hx hb dX4_brackets_260 (lv_at hl 2 rfl) ?_
                  refine lv_iconst (v := 0) hx hb dX4_brackets_262 (by decide) ?_
                  refine lv_aload_n hx hb dX4_brackets_263 rfl (lv_at hl 8 rfl) ?_
                  refine lv_iconst (v := 0) hx hb dX4_brackets_264 (by decide) ?_
                  refine mw_callV (C := RX4) (As := [.int 0]) (rest := [.int 0, .int (nI y_58), .ref o]) hx hb hml hown hl (kX4_p l htr G H.size M_63 o A 0 (fs_push S2 ((((bW S2 y_58) + (bW S2 (fIx x))) + (bW S2 y_61)), 0, 0, [], 0, 0)) (fIx st) 0 h_st (by decide) (md_R.of (np := np64) hT hB : md_R G o A M_63 0 (nI (fSz (fIx st))) (fs_push S2 ((((bW S2 y_58) + (bW S2 (fIx x))) + (bW S2 y_61)), 0, 0, [], 0, 0)))) (g_B (n := 1) htb wd679 wd3 wd676 (by decide +kernel) ⟨Nat.le_of_ble_eq_true rfl, Nat.le_of_ble_eq_true rfl⟩) (htb _ wd678) (htb _ ws36) hE hP hS hT.1 rfl rfl rfl (Nat.le_of_ble_eq_true rfl) dX4_brackets_265 ⟨Nat.le_of_ble_eq_true rfl, Nat.le_of_ble_eq_true rfl⟩ (fun v9 M9 H locs hpo hP hz hS => ?_) (fun x9 E9 cell9 H9 locs9 hE9 => hE9.elim)
                  obtain ⟨rfl, rfl⟩ := hpo
                  refine W.eq (g2 := F0 m 268 ls [.int (pV S2 (fIx st) 0), .int 0, .int (nI y_58), .ref o]) rfl ?_
                  refine lv_aload_n hx hb dX4_brackets_268 rfl (lv_at hl 8 rfl) ?_
                  refine mw_get (D := gD G) (ci := 4) (v := .ref (A 2)) (C := RX4) (T := TX4) (N := 21) hx hb htb inX4 hown hK hP hT.1 rfl 6 (by decide) (htb _ wd530) (fun _ h9 => h9) rfl dX4_brackets_269 ?_
                  refine lv_iload hx hb dX4_brackets_272 (lv_at hl 2 rfl) ?_
                  refine mw_iald hx hb hK hP 0 (show M_63 (A 2) = some (.inl (gI G, 120, .inl (g64 2))) from hT.2.1 2 (by decide)) rfl (by exact vp_in_nI (show y_58 < 120 by have := hle; omega) (by decide)) dX4_brackets_274 ?_
                  refine W.eq (g2 := F0 m 275 ls [.int (bH S2 y_58), .int (pV S2 (fIx st) 0), .int 0, .int (nI y_58), .ref o]) (by rw [nI_clamp (show y_58 < 2 ^ 31 by have := hle; omega), hB.H (show y_58 < sN (fs_push S2 ((((bW S2 y_58) + (bW S2 (fIx x))) + (bW S2 y_61)), 0, 0, [], 0, 0)) by rw [sN_push]; omega), bH_push _ h_y_58]) ?_
                  refine lv_aload_n hx hb dX4_brackets_275 rfl (lv_at hl 8 rfl) ?_
                  refine mw_get (D := gD G) (ci := 4) (v := .ref (A 3)) (C := RX4) (T := TX4) (N := 21) hx hb htb inX4 hown hK hP hT.1 rfl 7 (by decide) (htb _ wd531) (fun _ h9 => h9) rfl dX4_brackets_276 ?_
                  refine lv_iload hx hb dX4_brackets_279 (lv_at hl 2 rfl) ?_
                  refine mw_iald hx hb hK hP 0 (show M_63 (A 3) = some (.inl (gI G, 120, .inl (g64 3))) from hT.2.1 3 (by decide)) rfl (by exact vp_in_nI (show y_58 < 120 by have := hle; omega) (by decide)) dX4_brackets_281 ?_
                  refine W.eq (g2 := F0 m 282 ls [.int (bD S2 y_58), .int (bH S2 y_58), .int (pV S2 (fIx st) 0), .int 0, .int (nI y_58), .ref o]) (by rw [nI_clamp (show y_58 < 2 ^ 31 by have := hle; omega), hB.D (show y_58 < sN (fs_push S2 ((((bW S2 y_58) + (bW S2 (fIx x))) + (bW S2 y_61)), 0, 0, [], 0, 0)) by rw [sN_push]; omega), bD_push _ h_y_58]) ?_
                  refine lv_isub hx hb dX4_brackets_282 ?_
                  refine mw_callS (As := [.int ((bH S2 y_58) - (bD S2 y_58))]) (rest := [.int (pV S2 (fIx st) 0), .int 0, .int (nI y_58), .ref o]) hx hb hml hown hl (kX4_half l htr G H.size M_63 ((bH S2 y_58) - (bD S2 y_58))) (g_B (n := 1) htb wd682 wd3 wd680 (by decide +kernel) ⟨Nat.le_of_ble_eq_true rfl, Nat.le_of_ble_eq_true rfl⟩) (htb _ wd681) hE hP hS rfl rfl (Nat.le_of_ble_eq_true rfl) dX4_brackets_283 ⟨Nat.le_of_ble_eq_true rfl, Nat.le_of_ble_eq_true rfl⟩ (fun v9 M9 H locs hpo hP hz hS => ?_) (fun x9 E9 cell9 H9 locs9 hE9 => hE9.elim)
                  obtain ⟨rfl, rfl⟩ := hpo
                  refine W.eq (g2 := F0 m 286 ls [.int (fHf ((bH S2 y_58) - (bD S2 y_58))), .int (pV S2 (fIx st) 0), .int 0, .int (nI y_58), .ref o]) rfl ?_
                  refine lv_isub hx hb dX4_brackets_286 ?_
                  refine mw_callV (C := RX4) (As := [.int (nI y_58), .int 0, .int ((pV S2 (fIx st) 0) - (fHf ((bH S2 y_58) - (bD S2 y_58))))]) (rest := []) hx hb hml hown hl (kX4_lay l htr G H.size M_63 o A 0 (nI (fSz (fIx st))) S2 (((bW S2 y_58) + (bW S2 (fIx x))) + (bW S2 y_61)) 0 0 ([]) 0 0 (md_R.of (np := np64) hT hB : md_R G o A M_63 0 (nI (fSz (fIx st))) (fs_push S2 ((((bW S2 y_58) + (bW S2 (fIx x))) + (bW S2 y_61)), 0, 0, [], 0, 0))) (by simp) (nI y_58) 0 ((pV S2 (fIx st) 0) - (fHf ((bH S2 y_58) - (bD S2 y_58))))) (g_B (n := 3) htb wd661 wd3 wd658 (by decide +kernel) ⟨Nat.le_of_ble_eq_true rfl, Nat.le_of_ble_eq_true rfl⟩) (htb _ wd660) (htb _ ws34) hE hP hS hT.1 rfl rfl rfl (Nat.le_of_ble_eq_true rfl) dX4_brackets_287 ⟨Nat.le_of_ble_eq_true rfl, Nat.le_of_ble_eq_true rfl⟩ (fun v9 M9 H locs hpo hP hz hS => ?_) (fun x9 E9 cell9 H9 locs9 hE9 => hE9.elim)
                  obtain ⟨rfl, hRn, hkn⟩ := hpo
                  obtain ⟨M_65, hM_65⟩ : ∃ z9 : mw_M, z9 = M9 := ⟨_, rfl⟩
                  rw [← hM_65] at hP hRn hkn
                  have hk := md_keeps.tr hk hkn
                  have hRn : md_R G o A M_65 0 (nI (fSz (fIx st))) (fs_push S2 ((((bW S2 y_58) + (bW S2 (fIx x))) + (bW S2 y_61)), 0, 0, [(nI y_58), 0, ((pV S2 (fIx st) 0) - (fHf ((bH S2 y_58) - (bD S2 y_58))))], 0, 0)) := hRn
                  obtain ⟨np66, bg66, g66, hT, hB⟩ := id hRn
                  rw [sN_push] at hT
                  have hT : md_at G o A M_65 0 (sSp S2) (sSh S2) (nI (sN S2 + 1)) (nI np66) (nI (fSz (fIx st))) g66 := hT
                  refine W.eq (g2 := F0 m 290 ls []) rfl ?_
                  refine lv_aload_n hx hb dX4_brackets_290 rfl (lv_at hl 8 rfl) ?_
                  refine lv_iload_n hx hb dX4_brackets_291 rfl (lv_at hl 11 rfl) ?_
                  refine lv_aload_n hx hb dX4_brackets_292 rfl (lv_at hl 8 rfl) ?_
                  refine mw_get (D := gD G) (ci := 4) (v := .ref (A 1)) (C := RX4) (T := TX4) (N := 21) hx hb htb inX4 hown hK hP hT.1 rfl 5 (by decide) (htb _ wd529) (fun _ h9 => h9) rfl dX4_brackets_293 ?_
                  refine lv_iload hx hb dX4_brackets_296 (lv_at hl 2 rfl) ?_
                  refine mw_iald hx hb hK hP 0 (show M_65 (A 1) = some (.inl (gI G, 120, .inl (g66 1))) from hT.2.1 1 (by decide)) rfl (by exact vp_in_nI (show y_58 < 120 by have := hle; omega) (by decide)) dX4_brackets_298 ?_
                  refine W.eq (g2 := F0 m 299 ls [.int (bW S2 y_58), .int (nI (fIx x)), .ref o]) (by rw [nI_clamp (show y_58 < 2 ^ 31 by have := hle; omega), hB.W (show y_58 < sN (fs_push S2 ((((bW S2 y_58) + (bW S2 (fIx x))) + (bW S2 y_61)), 0, 0, [(nI y_58), 0, ((pV S2 (fIx st) 0) - (fHf ((bH S2 y_58) - (bD S2 y_58))))], 0, 0)) by rw [sN_push]; omega), bW_push _ h_y_58]) ?_
                  refine lv_iconst (v := 0) hx hb dX4_brackets_299 (by decide) ?_
                  refine mw_callV (C := RX4) (As := [.int (nI (fIx x)), .int (bW S2 y_58), .int 0]) (rest := []) hx hb hml hown hl (kX4_lay l htr G H.size M_65 o A 0 (nI (fSz (fIx st))) S2 (((bW S2 y_58) + (bW S2 (fIx x))) + (bW S2 y_61)) 0 0 ([(nI y_58), 0, ((pV S2 (fIx st) 0) - (fHf ((bH S2 y_58) - (bD S2 y_58))))]) 0 0 (md_R.of (np := np66) hT hB : md_R G o A M_65 0 (nI (fSz (fIx st))) (fs_push S2 ((((bW S2 y_58) + (bW S2 (fIx x))) + (bW S2 y_61)), 0, 0, [(nI y_58), 0, ((pV S2 (fIx st) 0) - (fHf ((bH S2 y_58) - (bD S2 y_58))))], 0, 0))) (by simp) (nI (fIx x)) (bW S2 y_58) 0) (g_B (n := 3) htb wd661 wd3 wd658 (by decide +kernel) ⟨Nat.le_of_ble_eq_true rfl, Nat.le_of_ble_eq_true rfl⟩) (htb _ wd660) (htb _ ws34) hE hP hS hT.1 rfl rfl rfl (Nat.le_of_ble_eq_true rfl) dX4_brackets_300 ⟨Nat.le_of_ble_eq_true rfl, Nat.le_of_ble_eq_true rfl⟩ (fun v9 M9 H locs hpo hP hz hS => ?_) (fun x9 E9 cell9 H9 locs9 hE9 => hE9.elim)
                  obtain ⟨rfl, hRn, hkn⟩ := hpo
                  obtain ⟨M_67, hM_67⟩ : ∃ z9 : mw_M, z9 = M9 := ⟨_, rfl⟩
                  rw [← hM_67] at hP hRn hkn
                  have hk := md_keeps.tr hk hkn
                  have hRn : md_R G o A M_67 0 (nI (fSz (fIx st))) (fs_push S2 ((((bW S2 y_58) + (bW S2 (fIx x))) + (bW S2 y_61)), 0, 0, [(nI y_58), 0, ((pV S2 (fIx st) 0) - (fHf ((bH S2 y_58) - (bD S2 y_58)))), (nI (fIx x)), (bW S2 y_58), 0], 0, 0)) := hRn
                  obtain ⟨np68, bg68, g68, hT, hB⟩ := id hRn
                  rw [sN_push] at hT
                  have hT : md_at G o A M_67 0 (sSp S2) (sSh S2) (nI (sN S2 + 1)) (nI np68) (nI (fSz (fIx st))) g68 := hT
                  refine W.eq (g2 := F0 m 303 ls []) rfl ?_
                  refine lv_aload_n hx hb dX4_brackets_303 rfl (lv_at hl 8 rfl) ?_
                  refine lv_iload hx hb dX4_brackets_304 (lv_at hl 1 rfl) ?_
                  refine lv_aload_n hx hb dX4_brackets_306 rfl (lv_at hl 8 rfl) ?_
                  refine mw_get (D := gD G) (ci := 4) (v := .ref (A 1)) (C := RX4) (T := TX4) (N := 21) hx hb htb inX4 hown hK hP hT.1 rfl 5 (by decide) (htb _ wd529) (fun _ h9 => h9) rfl dX4_brackets_307 ?_
                  refine lv_iload hx hb dX4_brackets_310 (lv_at hl 2 rfl) ?_
                  refine mw_iald hx hb hK hP 0 (show M_67 (A 1) = some (.inl (gI G, 120, .inl (g68 1))) from hT.2.1 1 (by decide)) rfl (by exact vp_in_nI (show y_58 < 120 by have := hle; omega) (by decide)) dX4_brackets_312 ?_
                  refine W.eq (g2 := F0 m 313 ls [.int (bW S2 y_58), .int (nI y_61), .ref o]) (by rw [nI_clamp (show y_58 < 2 ^ 31 by have := hle; omega), hB.W (show y_58 < sN (fs_push S2 ((((bW S2 y_58) + (bW S2 (fIx x))) + (bW S2 y_61)), 0, 0, [(nI y_58), 0, ((pV S2 (fIx st) 0) - (fHf ((bH S2 y_58) - (bD S2 y_58)))), (nI (fIx x)), (bW S2 y_58), 0], 0, 0)) by rw [sN_push]; omega), bW_push _ h_y_58]) ?_
                  refine lv_aload_n hx hb dX4_brackets_313 rfl (lv_at hl 8 rfl) ?_
                  refine mw_get (D := gD G) (ci := 4) (v := .ref (A 1)) (C := RX4) (T := TX4) (N := 21) hx hb htb inX4 hown hK hP hT.1 rfl 5 (by decide) (htb _ wd529) (fun _ h9 => h9) rfl dX4_brackets_314 ?_
                  refine lv_iload_n hx hb dX4_brackets_317 rfl (lv_at hl 11 rfl) ?_
                  refine mw_iald hx hb hK hP 0 (show M_67 (A 1) = some (.inl (gI G, 120, .inl (g68 1))) from hT.2.1 1 (by decide)) rfl (by exact vp_in_nI (show (fIx x) < 120 by have := hle; omega) (by decide)) dX4_brackets_318 ?_
                  refine W.eq (g2 := F0 m 319 ls [.int (bW S2 (fIx x)), .int (bW S2 y_58), .int (nI y_61), .ref o]) (by rw [nI_clamp (show (fIx x) < 2 ^ 31 by have := hle; omega), hB.W (show (fIx x) < sN (fs_push S2 ((((bW S2 y_58) + (bW S2 (fIx x))) + (bW S2 y_61)), 0, 0, [(nI y_58), 0, ((pV S2 (fIx st) 0) - (fHf ((bH S2 y_58) - (bD S2 y_58)))), (nI (fIx x)), (bW S2 y_58), 0], 0, 0)) by rw [sN_push]; omega), bW_push _ h_x]) ?_
                  refine lv_iadd hx hb dX4_brackets_319 ?_
                  refine lv_aload_n hx hb dX4_brackets_320 rfl (lv_at hl 8 rfl) ?_
                  refine lv_iconst (v := 0) hx hb dX4_brackets_321 (by decide) ?_
                  refine mw_callV (C := RX4) (As := [.int 0]) (rest := [.int ((bW S2 y_58) + (bW S2 (fIx x))), .int (nI y_61), .ref o]) hx hb hml hown hl (kX4_p l htr G H.size M_67 o A 0 (fs_push S2 ((((bW S2 y_58) + (bW S2 (fIx x))) + (bW S2 y_61)), 0, 0, [(nI y_58), 0, ((pV S2 (fIx st) 0) - (fHf ((bH S2 y_58) - (bD S2 y_58)))), (nI (fIx x)), (bW S2 y_58), 0], 0, 0)) (fIx st) 0 h_st (by decide) (md_R.of (np := np68) hT hB : md_R G o A M_67 0 (nI (fSz (fIx st))) (fs_push S2 ((((bW S2 y_58) + (bW S2 (fIx x))) + (bW S2 y_61)), 0, 0, [(nI y_58), 0, ((pV S2 (fIx st) 0) - (fHf ((bH S2 y_58) - (bD S2 y_58)))), (nI (fIx x)), (bW S2 y_58), 0], 0, 0)))) (g_B (n := 1) htb wd679 wd3 wd676 (by decide +kernel) ⟨Nat.le_of_ble_eq_true rfl, Nat.le_of_ble_eq_true rfl⟩) (htb _ wd678) (htb _ ws36) hE hP hS hT.1 rfl rfl rfl (Nat.le_of_ble_eq_true rfl) dX4_brackets_322 ⟨Nat.le_of_ble_eq_true rfl, Nat.le_of_ble_eq_true rfl⟩ (fun v9 M9 H locs hpo hP hz hS => ?_) (fun x9 E9 cell9 H9 locs9 hE9 => hE9.elim)
                  obtain ⟨rfl, rfl⟩ := hpo
                  refine W.eq (g2 := F0 m 325 ls [.int (pV S2 (fIx st) 0), .int ((bW S2 y_58) + (bW S2 (fIx x))), .int (nI y_61), .ref o]) rfl ?_
                  refine lv_aload_n hx hb dX4_brackets_325 rfl (lv_at hl 8 rfl) ?_
                  refine mw_get (D := gD G) (ci := 4) (v := .ref (A 2)) (C := RX4) (T := TX4) (N := 21) hx hb htb inX4 hown hK hP hT.1 rfl 6 (by decide) (htb _ wd530) (fun _ h9 => h9) rfl dX4_brackets_326 ?_
                  refine lv_iload hx hb dX4_brackets_329 (lv_at hl 1 rfl) ?_
                  refine mw_iald hx hb hK hP 0 (show M_67 (A 2) = some (.inl (gI G, 120, .inl (g68 2))) from hT.2.1 2 (by decide)) rfl (by exact vp_in_nI (show y_61 < 120 by have := hle; omega) (by decide)) dX4_brackets_331 ?_
                  refine W.eq (g2 := F0 m 332 ls [.int (bH S2 y_61), .int (pV S2 (fIx st) 0), .int ((bW S2 y_58) + (bW S2 (fIx x))), .int (nI y_61), .ref o]) (by rw [nI_clamp (show y_61 < 2 ^ 31 by have := hle; omega), hB.H (show y_61 < sN (fs_push S2 ((((bW S2 y_58) + (bW S2 (fIx x))) + (bW S2 y_61)), 0, 0, [(nI y_58), 0, ((pV S2 (fIx st) 0) - (fHf ((bH S2 y_58) - (bD S2 y_58)))), (nI (fIx x)), (bW S2 y_58), 0], 0, 0)) by rw [sN_push]; omega), bH_push _ h_y_61]) ?_
                  refine lv_aload_n hx hb dX4_brackets_332 rfl (lv_at hl 8 rfl) ?_
                  refine mw_get (D := gD G) (ci := 4) (v := .ref (A 3)) (C := RX4) (T := TX4) (N := 21) hx hb htb inX4 hown hK hP hT.1 rfl 7 (by decide) (htb _ wd531) (fun _ h9 => h9) rfl dX4_brackets_333 ?_
                  refine lv_iload hx hb dX4_brackets_336 (lv_at hl 1 rfl) ?_
                  refine mw_iald hx hb hK hP 0 (show M_67 (A 3) = some (.inl (gI G, 120, .inl (g68 3))) from hT.2.1 3 (by decide)) rfl (by exact vp_in_nI (show y_61 < 120 by have := hle; omega) (by decide)) dX4_brackets_338 ?_
                  refine W.eq (g2 := F0 m 339 ls [.int (bD S2 y_61), .int (bH S2 y_61), .int (pV S2 (fIx st) 0), .int ((bW S2 y_58) + (bW S2 (fIx x))), .int (nI y_61), .ref o]) (by rw [nI_clamp (show y_61 < 2 ^ 31 by have := hle; omega), hB.D (show y_61 < sN (fs_push S2 ((((bW S2 y_58) + (bW S2 (fIx x))) + (bW S2 y_61)), 0, 0, [(nI y_58), 0, ((pV S2 (fIx st) 0) - (fHf ((bH S2 y_58) - (bD S2 y_58)))), (nI (fIx x)), (bW S2 y_58), 0], 0, 0)) by rw [sN_push]; omega), bD_push _ h_y_61]) ?_
                  refine lv_isub hx hb dX4_brackets_339 ?_
                  refine mw_callS (As := [.int ((bH S2 y_61) - (bD S2 y_61))]) (rest := [.int (pV S2 (fIx st) 0), .int ((bW S2 y_58) + (bW S2 (fIx x))), .int (nI y_61), .ref o]) hx hb hml hown hl (kX4_half l htr G H.size M_67 ((bH S2 y_61) - (bD S2 y_61))) (g_B (n := 1) htb wd682 wd3 wd680 (by decide +kernel) ⟨Nat.le_of_ble_eq_true rfl, Nat.le_of_ble_eq_true rfl⟩) (htb _ wd681) hE hP hS rfl rfl (Nat.le_of_ble_eq_true rfl) dX4_brackets_340 ⟨Nat.le_of_ble_eq_true rfl, Nat.le_of_ble_eq_true rfl⟩ (fun v9 M9 H locs hpo hP hz hS => ?_) (fun x9 E9 cell9 H9 locs9 hE9 => hE9.elim)
                  obtain ⟨rfl, rfl⟩ := hpo
                  refine W.eq (g2 := F0 m 343 ls [.int (fHf ((bH S2 y_61) - (bD S2 y_61))), .int (pV S2 (fIx st) 0), .int ((bW S2 y_58) + (bW S2 (fIx x))), .int (nI y_61), .ref o]) rfl ?_
                  refine lv_isub hx hb dX4_brackets_343 ?_
                  refine mw_callV (C := RX4) (As := [.int (nI y_61), .int ((bW S2 y_58) + (bW S2 (fIx x))), .int ((pV S2 (fIx st) 0) - (fHf ((bH S2 y_61) - (bD S2 y_61))))]) (rest := []) hx hb hml hown hl (kX4_lay l htr G H.size M_67 o A 0 (nI (fSz (fIx st))) S2 (((bW S2 y_58) + (bW S2 (fIx x))) + (bW S2 y_61)) 0 0 ([(nI y_58), 0, ((pV S2 (fIx st) 0) - (fHf ((bH S2 y_58) - (bD S2 y_58)))), (nI (fIx x)), (bW S2 y_58), 0]) 0 0 (md_R.of (np := np68) hT hB : md_R G o A M_67 0 (nI (fSz (fIx st))) (fs_push S2 ((((bW S2 y_58) + (bW S2 (fIx x))) + (bW S2 y_61)), 0, 0, [(nI y_58), 0, ((pV S2 (fIx st) 0) - (fHf ((bH S2 y_58) - (bD S2 y_58)))), (nI (fIx x)), (bW S2 y_58), 0], 0, 0))) (by simp) (nI y_61) ((bW S2 y_58) + (bW S2 (fIx x))) ((pV S2 (fIx st) 0) - (fHf ((bH S2 y_61) - (bD S2 y_61))))) (g_B (n := 3) htb wd661 wd3 wd658 (by decide +kernel) ⟨Nat.le_of_ble_eq_true rfl, Nat.le_of_ble_eq_true rfl⟩) (htb _ wd660) (htb _ ws34) hE hP hS hT.1 rfl rfl rfl (Nat.le_of_ble_eq_true rfl) dX4_brackets_344 ⟨Nat.le_of_ble_eq_true rfl, Nat.le_of_ble_eq_true rfl⟩ (fun v9 M9 H locs hpo hP hz hS => ?_) (fun x9 E9 cell9 H9 locs9 hE9 => hE9.elim)
                  obtain ⟨rfl, hRn, hkn⟩ := hpo
                  obtain ⟨M_69, hM_69⟩ : ∃ z9 : mw_M, z9 = M9 := ⟨_, rfl⟩
                  rw [← hM_69] at hP hRn hkn
                  have hk := md_keeps.tr hk hkn
                  have hRn : md_R G o A M_69 0 (nI (fSz (fIx st))) (fs_push S2 ((((bW S2 y_58) + (bW S2 (fIx x))) + (bW S2 y_61)), 0, 0, [(nI y_58), 0, ((pV S2 (fIx st) 0) - (fHf ((bH S2 y_58) - (bD S2 y_58)))), (nI (fIx x)), (bW S2 y_58), 0, (nI y_61), ((bW S2 y_58) + (bW S2 (fIx x))), ((pV S2 (fIx st) 0) - (fHf ((bH S2 y_61) - (bD S2 y_61))))], 0, 0)) := hRn
                  obtain ⟨np70, bg70, g70, hT, hB⟩ := id hRn
                  rw [sN_push] at hT
                  have hT : md_at G o A M_69 0 (sSp S2) (sSh S2) (nI (sN S2 + 1)) (nI np70) (nI (fSz (fIx st))) g70 := hT
                  refine W.eq (g2 := F0 m 347 ls []) rfl ?_
                  refine lv_aload_n hx hb dX4_brackets_347 rfl (lv_at hl 8 rfl) ?_
                  refine mw_callV (C := RX4) (As := []) (rest := []) hx hb hml hown hl (kX4_reach l htr G H.size M_69 o A 0 (nI (fSz (fIx st))) S2 (((bW S2 y_58) + (bW S2 (fIx x))) + (bW S2 y_61)) [(nI y_58), 0, ((pV S2 (fIx st) 0) - (fHf ((bH S2 y_58) - (bD S2 y_58)))), (nI (fIx x)), (bW S2 y_58), 0, (nI y_61), ((bW S2 y_58) + (bW S2 (fIx x))), ((pV S2 (fIx st) 0) - (fHf ((bH S2 y_61) - (bD S2 y_61))))] (md_R.of (np := np70) hT hB : md_R G o A M_69 0 (nI (fSz (fIx st))) (fs_push S2 ((((bW S2 y_58) + (bW S2 (fIx x))) + (bW S2 y_61)), 0, 0, [(nI y_58), 0, ((pV S2 (fIx st) 0) - (fHf ((bH S2 y_58) - (bD S2 y_58)))), (nI (fIx x)), (bW S2 y_58), 0, (nI y_61), ((bW S2 y_58) + (bW S2 (fIx x))), ((pV S2 (fIx st) 0) - (fHf ((bH S2 y_61) - (bD S2 y_61))))], 0, 0))) (fun j hj => by
                      rcases (show j = 0 ∨ j = 1 ∨ j = 2 by simp at hj; omega) with rfl | rfl | rfl
                      · exact ⟨y_58, h_y_58, rfl⟩
                      · exact ⟨(fIx x), h_x, rfl⟩
                      · exact ⟨y_61, h_y_61, rfl⟩)) (g_B (n := 0) htb wd705 wd3 wd702 (by decide +kernel) ⟨Nat.le_of_ble_eq_true rfl, Nat.le_of_ble_eq_true rfl⟩) (htb _ wd704) (htb _ ws37) hE hP hS hT.1 rfl rfl rfl (Nat.le_of_ble_eq_true rfl) dX4_brackets_348 ⟨Nat.le_of_ble_eq_true rfl, Nat.le_of_ble_eq_true rfl⟩ (fun v9 M9 H locs hpo hP hz hS => ?_) (fun x9 E9 cell9 H9 locs9 hE9 => hE9.elim)
                  obtain ⟨rfl, hRn, hkn⟩ := hpo
                  obtain ⟨M_71, hM_71⟩ : ∃ z9 : mw_M, z9 = M9 := ⟨_, rfl⟩
                  rw [← hM_71] at hP hRn hkn
                  have hk := md_keeps.tr hk hkn
                  refine W.eq (g2 := F0 m 351 ls []) rfl ?_
                  refine lv_iload hx hb dX4_brackets_351 (lv_at hl 0 rfl) ?_
                  have hex : ex_brackets S st a x b = 0 := by rw [ex_brackets, if_neg (fun z9 => z9 ⟨kb_5, kb_10, kb_12⟩), if_neg (fun z9 => z9 kb_14), if_neg (fun z9 => z9 ⟨kGa, kGb⟩), if_neg (fun z9 => z9 kb_54)]
                  have hre : re_brackets S st a x b = (fs_en S2 (((bW S2 y_58) + (bW S2 (fIx x))) + (bW S2 y_61)) [(nI y_58), 0, ((pV S2 (fIx st) 0) - (fHf ((bH S2 y_58) - (bD S2 y_58)))), (nI (fIx x)), (bW S2 y_58), 0, (nI y_61), ((bW S2 y_58) + (bW S2 (fIx x))), ((pV S2 (fIx st) 0) - (fHf ((bH S2 y_61) - (bD S2 y_61))))]) := by rw [re_brackets, ← hS2, ← ey_58, ← ey_61]; rfl
                  exact mx_iret (v := (nI (sN S2))) (M' := M_71) hx hb hr hlocks hP hS ⟨by rw [hex, if_pos rfl, ← hS2], ⟨_, by rw [hex, if_pos rfl, ← hS2, hre]; exact hRn⟩, hk⟩ dX4_brackets_353 (Nat.le_of_ble_eq_true rfl) (Nat.le_of_ble_eq_true rfl)
                · have kb_72 : ¬ rmk S ((if br_r S st x a = (-1) then 1 else 0) + (if br_r S st x b = (-1) then 1 else 0) + 1) := by rw [if_neg hra, if_pos hrb, show (0 : Int32) + 1 + 1 = 1 + 0 + 1 from rfl]; exact fun z9 => z9 (Int32.not_le.mp c_53)
                  refine lv_iconst (v := 4) hx hb dX4_brackets_193 (by decide) ?_
                  refine lv_goto (tgt := 198) hx hb dX4_brackets_194 (by decide) ?_
                  refine mw_put (D := gD G) (ci := 4) (v := .int 4) (ty := .int) (C := RX4) (T := TX4) (N := 21) hx hb htb inX4 tyX4 tyX4_ok nmX4 hown hK hP hS hT.1 hT.2.2.2.1 rfl 0 (by decide) (htb _ wd524) (fun _ h9 => h9) rfl (by decide +kernel) rfl rfl (Nat.le_of_ble_eq_true rfl) dX4_brackets_198 (fun H locs hP hS => ?_)
                  obtain ⟨M_73, hM_73⟩ : ∃ z9 : mw_M, z9 = mw_up M_17 o (.inr (4, [.int 4, .ref (A 0), .int (sSp S), .int (sSh S), .int (nI (sN S)), .ref (A 1), .ref (A 2), .ref (A 3), .ref (A 4), .ref (A 5), .ref (A 6), .ref (A 7), .int (nI np18), .ref (A 8), .ref (A 9), .ref (A 10), .ref (A 11), .ref (A 12), .ref (A 13), .ref (A 14), .int (nI (fSz (fIx st)))])) := ⟨_, rfl⟩
                  have hP : mw_P (gD G) gx_cl M_73 H := by rw [hM_73]; exact hP
                  have hT : md_at G o A M_73 4 (sSp S) (sSh S) (nI (sN S)) (nI np18) (nI (fSz (fIx st))) g18 := md_at.fld hT hM_73
                  have hk : md_keeps o A M M_73 := md_keeps.fld hk hM_73
                  refine lv_aload_n hx hb dX4_brackets_201 rfl (lv_at hl 5 rfl) ?_
                  refine mw_get (D := gD G) (ci := 4) (v := .int 4) (C := RX4) (T := TX4) (N := 21) hx hb htb inX4 hown hK hP hT.1 rfl 0 (by decide) (htb _ wd524) (fun _ h9 => h9) rfl dX4_brackets_202 ?_
                  refine lv_if_le (tgt := 210) hx hb dX4_brackets_205 (by decide) (fun c_74 => absurd c_74 (by decide)) (fun c_74 => ?_)
                  refine lv_iconst (v := 0) hx hb dX4_brackets_208 (by decide) ?_
                  have hex : ex_brackets S st a x b = 4 := by rw [ex_brackets, if_neg (fun z9 => z9 ⟨kb_5, kb_10, kb_12⟩), if_neg (fun z9 => z9 kb_14), if_neg (fun z9 => z9 ⟨kGa, kGb⟩), if_pos (fun z9 => kb_72 z9)]
                  exact mx_iret (v := 0) (M' := M_73) hx hb hr hlocks hP hS ⟨by rw [hex]; rfl, ⟨_, by rw [hex]; exact (⟨np18, bg18, g18, hT, hB⟩ : md_R G o A M_73 4 (nI (fSz (fIx st))) S)⟩, hk⟩ dX4_brackets_209 (Nat.le_of_ble_eq_true rfl) (Nat.le_of_ble_eq_true rfl)
          · obtain ⟨kGa, hra⟩ := pl_3g hle oa1 oa2 c_19
            have hra : br_r S st x a = (-1) := hra
            refine lv_iconst (v := 1) hx hb dX4_brackets_141 (by decide) ?_
            refine lv_goto (tgt := 146) hx hb dX4_brackets_142 (by decide) ?_
            refine lv_iadd hx hb dX4_brackets_146 ?_
            refine lv_iload hx hb dX4_brackets_147 (lv_at hl 0 rfl) ?_
            refine lv_bipush (v := (-3)) hx hb dX4_brackets_149 (by decide) ?_
            refine lv_icmp_ne (tgt := 158) hx hb dX4_brackets_151 (by decide) (fun c_75 => ?_) (fun c_75 => ?_)
            · refine lv_iconst (v := 0) hx hb dX4_brackets_158 (by decide) ?_
              refine lv_iadd hx hb dX4_brackets_159 ?_
              refine lv_istore (lv' := [(9, .int ((1 + 1) + 0)), (8, .int (md_pl S (sF S (fIx b)) (br_l S st x))), (7, .int (md_pl S (sF S (fIx a)) (br_l S st x))), (6, .int (br_l S st x)), (5, .int (fMx ((bH S (fIx x)) - (pV S (fIx st) 0)) ((bD S (fIx x)) + (pV S (fIx st) 0)))), (0, .ref o), (1, .int (nI (fIx st))), (2, .int (nI (fIx a))), (3, .int (nI (fIx x))), (4, .int (nI (fIx b)))]) hx hb dX4_brackets_160 hl (by decide) rfl (fun ls hl => ?_)
              refine lv_aload_n hx hb dX4_brackets_162 rfl (lv_at hl 5 rfl) ?_
              refine lv_iload hx hb dX4_brackets_163 (lv_at hl 2 rfl) ?_
              refine lv_bipush (v := (-2)) hx hb dX4_brackets_165 (by decide) ?_
              refine lv_icmp_eq (tgt := 177) hx hb dX4_brackets_167 (by decide) (fun c_76 => absurd c_76 (fun z9 => absurd (c_19.symm.trans z9) (by decide))) (fun c_76 => ?_)
              refine lv_iload hx hb dX4_brackets_170 (lv_at hl 1 rfl) ?_
              refine lv_bipush (v := (-2)) hx hb dX4_brackets_172 (by decide) ?_
              refine lv_icmp_ne (tgt := 181) hx hb dX4_brackets_174 (by decide) (fun c_77 => ?_) (fun c_77 => ?_)
              · have kGb : isG S (fIx b) := fun z9 => c_77 ((pl_2 hle ob1 ob2).mpr z9)
                have hrb : ¬ br_r S st x b = (-1) := (pl_n3 hle ob1 ob2 kGb c_75).2
                refine lv_aload_n hx hb dX4_brackets_181 rfl (lv_at hl 5 rfl) ?_
                refine mw_get (D := gD G) (ci := 4) (v := .int (nI (sN S))) (C := RX4) (T := TX4) (N := 21) hx hb htb inX4 hown hK hP hT.1 rfl 4 (by decide) (htb _ wd528) (fun _ h9 => h9) rfl dX4_brackets_182 ?_
                refine lv_iload hx hb dX4_brackets_185 (lv_at hl 0 rfl) ?_
                refine lv_iadd hx hb dX4_brackets_187 ?_
                refine lv_bipush (v := 120) hx hb dX4_brackets_188 (by decide) ?_
                refine lv_icmp_le (tgt := 197) hx hb dX4_brackets_190 (by decide) (fun c_78 => ?_) (fun c_78 => ?_)
                · have kb_79 : rmk S ((if br_r S st x a = (-1) then 1 else 0) + (if br_r S st x b = (-1) then 1 else 0) + 1) := by rw [if_pos hra, if_neg hrb, show (1 : Int32) + 0 + 1 = 1 + 1 + 0 from rfl]; exact Int32.not_lt.mpr c_78
                  have hrm : sN S + 2 ≤ 120 := rmk_le (n := 2) (by decide) hle (by rw [show nI 2 = (1 : Int32) + 1 + 0 from rfl]; exact Int32.not_lt.mpr c_78)
                  refine lv_iconst (v := 0) hx hb dX4_brackets_197 (by decide) ?_
                  refine mw_put (D := gD G) (ci := 4) (v := .int 0) (ty := .int) (C := RX4) (T := TX4) (N := 21) hx hb htb inX4 tyX4 tyX4_ok nmX4 hown hK hP hS hT.1 hT.2.2.2.1 rfl 0 (by decide) (htb _ wd524) (fun _ h9 => h9) rfl (by decide +kernel) rfl rfl (Nat.le_of_ble_eq_true rfl) dX4_brackets_198 (fun H locs hP hS => ?_)
                  obtain ⟨M_80, hM_80⟩ : ∃ z9 : mw_M, z9 = mw_up M_17 o (.inr (4, [.int 0, .ref (A 0), .int (sSp S), .int (sSh S), .int (nI (sN S)), .ref (A 1), .ref (A 2), .ref (A 3), .ref (A 4), .ref (A 5), .ref (A 6), .ref (A 7), .int (nI np18), .ref (A 8), .ref (A 9), .ref (A 10), .ref (A 11), .ref (A 12), .ref (A 13), .ref (A 14), .int (nI (fSz (fIx st)))])) := ⟨_, rfl⟩
                  have hP : mw_P (gD G) gx_cl M_80 H := by rw [hM_80]; exact hP
                  have hT : md_at G o A M_80 0 (sSp S) (sSh S) (nI (sN S)) (nI np18) (nI (fSz (fIx st))) g18 := md_at.fld hT hM_80
                  have hk : md_keeps o A M M_80 := md_keeps.fld hk hM_80
                  refine lv_aload_n hx hb dX4_brackets_201 rfl (lv_at hl 5 rfl) ?_
                  refine mw_get (D := gD G) (ci := 4) (v := .int 0) (C := RX4) (T := TX4) (N := 21) hx hb htb inX4 hown hK hP hT.1 rfl 0 (by decide) (htb _ wd524) (fun _ h9 => h9) rfl dX4_brackets_202 ?_
                  refine lv_if_le (tgt := 210) hx hb dX4_brackets_205 (by decide) (fun c_81 => ?_) (fun c_81 => absurd (by decide) c_81)
                  refine lv_aload_n hx hb dX4_brackets_210 rfl (lv_at hl 5 rfl) ?_
                  refine lv_iload_n hx hb dX4_brackets_211 rfl (lv_at hl 7 rfl) ?_
                  refine lv_iload hx hb dX4_brackets_212 (lv_at hl 3 rfl) ?_
                  refine mw_callV (C := RX4) (As := [.int (nI (fIx a)), .int (br_l S st x)]) (rest := []) hx hb hml hown hl (kX4_signBy l htr G H.size M_80 o A 0 (nI (fSz (fIx st))) S (⟨np18, bg18, g18, hT, hB⟩ : md_R G o A M_80 0 (nI (fSz (fIx st))) S) hok (fIx a) h_a (br_l S st x) kGa (fun z9 => by omega)) (g_B (n := 2) htb wd649 wd3 wd646 (by decide +kernel) ⟨Nat.le_of_ble_eq_true rfl, Nat.le_of_ble_eq_true rfl⟩) (htb _ wd648) (htb _ ws31) hE hP hS hT.1 rfl rfl rfl (Nat.le_of_ble_eq_true rfl) dX4_brackets_214 ⟨Nat.le_of_ble_eq_true rfl, Nat.le_of_ble_eq_true rfl⟩ (fun v9 M9 H locs hpo hP hz hS => ?_) (fun x9 E9 cell9 H9 locs9 hE9 => hE9.elim)
                  obtain ⟨rfl, hRn, hkn⟩ := hpo
                  obtain ⟨M_82, hM_82⟩ : ∃ z9 : mw_M, z9 = M9 := ⟨_, rfl⟩
                  rw [← hM_82] at hP hRn hkn
                  have hk := md_keeps.tr hk hkn
                  obtain ⟨S1, hS1⟩ : ∃ z9, z9 = br_S1 S st a x := ⟨_, rfl⟩
                  have hRn : md_R G o A M_82 0 (nI (fSz (fIx st))) S1 := by rw [hS1]; exact hRn
                  obtain ⟨hy1, hy2⟩ := kt_in (sF S (fIx a)) (br_l S st x) hle (fs_rd_on (br_l S st x) oa2)
                  obtain ⟨y_83, ey_83⟩ : ∃ z9, z9 = br_y S st a x := ⟨_, rfl⟩
                  have h_y_83 : y_83 < sN S1 := by rw [ey_83, hS1]; exact hy1
                  have hyA : kt_y S (fs_rd S (sF S (fIx a)) (br_l S st x)) = nI y_83 := by rw [ey_83]; exact hy2
                  have hle1 : sN S ≤ sN S1 := by rw [hS1]; exact kt_le _ _ _ _
                  have eF : sF S1 (fIx b) = sF S (fIx b) := by rw [hS1, br_S1, kt_F]
                  have hok1 : fs_ok S1 := by rw [hS1]; exact kt_ok hok h_a _ _ (fun _ => by omega)
                  have eR : fs_rd S1 (sF S (fIx b)) (br_l S st x) = br_r S st x b := by rw [hS1, br_S1]; exact rd_kt (Or.inl (by omega)) _ _ _ ob2
                  have h_x := Nat.lt_of_lt_of_le h_x hle1
                  obtain ⟨np84, bg84, g84, hT, hB⟩ := id hRn
                  have hle : sN S1 ≤ 120 := hB.1
                  refine W.eq (g2 := F0 m 217 ls [.int (nI y_83)]) (show F0 m 217 ls [.int (kt_y S (fs_rd S (sF S (fIx a)) (br_l S st x)))] = F0 m 217 ls [.int (nI y_83)] from by rw [hyA]) ?_
                  refine lv_istore (lv' := [(10, .int (nI y_83)), (9, .int ((1 + 1) + 0)), (8, .int (md_pl S (sF S (fIx b)) (br_l S st x))), (7, .int (md_pl S (sF S (fIx a)) (br_l S st x))), (6, .int (br_l S st x)), (5, .int (fMx ((bH S (fIx x)) - (pV S (fIx st) 0)) ((bD S (fIx x)) + (pV S (fIx st) 0)))), (0, .ref o), (1, .int (nI (fIx st))), (2, .int (nI (fIx a))), (3, .int (nI (fIx x))), (4, .int (nI (fIx b)))]) hx hb dX4_brackets_217 hl (by decide) rfl (fun ls hl => ?_)
                  refine lv_aload_n hx hb dX4_brackets_219 rfl (lv_at hl 6 rfl) ?_
                  refine lv_iload hx hb dX4_brackets_220 (lv_at hl 10 rfl) ?_
                  refine lv_iload hx hb dX4_brackets_222 (lv_at hl 4 rfl) ?_
                  refine mw_callV (C := RX4) (As := [.int (nI (fIx b)), .int (br_l S st x)]) (rest := []) hx hb hml hown hl (kX4_signBy l htr G H.size M_82 o A 0 (nI (fSz (fIx st))) S1 (⟨np84, bg84, g84, hT, hB⟩ : md_R G o A M_82 0 (nI (fSz (fIx st))) S1) hok1 (fIx b) h_b (br_l S st x) (show isG S1 (fIx b) from by unfold isG; rw [eF]; exact kGb) (fun z9 => by rw [hS1, br_S1, kt_n, if_pos hra]; omega)) (g_B (n := 2) htb wd649 wd3 wd646 (by decide +kernel) ⟨Nat.le_of_ble_eq_true rfl, Nat.le_of_ble_eq_true rfl⟩) (htb _ wd648) (htb _ ws31) hE hP hS hT.1 rfl rfl rfl (Nat.le_of_ble_eq_true rfl) dX4_brackets_224 ⟨Nat.le_of_ble_eq_true rfl, Nat.le_of_ble_eq_true rfl⟩ (fun v9 M9 H locs hpo hP hz hS => ?_) (fun x9 E9 cell9 H9 locs9 hE9 => hE9.elim)
                  obtain ⟨rfl, hRn, hkn⟩ := hpo
                  obtain ⟨M_85, hM_85⟩ : ∃ z9 : mw_M, z9 = M9 := ⟨_, rfl⟩
                  rw [← hM_85] at hP hRn hkn
                  have hk := md_keeps.tr hk hkn
                  rw [eF, eR] at hRn
                  obtain ⟨S2, hS2⟩ : ∃ z9, z9 = br_S S st a x b := ⟨_, rfl⟩
                  have hRn : md_R G o A M_85 0 (nI (fSz (fIx st))) S2 := by rw [hS2, br_S, ← hS1]; exact hRn
                  have on2 : fs_on S1 (br_r S st x b) := by rw [hS1, br_S1]; exact rd_on_kt ob2
                  obtain ⟨hy1, hy2⟩ := kt_in (sF S (fIx b)) (br_l S st x) hle on2
                  obtain ⟨y_86, ey_86⟩ : ∃ z9, z9 = br_z S st a x b := ⟨_, rfl⟩
                  have ez9 : y_86 = fIx (kt_y S1 (br_r S st x b)) := by rw [ey_86, br_z, ← hS1]
                  have h_y_86 : y_86 < sN S2 := by rw [ez9, hS2, br_S, ← hS1]; exact hy1
                  have hyB : kt_y S1 (fs_rd S1 (sF S1 (fIx b)) (br_l S st x)) = nI y_86 := by rw [eF, eR, ez9]; exact hy2
                  have hle2 : sN S1 ≤ sN S2 := by rw [hS2, br_S, ← hS1]; exact kt_le _ _ _ _
                  have h_x := Nat.lt_of_lt_of_le h_x hle2
                  have h_y_83 := Nat.lt_of_lt_of_le h_y_83 hle2
                  obtain ⟨np87, bg87, g87, hT, hB⟩ := id hRn
                  have hle : sN S2 ≤ 120 := hB.1
                  refine W.eq (g2 := F0 m 227 ls [.int (nI y_86)]) (show F0 m 227 ls [.int (kt_y S1 (fs_rd S1 (sF S1 (fIx b)) (br_l S st x)))] = F0 m 227 ls [.int (nI y_86)] from by rw [hyB]) ?_
                  refine lv_istore (lv' := [(11, .int (nI y_86)), (10, .int (nI y_83)), (9, .int ((1 + 1) + 0)), (8, .int (md_pl S (sF S (fIx b)) (br_l S st x))), (7, .int (md_pl S (sF S (fIx a)) (br_l S st x))), (6, .int (br_l S st x)), (5, .int (fMx ((bH S (fIx x)) - (pV S (fIx st) 0)) ((bD S (fIx x)) + (pV S (fIx st) 0)))), (0, .ref o), (1, .int (nI (fIx st))), (2, .int (nI (fIx a))), (3, .int (nI (fIx x))), (4, .int (nI (fIx b)))]) hx hb dX4_brackets_227 hl (by decide) rfl (fun ls hl => ?_)
                  refine lv_aload_n hx hb dX4_brackets_229 rfl (lv_at hl 7 rfl) ?_
                  refine lv_aload_n hx hb dX4_brackets_230 rfl (lv_at hl 7 rfl) ?_
                  refine mw_get (D := gD G) (ci := 4) (v := .ref (A 1)) (C := RX4) (T := TX4) (N := 21) hx hb htb inX4 hown hK hP hT.1 rfl 5 (by decide) (htb _ wd529) (fun _ h9 => h9) rfl dX4_brackets_231 ?_
                  refine lv_iload hx hb dX4_brackets_234 (lv_at hl 1 rfl) ?_
                  refine mw_iald hx hb hK hP 0 (show M_85 (A 1) = some (.inl (gI G, 120, .inl (g87 1))) from hT.2.1 1 (by decide)) rfl (by exact vp_in_nI (show y_83 < 120 by have := hle; omega) (by decide)) dX4_brackets_236 ?_
                  refine W.eq (g2 := F0 m 237 ls [.int (bW S2 y_83), .ref o]) (by rw [nI_clamp (show y_83 < 2 ^ 31 by have := hle; omega), hB.W h_y_83]) ?_
                  refine lv_aload_n hx hb dX4_brackets_237 rfl (lv_at hl 7 rfl) ?_
                  refine mw_get (D := gD G) (ci := 4) (v := .ref (A 1)) (C := RX4) (T := TX4) (N := 21) hx hb htb inX4 hown hK hP hT.1 rfl 5 (by decide) (htb _ wd529) (fun _ h9 => h9) rfl dX4_brackets_238 ?_
                  refine lv_iload_n hx hb dX4_brackets_241 rfl (lv_at hl 10 rfl) ?_
                  refine mw_iald hx hb hK hP 0 (show M_85 (A 1) = some (.inl (gI G, 120, .inl (g87 1))) from hT.2.1 1 (by decide)) rfl (by exact vp_in_nI (show (fIx x) < 120 by have := hle; omega) (by decide)) dX4_brackets_242 ?_
                  refine W.eq (g2 := F0 m 243 ls [.int (bW S2 (fIx x)), .int (bW S2 y_83), .ref o]) (by rw [nI_clamp (show (fIx x) < 2 ^ 31 by have := hle; omega), hB.W h_x]) ?_
                  refine lv_iadd hx hb dX4_brackets_243 ?_
                  refine lv_aload_n hx hb dX4_brackets_244 rfl (lv_at hl 7 rfl) ?_
                  refine mw_get (D := gD G) (ci := 4) (v := .ref (A 1)) (C := RX4) (T := TX4) (N := 21) hx hb htb inX4 hown hK hP hT.1 rfl 5 (by decide) (htb _ wd529) (fun _ h9 => h9) rfl dX4_brackets_245 ?_
                  refine lv_iload hx hb dX4_brackets_248 (lv_at hl 0 rfl) ?_
                  refine mw_iald hx hb hK hP 0 (show M_85 (A 1) = some (.inl (gI G, 120, .inl (g87 1))) from hT.2.1 1 (by decide)) rfl (by exact vp_in_nI (show y_86 < 120 by have := hle; omega) (by decide)) dX4_brackets_250 ?_
                  refine W.eq (g2 := F0 m 251 ls [.int (bW S2 y_86), .int ((bW S2 y_83) + (bW S2 (fIx x))), .ref o]) (by rw [nI_clamp (show y_86 < 2 ^ 31 by have := hle; omega), hB.W h_y_86]) ?_
                  refine lv_iadd hx hb dX4_brackets_251 ?_
                  refine lv_iconst (v := 0) hx hb dX4_brackets_252 (by decide) ?_
                  refine lv_iconst (v := 0) hx hb dX4_brackets_253 (by decide) ?_
                  refine mw_callV (C := RX4) (As := [.int (((bW S2 y_83) + (bW S2 (fIx x))) + (bW S2 y_86)), .int 0, .int 0]) (rest := []) hx hb hml hown hl (kX4_make l htr G H.size M_85 o A 0 (nI (fSz (fIx st))) S2 (⟨np87, bg87, g87, hT, hB⟩ : md_R G o A M_85 0 (nI (fSz (fIx st))) S2) (show sN S2 < 120 from by rw [hS2, br_S, kt_n, br_S1, kt_n, if_neg hrb, if_pos hra]; omega) (((bW S2 y_83) + (bW S2 (fIx x))) + (bW S2 y_86)) 0 0) (g_B (n := 3) htb wd613 wd3 wd610 (by decide +kernel) ⟨Nat.le_of_ble_eq_true rfl, Nat.le_of_ble_eq_true rfl⟩) (htb _ wd612) (htb _ ws26) hE hP hS hT.1 rfl rfl rfl (Nat.le_of_ble_eq_true rfl) dX4_brackets_254 ⟨Nat.le_of_ble_eq_true rfl, Nat.le_of_ble_eq_true rfl⟩ (fun v9 M9 H locs hpo hP hz hS => ?_) (fun x9 E9 cell9 H9 locs9 hE9 => hE9.elim)
                  have hle0 := hle
                  obtain ⟨rfl, hRn, hkn⟩ := hpo
                  obtain ⟨M_88, hM_88⟩ : ∃ z9 : mw_M, z9 = M9 := ⟨_, rfl⟩
                  rw [← hM_88] at hP hRn hkn
                  have hk := md_keeps.tr hk hkn
                  have hRn : md_R G o A M_88 0 (nI (fSz (fIx st))) (fs_push S2 ((((bW S2 y_83) + (bW S2 (fIx x))) + (bW S2 y_86)), 0, 0, [], 0, 0)) := hRn
                  obtain ⟨np89, bg89, g89, hT, hB⟩ := id hRn
                  rw [sN_push] at hT
                  have hT : md_at G o A M_88 0 (sSp S2) (sSh S2) (nI (sN S2 + 1)) (nI np89) (nI (fSz (fIx st))) g89 := hT
                  have hle : sN S2 + 1 ≤ 120 := by have := hB.1; rw [sN_push] at this; exact this
                  refine W.eq (g2 := F0 m 257 ls [.int (nI (sN S2))]) rfl ?_
                  refine lv_istore (lv' := [(12, .int (nI (sN S2))), (11, .int (nI y_86)), (10, .int (nI y_83)), (9, .int ((1 + 1) + 0)), (8, .int (md_pl S (sF S (fIx b)) (br_l S st x))), (7, .int (md_pl S (sF S (fIx a)) (br_l S st x))), (6, .int (br_l S st x)), (5, .int (fMx ((bH S (fIx x)) - (pV S (fIx st) 0)) ((bD S (fIx x)) + (pV S (fIx st) 0)))), (0, .ref o), (1, .int (nI (fIx st))), (2, .int (nI (fIx a))), (3, .int (nI (fIx x))), (4, .int (nI (fIx b)))]) hx hb dX4_brackets_257 hl (by decide) rfl (fun ls hl => ?_)
                  refine lv_aload_n hx hb dX4_brackets_259 rfl (lv_at hl 8 rfl) ?_
                  refine lv_iload hx hb dX4_brackets_260 (lv_at hl 2 rfl) ?_
                  refine lv_iconst (v := 0) hx hb dX4_brackets_262 (by decide) ?_
                  refine lv_aload_n hx hb dX4_brackets_263 rfl (lv_at hl 8 rfl) ?_
                  refine lv_iconst (v := 0) hx hb dX4_brackets_264 (by decide) ?_
                  refine mw_callV (C := RX4) (As := [.int 0]) (rest := [.int 0, .int (nI y_83), .ref o]) hx hb hml hown hl (kX4_p l htr G H.size M_88 o A 0 (fs_push S2 ((((bW S2 y_83) + (bW S2 (fIx x))) + (bW S2 y_86)), 0, 0, [], 0, 0)) (fIx st) 0 h_st (by decide) (md_R.of (np := np89) hT hB : md_R G o A M_88 0 (nI (fSz (fIx st))) (fs_push S2 ((((bW S2 y_83) + (bW S2 (fIx x))) + (bW S2 y_86)), 0, 0, [], 0, 0)))) (g_B (n := 1) htb wd679 wd3 wd676 (by decide +kernel) ⟨Nat.le_of_ble_eq_true rfl, Nat.le_of_ble_eq_true rfl⟩) (htb _ wd678) (htb _ ws36) hE hP hS hT.1 rfl rfl rfl (Nat.le_of_ble_eq_true rfl) dX4_brackets_265 ⟨Nat.le_of_ble_eq_true rfl, Nat.le_of_ble_eq_true rfl⟩ (fun v9 M9 H locs hpo hP hz hS => ?_) (fun x9 E9 cell9 H9 locs9 hE9 => hE9.elim)
                  obtain ⟨rfl, rfl⟩ := hpo
                  refine W.eq (g2 := F0 m 268 ls [.int (pV S2 (fIx st) 0), .int 0, .int (nI y_83), .ref o]) rfl ?_
                  refine lv_aload_n hx hb dX4_brackets_268 rfl (lv_at hl 8 rfl) ?_
                  refine mw_get (D := gD G) (ci := 4) (v := .ref (A 2)) (C := RX4) (T := TX4) (N := 21) hx hb htb inX4 hown hK hP hT.1 rfl 6 (by decide) (htb _ wd530) (fun _ h9 => h9) rfl dX4_brackets_269 ?_
                  refine lv_iload hx hb dX4_brackets_272 (lv_at hl 2 rfl) ?_
                  refine mw_iald hx hb hK hP 0 (show M_88 (A 2) = some (.inl (gI G, 120, .inl (g89 2))) from hT.2.1 2 (by decide)) rfl (by exact vp_in_nI (show y_83 < 120 by have := hle; omega) (by decide)) dX4_brackets_274 ?_
                  refine W.eq (g2 := F0 m 275 ls [.int (bH S2 y_83), .int (pV S2 (fIx st) 0), .int 0, .int (nI y_83), .ref o]) (by rw [nI_clamp (show y_83 < 2 ^ 31 by have := hle; omega), hB.H (show y_83 < sN (fs_push S2 ((((bW S2 y_83) + (bW S2 (fIx x))) + (bW S2 y_86)), 0, 0, [], 0, 0)) by rw [sN_push]; omega), bH_push _ h_y_83]) ?_
                  refine lv_aload_n hx hb dX4_brackets_275 rfl (lv_at hl 8 rfl) ?_
                  refine mw_get (D := gD G) (ci := 4) (v := .ref (A 3)) (C := RX4) (T := TX4) (N := 21) hx hb htb inX4 hown hK hP hT.1 rfl 7 (by decide) (htb _ wd531) (fun _ h9 => h9) rfl dX4_brackets_276 ?_
                  refine lv_iload hx hb dX4_brackets_279 (lv_at hl 2 rfl) ?_
                  refine mw_iald hx hb hK hP 0 (show M_88 (A 3) = some (.inl (gI G, 120, .inl (g89 3))) from hT.2.1 3 (by decide)) rfl (by exact vp_in_nI (show y_83 < 120 by have := hle; omega) (by decide)) dX4_brackets_281 ?_
                  refine W.eq (g2 := F0 m 282 ls [.int (bD S2 y_83), .int (bH S2 y_83), .int (pV S2 (fIx st) 0), .int 0, .int (nI y_83), .ref o]) (by rw [nI_clamp (show y_83 < 2 ^ 31 by have := hle; omega), hB.D (show y_83 < sN (fs_push S2 ((((bW S2 y_83) + (bW S2 (fIx x))) + (bW S2 y_86)), 0, 0, [], 0, 0)) by rw [sN_push]; omega), bD_push _ h_y_83]) ?_
                  refine lv_isub hx hb dX4_brackets_282 ?_
                  refine mw_callS (As := [.int ((bH S2 y_83) - (bD S2 y_83))]) (rest := [.int (pV S2 (fIx st) 0), .int 0, .int (nI y_83), .ref o]) hx hb hml hown hl (kX4_half l htr G H.size M_88 ((bH S2 y_83) - (bD S2 y_83))) (g_B (n := 1) htb wd682 wd3 wd680 (by decide +kernel) ⟨Nat.le_of_ble_eq_true rfl, Nat.le_of_ble_eq_true rfl⟩) (htb _ wd681) hE hP hS rfl rfl (Nat.le_of_ble_eq_true rfl) dX4_brackets_283 ⟨Nat.le_of_ble_eq_true rfl, Nat.le_of_ble_eq_true rfl⟩ (fun v9 M9 H locs hpo hP hz hS => ?_) (fun x9 E9 cell9 H9 locs9 hE9 => hE9.elim)
                  obtain ⟨rfl, rfl⟩ := hpo
                  refine W.eq (g2 := F0 m 286 ls [.int (fHf ((bH S2 y_83) - (bD S2 y_83))), .int (pV S2 (fIx st) 0), .int 0, .int (nI y_83), .ref o]) rfl ?_
                  refine lv_isub hx hb dX4_brackets_286 ?_
                  refine mw_callV (C := RX4) (As := [.int (nI y_83), .int 0, .int ((pV S2 (fIx st) 0) - (fHf ((bH S2 y_83) - (bD S2 y_83))))]) (rest := []) hx hb hml hown hl (kX4_lay l htr G H.size M_88 o A 0 (nI (fSz (fIx st))) S2 (((bW S2 y_83) + (bW S2 (fIx x))) + (bW S2 y_86)) 0 0 ([]) 0 0 (md_R.of (np := np89) hT hB : md_R G o A M_88 0 (nI (fSz (fIx st))) (fs_push S2 ((((bW S2 y_83) + (bW S2 (fIx x))) + (bW S2 y_86)), 0, 0, [], 0, 0))) (by simp) (nI y_83) 0 ((pV S2 (fIx st) 0) - (fHf ((bH S2 y_83) - (bD S2 y_83))))) (g_B (n := 3) htb wd661 wd3 wd658 (by decide +kernel) ⟨Nat.le_of_ble_eq_true rfl, Nat.le_of_ble_eq_true rfl⟩) (htb _ wd660) (htb _ ws34) hE hP hS hT.1 rfl rfl rfl (Nat.le_of_ble_eq_true rfl) dX4_brackets_287 ⟨Nat.le_of_ble_eq_true rfl, Nat.le_of_ble_eq_true rfl⟩ (fun v9 M9 H locs hpo hP hz hS => ?_) (fun x9 E9 cell9 H9 locs9 hE9 => hE9.elim)
                  obtain ⟨rfl, hRn, hkn⟩ := hpo
                  obtain ⟨M_90, hM_90⟩ : ∃ z9 : mw_M, z9 = M9 := ⟨_, rfl⟩
                  rw [← hM_90] at hP hRn hkn
                  have hk := md_keeps.tr hk hkn
                  have hRn : md_R G o A M_90 0 (nI (fSz (fIx st))) (fs_push S2 ((((bW S2 y_83) + (bW S2 (fIx x))) + (bW S2 y_86)), 0, 0, [(nI y_83), 0, ((pV S2 (fIx st) 0) - (fHf ((bH S2 y_83) - (bD S2 y_83))))], 0, 0)) := hRn
                  obtain ⟨np91, bg91, g91, hT, hB⟩ := id hRn
                  rw [sN_push] at hT
                  have hT : md_at G o A M_90 0 (sSp S2) (sSh S2) (nI (sN S2 + 1)) (nI np91) (nI (fSz (fIx st))) g91 := hT
                  refine W.eq (g2 := F0 m 290 ls []) rfl ?_
                  refine lv_aload_n hx hb dX4_brackets_290 rfl (lv_at hl 8 rfl) ?_
                  refine lv_iload_n hx hb dX4_brackets_291 rfl (lv_at hl 11 rfl) ?_
                  refine lv_aload_n hx hb dX4_brackets_292 rfl (lv_at hl 8 rfl) ?_
                  refine mw_get (D := gD G) (ci := 4) (v := .ref (A 1)) (C := RX4) (T := TX4) (N := 21) hx hb htb inX4 hown hK hP hT.1 rfl 5 (by decide) (htb _ wd529) (fun _ h9 => h9) rfl dX4_brackets_293 ?_
                  refine lv_iload hx hb dX4_brackets_296 (lv_at hl 2 rfl) ?_
                  refine mw_iald hx hb hK hP 0 (show M_90 (A 1) = some (.inl (gI G, 120, .inl (g91 1))) from hT.2.1 1 (by decide)) rfl (by exact vp_in_nI (show y_83 < 120 by have := hle; omega) (by decide)) dX4_brackets_298 ?_
                  refine W.eq (g2 := F0 m 299 ls [.int (bW S2 y_83), .int (nI (fIx x)), .ref o]) (by rw [nI_clamp (show y_83 < 2 ^ 31 by have := hle; omega), hB.W (show y_83 < sN (fs_push S2 ((((bW S2 y_83) + (bW S2 (fIx x))) + (bW S2 y_86)), 0, 0, [(nI y_83), 0, ((pV S2 (fIx st) 0) - (fHf ((bH S2 y_83) - (bD S2 y_83))))], 0, 0)) by rw [sN_push]; omega), bW_push _ h_y_83]) ?_
                  refine lv_iconst (v := 0) hx hb dX4_brackets_299 (by decide) ?_
                  refine mw_callV (C := RX4) (As := [.int (nI (fIx x)), .int (bW S2 y_83), .int 0]) (rest := []) hx hb hml hown hl (kX4_lay l htr G H.size M_90 o A 0 (nI (fSz (fIx st))) S2 (((bW S2 y_83) + (bW S2 (fIx x))) + (bW S2 y_86)) 0 0 ([(nI y_83), 0, ((pV S2 (fIx st) 0) - (fHf ((bH S2 y_83) - (bD S2 y_83))))]) 0 0 (md_R.of (np := np91) hT hB : md_R G o A M_90 0 (nI (fSz (fIx st))) (fs_push S2 ((((bW S2 y_83) + (bW S2 (fIx x))) + (bW S2 y_86)), 0, 0, [(nI y_83), 0, ((pV S2 (fIx st) 0) - (fHf ((bH S2 y_83) - (bD S2 y_83))))], 0, 0))) (by simp) (nI (fIx x)) (bW S2 y_83) 0) (g_B (n := 3) htb wd661 wd3 wd658 (by decide +kernel) ⟨Nat.le_of_ble_eq_true rfl, Nat.le_of_ble_eq_true rfl⟩) (htb _ wd660) (htb _ ws34) hE hP hS hT.1 rfl rfl rfl (Nat.le_of_ble_eq_true rfl) dX4_brackets_300 ⟨Nat.le_of_ble_eq_true rfl, Nat.le_of_ble_eq_true rfl⟩ (fun v9 M9 H locs hpo hP hz hS => ?_) (fun x9 E9 cell9 H9 locs9 hE9 => hE9.elim)
                  obtain ⟨rfl, hRn, hkn⟩ := hpo
                  obtain ⟨M_92, hM_92⟩ : ∃ z9 : mw_M, z9 = M9 := ⟨_, rfl⟩
                  rw [← hM_92] at hP hRn hkn
                  have hk := md_keeps.tr hk hkn
                  have hRn : md_R G o A M_92 0 (nI (fSz (fIx st))) (fs_push S2 ((((bW S2 y_83) + (bW S2 (fIx x))) + (bW S2 y_86)), 0, 0, [(nI y_83), 0, ((pV S2 (fIx st) 0) - (fHf ((bH S2 y_83) - (bD S2 y_83)))), (nI (fIx x)), (bW S2 y_83), 0], 0, 0)) := hRn
                  obtain ⟨np93, bg93, g93, hT, hB⟩ := id hRn
                  rw [sN_push] at hT
                  have hT : md_at G o A M_92 0 (sSp S2) (sSh S2) (nI (sN S2 + 1)) (nI np93) (nI (fSz (fIx st))) g93 := hT
                  refine W.eq (g2 := F0 m 303 ls []) rfl ?_
                  refine lv_aload_n hx hb dX4_brackets_303 rfl (lv_at hl 8 rfl) ?_
                  refine lv_iload hx hb dX4_brackets_304 (lv_at hl 1 rfl) ?_
                  refine lv_aload_n hx hb dX4_brackets_306 rfl (lv_at hl 8 rfl) ?_
                  refine mw_get (D := gD G) (ci := 4) (v := .ref (A 1)) (C := RX4) (T := TX4) (N := 21) hx hb htb inX4 hown hK hP hT.1 rfl 5 (by decide) (htb _ wd529) (fun _ h9 => h9) rfl dX4_brackets_307 ?_
                  refine lv_iload hx hb dX4_brackets_310 (lv_at hl 2 rfl) ?_
                  refine mw_iald hx hb hK hP 0 (show M_92 (A 1) = some (.inl (gI G, 120, .inl (g93 1))) from hT.2.1 1 (by decide)) rfl (by exact vp_in_nI (show y_83 < 120 by have := hle; omega) (by decide)) dX4_brackets_312 ?_
                  refine W.eq (g2 := F0 m 313 ls [.int (bW S2 y_83), .int (nI y_86), .ref o]) (by rw [nI_clamp (show y_83 < 2 ^ 31 by have := hle; omega), hB.W (show y_83 < sN (fs_push S2 ((((bW S2 y_83) + (bW S2 (fIx x))) + (bW S2 y_86)), 0, 0, [(nI y_83), 0, ((pV S2 (fIx st) 0) - (fHf ((bH S2 y_83) - (bD S2 y_83)))), (nI (fIx x)), (bW S2 y_83), 0], 0, 0)) by rw [sN_push]; omega), bW_push _ h_y_83]) ?_
                  refine lv_aload_n hx hb dX4_brackets_313 rfl (lv_at hl 8 rfl) ?_
                  refine mw_get (D := gD G) (ci := 4) (v := .ref (A 1)) (C := RX4) (T := TX4) (N := 21) hx hb htb inX4 hown hK hP hT.1 rfl 5 (by decide) (htb _ wd529) (fun _ h9 => h9) rfl dX4_brackets_314 ?_
                  refine lv_iload_n hx hb dX4_brackets_317 rfl (lv_at hl 11 rfl) ?_
                  refine mw_iald hx hb hK hP 0 (show M_92 (A 1) = some (.inl (gI G, 120, .inl (g93 1))) from hT.2.1 1 (by decide)) rfl (by exact vp_in_nI (show (fIx x) < 120 by have := hle; omega) (by decide)) dX4_brackets_318 ?_
                  refine W.eq (g2 := F0 m 319 ls [.int (bW S2 (fIx x)), .int (bW S2 y_83), .int (nI y_86), .ref o]) (by rw [nI_clamp (show (fIx x) < 2 ^ 31 by have := hle; omega), hB.W (show (fIx x) < sN (fs_push S2 ((((bW S2 y_83) + (bW S2 (fIx x))) + (bW S2 y_86)), 0, 0, [(nI y_83), 0, ((pV S2 (fIx st) 0) - (fHf ((bH S2 y_83) - (bD S2 y_83)))), (nI (fIx x)), (bW S2 y_83), 0], 0, 0)) by rw [sN_push]; omega), bW_push _ h_x]) ?_
                  refine lv_iadd hx hb dX4_brackets_319 ?_
                  refine lv_aload_n hx hb dX4_brackets_320 rfl (lv_at hl 8 rfl) ?_
                  refine lv_iconst (v := 0) hx hb dX4_brackets_321 (by decide) ?_
                  refine mw_callV (C := RX4) (As := [.int 0]) (rest := [.int ((bW S2 y_83) + (bW S2 (fIx x))), .int (nI y_86), .ref o]) hx hb hml hown hl (kX4_p l htr G H.size M_92 o A 0 (fs_push S2 ((((bW S2 y_83) + (bW S2 (fIx x))) + (bW S2 y_86)), 0, 0, [(nI y_83), 0, ((pV S2 (fIx st) 0) - (fHf ((bH S2 y_83) - (bD S2 y_83)))), (nI (fIx x)), (bW S2 y_83), 0], 0, 0)) (fIx st) 0 h_st (by decide) (md_R.of (np := np93) hT hB : md_R G o A M_92 0 (nI (fSz (fIx st))) (fs_push S2 ((((bW S2 y_83) + (bW S2 (fIx x))) + (bW S2 y_86)), 0, 0, [(nI y_83), 0, ((pV S2 (fIx st) 0) - (fHf ((bH S2 y_83) - (bD S2 y_83)))), (nI (fIx x)), (bW S2 y_83), 0], 0, 0)))) (g_B (n := 1) htb wd679 wd3 wd676 (by decide +kernel) ⟨Nat.le_of_ble_eq_true rfl, Nat.le_of_ble_eq_true rfl⟩) (htb _ wd678) (htb _ ws36) hE hP hS hT.1 rfl rfl rfl (Nat.le_of_ble_eq_true rfl) dX4_brackets_322 ⟨Nat.le_of_ble_eq_true rfl, Nat.le_of_ble_eq_true rfl⟩ (fun v9 M9 H locs hpo hP hz hS => ?_) (fun x9 E9 cell9 H9 locs9 hE9 => hE9.elim)
                  obtain ⟨rfl, rfl⟩ := hpo
                  refine W.eq (g2 := F0 m 325 ls [.int (pV S2 (fIx st) 0), .int ((bW S2 y_83) + (bW S2 (fIx x))), .int (nI y_86), .ref o]) rfl ?_
                  refine lv_aload_n hx hb dX4_brackets_325 rfl (lv_at hl 8 rfl) ?_
                  refine mw_get (D := gD G) (ci := 4) (v := .ref (A 2)) (C := RX4) (T := TX4) (N := 21) hx hb htb inX4 hown hK hP hT.1 rfl 6 (by decide) (htb _ wd530) (fun _ h9 => h9) rfl dX4_brackets_326 ?_
                  refine lv_iload hx hb dX4_brackets_329 (lv_at hl 1 rfl) ?_
                  refine mw_iald hx hb hK hP 0 (show M_92 (A 2) = some (.inl (gI G, 120, .inl (g93 2))) from hT.2.1 2 (by decide)) rfl (by exact vp_in_nI (show y_86 < 120 by have := hle; omega) (by decide)) dX4_brackets_331 ?_
                  refine W.eq (g2 := F0 m 332 ls [.int (bH S2 y_86), .int (pV S2 (fIx st) 0), .int ((bW S2 y_83) + (bW S2 (fIx x))), .int (nI y_86), .ref o]) (by rw [nI_clamp (show y_86 < 2 ^ 31 by have := hle; omega), hB.H (show y_86 < sN (fs_push S2 ((((bW S2 y_83) + (bW S2 (fIx x))) + (bW S2 y_86)), 0, 0, [(nI y_83), 0, ((pV S2 (fIx st) 0) - (fHf ((bH S2 y_83) - (bD S2 y_83)))), (nI (fIx x)), (bW S2 y_83), 0], 0, 0)) by rw [sN_push]; omega), bH_push _ h_y_86]) ?_
                  refine lv_aload_n hx hb dX4_brackets_332 rfl (lv_at hl 8 rfl) ?_
                  refine mw_get (D := gD G) (ci := 4) (v := .ref (A 3)) (C := RX4) (T := TX4) (N := 21) hx hb htb inX4 hown hK hP hT.1 rfl 7 (by decide) (htb _ wd531) (fun _ h9 => h9) rfl dX4_brackets_333 ?_
                  refine lv_iload hx hb dX4_brackets_336 (lv_at hl 1 rfl) ?_
                  refine mw_iald hx hb hK hP 0 (show M_92 (A 3) = some (.inl (gI G, 120, .inl (g93 3))) from hT.2.1 3 (by decide)) rfl (by exact vp_in_nI (show y_86 < 120 by have := hle; omega) (by decide)) dX4_brackets_338 ?_
                  refine W.eq (g2 := F0 m 339 ls [.int (bD S2 y_86), .int (bH S2 y_86), .int (pV S2 (fIx st) 0), .int ((bW S2 y_83) + (bW S2 (fIx x))), .int (nI y_86), .ref o]) (by rw [nI_clamp (show y_86 < 2 ^ 31 by have := hle; omega), hB.D (show y_86 < sN (fs_push S2 ((((bW S2 y_83) + (bW S2 (fIx x))) + (bW S2 y_86)), 0, 0, [(nI y_83), 0, ((pV S2 (fIx st) 0) - (fHf ((bH S2 y_83) - (bD S2 y_83)))), (nI (fIx x)), (bW S2 y_83), 0], 0, 0)) by rw [sN_push]; omega), bD_push _ h_y_86]) ?_
                  refine lv_isub hx hb dX4_brackets_339 ?_
                  refine mw_callS (As := [.int ((bH S2 y_86) - (bD S2 y_86))]) (rest := [.int (pV S2 (fIx st) 0), .int ((bW S2 y_83) + (bW S2 (fIx x))), .int (nI y_86), .ref o]) hx hb hml hown hl (kX4_half l htr G H.size M_92 ((bH S2 y_86) - (bD S2 y_86))) (g_B (n := 1) htb wd682 wd3 wd680 (by decide +kernel) ⟨Nat.le_of_ble_eq_true rfl, Nat.le_of_ble_eq_true rfl⟩) (htb _ wd681) hE hP hS rfl rfl (Nat.le_of_ble_eq_true rfl) dX4_brackets_340 ⟨Nat.le_of_ble_eq_true rfl, Nat.le_of_ble_eq_true rfl⟩ (fun v9 M9 H locs hpo hP hz hS => ?_) (fun x9 E9 cell9 H9 locs9 hE9 => hE9.elim)
                  obtain ⟨rfl, rfl⟩ := hpo
                  refine W.eq (g2 := F0 m 343 ls [.int (fHf ((bH S2 y_86) - (bD S2 y_86))), .int (pV S2 (fIx st) 0), .int ((bW S2 y_83) + (bW S2 (fIx x))), .int (nI y_86), .ref o]) rfl ?_
                  refine lv_isub hx hb dX4_brackets_343 ?_
                  refine mw_callV (C := RX4) (As := [.int (nI y_86), .int ((bW S2 y_83) + (bW S2 (fIx x))), .int ((pV S2 (fIx st) 0) - (fHf ((bH S2 y_86) - (bD S2 y_86))))]) (rest := []) hx hb hml hown hl (kX4_lay l htr G H.size M_92 o A 0 (nI (fSz (fIx st))) S2 (((bW S2 y_83) + (bW S2 (fIx x))) + (bW S2 y_86)) 0 0 ([(nI y_83), 0, ((pV S2 (fIx st) 0) - (fHf ((bH S2 y_83) - (bD S2 y_83)))), (nI (fIx x)), (bW S2 y_83), 0]) 0 0 (md_R.of (np := np93) hT hB : md_R G o A M_92 0 (nI (fSz (fIx st))) (fs_push S2 ((((bW S2 y_83) + (bW S2 (fIx x))) + (bW S2 y_86)), 0, 0, [(nI y_83), 0, ((pV S2 (fIx st) 0) - (fHf ((bH S2 y_83) - (bD S2 y_83)))), (nI (fIx x)), (bW S2 y_83), 0], 0, 0))) (by simp) (nI y_86) ((bW S2 y_83) + (bW S2 (fIx x))) ((pV S2 (fIx st) 0) - (fHf ((bH S2 y_86) - (bD S2 y_86))))) (g_B (n := 3) htb wd661 wd3 wd658 (by decide +kernel) ⟨Nat.le_of_ble_eq_true rfl, Nat.le_of_ble_eq_true rfl⟩) (htb _ wd660) (htb _ ws34) hE hP hS hT.1 rfl rfl rfl (Nat.le_of_ble_eq_true rfl) dX4_brackets_344 ⟨Nat.le_of_ble_eq_true rfl, Nat.le_of_ble_eq_true rfl⟩ (fun v9 M9 H locs hpo hP hz hS => ?_) (fun x9 E9 cell9 H9 locs9 hE9 => hE9.elim)
                  obtain ⟨rfl, hRn, hkn⟩ := hpo
                  obtain ⟨M_94, hM_94⟩ : ∃ z9 : mw_M, z9 = M9 := ⟨_, rfl⟩
                  rw [← hM_94] at hP hRn hkn
                  have hk := md_keeps.tr hk hkn
                  have hRn : md_R G o A M_94 0 (nI (fSz (fIx st))) (fs_push S2 ((((bW S2 y_83) + (bW S2 (fIx x))) + (bW S2 y_86)), 0, 0, [(nI y_83), 0, ((pV S2 (fIx st) 0) - (fHf ((bH S2 y_83) - (bD S2 y_83)))), (nI (fIx x)), (bW S2 y_83), 0, (nI y_86), ((bW S2 y_83) + (bW S2 (fIx x))), ((pV S2 (fIx st) 0) - (fHf ((bH S2 y_86) - (bD S2 y_86))))], 0, 0)) := hRn
                  obtain ⟨np95, bg95, g95, hT, hB⟩ := id hRn
                  rw [sN_push] at hT
                  have hT : md_at G o A M_94 0 (sSp S2) (sSh S2) (nI (sN S2 + 1)) (nI np95) (nI (fSz (fIx st))) g95 := hT
                  refine W.eq (g2 := F0 m 347 ls []) rfl ?_
                  refine lv_aload_n hx hb dX4_brackets_347 rfl (lv_at hl 8 rfl) ?_
                  refine mw_callV (C := RX4) (As := []) (rest := []) hx hb hml hown hl (kX4_reach l htr G H.size M_94 o A 0 (nI (fSz (fIx st))) S2 (((bW S2 y_83) + (bW S2 (fIx x))) + (bW S2 y_86)) [(nI y_83), 0, ((pV S2 (fIx st) 0) - (fHf ((bH S2 y_83) - (bD S2 y_83)))), (nI (fIx x)), (bW S2 y_83), 0, (nI y_86), ((bW S2 y_83) + (bW S2 (fIx x))), ((pV S2 (fIx st) 0) - (fHf ((bH S2 y_86) - (bD S2 y_86))))] (md_R.of (np := np95) hT hB : md_R G o A M_94 0 (nI (fSz (fIx st))) (fs_push S2 ((((bW S2 y_83) + (bW S2 (fIx x))) + (bW S2 y_86)), 0, 0, [(nI y_83), 0, ((pV S2 (fIx st) 0) - (fHf ((bH S2 y_83) - (bD S2 y_83)))), (nI (fIx x)), (bW S2 y_83), 0, (nI y_86), ((bW S2 y_83) + (bW S2 (fIx x))), ((pV S2 (fIx st) 0) - (fHf ((bH S2 y_86) - (bD S2 y_86))))], 0, 0))) (fun j hj => by
                      rcases (show j = 0 ∨ j = 1 ∨ j = 2 by simp at hj; omega) with rfl | rfl | rfl
                      · exact ⟨y_83, h_y_83, rfl⟩
                      · exact ⟨(fIx x), h_x, rfl⟩
                      · exact ⟨y_86, h_y_86, rfl⟩)) (g_B (n := 0) htb wd705 wd3 wd702 (by decide +kernel) ⟨Nat.le_of_ble_eq_true rfl, Nat.le_of_ble_eq_true rfl⟩) (htb _ wd704) (htb _ ws37) hE hP hS hT.1 rfl rfl rfl (Nat.le_of_ble_eq_true rfl) dX4_brackets_348 ⟨Nat.le_of_ble_eq_true rfl, Nat.le_of_ble_eq_true rfl⟩ (fun v9 M9 H locs hpo hP hz hS => ?_) (fun x9 E9 cell9 H9 locs9 hE9 => hE9.elim)
                  obtain ⟨rfl, hRn, hkn⟩ := hpo
                  obtain ⟨M_96, hM_96⟩ : ∃ z9 : mw_M, z9 = M9 := ⟨_, rfl⟩
                  rw [← hM_96] at hP hRn hkn
                  have hk := md_keeps.tr hk hkn
                  refine W.eq (g2 := F0 m 351 ls []) rfl ?_
                  refine lv_iload hx hb dX4_brackets_351 (lv_at hl 0 rfl) ?_
                  have hex : ex_brackets S st a x b = 0 := by rw [ex_brackets, if_neg (fun z9 => z9 ⟨kb_5, kb_10, kb_12⟩), if_neg (fun z9 => z9 kb_14), if_neg (fun z9 => z9 ⟨kGa, kGb⟩), if_neg (fun z9 => z9 kb_79)]
                  have hre : re_brackets S st a x b = (fs_en S2 (((bW S2 y_83) + (bW S2 (fIx x))) + (bW S2 y_86)) [(nI y_83), 0, ((pV S2 (fIx st) 0) - (fHf ((bH S2 y_83) - (bD S2 y_83)))), (nI (fIx x)), (bW S2 y_83), 0, (nI y_86), ((bW S2 y_83) + (bW S2 (fIx x))), ((pV S2 (fIx st) 0) - (fHf ((bH S2 y_86) - (bD S2 y_86))))]) := by rw [re_brackets, ← hS2, ← ey_83, ← ey_86]; rfl
                  exact mx_iret (v := (nI (sN S2))) (M' := M_96) hx hb hr hlocks hP hS ⟨by rw [hex, if_pos rfl, ← hS2], ⟨_, by rw [hex, if_pos rfl, ← hS2, hre]; exact hRn⟩, hk⟩ dX4_brackets_353 (Nat.le_of_ble_eq_true rfl) (Nat.le_of_ble_eq_true rfl)
                · have kb_97 : ¬ rmk S ((if br_r S st x a = (-1) then 1 else 0) + (if br_r S st x b = (-1) then 1 else 0) + 1) := by rw [if_pos hra, if_neg hrb, show (1 : Int32) + 0 + 1 = 1 + 1 + 0 from rfl]; exact fun z9 => z9 (Int32.not_le.mp c_78)
                  refine lv_iconst (v := 4) hx hb dX4_brackets_193 (by decide) ?_
                  refine lv_goto (tgt := 198) hx hb dX4_brackets_194 (by decide) ?_
                  refine mw_put (D := gD G) (ci := 4) (v := .int 4) (ty := .int) (C := RX4) (T := TX4) (N := 21) hx hb htb inX4 tyX4 tyX4_ok nmX4 hown hK hP hS hT.1 hT.2.2.2.1 rfl 0 (by decide) (htb _ wd524) (fun _ h9 => h9) rfl (by decide +kernel) rfl rfl (Nat.le_of_ble_eq_true rfl) dX4_brackets_198 (fun H locs hP hS => ?_)
                  obtain ⟨M_98, hM_98⟩ : ∃ z9 : mw_M, z9 = mw_up M_17 o (.inr (4, [.int 4, .ref (A 0), .int (sSp S), .int (sSh S), .int (nI (sN S)), .ref (A 1), .ref (A 2), .ref (A 3), .ref (A 4), .ref (A 5), .ref (A 6), .ref (A 7), .int (nI np18), .ref (A 8), .ref (A 9), .ref (A 10), .ref (A 11), .ref (A 12), .ref (A 13), .ref (A 14), .int (nI (fSz (fIx st)))])) := ⟨_, rfl⟩
                  have hP : mw_P (gD G) gx_cl M_98 H := by rw [hM_98]; exact hP
                  have hT : md_at G o A M_98 4 (sSp S) (sSh S) (nI (sN S)) (nI np18) (nI (fSz (fIx st))) g18 := md_at.fld hT hM_98
                  have hk : md_keeps o A M M_98 := md_keeps.fld hk hM_98
                  refine lv_aload_n hx hb dX4_brackets_201 rfl (lv_at hl 5 rfl) ?_
                  refine mw_get (D := gD G) (ci := 4) (v := .int 4) (C := RX4) (T := TX4) (N := 21) hx hb htb inX4 hown hK hP hT.1 rfl 0 (by decide) (htb _ wd524) (fun _ h9 => h9) rfl dX4_brackets_202 ?_
                  refine lv_if_le (tgt := 210) hx hb dX4_brackets_205 (by decide) (fun c_99 => absurd c_99 (by decide)) (fun c_99 => ?_)
                  refine lv_iconst (v := 0) hx hb dX4_brackets_208 (by decide) ?_
                  have hex : ex_brackets S st a x b = 4 := by rw [ex_brackets, if_neg (fun z9 => z9 ⟨kb_5, kb_10, kb_12⟩), if_neg (fun z9 => z9 kb_14), if_neg (fun z9 => z9 ⟨kGa, kGb⟩), if_pos (fun z9 => kb_97 z9)]
                  exact mx_iret (v := 0) (M' := M_98) hx hb hr hlocks hP hS ⟨by rw [hex]; rfl, ⟨_, by rw [hex]; exact (⟨np18, bg18, g18, hT, hB⟩ : md_R G o A M_98 4 (nI (fSz (fIx st))) S)⟩, hk⟩ dX4_brackets_209 (Nat.le_of_ble_eq_true rfl) (Nat.le_of_ble_eq_true rfl)
              · have kGb : ¬ isG S (fIx b) := fun z9 => z9 ((pl_2 hle ob1 ob2).mp c_77)
                refine lv_iconst (v := 3) hx hb dX4_brackets_177 (by decide) ?_
                refine lv_goto (tgt := 198) hx hb dX4_brackets_178 (by decide) ?_
                refine mw_put (D := gD G) (ci := 4) (v := .int 3) (ty := .int) (C := RX4) (T := TX4) (N := 21) hx hb htb inX4 tyX4 tyX4_ok nmX4 hown hK hP hS hT.1 hT.2.2.2.1 rfl 0 (by decide) (htb _ wd524) (fun _ h9 => h9) rfl (by decide +kernel) rfl rfl (Nat.le_of_ble_eq_true rfl) dX4_brackets_198 (fun H locs hP hS => ?_)
                obtain ⟨M_100, hM_100⟩ : ∃ z9 : mw_M, z9 = mw_up M_17 o (.inr (4, [.int 3, .ref (A 0), .int (sSp S), .int (sSh S), .int (nI (sN S)), .ref (A 1), .ref (A 2), .ref (A 3), .ref (A 4), .ref (A 5), .ref (A 6), .ref (A 7), .int (nI np18), .ref (A 8), .ref (A 9), .ref (A 10), .ref (A 11), .ref (A 12), .ref (A 13), .ref (A 14), .int (nI (fSz (fIx st)))])) := ⟨_, rfl⟩
                have hP : mw_P (gD G) gx_cl M_100 H := by rw [hM_100]; exact hP
                have hT : md_at G o A M_100 3 (sSp S) (sSh S) (nI (sN S)) (nI np18) (nI (fSz (fIx st))) g18 := md_at.fld hT hM_100
                have hk : md_keeps o A M M_100 := md_keeps.fld hk hM_100
                refine lv_aload_n hx hb dX4_brackets_201 rfl (lv_at hl 5 rfl) ?_
                refine mw_get (D := gD G) (ci := 4) (v := .int 3) (C := RX4) (T := TX4) (N := 21) hx hb htb inX4 hown hK hP hT.1 rfl 0 (by decide) (htb _ wd524) (fun _ h9 => h9) rfl dX4_brackets_202 ?_
                refine lv_if_le (tgt := 210) hx hb dX4_brackets_205 (by decide) (fun c_101 => absurd c_101 (by decide)) (fun c_101 => ?_)
                refine lv_iconst (v := 0) hx hb dX4_brackets_208 (by decide) ?_
                have hex : ex_brackets S st a x b = 3 := by rw [ex_brackets, if_neg (fun z9 => z9 ⟨kb_5, kb_10, kb_12⟩), if_neg (fun z9 => z9 kb_14), if_pos (fun z9 => kGb z9.2)]
                exact mx_iret (v := 0) (M' := M_100) hx hb hr hlocks hP hS ⟨by rw [hex]; rfl, ⟨_, by rw [hex]; exact (⟨np18, bg18, g18, hT, hB⟩ : md_R G o A M_100 3 (nI (fSz (fIx st))) S)⟩, hk⟩ dX4_brackets_209 (Nat.le_of_ble_eq_true rfl) (Nat.le_of_ble_eq_true rfl)
            · obtain ⟨kGb, hrb⟩ := pl_3g hle ob1 ob2 c_75
              have hrb : br_r S st x b = (-1) := hrb
              refine lv_iconst (v := 1) hx hb dX4_brackets_154 (by decide) ?_
              refine lv_goto (tgt := 159) hx hb dX4_brackets_155 (by decide) ?_
              refine lv_iadd hx hb dX4_brackets_159 ?_
              refine lv_istore (lv' := [(9, .int ((1 + 1) + 1)), (8, .int (md_pl S (sF S (fIx b)) (br_l S st x))), (7, .int (md_pl S (sF S (fIx a)) (br_l S st x))), (6, .int (br_l S st x)), (5, .int (fMx ((bH S (fIx x)) - (pV S (fIx st) 0)) ((bD S (fIx x)) + (pV S (fIx st) 0)))), (0, .ref o), (1, .int (nI (fIx st))), (2, .int (nI (fIx a))), (3, .int (nI (fIx x))), (4, .int (nI (fIx b)))]) hx hb dX4_brackets_160 hl (by decide) rfl (fun ls hl => ?_)
              refine lv_aload_n hx hb dX4_brackets_162 rfl (lv_at hl 5 rfl) ?_
              refine lv_iload hx hb dX4_brackets_163 (lv_at hl 2 rfl) ?_
              refine lv_bipush (v := (-2)) hx hb dX4_brackets_165 (by decide) ?_
              refine lv_icmp_eq (tgt := 177) hx hb dX4_brackets_167 (by decide) (fun c_102 => absurd c_102 (fun z9 => absurd (c_19.symm.trans z9) (by decide))) (fun c_102 => ?_)
              refine lv_iload hx hb dX4_brackets_170 (lv_at hl 1 rfl) ?_
              refine lv_bipush (v := (-2)) hx hb dX4_brackets_172 (by decide) ?_
              refine lv_icmp_ne (tgt := 181) hx hb dX4_brackets_174 (by decide) (fun c_103 => ?_) (fun c_103 => absurd c_103 (fun z9 => absurd (c_75.symm.trans z9) (by decide)))
              refine lv_aload_n hx hb dX4_brackets_181 rfl (lv_at hl 5 rfl) ?_
              refine mw_get (D := gD G) (ci := 4) (v := .int (nI (sN S))) (C := RX4) (T := TX4) (N := 21) hx hb htb inX4 hown hK hP hT.1 rfl 4 (by decide) (htb _ wd528) (fun _ h9 => h9) rfl dX4_brackets_182 ?_
              refine lv_iload hx hb dX4_brackets_185 (lv_at hl 0 rfl) ?_
              refine lv_iadd hx hb dX4_brackets_187 ?_
              refine lv_bipush (v := 120) hx hb dX4_brackets_188 (by decide) ?_
              refine lv_icmp_le (tgt := 197) hx hb dX4_brackets_190 (by decide) (fun c_104 => ?_) (fun c_104 => ?_)
              · have kb_105 : rmk S ((if br_r S st x a = (-1) then 1 else 0) + (if br_r S st x b = (-1) then 1 else 0) + 1) := by rw [if_pos hra, if_pos hrb, show (1 : Int32) + 1 + 1 = 1 + 1 + 1 from rfl]; exact Int32.not_lt.mpr c_104
                have hrm : sN S + 3 ≤ 120 := rmk_le (n := 3) (by decide) hle (by rw [show nI 3 = (1 : Int32) + 1 + 1 from rfl]; exact Int32.not_lt.mpr c_104)
                refine lv_iconst (v := 0) hx hb dX4_brackets_197 (by decide) ?_
                refine mw_put (D := gD G) (ci := 4) (v := .int 0) (ty := .int) (C := RX4) (T := TX4) (N := 21) hx hb htb inX4 tyX4 tyX4_ok nmX4 hown hK hP hS hT.1 hT.2.2.2.1 rfl 0 (by decide) (htb _ wd524) (fun _ h9 => h9) rfl (by decide +kernel) rfl rfl (Nat.le_of_ble_eq_true rfl) dX4_brackets_198 (fun H locs hP hS => ?_)
                obtain ⟨M_106, hM_106⟩ : ∃ z9 : mw_M, z9 = mw_up M_17 o (.inr (4, [.int 0, .ref (A 0), .int (sSp S), .int (sSh S), .int (nI (sN S)), .ref (A 1), .ref (A 2), .ref (A 3), .ref (A 4), .ref (A 5), .ref (A 6), .ref (A 7), .int (nI np18), .ref (A 8), .ref (A 9), .ref (A 10), .ref (A 11), .ref (A 12), .ref (A 13), .ref (A 14), .int (nI (fSz (fIx st)))])) := ⟨_, rfl⟩
                have hP : mw_P (gD G) gx_cl M_106 H := by rw [hM_106]; exact hP
                have hT : md_at G o A M_106 0 (sSp S) (sSh S) (nI (sN S)) (nI np18) (nI (fSz (fIx st))) g18 := md_at.fld hT hM_106
                have hk : md_keeps o A M M_106 := md_keeps.fld hk hM_106
                refine lv_aload_n hx hb dX4_brackets_201 rfl (lv_at hl 5 rfl) ?_
                refine mw_get (D := gD G) (ci := 4) (v := .int 0) (C := RX4) (T := TX4) (N := 21) hx hb htb inX4 hown hK hP hT.1 rfl 0 (by decide) (htb _ wd524) (fun _ h9 => h9) rfl dX4_brackets_202 ?_
                refine lv_if_le (tgt := 210) hx hb dX4_brackets_205 (by decide) (fun c_107 => ?_) (fun c_107 => absurd (by decide) c_107)
                refine lv_aload_n hx hb dX4_brackets_210 rfl (lv_at hl 5 rfl) ?_
                refine lv_iload_n hx hb dX4_brackets_211 rfl (lv_at hl 7 rfl) ?_
                refine lv_iload hx hb dX4_brackets_212 (lv_at hl 3 rfl) ?_
                refine mw_callV (C := RX4) (As := [.int (nI (fIx a)), .int (br_l S st x)]) (rest := []) hx hb hml hown hl (kX4_signBy l htr G H.size M_106 o A 0 (nI (fSz (fIx st))) S (⟨np18, bg18, g18, hT, hB⟩ : md_R G o A M_106 0 (nI (fSz (fIx st))) S) hok (fIx a) h_a (br_l S st x) kGa (fun z9 => by omega)) (g_B (n := 2) htb wd649 wd3 wd646 (by decide +kernel) ⟨Nat.le_of_ble_eq_true rfl, Nat.le_of_ble_eq_true rfl⟩) (htb _ wd648) (htb _ ws31) hE hP hS hT.1 rfl rfl rfl (Nat.le_of_ble_eq_true rfl) dX4_brackets_214 ⟨Nat.le_of_ble_eq_true rfl, Nat.le_of_ble_eq_true rfl⟩ (fun v9 M9 H locs hpo hP hz hS => ?_) (fun x9 E9 cell9 H9 locs9 hE9 => hE9.elim)
                obtain ⟨rfl, hRn, hkn⟩ := hpo
                obtain ⟨M_108, hM_108⟩ : ∃ z9 : mw_M, z9 = M9 := ⟨_, rfl⟩
                rw [← hM_108] at hP hRn hkn
                have hk := md_keeps.tr hk hkn
                obtain ⟨S1, hS1⟩ : ∃ z9, z9 = br_S1 S st a x := ⟨_, rfl⟩
                have hRn : md_R G o A M_108 0 (nI (fSz (fIx st))) S1 := by rw [hS1]; exact hRn
                obtain ⟨hy1, hy2⟩ := kt_in (sF S (fIx a)) (br_l S st x) hle (fs_rd_on (br_l S st x) oa2)
                obtain ⟨y_109, ey_109⟩ : ∃ z9, z9 = br_y S st a x := ⟨_, rfl⟩
                have h_y_109 : y_109 < sN S1 := by rw [ey_109, hS1]; exact hy1
                have hyA : kt_y S (fs_rd S (sF S (fIx a)) (br_l S st x)) = nI y_109 := by rw [ey_109]; exact hy2
                have hle1 : sN S ≤ sN S1 := by rw [hS1]; exact kt_le _ _ _ _
                have eF : sF S1 (fIx b) = sF S (fIx b) := by rw [hS1, br_S1, kt_F]
                have hok1 : fs_ok S1 := by rw [hS1]; exact kt_ok hok h_a _ _ (fun _ => by omega)
                have eR : fs_rd S1 (sF S (fIx b)) (br_l S st x) = br_r S st x b := by rw [hS1, br_S1]; exact rd_kt (Or.inl (by omega)) _ _ _ ob2
                have h_x := Nat.lt_of_lt_of_le h_x hle1
                obtain ⟨np110, bg110, g110, hT, hB⟩ := id hRn
                have hle : sN S1 ≤ 120 := hB.1
                refine W.eq (g2 := F0 m 217 ls [.int (nI y_109)]) (show F0 m 217 ls [.int (kt_y S (fs_rd S (sF S (fIx a)) (br_l S st x)))] = F0 m 217 ls [.int (nI y_109)] from by rw [hyA]) ?_
                refine lv_istore (lv' := [(10, .int (nI y_109)), (9, .int ((1 + 1) + 1)), (8, .int (md_pl S (sF S (fIx b)) (br_l S st x))), (7, .int (md_pl S (sF S (fIx a)) (br_l S st x))), (6, .int (br_l S st x)), (5, .int (fMx ((bH S (fIx x)) - (pV S (fIx st) 0)) ((bD S (fIx x)) + (pV S (fIx st) 0)))), (0, .ref o), (1, .int (nI (fIx st))), (2, .int (nI (fIx a))), (3, .int (nI (fIx x))), (4, .int (nI (fIx b)))]) hx hb dX4_brackets_217 hl (by decide) rfl (fun ls hl => ?_)
                refine lv_aload_n hx hb dX4_brackets_219 rfl (lv_at hl 6 rfl) ?_
                refine lv_iload hx hb dX4_brackets_220 (lv_at hl 10 rfl) ?_
                refine lv_iload hx hb dX4_brackets_222 (lv_at hl 4 rfl) ?_
                refine mw_callV (C := RX4) (As := [.int (nI (fIx b)), .int (br_l S st x)]) (rest := []) hx hb hml hown hl (kX4_signBy l htr G H.size M_108 o A 0 (nI (fSz (fIx st))) S1 (⟨np110, bg110, g110, hT, hB⟩ : md_R G o A M_108 0 (nI (fSz (fIx st))) S1) hok1 (fIx b) h_b (br_l S st x) (show isG S1 (fIx b) from by unfold isG; rw [eF]; exact kGb) (fun z9 => by rw [hS1, br_S1, kt_n, if_pos hra]; omega)) (g_B (n := 2) htb wd649 wd3 wd646 (by decide +kernel) ⟨Nat.le_of_ble_eq_true rfl, Nat.le_of_ble_eq_true rfl⟩) (htb _ wd648) (htb _ ws31) hE hP hS hT.1 rfl rfl rfl (Nat.le_of_ble_eq_true rfl) dX4_brackets_224 ⟨Nat.le_of_ble_eq_true rfl, Nat.le_of_ble_eq_true rfl⟩ (fun v9 M9 H locs hpo hP hz hS => ?_) (fun x9 E9 cell9 H9 locs9 hE9 => hE9.elim)
                obtain ⟨rfl, hRn, hkn⟩ := hpo
                obtain ⟨M_111, hM_111⟩ : ∃ z9 : mw_M, z9 = M9 := ⟨_, rfl⟩
                rw [← hM_111] at hP hRn hkn
                have hk := md_keeps.tr hk hkn
                rw [eF, eR] at hRn
                obtain ⟨S2, hS2⟩ : ∃ z9, z9 = br_S S st a x b := ⟨_, rfl⟩
                have hRn : md_R G o A M_111 0 (nI (fSz (fIx st))) S2 := by rw [hS2, br_S, ← hS1]; exact hRn
                have on2 : fs_on S1 (br_r S st x b) := by rw [hS1, br_S1]; exact rd_on_kt ob2
                obtain ⟨hy1, hy2⟩ := kt_in (sF S (fIx b)) (br_l S st x) hle on2
                obtain ⟨y_112, ey_112⟩ : ∃ z9, z9 = br_z S st a x b := ⟨_, rfl⟩
                have ez9 : y_112 = fIx (kt_y S1 (br_r S st x b)) := by rw [ey_112, br_z, ← hS1]
                have h_y_112 : y_112 < sN S2 := by rw [ez9, hS2, br_S, ← hS1]; exact hy1
                have hyB : kt_y S1 (fs_rd S1 (sF S1 (fIx b)) (br_l S st x)) = nI y_112 := by rw [eF, eR, ez9]; exact hy2
                have hle2 : sN S1 ≤ sN S2 := by rw [hS2, br_S, ← hS1]; exact kt_le _ _ _ _
                have h_x := Nat.lt_of_lt_of_le h_x hle2
                have h_y_109 := Nat.lt_of_lt_of_le h_y_109 hle2
                obtain ⟨np113, bg113, g113, hT, hB⟩ := id hRn
                have hle : sN S2 ≤ 120 := hB.1
                refine W.eq (g2 := F0 m 227 ls [.int (nI y_112)]) (show F0 m 227 ls [.int (kt_y S1 (fs_rd S1 (sF S1 (fIx b)) (br_l S st x)))] = F0 m 227 ls [.int (nI y_112)] from by rw [hyB]) ?_
                refine lv_istore (lv' := [(11, .int (nI y_112)), (10, .int (nI y_109)), (9, .int ((1 + 1) + 1)), (8, .int (md_pl S (sF S (fIx b)) (br_l S st x))), (7, .int (md_pl S (sF S (fIx a)) (br_l S st x))), (6, .int (br_l S st x)), (5, .int (fMx ((bH S (fIx x)) - (pV S (fIx st) 0)) ((bD S (fIx x)) + (pV S (fIx st) 0)))), (0, .ref o), (1, .int (nI (fIx st))), (2, .int (nI (fIx a))), (3, .int (nI (fIx x))), (4, .int (nI (fIx b)))]) hx hb dX4_brackets_227 hl (by decide) rfl (fun ls hl => ?_)
                refine lv_aload_n hx hb dX4_brackets_229 rfl (lv_at hl 7 rfl) ?_
                refine lv_aload_n hx hb dX4_brackets_230 rfl (lv_at hl 7 rfl) ?_
                refine mw_get (D := gD G) (ci := 4) (v := .ref (A 1)) (C := RX4) (T := TX4) (N := 21) hx hb htb inX4 hown hK hP hT.1 rfl 5 (by decide) (htb _ wd529) (fun _ h9 => h9) rfl dX4_brackets_231 ?_
                refine lv_iload hx hb dX4_brackets_234 (lv_at hl 1 rfl) ?_
                refine mw_iald hx hb hK hP 0 (show M_111 (A 1) = some (.inl (gI G, 120, .inl (g113 1))) from hT.2.1 1 (by decide)) rfl (by exact vp_in_nI (show y_109 < 120 by have := hle; omega) (by decide)) dX4_brackets_236 ?_
                refine W.eq (g2 := F0 m 237 ls [.int (bW S2 y_109), .ref o]) (by rw [nI_clamp (show y_109 < 2 ^ 31 by have := hle; omega), hB.W h_y_109]) ?_
                refine lv_aload_n hx hb dX4_brackets_237 rfl (lv_at hl 7 rfl) ?_
                refine mw_get (D := gD G) (ci := 4) (v := .ref (A 1)) (C := RX4) (T := TX4) (N := 21) hx hb htb inX4 hown hK hP hT.1 rfl 5 (by decide) (htb _ wd529) (fun _ h9 => h9) rfl dX4_brackets_238 ?_
                refine lv_iload_n hx hb dX4_brackets_241 rfl (lv_at hl 10 rfl) ?_
                refine mw_iald hx hb hK hP 0 (show M_111 (A 1) = some (.inl (gI G, 120, .inl (g113 1))) from hT.2.1 1 (by decide)) rfl (by exact vp_in_nI (show (fIx x) < 120 by have := hle; omega) (by decide)) dX4_brackets_242 ?_
                refine W.eq (g2 := F0 m 243 ls [.int (bW S2 (fIx x)), .int (bW S2 y_109), .ref o]) (by rw [nI_clamp (show (fIx x) < 2 ^ 31 by have := hle; omega), hB.W h_x]) ?_
                refine lv_iadd hx hb dX4_brackets_243 ?_
                refine lv_aload_n hx hb dX4_brackets_244 rfl (lv_at hl 7 rfl) ?_
                refine mw_get (D := gD G) (ci := 4) (v := .ref (A 1)) (C := RX4) (T := TX4) (N := 21) hx hb htb inX4 hown hK hP hT.1 rfl 5 (by decide) (htb _ wd529) (fun _ h9 => h9) rfl dX4_brackets_245 ?_
                refine lv_iload hx hb dX4_brackets_248 (lv_at hl 0 rfl) ?_
                refine mw_iald hx hb hK hP 0 (show M_111 (A 1) = some (.inl (gI G, 120, .inl (g113 1))) from hT.2.1 1 (by decide)) rfl (by exact vp_in_nI (show y_112 < 120 by have := hle; omega) (by decide)) dX4_brackets_250 ?_
                refine W.eq (g2 := F0 m 251 ls [.int (bW S2 y_112), .int ((bW S2 y_109) + (bW S2 (fIx x))), .ref o]) (by rw [nI_clamp (show y_112 < 2 ^ 31 by have := hle; omega), hB.W h_y_112]) ?_
                refine lv_iadd hx hb dX4_brackets_251 ?_
                refine lv_iconst (v := 0) hx hb dX4_brackets_252 (by decide) ?_
                refine lv_iconst (v := 0) hx hb dX4_brackets_253 (by decide) ?_
                refine mw_callV (C := RX4) (As := [.int (((bW S2 y_109) + (bW S2 (fIx x))) + (bW S2 y_112)), .int 0, .int 0]) (rest := []) hx hb hml hown hl (kX4_make l htr G H.size M_111 o A 0 (nI (fSz (fIx st))) S2 (⟨np113, bg113, g113, hT, hB⟩ : md_R G o A M_111 0 (nI (fSz (fIx st))) S2) (show sN S2 < 120 from by rw [hS2, br_S, kt_n, br_S1, kt_n, if_pos hrb, if_pos hra]; omega) (((bW S2 y_109) + (bW S2 (fIx x))) + (bW S2 y_112)) 0 0) (g_B (n := 3) htb wd613 wd3 wd610 (by decide +kernel) ⟨Nat.le_of_ble_eq_true rfl, Nat.le_of_ble_eq_true rfl⟩) (htb _ wd612) (htb _ ws26) hE hP hS hT.1 rfl rfl rfl (Nat.le_of_ble_eq_true rfl) dX4_brackets_254 ⟨Nat.le_of_ble_eq_true rfl, Nat.le_of_ble_eq_true rfl⟩ (fun v9 M9 H locs hpo hP hz hS => ?_) (fun x9 E9 cell9 H9 locs9 hE9 => hE9.elim)
                have hle0 := hle
                obtain ⟨rfl, hRn, hkn⟩ := hpo
                obtain ⟨M_114, hM_114⟩ : ∃ z9 : mw_M, z9 = M9 := ⟨_, rfl⟩
                rw [← hM_114] at hP hRn hkn
                have hk := md_keeps.tr hk hkn
                have hRn : md_R G o A M_114 0 (nI (fSz (fIx st))) (fs_push S2 ((((bW S2 y_109) + (bW S2 (fIx x))) + (bW S2 y_112)), 0, 0, [], 0, 0)) := hRn
                obtain ⟨np115, bg115, g115, hT, hB⟩ := id hRn
                rw [sN_push] at hT
                have hT : md_at G o A M_114 0 (sSp S2) (sSh S2) (nI (sN S2 + 1)) (nI np115) (nI (fSz (fIx st))) g115 := hT
                have hle : sN S2 + 1 ≤ 120 := by have := hB.1; rw [sN_push] at this; exact this
                refine W.eq (g2 := F0 m 257 ls [.int (nI (sN S2))]) rfl ?_
                refine lv_istore (lv' := [(12, .int (nI (sN S2))), (11, .int (nI y_112)), (10, .int (nI y_109)), (9, .int ((1 + 1) + 1)), (8, .int (md_pl S (sF S (fIx b)) (br_l S st x))), (7, .int (md_pl S (sF S (fIx a)) (br_l S st x))), (6, .int (br_l S st x)), (5, .int (fMx ((bH S (fIx x)) - (pV S (fIx st) 0)) ((bD S (fIx x)) + (pV S (fIx st) 0)))), (0, .ref o), (1, .int (nI (fIx st))), (2, .int (nI (fIx a))), (3, .int (nI (fIx x))), (4, .int (nI (fIx b)))]) hx hb dX4_brackets_257 hl (by decide) rfl (fun ls hl => ?_)
                refine lv_aload_n hx hb dX4_brackets_259 rfl (lv_at hl 8 rfl) ?_
                refine lv_iload hx hb dX4_brackets_260 (lv_at hl 2 rfl) ?_
                refine lv_iconst (v := 0) hx hb dX4_brackets_262 (by decide) ?_
                refine lv_aload_n hx hb dX4_brackets_263 rfl (lv_at hl 8 rfl) ?_
                refine lv_iconst (v := 0) hx hb dX4_brackets_264 (by decide) ?_
                refine mw_callV (C := RX4) (As := [.int 0]) (rest := [.int 0, .int (nI y_109), .ref o]) hx hb hml hown hl (kX4_p l htr G H.size M_114 o A 0 (fs_push S2 ((((bW S2 y_109) + (bW S2 (fIx x))) + (bW S2 y_112)), 0, 0, [], 0, 0)) (fIx st) 0 h_st (by decide) (md_R.of (np := np115) hT hB : md_R G o A M_114 0 (nI (fSz (fIx st))) (fs_push S2 ((((bW S2 y_109) + (bW S2 (fIx x))) + (bW S2 y_112)), 0, 0, [], 0, 0)))) (g_B (n := 1) htb wd679 wd3 wd676 (by decide +kernel) ⟨Nat.le_of_ble_eq_true rfl, Nat.le_of_ble_eq_true rfl⟩) (htb _ wd678) (htb _ ws36) hE hP hS hT.1 rfl rfl rfl (Nat.le_of_ble_eq_true rfl) dX4_brackets_265 ⟨Nat.le_of_ble_eq_true rfl, Nat.le_of_ble_eq_true rfl⟩ (fun v9 M9 H locs hpo hP hz hS => ?_) (fun x9 E9 cell9 H9 locs9 hE9 => hE9.elim)
                obtain ⟨rfl, rfl⟩ := hpo
                refine W.eq (g2 := F0 m 268 ls [.int (pV S2 (fIx st) 0), .int 0, .int (nI y_109), .ref o]) rfl ?_
                refine lv_aload_n hx hb dX4_brackets_268 rfl (lv_at hl 8 rfl) ?_
                refine mw_get (D := gD G) (ci := 4) (v := .ref (A 2)) (C := RX4) (T := TX4) (N := 21) hx hb htb inX4 hown hK hP hT.1 rfl 6 (by decide) (htb _ wd530) (fun _ h9 => h9) rfl dX4_brackets_269 ?_
                refine lv_iload hx hb dX4_brackets_272 (lv_at hl 2 rfl) ?_
                refine mw_iald hx hb hK hP 0 (show M_114 (A 2) = some (.inl (gI G, 120, .inl (g115 2))) from hT.2.1 2 (by decide)) rfl (by exact vp_in_nI (show y_109 < 120 by have := hle; omega) (by decide)) dX4_brackets_274 ?_
                refine W.eq (g2 := F0 m 275 ls [.int (bH S2 y_109), .int (pV S2 (fIx st) 0), .int 0, .int (nI y_109), .ref o]) (by rw [nI_clamp (show y_109 < 2 ^ 31 by have := hle; omega), hB.H (show y_109 < sN (fs_push S2 ((((bW S2 y_109) + (bW S2 (fIx x))) + (bW S2 y_112)), 0, 0, [], 0, 0)) by rw [sN_push]; omega), bH_push _ h_y_109]) ?_
                refine lv_aload_n hx hb dX4_brackets_275 rfl (lv_at hl 8 rfl) ?_
                refine mw_get (D := gD G) (ci := 4) (v := .ref (A 3)) (C := RX4) (T := TX4) (N := 21) hx hb htb inX4 hown hK hP hT.1 rfl 7 (by decide) (htb _ wd531) (fun _ h9 => h9) rfl dX4_brackets_276 ?_
                refine lv_iload hx hb dX4_brackets_279 (lv_at hl 2 rfl) ?_
                refine mw_iald hx hb hK hP 0 (show M_114 (A 3) = some (.inl (gI G, 120, .inl (g115 3))) from hT.2.1 3 (by decide)) rfl (by exact vp_in_nI (show y_109 < 120 by have := hle; omega) (by decide)) dX4_brackets_281 ?_
                refine W.eq (g2 := F0 m 282 ls [.int (bD S2 y_109), .int (bH S2 y_109), .int (pV S2 (fIx st) 0), .int 0, .int (nI y_109), .ref o]) (by rw [nI_clamp (show y_109 < 2 ^ 31 by have := hle; omega), hB.D (show y_109 < sN (fs_push S2 ((((bW S2 y_109) + (bW S2 (fIx x))) + (bW S2 y_112)), 0, 0, [], 0, 0)) by rw [sN_push]; omega), bD_push _ h_y_109]) ?_
                refine lv_isub hx hb dX4_brackets_282 ?_
                refine mw_callS (As := [.int ((bH S2 y_109) - (bD S2 y_109))]) (rest := [.int (pV S2 (fIx st) 0), .int 0, .int (nI y_109), .ref o]) hx hb hml hown hl (kX4_half l htr G H.size M_114 ((bH S2 y_109) - (bD S2 y_109))) (g_B (n := 1) htb wd682 wd3 wd680 (by decide +kernel) ⟨Nat.le_of_ble_eq_true rfl, Nat.le_of_ble_eq_true rfl⟩) (htb _ wd681) hE hP hS rfl rfl (Nat.le_of_ble_eq_true rfl) dX4_brackets_283 ⟨Nat.le_of_ble_eq_true rfl, Nat.le_of_ble_eq_true rfl⟩ (fun v9 M9 H locs hpo hP hz hS => ?_) (fun x9 E9 cell9 H9 locs9 hE9 => hE9.elim)
                obtain ⟨rfl, rfl⟩ := hpo
                refine W.eq (g2 := F0 m 286 ls [.int (fHf ((bH S2 y_109) - (bD S2 y_109))), .int (pV S2 (fIx st) 0), .int 0, .int (nI y_109), .ref o]) rfl ?_
                refine lv_isub hx hb dX4_brackets_286 ?_
                refine mw_callV (C := RX4) (As := [.int (nI y_109), .int 0, .int ((pV S2 (fIx st) 0) - (fHf ((bH S2 y_109) - (bD S2 y_109))))]) (rest := []) hx hb hml hown hl (kX4_lay l htr G H.size M_114 o A 0 (nI (fSz (fIx st))) S2 (((bW S2 y_109) + (bW S2 (fIx x))) + (bW S2 y_112)) 0 0 ([]) 0 0 (md_R.of (np := np115) hT hB : md_R G o A M_114 0 (nI (fSz (fIx st))) (fs_push S2 ((((bW S2 y_109) + (bW S2 (fIx x))) + (bW S2 y_112)), 0, 0, [], 0, 0))) (by simp) (nI y_109) 0 ((pV S2 (fIx st) 0) - (fHf ((bH S2 y_109) - (bD S2 y_109))))) (g_B (n := 3) htb wd661 wd3 wd658 (by decide +kernel) ⟨Nat.le_of_ble_eq_true rfl, Nat.le_of_ble_eq_true rfl⟩) (htb _ wd660) (htb _ ws34) hE hP hS hT.1 rfl rfl rfl (Nat.le_of_ble_eq_true rfl) dX4_brackets_287 ⟨Nat.le_of_ble_eq_true rfl, Nat.le_of_ble_eq_true rfl⟩ (fun v9 M9 H locs hpo hP hz hS => ?_) (fun x9 E9 cell9 H9 locs9 hE9 => hE9.elim)
                obtain ⟨rfl, hRn, hkn⟩ := hpo
                obtain ⟨M_116, hM_116⟩ : ∃ z9 : mw_M, z9 = M9 := ⟨_, rfl⟩
                rw [← hM_116] at hP hRn hkn
                have hk := md_keeps.tr hk hkn
                have hRn : md_R G o A M_116 0 (nI (fSz (fIx st))) (fs_push S2 ((((bW S2 y_109) + (bW S2 (fIx x))) + (bW S2 y_112)), 0, 0, [(nI y_109), 0, ((pV S2 (fIx st) 0) - (fHf ((bH S2 y_109) - (bD S2 y_109))))], 0, 0)) := hRn
                obtain ⟨np117, bg117, g117, hT, hB⟩ := id hRn
                rw [sN_push] at hT
                have hT : md_at G o A M_116 0 (sSp S2) (sSh S2) (nI (sN S2 + 1)) (nI np117) (nI (fSz (fIx st))) g117 := hT
                refine W.eq (g2 := F0 m 290 ls []) rfl ?_
                refine lv_aload_n hx hb dX4_brackets_290 rfl (lv_at hl 8 rfl) ?_
                refine lv_iload_n hx hb dX4_brackets_291 rfl (lv_at hl 11 rfl) ?_
                refine lv_aload_n hx hb dX4_brackets_292 rfl (lv_at hl 8 rfl) ?_
                refine mw_get (D := gD G) (ci := 4) (v := .ref (A 1)) (C := RX4) (T := TX4) (N := 21) hx hb htb inX4 hown hK hP hT.1 rfl 5 (by decide) (htb _ wd529) (fun _ h9 => h9) rfl dX4_brackets_293 ?_
                refine lv_iload hx hb dX4_brackets_296 (lv_at hl 2 rfl) ?_
                refine mw_iald hx hb hK hP 0 (show M_116 (A 1) = some (.inl (gI G, 120, .inl (g117 1))) from hT.2.1 1 (by decide)) rfl (by exact vp_in_nI (show y_109 < 120 by have := hle; omega) (by decide)) dX4_brackets_298 ?_
                refine W.eq (g2 := F0 m 299 ls [.int (bW S2 y_109), .int (nI (fIx x)), .ref o]) (by rw [nI_clamp (show y_109 < 2 ^ 31 by have := hle; omega), hB.W (show y_109 < sN (fs_push S2 ((((bW S2 y_109) + (bW S2 (fIx x))) + (bW S2 y_112)), 0, 0, [(nI y_109), 0, ((pV S2 (fIx st) 0) - (fHf ((bH S2 y_109) - (bD S2 y_109))))], 0, 0)) by rw [sN_push]; omega), bW_push _ h_y_109]) ?_
                refine lv_iconst (v := 0) hx hb dX4_brackets_299 (by decide) ?_
                refine mw_callV (C := RX4) (As := [.int (nI (fIx x)), .int (bW S2 y_109), .int 0]) (rest := []) hx hb hml hown hl (kX4_lay l htr G H.size M_116 o A 0 (nI (fSz (fIx st))) S2 (((bW S2 y_109) + (bW S2 (fIx x))) + (bW S2 y_112)) 0 0 ([(nI y_109), 0, ((pV S2 (fIx st) 0) - (fHf ((bH S2 y_109) - (bD S2 y_109))))]) 0 0 (md_R.of (np := np117) hT hB : md_R G o A M_116 0 (nI (fSz (fIx st))) (fs_push S2 ((((bW S2 y_109) + (bW S2 (fIx x))) + (bW S2 y_112)), 0, 0, [(nI y_109), 0, ((pV S2 (fIx st) 0) - (fHf ((bH S2 y_109) - (bD S2 y_109))))], 0, 0))) (by simp) (nI (fIx x)) (bW S2 y_109) 0) (g_B (n := 3) htb wd661 wd3 wd658 (by decide +kernel) ⟨Nat.le_of_ble_eq_true rfl, Nat.le_of_ble_eq_true rfl⟩) (htb _ wd660) (htb _ ws34) hE hP hS hT.1 rfl rfl rfl (Nat.le_of_ble_eq_true rfl) dX4_brackets_300 ⟨Nat.le_of_ble_eq_true rfl, Nat.le_of_ble_eq_true rfl⟩ (fun v9 M9 H locs hpo hP hz hS => ?_) (fun x9 E9 cell9 H9 locs9 hE9 => hE9.elim)
                obtain ⟨rfl, hRn, hkn⟩ := hpo
                obtain ⟨M_118, hM_118⟩ : ∃ z9 : mw_M, z9 = M9 := ⟨_, rfl⟩
                rw [← hM_118] at hP hRn hkn
                have hk := md_keeps.tr hk hkn
                have hRn : md_R G o A M_118 0 (nI (fSz (fIx st))) (fs_push S2 ((((bW S2 y_109) + (bW S2 (fIx x))) + (bW S2 y_112)), 0, 0, [(nI y_109), 0, ((pV S2 (fIx st) 0) - (fHf ((bH S2 y_109) - (bD S2 y_109)))), (nI (fIx x)), (bW S2 y_109), 0], 0, 0)) := hRn
                obtain ⟨np119, bg119, g119, hT, hB⟩ := id hRn
                rw [sN_push] at hT
                have hT : md_at G o A M_118 0 (sSp S2) (sSh S2) (nI (sN S2 + 1)) (nI np119) (nI (fSz (fIx st))) g119 := hT
                refine W.eq (g2 := F0 m 303 ls []) rfl ?_
                refine lv_aload_n hx hb dX4_brackets_303 rfl (lv_at hl 8 rfl) ?_
                refine lv_iload hx hb dX4_brackets_304 (lv_at hl 1 rfl) ?_
                refine lv_aload_n hx hb dX4_brackets_306 rfl (lv_at hl 8 rfl) ?_
                refine mw_get (D := gD G) (ci := 4) (v := .ref (A 1)) (C := RX4) (T := TX4) (N := 21) hx hb htb inX4 hown hK hP hT.1 rfl 5 (by decide) (htb _ wd529) (fun _ h9 => h9) rfl dX4_brackets_307 ?_
                refine lv_iload hx hb dX4_brackets_310 (lv_at hl 2 rfl) ?_
                refine mw_iald hx hb hK hP 0 (show M_118 (A 1) = some (.inl (gI G, 120, .inl (g119 1))) from hT.2.1 1 (by decide)) rfl (by exact vp_in_nI (show y_109 < 120 by have := hle; omega) (by decide)) dX4_brackets_312 ?_
                refine W.eq (g2 := F0 m 313 ls [.int (bW S2 y_109), .int (nI y_112), .ref o]) (by rw [nI_clamp (show y_109 < 2 ^ 31 by have := hle; omega), hB.W (show y_109 < sN (fs_push S2 ((((bW S2 y_109) + (bW S2 (fIx x))) + (bW S2 y_112)), 0, 0, [(nI y_109), 0, ((pV S2 (fIx st) 0) - (fHf ((bH S2 y_109) - (bD S2 y_109)))), (nI (fIx x)), (bW S2 y_109), 0], 0, 0)) by rw [sN_push]; omega), bW_push _ h_y_109]) ?_
                refine lv_aload_n hx hb dX4_brackets_313 rfl (lv_at hl 8 rfl) ?_
                refine mw_get (D := gD G) (ci := 4) (v := .ref (A 1)) (C := RX4) (T := TX4) (N := 21) hx hb htb inX4 hown hK hP hT.1 rfl 5 (by decide) (htb _ wd529) (fun _ h9 => h9) rfl dX4_brackets_314 ?_
                refine lv_iload_n hx hb dX4_brackets_317 rfl (lv_at hl 11 rfl) ?_
                refine mw_iald hx hb hK hP 0 (show M_118 (A 1) = some (.inl (gI G, 120, .inl (g119 1))) from hT.2.1 1 (by decide)) rfl (by exact vp_in_nI (show (fIx x) < 120 by have := hle; omega) (by decide)) dX4_brackets_318 ?_
                refine W.eq (g2 := F0 m 319 ls [.int (bW S2 (fIx x)), .int (bW S2 y_109), .int (nI y_112), .ref o]) (by rw [nI_clamp (show (fIx x) < 2 ^ 31 by have := hle; omega), hB.W (show (fIx x) < sN (fs_push S2 ((((bW S2 y_109) + (bW S2 (fIx x))) + (bW S2 y_112)), 0, 0, [(nI y_109), 0, ((pV S2 (fIx st) 0) - (fHf ((bH S2 y_109) - (bD S2 y_109)))), (nI (fIx x)), (bW S2 y_109), 0], 0, 0)) by rw [sN_push]; omega), bW_push _ h_x]) ?_
                refine lv_iadd hx hb dX4_brackets_319 ?_
                refine lv_aload_n hx hb dX4_brackets_320 rfl (lv_at hl 8 rfl) ?_
                refine lv_iconst (v := 0) hx hb dX4_brackets_321 (by decide) ?_
                refine mw_callV (C := RX4) (As := [.int 0]) (rest := [.int ((bW S2 y_109) + (bW S2 (fIx x))), .int (nI y_112), .ref o]) hx hb hml hown hl (kX4_p l htr G H.size M_118 o A 0 (fs_push S2 ((((bW S2 y_109) + (bW S2 (fIx x))) + (bW S2 y_112)), 0, 0, [(nI y_109), 0, ((pV S2 (fIx st) 0) - (fHf ((bH S2 y_109) - (bD S2 y_109)))), (nI (fIx x)), (bW S2 y_109), 0], 0, 0)) (fIx st) 0 h_st (by decide) (md_R.of (np := np119) hT hB : md_R G o A M_118 0 (nI (fSz (fIx st))) (fs_push S2 ((((bW S2 y_109) + (bW S2 (fIx x))) + (bW S2 y_112)), 0, 0, [(nI y_109), 0, ((pV S2 (fIx st) 0) - (fHf ((bH S2 y_109) - (bD S2 y_109)))), (nI (fIx x)), (bW S2 y_109), 0], 0, 0)))) (g_B (n := 1) htb wd679 wd3 wd676 (by decide +kernel) ⟨Nat.le_of_ble_eq_true rfl, Nat.le_of_ble_eq_true rfl⟩) (htb _ wd678) (htb _ ws36) hE hP hS hT.1 rfl rfl rfl (Nat.le_of_ble_eq_true rfl) dX4_brackets_322 ⟨Nat.le_of_ble_eq_true rfl, Nat.le_of_ble_eq_true rfl⟩ (fun v9 M9 H locs hpo hP hz hS => ?_) (fun x9 E9 cell9 H9 locs9 hE9 => hE9.elim)
                obtain ⟨rfl, rfl⟩ := hpo
                refine W.eq (g2 := F0 m 325 ls [.int (pV S2 (fIx st) 0), .int ((bW S2 y_109) + (bW S2 (fIx x))), .int (nI y_112), .ref o]) rfl ?_
                refine lv_aload_n hx hb dX4_brackets_325 rfl (lv_at hl 8 rfl) ?_
                refine mw_get (D := gD G) (ci := 4) (v := .ref (A 2)) (C := RX4) (T := TX4) (N := 21) hx hb htb inX4 hown hK hP hT.1 rfl 6 (by decide) (htb _ wd530) (fun _ h9 => h9) rfl dX4_brackets_326 ?_
                refine lv_iload hx hb dX4_brackets_329 (lv_at hl 1 rfl) ?_
                refine mw_iald hx hb hK hP 0 (show M_118 (A 2) = some (.inl (gI G, 120, .inl (g119 2))) from hT.2.1 2 (by decide)) rfl (by exact vp_in_nI (show y_112 < 120 by have := hle; omega) (by decide)) dX4_brackets_331 ?_
                refine W.eq (g2 := F0 m 332 ls [.int (bH S2 y_112), .int (pV S2 (fIx st) 0), .int ((bW S2 y_109) + (bW S2 (fIx x))), .int (nI y_112), .ref o]) (by rw [nI_clamp (show y_112 < 2 ^ 31 by have := hle; omega), hB.H (show y_112 < sN (fs_push S2 ((((bW S2 y_109) + (bW S2 (fIx x))) + (bW S2 y_112)), 0, 0, [(nI y_109), 0, ((pV S2 (fIx st) 0) - (fHf ((bH S2 y_109) - (bD S2 y_109)))), (nI (fIx x)), (bW S2 y_109), 0], 0, 0)) by rw [sN_push]; omega), bH_push _ h_y_112]) ?_
                refine lv_aload_n hx hb dX4_brackets_332 rfl (lv_at hl 8 rfl) ?_
                refine mw_get (D := gD G) (ci := 4) (v := .ref (A 3)) (C := RX4) (T := TX4) (N := 21) hx hb htb inX4 hown hK hP hT.1 rfl 7 (by decide) (htb _ wd531) (fun _ h9 => h9) rfl dX4_brackets_333 ?_
                refine lv_iload hx hb dX4_brackets_336 (lv_at hl 1 rfl) ?_
                refine mw_iald hx hb hK hP 0 (show M_118 (A 3) = some (.inl (gI G, 120, .inl (g119 3))) from hT.2.1 3 (by decide)) rfl (by exact vp_in_nI (show y_112 < 120 by have := hle; omega) (by decide)) dX4_brackets_338 ?_
                refine W.eq (g2 := F0 m 339 ls [.int (bD S2 y_112), .int (bH S2 y_112), .int (pV S2 (fIx st) 0), .int ((bW S2 y_109) + (bW S2 (fIx x))), .int (nI y_112), .ref o]) (by rw [nI_clamp (show y_112 < 2 ^ 31 by have := hle; omega), hB.D (show y_112 < sN (fs_push S2 ((((bW S2 y_109) + (bW S2 (fIx x))) + (bW S2 y_112)), 0, 0, [(nI y_109), 0, ((pV S2 (fIx st) 0) - (fHf ((bH S2 y_109) - (bD S2 y_109)))), (nI (fIx x)), (bW S2 y_109), 0], 0, 0)) by rw [sN_push]; omega), bD_push _ h_y_112]) ?_
                refine lv_isub hx hb dX4_brackets_339 ?_
                refine mw_callS (As := [.int ((bH S2 y_112) - (bD S2 y_112))]) (rest := [.int (pV S2 (fIx st) 0), .int ((bW S2 y_109) + (bW S2 (fIx x))), .int (nI y_112), .ref o]) hx hb hml hown hl (kX4_half l htr G H.size M_118 ((bH S2 y_112) - (bD S2 y_112))) (g_B (n := 1) htb wd682 wd3 wd680 (by decide +kernel) ⟨Nat.le_of_ble_eq_true rfl, Nat.le_of_ble_eq_true rfl⟩) (htb _ wd681) hE hP hS rfl rfl (Nat.le_of_ble_eq_true rfl) dX4_brackets_340 ⟨Nat.le_of_ble_eq_true rfl, Nat.le_of_ble_eq_true rfl⟩ (fun v9 M9 H locs hpo hP hz hS => ?_) (fun x9 E9 cell9 H9 locs9 hE9 => hE9.elim)
                obtain ⟨rfl, rfl⟩ := hpo
                refine W.eq (g2 := F0 m 343 ls [.int (fHf ((bH S2 y_112) - (bD S2 y_112))), .int (pV S2 (fIx st) 0), .int ((bW S2 y_109) + (bW S2 (fIx x))), .int (nI y_112), .ref o]) rfl ?_
                refine lv_isub hx hb dX4_brackets_343 ?_
                refine mw_callV (C := RX4) (As := [.int (nI y_112), .int ((bW S2 y_109) + (bW S2 (fIx x))), .int ((pV S2 (fIx st) 0) - (fHf ((bH S2 y_112) - (bD S2 y_112))))]) (rest := []) hx hb hml hown hl (kX4_lay l htr G H.size M_118 o A 0 (nI (fSz (fIx st))) S2 (((bW S2 y_109) + (bW S2 (fIx x))) + (bW S2 y_112)) 0 0 ([(nI y_109), 0, ((pV S2 (fIx st) 0) - (fHf ((bH S2 y_109) - (bD S2 y_109)))), (nI (fIx x)), (bW S2 y_109), 0]) 0 0 (md_R.of (np := np119) hT hB : md_R G o A M_118 0 (nI (fSz (fIx st))) (fs_push S2 ((((bW S2 y_109) + (bW S2 (fIx x))) + (bW S2 y_112)), 0, 0, [(nI y_109), 0, ((pV S2 (fIx st) 0) - (fHf ((bH S2 y_109) - (bD S2 y_109)))), (nI (fIx x)), (bW S2 y_109), 0], 0, 0))) (by simp) (nI y_112) ((bW S2 y_109) + (bW S2 (fIx x))) ((pV S2 (fIx st) 0) - (fHf ((bH S2 y_112) - (bD S2 y_112))))) (g_B (n := 3) htb wd661 wd3 wd658 (by decide +kernel) ⟨Nat.le_of_ble_eq_true rfl, Nat.le_of_ble_eq_true rfl⟩) (htb _ wd660) (htb _ ws34) hE hP hS hT.1 rfl rfl rfl (Nat.le_of_ble_eq_true rfl) dX4_brackets_344 ⟨Nat.le_of_ble_eq_true rfl, Nat.le_of_ble_eq_true rfl⟩ (fun v9 M9 H locs hpo hP hz hS => ?_) (fun x9 E9 cell9 H9 locs9 hE9 => hE9.elim)
                obtain ⟨rfl, hRn, hkn⟩ := hpo
                obtain ⟨M_120, hM_120⟩ : ∃ z9 : mw_M, z9 = M9 := ⟨_, rfl⟩
                rw [← hM_120] at hP hRn hkn
                have hk := md_keeps.tr hk hkn
                have hRn : md_R G o A M_120 0 (nI (fSz (fIx st))) (fs_push S2 ((((bW S2 y_109) + (bW S2 (fIx x))) + (bW S2 y_112)), 0, 0, [(nI y_109), 0, ((pV S2 (fIx st) 0) - (fHf ((bH S2 y_109) - (bD S2 y_109)))), (nI (fIx x)), (bW S2 y_109), 0, (nI y_112), ((bW S2 y_109) + (bW S2 (fIx x))), ((pV S2 (fIx st) 0) - (fHf ((bH S2 y_112) - (bD S2 y_112))))], 0, 0)) := hRn
                obtain ⟨np121, bg121, g121, hT, hB⟩ := id hRn
                rw [sN_push] at hT
                have hT : md_at G o A M_120 0 (sSp S2) (sSh S2) (nI (sN S2 + 1)) (nI np121) (nI (fSz (fIx st))) g121 := hT
                refine W.eq (g2 := F0 m 347 ls []) rfl ?_
                refine lv_aload_n hx hb dX4_brackets_347 rfl (lv_at hl 8 rfl) ?_
                refine mw_callV (C := RX4) (As := []) (rest := []) hx hb hml hown hl (kX4_reach l htr G H.size M_120 o A 0 (nI (fSz (fIx st))) S2 (((bW S2 y_109) + (bW S2 (fIx x))) + (bW S2 y_112)) [(nI y_109), 0, ((pV S2 (fIx st) 0) - (fHf ((bH S2 y_109) - (bD S2 y_109)))), (nI (fIx x)), (bW S2 y_109), 0, (nI y_112), ((bW S2 y_109) + (bW S2 (fIx x))), ((pV S2 (fIx st) 0) - (fHf ((bH S2 y_112) - (bD S2 y_112))))] (md_R.of (np := np121) hT hB : md_R G o A M_120 0 (nI (fSz (fIx st))) (fs_push S2 ((((bW S2 y_109) + (bW S2 (fIx x))) + (bW S2 y_112)), 0, 0, [(nI y_109), 0, ((pV S2 (fIx st) 0) - (fHf ((bH S2 y_109) - (bD S2 y_109)))), (nI (fIx x)), (bW S2 y_109), 0, (nI y_112), ((bW S2 y_109) + (bW S2 (fIx x))), ((pV S2 (fIx st) 0) - (fHf ((bH S2 y_112) - (bD S2 y_112))))], 0, 0))) (fun j hj => by
                    rcases (show j = 0 ∨ j = 1 ∨ j = 2 by simp at hj; omega) with rfl | rfl | rfl
                    · exact ⟨y_109, h_y_109, rfl⟩
                    · exact ⟨(fIx x), h_x, rfl⟩
                    · exact ⟨y_112, h_y_112, rfl⟩)) (g_B (n := 0) htb wd705 wd3 wd702 (by decide +kernel) ⟨Nat.le_of_ble_eq_true rfl, Nat.le_of_ble_eq_true rfl⟩) (htb _ wd704) (htb _ ws37) hE hP hS hT.1 rfl rfl rfl (Nat.le_of_ble_eq_true rfl) dX4_brackets_348 ⟨Nat.le_of_ble_eq_true rfl, Nat.le_of_ble_eq_true rfl⟩ (fun v9 M9 H locs hpo hP hz hS => ?_) (fun x9 E9 cell9 H9 locs9 hE9 => hE9.elim)
                obtain ⟨rfl, hRn, hkn⟩ := hpo
                obtain ⟨M_122, hM_122⟩ : ∃ z9 : mw_M, z9 = M9 := ⟨_, rfl⟩
                rw [← hM_122] at hP hRn hkn
                have hk := md_keeps.tr hk hkn
                refine W.eq (g2 := F0 m 351 ls []) rfl ?_
                refine lv_iload hx hb dX4_brackets_351 (lv_at hl 0 rfl) ?_
                have hex : ex_brackets S st a x b = 0 := by rw [ex_brackets, if_neg (fun z9 => z9 ⟨kb_5, kb_10, kb_12⟩), if_neg (fun z9 => z9 kb_14), if_neg (fun z9 => z9 ⟨kGa, kGb⟩), if_neg (fun z9 => z9 kb_105)]
                have hre : re_brackets S st a x b = (fs_en S2 (((bW S2 y_109) + (bW S2 (fIx x))) + (bW S2 y_112)) [(nI y_109), 0, ((pV S2 (fIx st) 0) - (fHf ((bH S2 y_109) - (bD S2 y_109)))), (nI (fIx x)), (bW S2 y_109), 0, (nI y_112), ((bW S2 y_109) + (bW S2 (fIx x))), ((pV S2 (fIx st) 0) - (fHf ((bH S2 y_112) - (bD S2 y_112))))]) := by rw [re_brackets, ← hS2, ← ey_109, ← ey_112]; rfl
                exact mx_iret (v := (nI (sN S2))) (M' := M_122) hx hb hr hlocks hP hS ⟨by rw [hex, if_pos rfl, ← hS2], ⟨_, by rw [hex, if_pos rfl, ← hS2, hre]; exact hRn⟩, hk⟩ dX4_brackets_353 (Nat.le_of_ble_eq_true rfl) (Nat.le_of_ble_eq_true rfl)
              · have kb_123 : ¬ rmk S ((if br_r S st x a = (-1) then 1 else 0) + (if br_r S st x b = (-1) then 1 else 0) + 1) := by rw [if_pos hra, if_pos hrb, show (1 : Int32) + 1 + 1 = 1 + 1 + 1 from rfl]; exact fun z9 => z9 (Int32.not_le.mp c_104)
                refine lv_iconst (v := 4) hx hb dX4_brackets_193 (by decide) ?_
                refine lv_goto (tgt := 198) hx hb dX4_brackets_194 (by decide) ?_
                refine mw_put (D := gD G) (ci := 4) (v := .int 4) (ty := .int) (C := RX4) (T := TX4) (N := 21) hx hb htb inX4 tyX4 tyX4_ok nmX4 hown hK hP hS hT.1 hT.2.2.2.1 rfl 0 (by decide) (htb _ wd524) (fun _ h9 => h9) rfl (by decide +kernel) rfl rfl (Nat.le_of_ble_eq_true rfl) dX4_brackets_198 (fun H locs hP hS => ?_)
                obtain ⟨M_124, hM_124⟩ : ∃ z9 : mw_M, z9 = mw_up M_17 o (.inr (4, [.int 4, .ref (A 0), .int (sSp S), .int (sSh S), .int (nI (sN S)), .ref (A 1), .ref (A 2), .ref (A 3), .ref (A 4), .ref (A 5), .ref (A 6), .ref (A 7), .int (nI np18), .ref (A 8), .ref (A 9), .ref (A 10), .ref (A 11), .ref (A 12), .ref (A 13), .ref (A 14), .int (nI (fSz (fIx st)))])) := ⟨_, rfl⟩
                have hP : mw_P (gD G) gx_cl M_124 H := by rw [hM_124]; exact hP
                have hT : md_at G o A M_124 4 (sSp S) (sSh S) (nI (sN S)) (nI np18) (nI (fSz (fIx st))) g18 := md_at.fld hT hM_124
                have hk : md_keeps o A M M_124 := md_keeps.fld hk hM_124
                refine lv_aload_n hx hb dX4_brackets_201 rfl (lv_at hl 5 rfl) ?_
                refine mw_get (D := gD G) (ci := 4) (v := .int 4) (C := RX4) (T := TX4) (N := 21) hx hb htb inX4 hown hK hP hT.1 rfl 0 (by decide) (htb _ wd524) (fun _ h9 => h9) rfl dX4_brackets_202 ?_
                refine lv_if_le (tgt := 210) hx hb dX4_brackets_205 (by decide) (fun c_125 => absurd c_125 (by decide)) (fun c_125 => ?_)
                refine lv_iconst (v := 0) hx hb dX4_brackets_208 (by decide) ?_
                have hex : ex_brackets S st a x b = 4 := by rw [ex_brackets, if_neg (fun z9 => z9 ⟨kb_5, kb_10, kb_12⟩), if_neg (fun z9 => z9 kb_14), if_neg (fun z9 => z9 ⟨kGa, kGb⟩), if_pos (fun z9 => kb_123 z9)]
                exact mx_iret (v := 0) (M' := M_124) hx hb hr hlocks hP hS ⟨by rw [hex]; rfl, ⟨_, by rw [hex]; exact (⟨np18, bg18, g18, hT, hB⟩ : md_R G o A M_124 4 (nI (fSz (fIx st))) S)⟩, hk⟩ dX4_brackets_209 (Nat.le_of_ble_eq_true rfl) (Nat.le_of_ble_eq_true rfl)
        · have kb_126 : ¬ (isT st) := bI_f c_13
          refine lv_iconst (v := 2) hx hb dX4_brackets_35 (by decide) ?_
          refine lv_goto (tgt := 40) hx hb dX4_brackets_36 (by decide) ?_
          refine mw_put (D := gD G) (ci := 4) (v := .int 2) (ty := .int) (C := RX4) (T := TX4) (N := 21) hx hb htb inX4 tyX4 tyX4_ok nmX4 hown hK hP hS hT.1 hT.2.2.2.1 rfl 0 (by decide) (htb _ wd524) (fun _ h9 => h9) rfl (by decide +kernel) rfl rfl (Nat.le_of_ble_eq_true rfl) dX4_brackets_40 (fun H locs hP hS => ?_)
          obtain ⟨M_127, hM_127⟩ : ∃ z9 : mw_M, z9 = mw_up M o (.inr (4, [.int 2, .ref (A 0), .int (sSp S), .int (sSh S), .int (nI (sN S)), .ref (A 1), .ref (A 2), .ref (A 3), .ref (A 4), .ref (A 5), .ref (A 6), .ref (A 7), .int (nI np), .ref (A 8), .ref (A 9), .ref (A 10), .ref (A 11), .ref (A 12), .ref (A 13), .ref (A 14), .int z])) := ⟨_, rfl⟩
          have hP : mw_P (gD G) gx_cl M_127 H := by rw [hM_127]; exact hP
          have hT : md_at G o A M_127 2 (sSp S) (sSh S) (nI (sN S)) (nI np) z g := md_at.fld hT hM_127
          have hk : md_keeps o A M M_127 := md_keeps.fld hk hM_127
          refine lv_aload_n hx hb dX4_brackets_43 rfl (lv_at hl 0 rfl) ?_
          refine mw_get (D := gD G) (ci := 4) (v := .int 2) (C := RX4) (T := TX4) (N := 21) hx hb htb inX4 hown hK hP hT.1 rfl 0 (by decide) (htb _ wd524) (fun _ h9 => h9) rfl dX4_brackets_44 ?_
          refine lv_if_le (tgt := 52) hx hb dX4_brackets_47 (by decide) (fun c_128 => absurd c_128 (by decide)) (fun c_128 => ?_)
          refine lv_iconst (v := 0) hx hb dX4_brackets_50 (by decide) ?_
          have hex : ex_brackets S st a x b = 2 := by rw [ex_brackets, if_neg (fun z9 => z9 ⟨kb_5, kb_10, kb_12⟩), if_pos (fun z9 => kb_126 z9)]
          exact mx_iret (v := 0) (M' := M_127) hx hb hr hlocks hP hS ⟨by rw [hex]; rfl, ⟨_, by rw [hex]; exact (⟨np, bg, g, hT, hB⟩ : md_R G o A M_127 2 z S)⟩, hk⟩ dX4_brackets_51 (Nat.le_of_ble_eq_true rfl) (Nat.le_of_ble_eq_true rfl)
      · have kb_129 : ¬ (isF b) := bI_f c_11
        refine lv_iconst (v := 1) hx hb dX4_brackets_24 (by decide) ?_
        refine lv_goto (tgt := 40) hx hb dX4_brackets_25 (by decide) ?_
        refine mw_put (D := gD G) (ci := 4) (v := .int 1) (ty := .int) (C := RX4) (T := TX4) (N := 21) hx hb htb inX4 tyX4 tyX4_ok nmX4 hown hK hP hS hT.1 hT.2.2.2.1 rfl 0 (by decide) (htb _ wd524) (fun _ h9 => h9) rfl (by decide +kernel) rfl rfl (Nat.le_of_ble_eq_true rfl) dX4_brackets_40 (fun H locs hP hS => ?_)
        obtain ⟨M_130, hM_130⟩ : ∃ z9 : mw_M, z9 = mw_up M o (.inr (4, [.int 1, .ref (A 0), .int (sSp S), .int (sSh S), .int (nI (sN S)), .ref (A 1), .ref (A 2), .ref (A 3), .ref (A 4), .ref (A 5), .ref (A 6), .ref (A 7), .int (nI np), .ref (A 8), .ref (A 9), .ref (A 10), .ref (A 11), .ref (A 12), .ref (A 13), .ref (A 14), .int z])) := ⟨_, rfl⟩
        have hP : mw_P (gD G) gx_cl M_130 H := by rw [hM_130]; exact hP
        have hT : md_at G o A M_130 1 (sSp S) (sSh S) (nI (sN S)) (nI np) z g := md_at.fld hT hM_130
        have hk : md_keeps o A M M_130 := md_keeps.fld hk hM_130
        refine lv_aload_n hx hb dX4_brackets_43 rfl (lv_at hl 0 rfl) ?_
        refine mw_get (D := gD G) (ci := 4) (v := .int 1) (C := RX4) (T := TX4) (N := 21) hx hb htb inX4 hown hK hP hT.1 rfl 0 (by decide) (htb _ wd524) (fun _ h9 => h9) rfl dX4_brackets_44 ?_
        refine lv_if_le (tgt := 52) hx hb dX4_brackets_47 (by decide) (fun c_131 => absurd c_131 (by decide)) (fun c_131 => ?_)
        refine lv_iconst (v := 0) hx hb dX4_brackets_50 (by decide) ?_
        have hex : ex_brackets S st a x b = 1 := by rw [ex_brackets, if_pos (fun z9 => kb_129 z9.2.2)]
        exact mx_iret (v := 0) (M' := M_130) hx hb hr hlocks hP hS ⟨by rw [hex]; rfl, ⟨_, by rw [hex]; exact (⟨np, bg, g, hT, hB⟩ : md_R G o A M_130 1 z S)⟩, hk⟩ dX4_brackets_51 (Nat.le_of_ble_eq_true rfl) (Nat.le_of_ble_eq_true rfl)
