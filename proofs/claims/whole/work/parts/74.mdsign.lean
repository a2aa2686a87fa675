/-! printed by wip/whole/spec*.py -/
-- X4_sign
set_option maxHeartbeats 4000000 in
set_option maxRecDepth 100000 in
theorem kX4_sign (l : Launch) (htr : l.stackTraces = false) (G : gx_G) (sz : Nat) (M : mw_M) (o : Nat) (A : Nat → Nat) (th z : Int32) (S : fs_S) (hR : md_R G o A M th z S) (hok : fs_ok S) (k b : Int32) : g_Met l G yX4_sign (.code yX4_sign cX4_sign 3 (some .int)) ({ frames := 5, cells := 0, slots := 0, locals := 200 } : Room) sz M [.ref o, .int k, .int b] (md_Mk G o A M S (ex_sign S k b) (fs_fa S (fIx k) ((sF S (fIx k)).1 ++ [nI (fIx b)], (sF S (fIx k)).2)) (some (.int (if ex_sign S k b = 0 then (nI (sF S (fIx k)).1.length + 1) else 0)))) (fun _ => False) := by
  refine MetE.ofW (cc := cX4_sign) (maxL := 3) (ret := (some .int)) (by decide) rfl ?_
  intro p e s m args below meth c s₁ B hml hv
  obtain ⟨rfl, hsz, hP, hE⟩ := hv
  have hx := B.exec
  have hb := B.bytes
  have hr := B.returns
  have hts := atoms_spec (ws := _ :: lw_big) B.pre
  have htb : ∀ w ∈ lw_big, w.before _ s = true := fun w h => hts w (List.mem_cons_of_mem _ h)
  have hno := B.noHandlers (hts _ List.mem_cons_self)
  have hown : s.vm.findClass RX4 = some m.cls := findClass_of_methodNamed B.named
  have hlocks := B.notSynchronized
  have hK := hE.1
  subst hsz
  have hS : va_S (gA G) s.heap s.heap [] := va_S.rf
  have hl := lv_entry ([.ref o, .int k, .int b]) (n := 3) (Nat.le_of_ble_eq_true rfl)
  rw [lg_entry_eq]
  generalize (lg_sl ([.ref o, .int k, .int b]) ++ List.replicate (3 - (lg_sl ([.ref o, .int k, .int b])).length) Slot.unset).toArray = ls at hl ⊢
  have hl : lv_has ls 3 [(0, .ref o), (1, .int k), (2, .int b)] := hl
  obtain ⟨np, bg, g, hT, hB⟩ := id hR
  have hk : md_keeps o A M M := md_keeps.rf o A M
  have hle : sN S ≤ 120 := hB.1
  refine lv_aload_n hx hb dX4_sign_0 rfl (lv_at hl 0 rfl) ?_
  refine lv_iload_n hx hb dX4_sign_1 rfl (lv_at hl 1 rfl) ?_
  refine mw_callS (As := [.int k]) (rest := [.ref o]) hx hb hml hown hl (kX4_isFamily l htr G s.heap.size M k) (g_B (n := 1) htb wd620 wd3 wd618 (by decide +kernel) ⟨Nat.le_of_ble_eq_true rfl, Nat.le_of_ble_eq_true rfl⟩) (htb _ wd619) hE hP hS rfl rfl (Nat.le_of_ble_eq_true rfl) dX4_sign_2 ⟨Nat.le_of_ble_eq_true rfl, Nat.le_of_ble_eq_true rfl⟩ (fun v9 M9 H locs hpo hP hz hS => ?_) (fun x9 E9 cell9 H9 locs9 hE9 => hE9.elim)
  obtain ⟨rfl, rfl⟩ := hpo
  refine W.eq (g2 := F0 m 5 ls [.int (bI (isF k)), .ref o]) rfl ?_
  refine lv_if_eq (tgt := 16) hx hb dX4_sign_5 (by decide) (fun c_1 => ?_) (fun c_1 => ?_)
  · have kb_2 : ¬ (isF k) := bI_f c_1
    refine lv_iconst (v := 1) hx hb dX4_sign_16 (by decide) ?_
    refine lv_goto (tgt := 35) hx hb dX4_sign_17 (by decide) ?_
    refine mw_put (D := gD G) (ci := 4) (v := .int 1) (ty := .int) (C := RX4) (T := TX4) (N := 21) hx hb htb inX4 tyX4 tyX4_ok nmX4 hown hK hP hS hT.1 hT.2.2.2.1 rfl 0 (by decide) (htb _ wd524) (fun _ h9 => h9) rfl (by decide +kernel) rfl rfl (Nat.le_of_ble_eq_true rfl) dX4_sign_35 (fun H locs hP hS => ?_)
    obtain ⟨M_3, hM_3⟩ : ∃ z9 : mw_M, z9 = mw_up M o (.inr (4, [.int 1, .ref (A 0), .int (sSp S), .int (sSh S), .int (nI (sN S)), .ref (A 1), .ref (A 2), .ref (A 3), .ref (A 4), .ref (A 5), .ref (A 6), .ref (A 7), .int (nI np), .ref (A 8), .ref (A 9), .ref (A 10), .ref (A 11), .ref (A 12), .ref (A 13), .ref (A 14), .int z])) := ⟨_, rfl⟩
    have hP : mw_P (gD G) gx_cl M_3 H := by rw [hM_3]; exact hP
    have hT : md_at G o A M_3 1 (sSp S) (sSh S) (nI (sN S)) (nI np) z g := md_at.fld hT hM_3
    have hk : md_keeps o A M M_3 := md_keeps.fld hk hM_3
    refine lv_aload_n hx hb dX4_sign_38 rfl (lv_at hl 0 rfl) ?_
    refine mw_get (D := gD G) (ci := 4) (v := .int 1) (C := RX4) (T := TX4) (N := 21) hx hb htb inX4 hown hK hP hT.1 rfl 0 (by decide) (htb _ wd524) (fun _ h9 => h9) rfl dX4_sign_39 ?_
    refine lv_if_le (tgt := 47) hx hb dX4_sign_42 (by decide) (fun c_4 => absurd c_4 (by decide)) (fun c_4 => ?_)
    refine lv_iconst (v := 0) hx hb dX4_sign_45 (by decide) ?_
    have hex : ex_sign S k b = 1 := by rw [ex_sign, if_pos (fun z9 => kb_2 z9.1)]
    exact mx_iret (v := 0) (M' := M_3) hx hb hr hlocks hP hS ⟨by rw [hex]; rfl, ⟨_, by rw [hex]; exact (⟨np, bg, g, hT, hB⟩ : md_R G o A M_3 1 z S)⟩, hk⟩ dX4_sign_46 (Nat.le_of_ble_eq_true rfl) (Nat.le_of_ble_eq_true rfl)
  · have kb_5 : isF k := bI_t c_1
    have h_k := isF_lt kb_5
    have e_k := fIx_of kb_5.1
    rw [e_k] at hl
    have e_4 : 4 * nI (fIx k) = nI (4 * (fIx k)) := pk_mul 4 (fIx k)
    have e_41 : 4 * nI (fIx k) + 1 = nI (4 * (fIx k) + 1) := by rw [e_4]; exact nI_add _ 1
    have e_42 : 4 * nI (fIx k) + 2 = nI (4 * (fIx k) + 2) := by rw [e_4]; exact nI_add _ 2
    have e_43 : 4 * nI (fIx k) + 3 = nI (4 * (fIx k) + 3) := by rw [e_4]; exact nI_add _ 3
    obtain ⟨o1, o2, o3, o4, o5, o6⟩ := hok.2.2 (fIx k) h_k
    have e_4m : 4 * nI (fIx k) + nI (sF S (fIx k)).1.length = nI (4 * (fIx k) + (sF S (fIx k)).1.length) := by rw [e_4, nI_add]
    refine lv_aload_n hx hb dX4_sign_8 rfl (lv_at hl 0 rfl) ?_
    refine lv_iload_n hx hb dX4_sign_9 rfl (lv_at hl 2 rfl) ?_
    refine mw_callV (C := RX4) (As := [.int b]) (rest := [.ref o]) hx hb hml hown hl (kX4_isBox l htr G H.size M o A th z S (⟨np, bg, g, hT, hB⟩ : md_R G o A M th z S) b) (g_B (n := 1) htb wd624 wd3 wd621 (by decide +kernel) ⟨Nat.le_of_ble_eq_true rfl, Nat.le_of_ble_eq_true rfl⟩) (htb _ wd623) (htb _ ws27) hE hP hS hT.1 rfl rfl rfl (Nat.le_of_ble_eq_true rfl) dX4_sign_10 ⟨Nat.le_of_ble_eq_true rfl, Nat.le_of_ble_eq_true rfl⟩ (fun v9 M9 H locs hpo hP hz hS => ?_) (fun x9 E9 cell9 H9 locs9 hE9 => hE9.elim)
    obtain ⟨rfl, rfl⟩ := hpo
    refine W.eq (g2 := F0 m 13 ls [.int (bI (isB S b)), .ref o]) rfl ?_
    refine lv_if_ne (tgt := 20) hx hb dX4_sign_13 (by decide) (fun c_6 => ?_) (fun c_6 => ?_)
    · have kb_7 : isB S b := bI_t c_6
      have h_b := isB_lt kb_7 hle
      have e_b := fIx_of kb_7.1
      rw [e_b] at hl
      refine lv_aload_n hx hb dX4_sign_20 rfl (lv_at hl 0 rfl) ?_
      refine mw_get (D := gD G) (ci := 4) (v := .ref (A 11)) (C := RX4) (T := TX4) (N := 21) hx hb htb inX4 hown hK hP hT.1 rfl 16 (by decide) (htb _ wd540) (fun _ h9 => h9) rfl dX4_sign_21 ?_
      refine lv_iload_n hx hb dX4_sign_24 rfl (lv_at hl 1 rfl) ?_
      refine mw_iald hx hb hK hP 0 (show M (A 11) = some (.inl (gI G, 8, .inl (g 11))) from hT.2.1 11 (by decide)) rfl (by exact vp_in_nI (show (fIx k) < 8 by omega) (by decide)) dX4_sign_25 ?_
      refine W.eq (g2 := F0 m 26 ls [.int (nI (sF S (fIx k)).1.length), .ref o]) (by rw [nI_clamp (show (fIx k) < 2 ^ 31 by omega), hB.signs h_k]) ?_
      refine lv_iconst (v := 4) hx hb dX4_sign_26 (by decide) ?_
      refine lv_icmp_ne (tgt := 34) hx hb dX4_sign_27 (by decide) (fun c_8 => ?_) (fun c_8 => ?_)
      · have kb_9 : nI (sF S (fIx k)).1.length < 4 := Decidable.byContradiction (fun z9 => c_8 ((eq4 o1).mpr z9))
        have h4 : (sF S (fIx k)).1.length < 4 := by
          rcases Nat.lt_or_ge (sF S (fIx k)).1.length 4 with q | q
          · exact q
          · exact absurd kb_9 (nI_nlt (b := 4) q (by omega))
        refine lv_iconst (v := 0) hx hb dX4_sign_34 (by decide) ?_
        refine mw_put (D := gD G) (ci := 4) (v := .int 0) (ty := .int) (C := RX4) (T := TX4) (N := 21) hx hb htb inX4 tyX4 tyX4_ok nmX4 hown hK hP hS hT.1 hT.2.2.2.1 rfl 0 (by decide) (htb _ wd524) (fun _ h9 => h9) rfl (by decide +kernel) rfl rfl (Nat.le_of_ble_eq_true rfl) dX4_sign_35 (fun H locs hP hS => ?_)
        obtain ⟨M_10, hM_10⟩ : ∃ z9 : mw_M, z9 = mw_up M o (.inr (4, [.int 0, .ref (A 0), .int (sSp S), .int (sSh S), .int (nI (sN S)), .ref (A 1), .ref (A 2), .ref (A 3), .ref (A 4), .ref (A 5), .ref (A 6), .ref (A 7), .int (nI np), .ref (A 8), .ref (A 9), .ref (A 10), .ref (A 11), .ref (A 12), .ref (A 13), .ref (A 14), .int z])) := ⟨_, rfl⟩
        have hP : mw_P (gD G) gx_cl M_10 H := by rw [hM_10]; exact hP
        have hT : md_at G o A M_10 0 (sSp S) (sSh S) (nI (sN S)) (nI np) z g := md_at.fld hT hM_10
        have hk : md_keeps o A M M_10 := md_keeps.fld hk hM_10
        refine lv_aload_n hx hb dX4_sign_38 rfl (lv_at hl 0 rfl) ?_
        refine mw_get (D := gD G) (ci := 4) (v := .int 0) (C := RX4) (T := TX4) (N := 21) hx hb htb inX4 hown hK hP hT.1 rfl 0 (by decide) (htb _ wd524) (fun _ h9 => h9) rfl dX4_sign_39 ?_
        refine lv_if_le (tgt := 47) hx hb dX4_sign_42 (by decide) (fun c_11 => ?_) (fun c_11 => absurd (by decide) c_11)
        refine lv_aload_n hx hb dX4_sign_47 rfl (lv_at hl 0 rfl) ?_
        refine mw_get (D := gD G) (ci := 4) (v := .ref (A 12)) (C := RX4) (T := TX4) (N := 21) hx hb htb inX4 hown hK hP hT.1 rfl 17 (by decide) (htb _ wd541) (fun _ h9 => h9) rfl dX4_sign_48 ?_
        refine lv_iconst (v := 4) hx hb dX4_sign_51 (by decide) ?_
        refine lv_iload_n hx hb dX4_sign_52 rfl (lv_at hl 1 rfl) ?_
        refine lv_imul hx hb dX4_sign_53 ?_
        refine lv_aload_n hx hb dX4_sign_54 rfl (lv_at hl 0 rfl) ?_
        refine mw_get (D := gD G) (ci := 4) (v := .ref (A 11)) (C := RX4) (T := TX4) (N := 21) hx hb htb inX4 hown hK hP hT.1 rfl 16 (by decide) (htb _ wd540) (fun _ h9 => h9) rfl dX4_sign_55 ?_
        refine lv_iload_n hx hb dX4_sign_58 rfl (lv_at hl 1 rfl) ?_
        refine mw_iald hx hb hK hP 0 (show M_10 (A 11) = some (.inl (gI G, 8, .inl (g 11))) from hT.2.1 11 (by decide)) rfl (by exact vp_in_nI (show (fIx k) < 8 by omega) (by decide)) dX4_sign_59 ?_
        refine W.eq (g2 := F0 m 60 ls [.int (nI (sF S (fIx k)).1.length), .int (4 * (nI (fIx k))), .ref (A 12)]) (by rw [nI_clamp (show (fIx k) < 2 ^ 31 by omega), hB.signs h_k]) ?_
        refine lv_iadd hx hb dX4_sign_60 ?_
        refine lv_iload_n hx hb dX4_sign_61 rfl (lv_at hl 2 rfl) ?_
        refine mw_iast hx hb hK hP hS 0 (show M_10 (A 12) = some (.inl (gI G, 32, .inl (g 12))) from hT.2.1 12 (by decide)) (hT.2.2.2.2 12 (by decide)) rfl (by rw [e_4m]; exact vp_in_nI (show (4 * (fIx k) + (sF S (fIx k)).1.length) < 32 by omega) (by decide)) dX4_sign_62 (fun H locs hP hS => ?_)
        rw [e_4m, nI_clamp (show (4 * (fIx k) + (sF S (fIx k)).1.length) < 2 ^ 31 by omega)] at hP
        obtain ⟨M_12, hM_12⟩ : ∃ z9 : mw_M, z9 = mw_up M_10 (A 12) (.inl (gI G, 32, .inl (upd (g 12) (4 * (fIx k) + (sF S (fIx k)).1.length) (nI (fIx b))))) := ⟨_, rfl⟩
        have hP : mw_P (gD G) gx_cl M_12 H := by rw [hM_12]; exact hP
        obtain ⟨g_13, hg_13⟩ : ∃ z9, z9 = ug g 12 (4 * (fIx k) + (sF S (fIx k)).1.length) (nI (fIx b)) := ⟨_, rfl⟩
        have hT : md_at G o A M_12 0 (sSp S) (sSh S) (nI (sN S)) (nI np) z g_13 := by rw [hg_13]; exact md_at.put hT (by decide) rfl rfl hM_12
        have hk : md_keeps o A M M_12 := md_keeps.arr (j := 12) hk (by decide) hM_12
        refine lv_aload_n hx hb dX4_sign_63 rfl (lv_at hl 0 rfl) ?_
        refine mw_get (D := gD G) (ci := 4) (v := .ref (A 11)) (C := RX4) (T := TX4) (N := 21) hx hb htb inX4 hown hK hP hT.1 rfl 16 (by decide) (htb _ wd540) (fun _ h9 => h9) rfl dX4_sign_64 ?_
        refine lv_iload_n hx hb dX4_sign_67 rfl (lv_at hl 1 rfl) ?_
        refine lv_dup2_11 hx hb dX4_sign_68 rfl rfl ?_
        refine mw_iald hx hb hK hP 0 (show M_12 (A 11) = some (.inl (gI G, 8, .inl (g_13 11))) from hT.2.1 11 (by decide)) rfl (by exact vp_in_nI (show (fIx k) < 8 by omega) (by decide)) dX4_sign_69 ?_
        refine W.eq (g2 := F0 m 70 ls [.int (g_13 11 (fIx k)), .int (nI (fIx k)), .ref (A 11)]) (by rw [nI_clamp (show (fIx k) < 2 ^ 31 by omega)]) ?_
        refine lv_iconst (v := 1) hx hb dX4_sign_70 (by decide) ?_
        refine lv_iadd hx hb dX4_sign_71 ?_
        refine mw_iast hx hb hK hP hS 0 (show M_12 (A 11) = some (.inl (gI G, 8, .inl (g_13 11))) from hT.2.1 11 (by decide)) (hT.2.2.2.2 11 (by decide)) rfl (by exact vp_in_nI (show (fIx k) < 8 by omega) (by decide)) dX4_sign_72 (fun H locs hP hS => ?_)
        rw [nI_clamp (show (fIx k) < 2 ^ 31 by omega)] at hP
        obtain ⟨M_14, hM_14⟩ : ∃ z9 : mw_M, z9 = mw_up M_12 (A 11) (.inl (gI G, 8, .inl (upd (g_13 11) (fIx k) ((g_13 11 (fIx k)) + 1)))) := ⟨_, rfl⟩
        have hP : mw_P (gD G) gx_cl M_14 H := by rw [hM_14]; exact hP
        obtain ⟨g_15, hg_15⟩ : ∃ z9, z9 = ug g_13 11 (fIx k) ((g_13 11 (fIx k)) + 1) := ⟨_, rfl⟩
        have hT : md_at G o A M_14 0 (sSp S) (sSh S) (nI (sN S)) (nI np) z g_15 := by rw [hg_15]; exact md_at.put hT (by decide) rfl rfl hM_14
        have hk : md_keeps o A M M_14 := md_keeps.arr (j := 11) hk (by decide) hM_14
        refine lv_aload_n hx hb dX4_sign_73 rfl (lv_at hl 0 rfl) ?_
        refine mw_get (D := gD G) (ci := 4) (v := .ref (A 11)) (C := RX4) (T := TX4) (N := 21) hx hb htb inX4 hown hK hP hT.1 rfl 16 (by decide) (htb _ wd540) (fun _ h9 => h9) rfl dX4_sign_74 ?_
        refine lv_iload_n hx hb dX4_sign_77 rfl (lv_at hl 1 rfl) ?_
        refine mw_iald hx hb hK hP 0 (show M_14 (A 11) = some (.inl (gI G, 8, .inl (g_15 11))) from hT.2.1 11 (by decide)) rfl (by exact vp_in_nI (show (fIx k) < 8 by omega) (by decide)) dX4_sign_78 ?_
        refine W.eq (g2 := F0 m 79 ls [.int (g_15 11 (fIx k))]) (by rw [nI_clamp (show (fIx k) < 2 ^ 31 by omega)]) ?_
        have hex : ex_sign S k b = 0 := by rw [ex_sign, if_neg (fun z9 => z9 ⟨kb_5, kb_7⟩), if_neg (fun z9 => z9 kb_9)]
        have hB9 := md_ab.sgn (x := nI (fIx b)) hB h_k h4
        have e1 : g_13 11 (fIx k) = nI (sF S (fIx k)).1.length := by rw [hg_13, ug_app, if_neg (by omega)]; exact hB.signs h_k
        have hg2 := hg_15
        rw [e1] at hg2
        rw [← hg_13, ← hg2] at hB9
        have e2 : g_15 11 (fIx k) = nI (sF S (fIx k)).1.length + 1 := by rw [hg2, ug_app, if_pos ⟨rfl, rfl⟩]
        exact mx_iret (v := (g_15 11 (fIx k))) (M' := M_14) hx hb hr hlocks hP hS ⟨by rw [hex, if_pos rfl, e2], ⟨_, by rw [hex, if_pos rfl]; exact ⟨np, bg, g_15, hT, hB9⟩⟩, hk⟩ dX4_sign_79 (Nat.le_of_ble_eq_true rfl) (Nat.le_of_ble_eq_true rfl)
      · have kb_16 : ¬ nI (sF S (fIx k)).1.length < 4 := (eq4 o1).mp c_8
        refine lv_iconst (v := 2) hx hb dX4_sign_30 (by decide) ?_
        refine lv_goto (tgt := 35) hx hb dX4_sign_31 (by decide) ?_
        refine mw_put (D := gD G) (ci := 4) (v := .int 2) (ty := .int) (C := RX4) (T := TX4) (N := 21) hx hb htb inX4 tyX4 tyX4_ok nmX4 hown hK hP hS hT.1 hT.2.2.2.1 rfl 0 (by decide) (htb _ wd524) (fun _ h9 => h9) rfl (by decide +kernel) rfl rfl (Nat.le_of_ble_eq_true rfl) dX4_sign_35 (fun H locs hP hS => ?_)
        obtain ⟨M_17, hM_17⟩ : ∃ z9 : mw_M, z9 = mw_up M o (.inr (4, [.int 2, .ref (A 0), .int (sSp S), .int (sSh S), .int (nI (sN S)), .ref (A 1), .ref (A 2), .ref (A 3), .ref (A 4), .ref (A 5), .ref (A 6), .ref (A 7), .int (nI np), .ref (A 8), .ref (A 9), .ref (A 10), .ref (A 11), .ref (A 12), .ref (A 13), .ref (A 14), .int z])) := ⟨_, rfl⟩
        have hP : mw_P (gD G) gx_cl M_17 H := by rw [hM_17]; exact hP
        have hT : md_at G o A M_17 2 (sSp S) (sSh S) (nI (sN S)) (nI np) z g := md_at.fld hT hM_17
        have hk : md_keeps o A M M_17 := md_keeps.fld hk hM_17
        refine lv_aload_n hx hb dX4_sign_38 rfl (lv_at hl 0 rfl) ?_
        refine mw_get (D := gD G) (ci := 4) (v := .int 2) (C := RX4) (T := TX4) (N := 21) hx hb htb inX4 hown hK hP hT.1 rfl 0 (by decide) (htb _ wd524) (fun _ h9 => h9) rfl dX4_sign_39 ?_
        refine lv_if_le (tgt := 47) hx hb dX4_sign_42 (by decide) (fun c_18 => absurd c_18 (by decide)) (fun c_18 => ?_)
        refine lv_iconst (v := 0) hx hb dX4_sign_45 (by decide) ?_
        have hex : ex_sign S k b = 2 := by rw [ex_sign, if_neg (fun z9 => z9 ⟨kb_5, kb_7⟩), if_pos (fun z9 => kb_16 z9)]
        exact mx_iret (v := 0) (M' := M_17) hx hb hr hlocks hP hS ⟨by rw [hex]; rfl, ⟨_, by rw [hex]; exact (⟨np, bg, g, hT, hB⟩ : md_R G o A M_17 2 z S)⟩, hk⟩ dX4_sign_46 (Nat.le_of_ble_eq_true rfl) (Nat.le_of_ble_eq_true rfl)
    · have kb_19 : ¬ (isB S b) := bI_f c_6
      refine lv_iconst (v := 1) hx hb dX4_sign_16 (by decide) ?_
      refine lv_goto (tgt := 35) hx hb dX4_sign_17 (by decide) ?_
      refine mw_put (D := gD G) (ci := 4) (v := .int 1) (ty := .int) (C := RX4) (T := TX4) (N := 21) hx hb htb inX4 tyX4 tyX4_ok nmX4 hown hK hP hS hT.1 hT.2.2.2.1 rfl 0 (by decide) (htb _ wd524) (fun _ h9 => h9) rfl (by decide +kernel) rfl rfl (Nat.le_of_ble_eq_true rfl) dX4_sign_35 (fun H locs hP hS => ?_)
      obtain ⟨M_20, hM_20⟩ : ∃ z9 : mw_M, z9 = mw_up M o (.inr (4, [.int 1, .ref (A 0), .int (sSp S), .int (sSh S), .int (nI (sN S)), .ref (A 1), .ref (A 2), .ref (A 3), .ref (A 4), .ref (A 5), .ref (A 6), .ref (A 7), .int (nI np), .ref (A 8), .ref (A 9), .ref (A 10), .ref (A 11), .ref (A 12), .ref (A 13), .ref (A 14), .int z])) := ⟨_, rfl⟩
      have hP : mw_P (gD G) gx_cl M_20 H := by rw [hM_20]; exact hP
      have hT : md_at G o A M_20 1 (sSp S) (sSh S) (nI (sN S)) (nI np) z g := md_at.fld hT hM_20
      have hk : md_keeps o A M M_20 := md_keeps.fld hk hM_20
      refine lv_aload_n hx hb dX4_sign_38 rfl (lv_at hl 0 rfl) ?_
      refine mw_get (D := gD G) (ci := 4) (v := .int 1) (C := RX4) (T := TX4) (N := 21) hx hb htb inX4 hown hK hP hT.1 rfl 0 (by decide) (htb _ wd524) (fun _ h9 => h9) rfl dX4_sign_39 ?_
      refine lv_if_le (tgt := 47) hx hb dX4_sign_42 (by decide) (fun c_21 => absurd c_21 (by decide)) (fun c_21 => ?_)
      refine lv_iconst (v := 0) hx hb dX4_sign_45 (by decide) ?_
      have hex : ex_sign S k b = 1 := by rw [ex_sign, if_pos (fun z9 => kb_19 z9.2)]
      exact mx_iret (v := 0) (M' := M_20) hx hb hr hlocks hP hS ⟨by rw [hex]; rfl, ⟨_, by rw [hex]; exact (⟨np, bg, g, hT, hB⟩ : md_R G o A M_20 1 z S)⟩, hk⟩ dX4_sign_46 (Nat.le_of_ble_eq_true rfl) (Nat.le_of_ble_eq_true rfl)
-- X4_pieces
set_option maxHeartbeats 4000000 in
set_option maxRecDepth 100000 in
theorem kX4_pieces (l : Launch) (htr : l.stackTraces = false) (G : gx_G) (sz : Nat) (M : mw_M) (o : Nat) (A : Nat → Nat) (th z : Int32) (S : fs_S) (hR : md_R G o A M th z S) (hok : fs_ok S) (k u d lo r : Int32) : g_Met l G yX4_pieces (.code yX4_pieces cX4_pieces 7 none) ({ frames := 5, cells := 0, slots := 0, locals := 200 } : Room) sz M [.ref o, .int k, .int u, .int d, .int lo, .int r] (md_Mk G o A M S (ex_pieces S k u d lo r) (fs_fa S (fIx k) ((sF S (fIx k)).1, u, d, lo, nI (fIx r))) (none)) (fun _ => False) := by
  refine MetE.ofW (cc := cX4_pieces) (maxL := 7) (ret := none) (by decide) rfl ?_
  intro p e s m args below meth c s₁ B hml hv
  obtain ⟨rfl, hsz, hP, hE⟩ := hv
  have hx := B.exec
  have hb := B.bytes
  have hr := B.returns
  have hts := atoms_spec (ws := _ :: lw_big) B.pre
  have htb : ∀ w ∈ lw_big, w.before _ s = true := fun w h => hts w (List.mem_cons_of_mem _ h)
  have hno := B.noHandlers (hts _ List.mem_cons_self)
  have hown : s.vm.findClass RX4 = some m.cls := findClass_of_methodNamed B.named
  have hlocks := B.notSynchronized
  have hK := hE.1
  subst hsz
  have hS : va_S (gA G) s.heap s.heap [] := va_S.rf
  have hl := lv_entry ([.ref o, .int k, .int u, .int d, .int lo, .int r]) (n := 7) (Nat.le_of_ble_eq_true rfl)
  rw [lg_entry_eq]
  generalize (lg_sl ([.ref o, .int k, .int u, .int d, .int lo, .int r]) ++ List.replicate (7 - (lg_sl ([.ref o, .int k, .int u, .int d, .int lo, .int r])).length) Slot.unset).toArray = ls at hl ⊢
  have hl : lv_has ls 7 [(0, .ref o), (1, .int k), (2, .int u), (3, .int d), (4, .int lo), (5, .int r)] := hl
  obtain ⟨np, bg, g, hT, hB⟩ := id hR
  have hk : md_keeps o A M M := md_keeps.rf o A M
  have hle : sN S ≤ 120 := hB.1
  refine lv_iload_n hx hb dX4_pieces_0 rfl (lv_at hl 1 rfl) ?_
  refine mw_callS (As := [.int k]) (rest := []) hx hb hml hown hl (kX4_isFamily l htr G s.heap.size M k) (g_B (n := 1) htb wd620 wd3 wd618 (by decide +kernel) ⟨Nat.le_of_ble_eq_true rfl, Nat.le_of_ble_eq_true rfl⟩) (htb _ wd619) hE hP hS rfl rfl (Nat.le_of_ble_eq_true rfl) dX4_pieces_1 ⟨Nat.le_of_ble_eq_true rfl, Nat.le_of_ble_eq_true rfl⟩ (fun v9 M9 H locs hpo hP hz hS => ?_) (fun x9 E9 cell9 H9 locs9 hE9 => hE9.elim)
  obtain ⟨rfl, rfl⟩ := hpo
  refine W.eq (g2 := F0 m 4 ls [.int (bI (isF k))]) rfl ?_
  refine lv_if_eq (tgt := 45) hx hb dX4_pieces_4 (by decide) (fun c_1 => ?_) (fun c_1 => ?_)
  · have kb_2 : ¬ (isF k) := bI_f c_1
    refine lv_iconst (v := 0) hx hb dX4_pieces_45 (by decide) ?_
    refine lv_istore (lv' := [(6, .int 0), (0, .ref o), (1, .int k), (2, .int u), (3, .int d), (4, .int lo), (5, .int r)]) hx hb dX4_pieces_46 hl (by decide) rfl (fun ls hl => ?_)
    refine lv_aload_n hx hb dX4_pieces_48 rfl (lv_at hl 1 rfl) ?_
    refine lv_iload hx hb dX4_pieces_49 (lv_at hl 0 rfl) ?_
    refine lv_if_ne (tgt := 58) hx hb dX4_pieces_51 (by decide) (fun c_3 => absurd (by decide) c_3) (fun c_3 => ?_)
    refine lv_iconst (v := 1) hx hb dX4_pieces_54 (by decide) ?_
    refine lv_goto (tgt := 81) hx hb dX4_pieces_55 (by decide) ?_
    refine mw_put (D := gD G) (ci := 4) (v := .int 1) (ty := .int) (C := RX4) (T := TX4) (N := 21) hx hb htb inX4 tyX4 tyX4_ok nmX4 hown hK hP hS hT.1 hT.2.2.2.1 rfl 0 (by decide) (htb _ wd524) (fun _ h9 => h9) rfl (by decide +kernel) rfl rfl (Nat.le_of_ble_eq_true rfl) dX4_pieces_81 (fun H locs hP hS => ?_)
    obtain ⟨M_4, hM_4⟩ : ∃ z9 : mw_M, z9 = mw_up M o (.inr (4, [.int 1, .ref (A 0), .int (sSp S), .int (sSh S), .int (nI (sN S)), .ref (A 1), .ref (A 2), .ref (A 3), .ref (A 4), .ref (A 5), .ref (A 6), .ref (A 7), .int (nI np), .ref (A 8), .ref (A 9), .ref (A 10), .ref (A 11), .ref (A 12), .ref (A 13), .ref (A 14), .int z])) := ⟨_, rfl⟩
    have hP : mw_P (gD G) gx_cl M_4 H := by rw [hM_4]; exact hP
    have hT : md_at G o A M_4 1 (sSp S) (sSh S) (nI (sN S)) (nI np) z g := md_at.fld hT hM_4
    have hk : md_keeps o A M M_4 := md_keeps.fld hk hM_4
    refine lv_aload_n hx hb dX4_pieces_84 rfl (lv_at hl 1 rfl) ?_
    refine mw_get (D := gD G) (ci := 4) (v := .int 1) (C := RX4) (T := TX4) (N := 21) hx hb htb inX4 hown hK hP hT.1 rfl 0 (by decide) (htb _ wd524) (fun _ h9 => h9) rfl dX4_pieces_85 ?_
    refine lv_if_le (tgt := 92) hx hb dX4_pieces_88 (by decide) (fun c_5 => absurd c_5 (by decide)) (fun c_5 => ?_)
    have hex : ex_pieces S k u d lo r = 1 := by rw [ex_pieces, if_pos (fun z9 => kb_2 z9.1)]
    exact mx_vret (M' := M_4) hx hb hr hlocks hP hS ⟨rfl, ⟨_, by rw [hex]; exact (⟨np, bg, g, hT, hB⟩ : md_R G o A M_4 1 z S)⟩, hk⟩ dX4_pieces_91 (Nat.le_of_ble_eq_true rfl) (Nat.le_of_ble_eq_true rfl)
  · have kb_6 : isF k := bI_t c_1
    have h_k := isF_lt kb_6
    have e_k := fIx_of kb_6.1
    rw [e_k] at hl
    have e_4 : 4 * nI (fIx k) = nI (4 * (fIx k)) := pk_mul 4 (fIx k)
    have e_41 : 4 * nI (fIx k) + 1 = nI (4 * (fIx k) + 1) := by rw [e_4]; exact nI_add _ 1
    have e_42 : 4 * nI (fIx k) + 2 = nI (4 * (fIx k) + 2) := by rw [e_4]; exact nI_add _ 2
    have e_43 : 4 * nI (fIx k) + 3 = nI (4 * (fIx k) + 3) := by rw [e_4]; exact nI_add _ 3
    refine lv_aload_n hx hb dX4_pieces_7 rfl (lv_at hl 0 rfl) ?_
    refine lv_iload_n hx hb dX4_pieces_8 rfl (lv_at hl 2 rfl) ?_
    refine mw_callV (C := RX4) (As := [.int u]) (rest := []) hx hb hml hown hl (kX4_isBoxOrNone l htr G H.size M o A th z S (⟨np, bg, g, hT, hB⟩ : md_R G o A M th z S) u) (g_B (n := 1) htb wd632 wd3 wd629 (by decide +kernel) ⟨Nat.le_of_ble_eq_true rfl, Nat.le_of_ble_eq_true rfl⟩) (htb _ wd631) (htb _ ws28) hE hP hS hT.1 rfl rfl rfl (Nat.le_of_ble_eq_true rfl) dX4_pieces_9 ⟨Nat.le_of_ble_eq_true rfl, Nat.le_of_ble_eq_true rfl⟩ (fun v9 M9 H locs hpo hP hz hS => ?_) (fun x9 E9 cell9 H9 locs9 hE9 => hE9.elim)
    obtain ⟨rfl, rfl⟩ := hpo
    refine W.eq (g2 := F0 m 12 ls [.int (bI (isO S u))]) rfl ?_
    refine lv_if_eq (tgt := 45) hx hb dX4_pieces_12 (by decide) (fun c_7 => ?_) (fun c_7 => ?_)
    · have kb_8 : ¬ (isO S u) := bI_f c_7
      refine lv_iconst (v := 0) hx hb dX4_pieces_45 (by decide) ?_
      refine lv_istore (lv' := [(6, .int 0), (0, .ref o), (1, .int (nI (fIx k))), (2, .int u), (3, .int d), (4, .int lo), (5, .int r)]) hx hb dX4_pieces_46 hl (by decide) rfl (fun ls hl => ?_)
      refine lv_aload_n hx hb dX4_pieces_48 rfl (lv_at hl 1 rfl) ?_
      refine lv_iload hx hb dX4_pieces_49 (lv_at hl 0 rfl) ?_
      refine lv_if_ne (tgt := 58) hx hb dX4_pieces_51 (by decide) (fun c_9 => absurd (by decide) c_9) (fun c_9 => ?_)
      refine lv_iconst (v := 1) hx hb dX4_pieces_54 (by decide) ?_
      refine lv_goto (tgt := 81) hx hb dX4_pieces_55 (by decide) ?_
      refine mw_put (D := gD G) (ci := 4) (v := .int 1) (ty := .int) (C := RX4) (T := TX4) (N := 21) hx hb htb inX4 tyX4 tyX4_ok nmX4 hown hK hP hS hT.1 hT.2.2.2.1 rfl 0 (by decide) (htb _ wd524) (fun _ h9 => h9) rfl (by decide +kernel) rfl rfl (Nat.le_of_ble_eq_true rfl) dX4_pieces_81 (fun H locs hP hS => ?_)
      obtain ⟨M_10, hM_10⟩ : ∃ z9 : mw_M, z9 = mw_up M o (.inr (4, [.int 1, .ref (A 0), .int (sSp S), .int (sSh S), .int (nI (sN S)), .ref (A 1), .ref (A 2), .ref (A 3), .ref (A 4), .ref (A 5), .ref (A 6), .ref (A 7), .int (nI np), .ref (A 8), .ref (A 9), .ref (A 10), .ref (A 11), .ref (A 12), .ref (A 13), .ref (A 14), .int z])) := ⟨_, rfl⟩
      have hP : mw_P (gD G) gx_cl M_10 H := by rw [hM_10]; exact hP
      have hT : md_at G o A M_10 1 (sSp S) (sSh S) (nI (sN S)) (nI np) z g := md_at.fld hT hM_10
      have hk : md_keeps o A M M_10 := md_keeps.fld hk hM_10
      refine lv_aload_n hx hb dX4_pieces_84 rfl (lv_at hl 1 rfl) ?_
      refine mw_get (D := gD G) (ci := 4) (v := .int 1) (C := RX4) (T := TX4) (N := 21) hx hb htb inX4 hown hK hP hT.1 rfl 0 (by decide) (htb _ wd524) (fun _ h9 => h9) rfl dX4_pieces_85 ?_
      refine lv_if_le (tgt := 92) hx hb dX4_pieces_88 (by decide) (fun c_11 => absurd c_11 (by decide)) (fun c_11 => ?_)
      have hex : ex_pieces S k u d lo r = 1 := by rw [ex_pieces, if_pos (fun z9 => kb_8 z9.2.1)]
      exact mx_vret (M' := M_10) hx hb hr hlocks hP hS ⟨rfl, ⟨_, by rw [hex]; exact (⟨np, bg, g, hT, hB⟩ : md_R G o A M_10 1 z S)⟩, hk⟩ dX4_pieces_91 (Nat.le_of_ble_eq_true rfl) (Nat.le_of_ble_eq_true rfl)
    · have kb_12 : isO S u := bI_t c_7
      have ho_u := isO_on kb_12 hle
      refine lv_aload_n hx hb dX4_pieces_15 rfl (lv_at hl 0 rfl) ?_
      refine lv_iload_n hx hb dX4_pieces_16 rfl (lv_at hl 3 rfl) ?_
      refine mw_callV (C := RX4) (As := [.int d]) (rest := []) hx hb hml hown hl (kX4_isBoxOrNone l htr G H.size M o A th z S (⟨np, bg, g, hT, hB⟩ : md_R G o A M th z S) d) (g_B (n := 1) htb wd632 wd3 wd629 (by decide +kernel) ⟨Nat.le_of_ble_eq_true rfl, Nat.le_of_ble_eq_true rfl⟩) (htb _ wd631) (htb _ ws28) hE hP hS hT.1 rfl rfl rfl (Nat.le_of_ble_eq_true rfl) dX4_pieces_17 ⟨Nat.le_of_ble_eq_true rfl, Nat.le_of_ble_eq_true rfl⟩ (fun v9 M9 H locs hpo hP hz hS => ?_) (fun x9 E9 cell9 H9 locs9 hE9 => hE9.elim)
      obtain ⟨rfl, rfl⟩ := hpo
      refine W.eq (g2 := F0 m 20 ls [.int (bI (isO S d))]) rfl ?_
      refine lv_if_eq (tgt := 45) hx hb dX4_pieces_20 (by decide) (fun c_13 => ?_) (fun c_13 => ?_)
      · have kb_14 : ¬ (isO S d) := bI_f c_13
        refine lv_iconst (v := 0) hx hb dX4_pieces_45 (by decide) ?_
        refine lv_istore (lv' := [(6, .int 0), (0, .ref o), (1, .int (nI (fIx k))), (2, .int u), (3, .int d), (4, .int lo), (5, .int r)]) hx hb dX4_pieces_46 hl (by decide) rfl (fun ls hl => ?_)
        refine lv_aload_n hx hb dX4_pieces_48 rfl (lv_at hl 1 rfl) ?_
        refine lv_iload hx hb dX4_pieces_49 (lv_at hl 0 rfl) ?_
        refine lv_if_ne (tgt := 58) hx hb dX4_pieces_51 (by decide) (fun c_15 => absurd (by decide) c_15) (fun c_15 => ?_)
        refine lv_iconst (v := 1) hx hb dX4_pieces_54 (by decide) ?_
        refine lv_goto (tgt := 81) hx hb dX4_pieces_55 (by decide) ?_
        refine mw_put (D := gD G) (ci := 4) (v := .int 1) (ty := .int) (C := RX4) (T := TX4) (N := 21) hx hb htb inX4 tyX4 tyX4_ok nmX4 hown hK hP hS hT.1 hT.2.2.2.1 rfl 0 (by decide) (htb _ wd524) (fun _ h9 => h9) rfl (by decide +kernel) rfl rfl (Nat.le_of_ble_eq_true rfl) dX4_pieces_81 (fun H locs hP hS => ?_)
        obtain ⟨M_16, hM_16⟩ : ∃ z9 : mw_M, z9 = mw_up M o (.inr (4, [.int 1, .ref (A 0), .int (sSp S), .int (sSh S), .int (nI (sN S)), .ref (A 1), .ref (A 2), .ref (A 3), .ref (A 4), .ref (A 5), .ref (A 6), .ref (A 7), .int (nI np), .ref (A 8), .ref (A 9), .ref (A 10), .ref (A 11), .ref (A 12), .ref (A 13), .ref (A 14), .int z])) := ⟨_, rfl⟩
        have hP : mw_P (gD G) gx_cl M_16 H := by rw [hM_16]; exact hP
        have hT : md_at G o A M_16 1 (sSp S) (sSh S) (nI (sN S)) (nI np) z g := md_at.fld hT hM_16
        have hk : md_keeps o A M M_16 := md_keeps.fld hk hM_16
        refine lv_aload_n hx hb dX4_pieces_84 rfl (lv_at hl 1 rfl) ?_
        refine mw_get (D := gD G) (ci := 4) (v := .int 1) (C := RX4) (T := TX4) (N := 21) hx hb htb inX4 hown hK hP hT.1 rfl 0 (by decide) (htb _ wd524) (fun _ h9 => h9) rfl dX4_pieces_85 ?_
        refine lv_if_le (tgt := 92) hx hb dX4_pieces_88 (by decide) (fun c_17 => absurd c_17 (by decide)) (fun c_17 => ?_)
        have hex : ex_pieces S k u d lo r = 1 := by rw [ex_pieces, if_pos (fun z9 => kb_14 z9.2.2.1)]
        exact mx_vret (M' := M_16) hx hb hr hlocks hP hS ⟨rfl, ⟨_, by rw [hex]; exact (⟨np, bg, g, hT, hB⟩ : md_R G o A M_16 1 z S)⟩, hk⟩ dX4_pieces_91 (Nat.le_of_ble_eq_true rfl) (Nat.le_of_ble_eq_true rfl)
      · have kb_18 : isO S d := bI_t c_13
        have ho_d := isO_on kb_18 hle
        refine lv_aload_n hx hb dX4_pieces_23 rfl (lv_at hl 0 rfl) ?_
        refine lv_iload hx hb dX4_pieces_24 (lv_at hl 4 rfl) ?_
        refine mw_callV (C := RX4) (As := [.int lo]) (rest := []) hx hb hml hown hl (kX4_isBoxOrNone l htr G H.size M o A th z S (⟨np, bg, g, hT, hB⟩ : md_R G o A M th z S) lo) (g_B (n := 1) htb wd632 wd3 wd629 (by decide +kernel) ⟨Nat.le_of_ble_eq_true rfl, Nat.le_of_ble_eq_true rfl⟩) (htb _ wd631) (htb _ ws28) hE hP hS hT.1 rfl rfl rfl (Nat.le_of_ble_eq_true rfl) dX4_pieces_26 ⟨Nat.le_of_ble_eq_true rfl, Nat.le_of_ble_eq_true rfl⟩ (fun v9 M9 H locs hpo hP hz hS => ?_) (fun x9 E9 cell9 H9 locs9 hE9 => hE9.elim)
        obtain ⟨rfl, rfl⟩ := hpo
        refine W.eq (g2 := F0 m 29 ls [.int (bI (isO S lo))]) rfl ?_
        refine lv_if_eq (tgt := 45) hx hb dX4_pieces_29 (by decide) (fun c_19 => ?_) (fun c_19 => ?_)
        · have kb_20 : ¬ (isO S lo) := bI_f c_19
          refine lv_iconst (v := 0) hx hb dX4_pieces_45 (by decide) ?_
          refine lv_istore (lv' := [(6, .int 0), (0, .ref o), (1, .int (nI (fIx k))), (2, .int u), (3, .int d), (4, .int lo), (5, .int r)]) hx hb dX4_pieces_46 hl (by decide) rfl (fun ls hl => ?_)
          refine lv_aload_n hx hb dX4_pieces_48 rfl (lv_at hl 1 rfl) ?_
          refine lv_iload hx hb dX4_pieces_49 (lv_at hl 0 rfl) ?_
          refine lv_if_ne (tgt := 58) hx hb dX4_pieces_51 (by decide) (fun c_21 => absurd (by decide) c_21) (fun c_21 => ?_)
          refine lv_iconst (v := 1) hx hb dX4_pieces_54 (by decide) ?_
          refine lv_goto (tgt := 81) hx hb dX4_pieces_55 (by decide) ?_
          refine mw_put (D := gD G) (ci := 4) (v := .int 1) (ty := .int) (C := RX4) (T := TX4) (N := 21) hx hb htb inX4 tyX4 tyX4_ok nmX4 hown hK hP hS hT.1 hT.2.2.2.1 rfl 0 (by decide) (htb _ wd524) (fun _ h9 => h9) rfl (by decide +kernel) rfl rfl (Nat.le_of_ble_eq_true rfl) dX4_pieces_81 (fun H locs hP hS => ?_)
          obtain ⟨M_22, hM_22⟩ : ∃ z9 : mw_M, z9 = mw_up M o (.inr (4, [.int 1, .ref (A 0), .int (sSp S), .int (sSh S), .int (nI (sN S)), .ref (A 1), .ref (A 2), .ref (A 3), .ref (A 4), .ref (A 5), .ref (A 6), .ref (A 7), .int (nI np), .ref (A 8), .ref (A 9), .ref (A 10), .ref (A 11), .ref (A 12), .ref (A 13), .ref (A 14), .int z])) := ⟨_, rfl⟩
          have hP : mw_P (gD G) gx_cl M_22 H := by rw [hM_22]; exact hP
          have hT : md_at G o A M_22 1 (sSp S) (sSh S) (nI (sN S)) (nI np) z g := md_at.fld hT hM_22
          have hk : md_keeps o A M M_22 := md_keeps.fld hk hM_22
          refine lv_aload_n hx hb dX4_pieces_84 rfl (lv_at hl 1 rfl) ?_
          refine mw_get (D := gD G) (ci := 4) (v := .int 1) (C := RX4) (T := TX4) (N := 21) hx hb htb inX4 hown hK hP hT.1 rfl 0 (by decide) (htb _ wd524) (fun _ h9 => h9) rfl dX4_pieces_85 ?_
          refine lv_if_le (tgt := 92) hx hb dX4_pieces_88 (by decide) (fun c_23 => absurd c_23 (by decide)) (fun c_23 => ?_)
          have hex : ex_pieces S k u d lo r = 1 := by rw [ex_pieces, if_pos (fun z9 => kb_20 z9.2.2.2.1)]
          exact mx_vret (M' := M_22) hx hb hr hlocks hP hS ⟨rfl, ⟨_, by rw [hex]; exact (⟨np, bg, g, hT, hB⟩ : md_R G o A M_22 1 z S)⟩, hk⟩ dX4_pieces_91 (Nat.le_of_ble_eq_true rfl) (Nat.le_of_ble_eq_true rfl)
        · have kb_24 : isO S lo := bI_t c_19
          have ho_lo := isO_on kb_24 hle
          refine lv_aload_n hx hb dX4_pieces_32 rfl (lv_at hl 0 rfl) ?_
          refine lv_iload hx hb dX4_pieces_33 (lv_at hl 5 rfl) ?_
          refine mw_callV (C := RX4) (As := [.int r]) (rest := []) hx hb hml hown hl (kX4_isBox l htr G H.size M o A th z S (⟨np, bg, g, hT, hB⟩ : md_R G o A M th z S) r) (g_B (n := 1) htb wd624 wd3 wd621 (by decide +kernel) ⟨Nat.le_of_ble_eq_true rfl, Nat.le_of_ble_eq_true rfl⟩) (htb _ wd623) (htb _ ws27) hE hP hS hT.1 rfl rfl rfl (Nat.le_of_ble_eq_true rfl) dX4_pieces_35 ⟨Nat.le_of_ble_eq_true rfl, Nat.le_of_ble_eq_true rfl⟩ (fun v9 M9 H locs hpo hP hz hS => ?_) (fun x9 E9 cell9 H9 locs9 hE9 => hE9.elim)
          obtain ⟨rfl, rfl⟩ := hpo
          refine W.eq (g2 := F0 m 38 ls [.int (bI (isB S r))]) rfl ?_
          refine lv_if_eq (tgt := 45) hx hb dX4_pieces_38 (by decide) (fun c_25 => ?_) (fun c_25 => ?_)
          · have kb_26 : ¬ (isB S r) := bI_f c_25
            refine lv_iconst (v := 0) hx hb dX4_pieces_45 (by decide) ?_
            refine lv_istore (lv' := [(6, .int 0), (0, .ref o), (1, .int (nI (fIx k))), (2, .int u), (3, .int d), (4, .int lo), (5, .int r)]) hx hb dX4_pieces_46 hl (by decide) rfl (fun ls hl => ?_)
            refine lv_aload_n hx hb dX4_pieces_48 rfl (lv_at hl 1 rfl) ?_
            refine lv_iload hx hb dX4_pieces_49 (lv_at hl 0 rfl) ?_
            refine lv_if_ne (tgt := 58) hx hb dX4_pieces_51 (by decide) (fun c_27 => absurd (by decide) c_27) (fun c_27 => ?_)
            refine lv_iconst (v := 1) hx hb dX4_pieces_54 (by decide) ?_
            refine lv_goto (tgt := 81) hx hb dX4_pieces_55 (by decide) ?_
            refine mw_put (D := gD G) (ci := 4) (v := .int 1) (ty := .int) (C := RX4) (T := TX4) (N := 21) hx hb htb inX4 tyX4 tyX4_ok nmX4 hown hK hP hS hT.1 hT.2.2.2.1 rfl 0 (by decide) (htb _ wd524) (fun _ h9 => h9) rfl (by decide +kernel) rfl rfl (Nat.le_of_ble_eq_true rfl) dX4_pieces_81 (fun H locs hP hS => ?_)
            obtain ⟨M_28, hM_28⟩ : ∃ z9 : mw_M, z9 = mw_up M o (.inr (4, [.int 1, .ref (A 0), .int (sSp S), .int (sSh S), .int (nI (sN S)), .ref (A 1), .ref (A 2), .ref (A 3), .ref (A 4), .ref (A 5), .ref (A 6), .ref (A 7), .int (nI np), .ref (A 8), .ref (A 9), .ref (A 10), .ref (A 11), .ref (A 12), .ref (A 13), .ref (A 14), .int z])) := ⟨_, rfl⟩
            have hP : mw_P (gD G) gx_cl M_28 H := by rw [hM_28]; exact hP
            have hT : md_at G o A M_28 1 (sSp S) (sSh S) (nI (sN S)) (nI np) z g := md_at.fld hT hM_28
            have hk : md_keeps o A M M_28 := md_keeps.fld hk hM_28
            refine lv_aload_n hx hb dX4_pieces_84 rfl (lv_at hl 1 rfl) ?_
            refine mw_get (D := gD G) (ci := 4) (v := .int 1) (C := RX4) (T := TX4) (N := 21) hx hb htb inX4 hown hK hP hT.1 rfl 0 (by decide) (htb _ wd524) (fun _ h9 => h9) rfl dX4_pieces_85 ?_
            refine lv_if_le (tgt := 92) hx hb dX4_pieces_88 (by decide) (fun c_29 => absurd c_29 (by decide)) (fun c_29 => ?_)
            have hex : ex_pieces S k u d lo r = 1 := by rw [ex_pieces, if_pos (fun z9 => kb_26 z9.2.2.2.2)]
            exact mx_vret (M' := M_28) hx hb hr hlocks hP hS ⟨rfl, ⟨_, by rw [hex]; exact (⟨np, bg, g, hT, hB⟩ : md_R G o A M_28 1 z S)⟩, hk⟩ dX4_pieces_91 (Nat.le_of_ble_eq_true rfl) (Nat.le_of_ble_eq_true rfl)
          · have kb_30 : isB S r := bI_t c_25
            have h_r := isB_lt kb_30 hle
            have e_r := fIx_of kb_30.1
            rw [e_r] at hl
            refine lv_iconst (v := 1) hx hb dX4_pieces_41 (by decide) ?_
            refine lv_goto (tgt := 46) hx hb dX4_pieces_42 (by decide) ?_
            refine lv_istore (lv' := [(6, .int 1), (0, .ref o), (1, .int (nI (fIx k))), (2, .int u), (3, .int d), (4, .int lo), (5, .int (nI (fIx r)))]) hx hb dX4_pieces_46 hl (by decide) rfl (fun ls hl => ?_)
            refine lv_aload_n hx hb dX4_pieces_48 rfl (lv_at hl 1 rfl) ?_
            refine lv_iload hx hb dX4_pieces_49 (lv_at hl 0 rfl) ?_
            refine lv_if_ne (tgt := 58) hx hb dX4_pieces_51 (by decide) (fun c_31 => ?_) (fun c_31 => absurd c_31 (by decide))
            refine lv_aload_n hx hb dX4_pieces_58 rfl (lv_at hl 1 rfl) ?_
            refine mw_get (D := gD G) (ci := 4) (v := .ref (A 2)) (C := RX4) (T := TX4) (N := 21) hx hb htb inX4 hown hK hP hT.1 rfl 6 (by decide) (htb _ wd530) (fun _ h9 => h9) rfl dX4_pieces_59 ?_
            refine lv_iload hx hb dX4_pieces_62 (lv_at hl 6 rfl) ?_
            refine mw_iald hx hb hK hP 0 (show M (A 2) = some (.inl (gI G, 120, .inl (g 2))) from hT.2.1 2 (by decide)) rfl (by exact vp_in_nI (show (fIx r) < 120 by have := hle; omega) (by decide)) dX4_pieces_64 ?_
            refine W.eq (g2 := F0 m 65 ls [.int (bH S (fIx r)), .ref o]) (by rw [nI_clamp (show (fIx r) < 2 ^ 31 by have := hle; omega), hB.H h_r]) ?_
            refine lv_aload_n hx hb dX4_pieces_65 rfl (lv_at hl 1 rfl) ?_
            refine mw_get (D := gD G) (ci := 4) (v := .ref (A 3)) (C := RX4) (T := TX4) (N := 21) hx hb htb inX4 hown hK hP hT.1 rfl 7 (by decide) (htb _ wd531) (fun _ h9 => h9) rfl dX4_pieces_66 ?_
            refine lv_iload hx hb dX4_pieces_69 (lv_at hl 6 rfl) ?_
            refine mw_iald hx hb hK hP 0 (show M (A 3) = some (.inl (gI G, 120, .inl (g 3))) from hT.2.1 3 (by decide)) rfl (by exact vp_in_nI (show (fIx r) < 120 by have := hle; omega) (by decide)) dX4_pieces_71 ?_
            refine W.eq (g2 := F0 m 72 ls [.int (bD S (fIx r)), .int (bH S (fIx r)), .ref o]) (by rw [nI_clamp (show (fIx r) < 2 ^ 31 by have := hle; omega), hB.D h_r]) ?_
            refine lv_iadd hx hb dX4_pieces_72 ?_
            refine lv_if_gt (tgt := 80) hx hb dX4_pieces_73 (by decide) (fun c_32 => ?_) (fun c_32 => ?_)
            · have e_x : fEx S r = bH S (fIx r) + bD S (fIx r) := (congrArg (fEx S) e_r).trans (fEx_in h_r hle)
              have kb_33 : ¬ (fEx S r ≤ 0) := by rw [e_x]; exact Int32.not_le.mpr c_32
              refine lv_iconst (v := 0) hx hb dX4_pieces_80 (by decide) ?_
              refine mw_put (D := gD G) (ci := 4) (v := .int 0) (ty := .int) (C := RX4) (T := TX4) (N := 21) hx hb htb inX4 tyX4 tyX4_ok nmX4 hown hK hP hS hT.1 hT.2.2.2.1 rfl 0 (by decide) (htb _ wd524) (fun _ h9 => h9) rfl (by decide +kernel) rfl rfl (Nat.le_of_ble_eq_true rfl) dX4_pieces_81 (fun H locs hP hS => ?_)
              obtain ⟨M_34, hM_34⟩ : ∃ z9 : mw_M, z9 = mw_up M o (.inr (4, [.int 0, .ref (A 0), .int (sSp S), .int (sSh S), .int (nI (sN S)), .ref (A 1), .ref (A 2), .ref (A 3), .ref (A 4), .ref (A 5), .ref (A 6), .ref (A 7), .int (nI np), .ref (A 8), .ref (A 9), .ref (A 10), .ref (A 11), .ref (A 12), .ref (A 13), .ref (A 14), .int z])) := ⟨_, rfl⟩
              have hP : mw_P (gD G) gx_cl M_34 H := by rw [hM_34]; exact hP
              have hT : md_at G o A M_34 0 (sSp S) (sSh S) (nI (sN S)) (nI np) z g := md_at.fld hT hM_34
              have hk : md_keeps o A M M_34 := md_keeps.fld hk hM_34
              refine lv_aload_n hx hb dX4_pieces_84 rfl (lv_at hl 1 rfl) ?_
              refine mw_get (D := gD G) (ci := 4) (v := .int 0) (C := RX4) (T := TX4) (N := 21) hx hb htb inX4 hown hK hP hT.1 rfl 0 (by decide) (htb _ wd524) (fun _ h9 => h9) rfl dX4_pieces_85 ?_
              refine lv_if_le (tgt := 92) hx hb dX4_pieces_88 (by decide) (fun c_35 => ?_) (fun c_35 => absurd (by decide) c_35)
              refine lv_aload_n hx hb dX4_pieces_92 rfl (lv_at hl 1 rfl) ?_
              refine mw_get (D := gD G) (ci := 4) (v := .ref (A 13)) (C := RX4) (T := TX4) (N := 21) hx hb htb inX4 hown hK hP hT.1 rfl 18 (by decide) (htb _ wd542) (fun _ h9 => h9) rfl dX4_pieces_93 ?_
              refine lv_iload_n hx hb dX4_pieces_96 rfl (lv_at hl 2 rfl) ?_
              refine lv_iconst (v := 1) hx hb dX4_pieces_97 (by decide) ?_
              refine mw_zast hx hb hK hP hS 4 (show M_34 (A 13) = some (.inl (gZ G, 8, .inl (g 13))) from hT.2.1 13 (by decide)) (hT.2.2.2.2 13 (by decide)) rfl (by exact vp_in_nI (show (fIx k) < 8 by omega) (by decide)) dX4_pieces_98 (fun H locs hP hS => ?_)
              rw [nI_clamp (show (fIx k) < 2 ^ 31 by omega)] at hP
              rw [show vp_nar .boolean 1 = 1 from rfl] at hP
              obtain ⟨M_36, hM_36⟩ : ∃ z9 : mw_M, z9 = mw_up M_34 (A 13) (.inl (gZ G, 8, .inl (upd (g 13) (fIx k) 1))) := ⟨_, rfl⟩
              have hP : mw_P (gD G) gx_cl M_36 H := by rw [hM_36]; exact hP
              obtain ⟨g_37, hg_37⟩ : ∃ z9, z9 = ug g 13 (fIx k) 1 := ⟨_, rfl⟩
              have hT : md_at G o A M_36 0 (sSp S) (sSh S) (nI (sN S)) (nI np) z g_37 := by rw [hg_37]; exact md_at.put hT (by decide) rfl rfl hM_36
              have hk : md_keeps o A M M_36 := md_keeps.arr (j := 13) hk (by decide) hM_36
              refine lv_aload_n hx hb dX4_pieces_99 rfl (lv_at hl 1 rfl) ?_
              refine mw_get (D := gD G) (ci := 4) (v := .ref (A 14)) (C := RX4) (T := TX4) (N := 21) hx hb htb inX4 hown hK hP hT.1 rfl 19 (by decide) (htb _ wd543) (fun _ h9 => h9) rfl dX4_pieces_100 ?_
              refine lv_iconst (v := 4) hx hb dX4_pieces_103 (by decide) ?_
              refine lv_iload_n hx hb dX4_pieces_104 rfl (lv_at hl 2 rfl) ?_
              refine lv_imul hx hb dX4_pieces_105 ?_
              refine lv_iload_n hx hb dX4_pieces_106 rfl (lv_at hl 3 rfl) ?_
              refine mw_iast hx hb hK hP hS 0 (show M_36 (A 14) = some (.inl (gI G, 32, .inl (g_37 14))) from hT.2.1 14 (by decide)) (hT.2.2.2.2 14 (by decide)) rfl (by rw [e_4]; exact vp_in_nI (show (4 * (fIx k)) < 32 by omega) (by decide)) dX4_pieces_107 (fun H locs hP hS => ?_)
              rw [e_4, nI_clamp (show (4 * (fIx k)) < 2 ^ 31 by omega)] at hP
              obtain ⟨M_38, hM_38⟩ : ∃ z9 : mw_M, z9 = mw_up M_36 (A 14) (.inl (gI G, 32, .inl (upd (g_37 14) (4 * (fIx k)) u))) := ⟨_, rfl⟩
              have hP : mw_P (gD G) gx_cl M_38 H := by rw [hM_38]; exact hP
              obtain ⟨g_39, hg_39⟩ : ∃ z9, z9 = ug g_37 14 (4 * (fIx k)) u := ⟨_, rfl⟩
              have hT : md_at G o A M_38 0 (sSp S) (sSh S) (nI (sN S)) (nI np) z g_39 := by rw [hg_39]; exact md_at.put hT (by decide) rfl rfl hM_38
              have hk : md_keeps o A M M_38 := md_keeps.arr (j := 14) hk (by decide) hM_38
              refine lv_aload_n hx hb dX4_pieces_108 rfl (lv_at hl 1 rfl) ?_
              refine mw_get (D := gD G) (ci := 4) (v := .ref (A 14)) (C := RX4) (T := TX4) (N := 21) hx hb htb inX4 hown hK hP hT.1 rfl 19 (by decide) (htb _ wd543) (fun _ h9 => h9) rfl dX4_pieces_109 ?_
              refine lv_iconst (v := 4) hx hb dX4_pieces_112 (by decide) ?_
              refine lv_iload_n hx hb dX4_pieces_113 rfl (lv_at hl 2 rfl) ?_
              refine lv_imul hx hb dX4_pieces_114 ?_
              refine lv_iconst (v := 1) hx hb dX4_pieces_115 (by decide) ?_
              refine lv_iadd hx hb dX4_pieces_116 ?_
              refine lv_iload_n hx hb dX4_pieces_117 rfl (lv_at hl 4 rfl) ?_
              refine mw_iast hx hb hK hP hS 0 (show M_38 (A 14) = some (.inl (gI G, 32, .inl (g_39 14))) from hT.2.1 14 (by decide)) (hT.2.2.2.2 14 (by decide)) rfl (by rw [e_41]; exact vp_in_nI (show (4 * (fIx k) + 1) < 32 by omega) (by decide)) dX4_pieces_118 (fun H locs hP hS => ?_)
              rw [e_41, nI_clamp (show (4 * (fIx k) + 1) < 2 ^ 31 by omega)] at hP
              obtain ⟨M_40, hM_40⟩ : ∃ z9 : mw_M, z9 = mw_up M_38 (A 14) (.inl (gI G, 32, .inl (upd (g_39 14) (4 * (fIx k) + 1) d))) := ⟨_, rfl⟩
              have hP : mw_P (gD G) gx_cl M_40 H := by rw [hM_40]; exact hP
              obtain ⟨g_41, hg_41⟩ : ∃ z9, z9 = ug g_39 14 (4 * (fIx k) + 1) d := ⟨_, rfl⟩
              have hT : md_at G o A M_40 0 (sSp S) (sSh S) (nI (sN S)) (nI np) z g_41 := by rw [hg_41]; exact md_at.put hT (by decide) rfl rfl hM_40
              have hk : md_keeps o A M M_40 := md_keeps.arr (j := 14) hk (by decide) hM_40
              refine lv_aload_n hx hb dX4_pieces_119 rfl (lv_at hl 1 rfl) ?_
              refine mw_get (D := gD G) (ci := 4) (v := .ref (A 14)) (C := RX4) (T := TX4) (N := 21) hx hb htb inX4 hown hK hP hT.1 rfl 19 (by decide) (htb _ wd543) (fun _ h9 => h9) rfl dX4_pieces_120 ?_
              refine lv_iconst (v := 4) hx hb dX4_pieces_123 (by decide) ?_
              refine lv_iload_n hx hb dX4_pieces_124 rfl (lv_at hl 2 rfl) ?_
              refine lv_imul hx hb dX4_pieces_125 ?_
              refine lv_iconst (v := 2) hx hb dX4_pieces_126 (by decide) ?_
              refine lv_iadd hx hb dX4_pieces_127 ?_
              refine lv_iload hx hb dX4_pieces_128 (lv_at hl 5 rfl) ?_
              refine mw_iast hx hb hK hP hS 0 (show M_40 (A 14) = some (.inl (gI G, 32, .inl (g_41 14))) from hT.2.1 14 (by decide)) (hT.2.2.2.2 14 (by decide)) rfl (by rw [e_42]; exact vp_in_nI (show (4 * (fIx k) + 2) < 32 by omega) (by decide)) dX4_pieces_130 (fun H locs hP hS => ?_)
              rw [e_42, nI_clamp (show (4 * (fIx k) + 2) < 2 ^ 31 by omega)] at hP
              obtain ⟨M_42, hM_42⟩ : ∃ z9 : mw_M, z9 = mw_up M_40 (A 14) (.inl (gI G, 32, .inl (upd (g_41 14) (4 * (fIx k) + 2) lo))) := ⟨_, rfl⟩
              have hP : mw_P (gD G) gx_cl M_42 H := by rw [hM_42]; exact hP
              obtain ⟨g_43, hg_43⟩ : ∃ z9, z9 = ug g_41 14 (4 * (fIx k) + 2) lo := ⟨_, rfl⟩
              have hT : md_at G o A M_42 0 (sSp S) (sSh S) (nI (sN S)) (nI np) z g_43 := by rw [hg_43]; exact md_at.put hT (by decide) rfl rfl hM_42
              have hk : md_keeps o A M M_42 := md_keeps.arr (j := 14) hk (by decide) hM_42
              refine lv_aload_n hx hb dX4_pieces_131 rfl (lv_at hl 1 rfl) ?_
              refine mw_get (D := gD G) (ci := 4) (v := .ref (A 14)) (C := RX4) (T := TX4) (N := 21) hx hb htb inX4 hown hK hP hT.1 rfl 19 (by decide) (htb _ wd543) (fun _ h9 => h9) rfl dX4_pieces_132 ?_
              refine lv_iconst (v := 4) hx hb dX4_pieces_135 (by decide) ?_
              refine lv_iload_n hx hb dX4_pieces_136 rfl (lv_at hl 2 rfl) ?_
              refine lv_imul hx hb dX4_pieces_137 ?_
              refine lv_iconst (v := 3) hx hb dX4_pieces_138 (by decide) ?_
              refine lv_iadd hx hb dX4_pieces_139 ?_
              refine lv_iload hx hb dX4_pieces_140 (lv_at hl 6 rfl) ?_
              refine mw_iast hx hb hK hP hS 0 (show M_42 (A 14) = some (.inl (gI G, 32, .inl (g_43 14))) from hT.2.1 14 (by decide)) (hT.2.2.2.2 14 (by decide)) rfl (by rw [e_43]; exact vp_in_nI (show (4 * (fIx k) + 3) < 32 by omega) (by decide)) dX4_pieces_142 (fun H locs hP hS => ?_)
              rw [e_43, nI_clamp (show (4 * (fIx k) + 3) < 2 ^ 31 by omega)] at hP
              obtain ⟨M_44, hM_44⟩ : ∃ z9 : mw_M, z9 = mw_up M_42 (A 14) (.inl (gI G, 32, .inl (upd (g_43 14) (4 * (fIx k) + 3) (nI (fIx r))))) := ⟨_, rfl⟩
              have hP : mw_P (gD G) gx_cl M_44 H := by rw [hM_44]; exact hP
              obtain ⟨g_45, hg_45⟩ : ∃ z9, z9 = ug g_43 14 (4 * (fIx k) + 3) (nI (fIx r)) := ⟨_, rfl⟩
              have hT : md_at G o A M_44 0 (sSp S) (sSh S) (nI (sN S)) (nI np) z g_45 := by rw [hg_45]; exact md_at.put hT (by decide) rfl rfl hM_44
              have hk : md_keeps o A M M_44 := md_keeps.arr (j := 14) hk (by decide) hM_44
              have hex : ex_pieces S k u d lo r = 0 := by rw [ex_pieces, if_neg (fun z9 => z9 ⟨kb_6, kb_12, kb_18, kb_24, kb_30⟩), if_neg kb_33]
              have hB9 := md_ab.pieces (u := u) (d := d) (lo := lo) (r := nI (fIx r)) hB h_k (fs_in.ne ⟨fIx r, h_r, rfl⟩ hle)
              rw [← hg_37, ← hg_39, ← hg_41, ← hg_43, ← hg_45] at hB9
              exact mx_vret (M' := M_44) hx hb hr hlocks hP hS ⟨rfl, ⟨_, by rw [hex, if_pos rfl]; exact ⟨np, bg, g_45, hT, hB9⟩⟩, hk⟩ dX4_pieces_143 (Nat.le_of_ble_eq_true rfl) (Nat.le_of_ble_eq_true rfl)
            · have e_x : fEx S r = bH S (fIx r) + bD S (fIx r) := (congrArg (fEx S) e_r).trans (fEx_in h_r hle)
              have kb_46 : (fEx S r ≤ 0) := by rw [e_x]; exact Int32.not_lt.mp c_32
              refine lv_iconst (v := 2) hx hb dX4_pieces_76 (by decide) ?_
              refine lv_goto (tgt := 81) hx hb dX4_pieces_77 (by decide) ?_
              refine mw_put (D := gD G) (ci := 4) (v := .int 2) (ty := .int) (C := RX4) (T := TX4) (N := 21) hx hb htb inX4 tyX4 tyX4_ok nmX4 hown hK hP hS hT.1 hT.2.2.2.1 rfl 0 (by decide) (htb _ wd524) (fun _ h9 => h9) rfl (by decide +kernel) rfl rfl (Nat.le_of_ble_eq_true rfl) dX4_pieces_81 (fun H locs hP hS => ?_)
              obtain ⟨M_47, hM_47⟩ : ∃ z9 : mw_M, z9 = mw_up M o (.inr (4, [.int 2, .ref (A 0), .int (sSp S), .int (sSh S), .int (nI (sN S)), .ref (A 1), .ref (A 2), .ref (A 3), .ref (A 4), .ref (A 5), .ref (A 6), .ref (A 7), .int (nI np), .ref (A 8), .ref (A 9), .ref (A 10), .ref (A 11), .ref (A 12), .ref (A 13), .ref (A 14), .int z])) := ⟨_, rfl⟩
              have hP : mw_P (gD G) gx_cl M_47 H := by rw [hM_47]; exact hP
              have hT : md_at G o A M_47 2 (sSp S) (sSh S) (nI (sN S)) (nI np) z g := md_at.fld hT hM_47
              have hk : md_keeps o A M M_47 := md_keeps.fld hk hM_47
              refine lv_aload_n hx hb dX4_pieces_84 rfl (lv_at hl 1 rfl) ?_
              refine mw_get (D := gD G) (ci := 4) (v := .int 2) (C := RX4) (T := TX4) (N := 21) hx hb htb inX4 hown hK hP hT.1 rfl 0 (by decide) (htb _ wd524) (fun _ h9 => h9) rfl dX4_pieces_85 ?_
              refine lv_if_le (tgt := 92) hx hb dX4_pieces_88 (by decide) (fun c_48 => absurd c_48 (by decide)) (fun c_48 => ?_)
              have hex : ex_pieces S k u d lo r = 2 := by rw [ex_pieces, if_neg (fun z9 => z9 ⟨kb_6, kb_12, kb_18, kb_24, kb_30⟩), if_pos kb_46]
              exact mx_vret (M' := M_47) hx hb hr hlocks hP hS ⟨rfl, ⟨_, by rw [hex]; exact (⟨np, bg, g, hT, hB⟩ : md_R G o A M_47 2 z S)⟩, hk⟩ dX4_pieces_91 (Nat.le_of_ble_eq_true rfl) (Nat.le_of_ble_eq_true rfl)
