/-! printed by wip/whole/spec*.py -/
-- X4_signOf
set_option maxHeartbeats 4000000 in
set_option maxRecDepth 100000 in
theorem kX4_signOf (l : Launch) (htr : l.stackTraces = false) (G : gx_G) (sz : Nat) (M : mw_M) (o : Nat) (A : Nat → Nat) (th z : Int32) (S : fs_S) (hR : md_R G o A M th z S) (hok : fs_ok S) (k least : Int32) : g_Met l G yX4_signOf (.code yX4_signOf cX4_signOf 3 (some .int)) ({ frames := 5, cells := 0, slots := 0, locals := 200 } : Room) sz M [.ref o, .int k, .int least] (md_Mk G o A M S (ex_signOf S k least) (kt_S S (sF S (fIx k)) (fs_rd S (sF S (fIx k)) least) least) (some (.int (if ex_signOf S k least = 0 then kt_y S (fs_rd S (sF S (fIx k)) least) else 0)))) (fun _ => False) := by
  refine MetE.ofW (cc := cX4_signOf) (maxL := 3) (ret := (some .int)) (by decide) rfl ?_
  intro p e s m args below meth c s₁ B hml hv
  obtain ⟨rfl, hsz, hP, hE⟩ := hv
  have hx := B.exec
  have hb := B.bytes
  have hr := B.returns
  have hts := atoms_spec (ws := _ :: lw_big) B.pre
  have htb : ∀ w ∈ lw_big, w.before _ s = true := fun w h => hts w (List.mem_cons_of_mem _ h)
  have hno := B.noHandlers (hts _ List.mem_cons_self)
  have hown : s.vm.findClass RX4 = some m.cls := findClass_of_methodNamed B.named
  have hlocks := B.notSynchronized
  have hK := hE.1
  subst hsz
  have hS : va_S (gA G) s.heap s.heap [] := va_S.rf
  have hl := lv_entry ([.ref o, .int k, .int least]) (n := 3) (Nat.le_of_ble_eq_true rfl)
  rw [lg_entry_eq]
  generalize (lg_sl ([.ref o, .int k, .int least]) ++ List.replicate (3 - (lg_sl ([.ref o, .int k, .int least])).length) Slot.unset).toArray = ls at hl ⊢
  have hl : lv_has ls 3 [(0, .ref o), (1, .int k), (2, .int least)] := hl
  obtain ⟨np, bg, g, hT, hB⟩ := id hR
  have hk : md_keeps o A M M := md_keeps.rf o A M
  have hle : sN S ≤ 120 := hB.1
  refine lv_aload_n hx hb dX4_signOf_0 rfl (lv_at hl 0 rfl) ?_
  refine lv_iload_n hx hb dX4_signOf_1 rfl (lv_at hl 1 rfl) ?_
  refine mw_callS (As := [.int k]) (rest := [.ref o]) hx hb hml hown hl (kX4_isFamily l htr G s.heap.size M k) (g_B (n := 1) htb wd620 wd3 wd618 (by decide +kernel) ⟨Nat.le_of_ble_eq_true rfl, Nat.le_of_ble_eq_true rfl⟩) (htb _ wd619) hE hP hS rfl rfl (Nat.le_of_ble_eq_true rfl) dX4_signOf_2 ⟨Nat.le_of_ble_eq_true rfl, Nat.le_of_ble_eq_true rfl⟩ (fun v9 M9 H locs hpo hP hz hS => ?_) (fun x9 E9 cell9 H9 locs9 hE9 => hE9.elim)
  obtain ⟨rfl, rfl⟩ := hpo
  refine W.eq (g2 := F0 m 5 ls [.int (bI (isF k)), .ref o]) rfl ?_
  refine lv_if_ne (tgt := 12) hx hb dX4_signOf_5 (by decide) (fun c_1 => ?_) (fun c_1 => ?_)
  · have kb_2 : isF k := bI_t c_1
    have h_k := isF_lt kb_2
    have e_k := fIx_of kb_2.1
    rw [e_k] at hl
    obtain ⟨o1, o2, o3, o4, o5, o6⟩ := hok.2.2 (fIx k) h_k
    refine lv_iload_n hx hb dX4_signOf_12 rfl (lv_at hl 2 rfl) ?_
    refine lv_iconst (v := 0) hx hb dX4_signOf_13 (by decide) ?_
    refine lv_ldc (v := 100000000) hx hb hown (htb _ wd637) dX4_signOf_14 ?_
    refine mw_callS (As := [.int least, .int 0, .int 100000000]) (rest := [.ref o]) hx hb hml hown hl (kX4_in l htr G H.size M least 0 100000000) (g_B (n := 3) htb wd599 wd3 wd597 (by decide +kernel) ⟨Nat.le_of_ble_eq_true rfl, Nat.le_of_ble_eq_true rfl⟩) (htb _ wd598) hE hP hS rfl rfl (Nat.le_of_ble_eq_true rfl) dX4_signOf_16 ⟨Nat.le_of_ble_eq_true rfl, Nat.le_of_ble_eq_true rfl⟩ (fun v9 M9 H locs hpo hP hz hS => ?_) (fun x9 E9 cell9 H9 locs9 hE9 => hE9.elim)
    obtain ⟨rfl, rfl⟩ := hpo
    refine W.eq (g2 := F0 m 19 ls [.int (bI (wi least 0 100000000)), .ref o]) rfl ?_
    refine lv_if_ne (tgt := 26) hx hb dX4_signOf_19 (by decide) (fun c_3 => ?_) (fun c_3 => ?_)
    · have kb_4 : wi least 0 100000000 := bI_t c_3
      refine lv_aload_n hx hb dX4_signOf_26 rfl (lv_at hl 0 rfl) ?_
      refine lv_iload_n hx hb dX4_signOf_27 rfl (lv_at hl 1 rfl) ?_
      refine lv_iload_n hx hb dX4_signOf_28 rfl (lv_at hl 2 rfl) ?_
      refine mw_callV (C := RX4) (As := [.int (nI (fIx k)), .int least]) (rest := [.ref o]) hx hb hml hown hl (kX4_plan l htr G H.size M o A th z S (⟨np, bg, g, hT, hB⟩ : md_R G o A M th z S) hok (fIx k) h_k least) (g_B (n := 2) htb wd641 wd3 wd638 (by decide +kernel) ⟨Nat.le_of_ble_eq_true rfl, Nat.le_of_ble_eq_true rfl⟩) (htb _ wd640) (htb _ ws29) hE hP hS hT.1 rfl rfl rfl (Nat.le_of_ble_eq_true rfl) dX4_signOf_29 ⟨Nat.le_of_ble_eq_true rfl, Nat.le_of_ble_eq_true rfl⟩ (fun v9 M9 H locs hpo hP hz hS => ?_) (fun x9 E9 cell9 H9 locs9 hE9 => hE9.elim)
      obtain ⟨rfl, rfl⟩ := hpo
      refine W.eq (g2 := F0 m 32 ls [.int (md_pl S (sF S (fIx k)) least), .ref o]) rfl ?_
      refine lv_bipush (v := (-2)) hx hb dX4_signOf_32 (by decide) ?_
      refine lv_icmp_ne (tgt := 41) hx hb dX4_signOf_34 (by decide) (fun c_5 => ?_) (fun c_5 => ?_)
      · have kb_6 : isG S (fIx k) := fun z9 => c_5 ((pl_2 hle o1 o2).mpr z9)
        refine lv_aload_n hx hb dX4_signOf_41 rfl (lv_at hl 0 rfl) ?_
        refine lv_iload_n hx hb dX4_signOf_42 rfl (lv_at hl 1 rfl) ?_
        refine lv_iload_n hx hb dX4_signOf_43 rfl (lv_at hl 2 rfl) ?_
        refine mw_callV (C := RX4) (As := [.int (nI (fIx k)), .int least]) (rest := [.ref o]) hx hb hml hown hl (kX4_plan l htr G H.size M o A th z S (⟨np, bg, g, hT, hB⟩ : md_R G o A M th z S) hok (fIx k) h_k least) (g_B (n := 2) htb wd641 wd3 wd638 (by decide +kernel) ⟨Nat.le_of_ble_eq_true rfl, Nat.le_of_ble_eq_true rfl⟩) (htb _ wd640) (htb _ ws29) hE hP hS hT.1 rfl rfl rfl (Nat.le_of_ble_eq_true rfl) dX4_signOf_44 ⟨Nat.le_of_ble_eq_true rfl, Nat.le_of_ble_eq_true rfl⟩ (fun v9 M9 H locs hpo hP hz hS => ?_) (fun x9 E9 cell9 H9 locs9 hE9 => hE9.elim)
        obtain ⟨rfl, rfl⟩ := hpo
        refine W.eq (g2 := F0 m 47 ls [.int (md_pl S (sF S (fIx k)) least), .ref o]) rfl ?_
        refine lv_bipush (v := (-3)) hx hb dX4_signOf_47 (by decide) ?_
        refine lv_icmp_ne (tgt := 65) hx hb dX4_signOf_49 (by decide) (fun c_7 => ?_) (fun c_7 => ?_)
        · have rd_8 : ¬ (fs_rd S (sF S (fIx k)) least) = (-1) := fun z9 => c_7 ((pl_3i hle o1 o2 kb_6).mpr z9)
          have kb_9 : rmk S (if fs_rd S (sF S (fIx k)) least = (-1) then 1 else 0) := by rw [if_neg rd_8]; exact rmk0 hle
          refine lv_iconst (v := 0) hx hb dX4_signOf_65 (by decide) ?_
          refine mw_put (D := gD G) (ci := 4) (v := .int 0) (ty := .int) (C := RX4) (T := TX4) (N := 21) hx hb htb inX4 tyX4 tyX4_ok nmX4 hown hK hP hS hT.1 hT.2.2.2.1 rfl 0 (by decide) (htb _ wd524) (fun _ h9 => h9) rfl (by decide +kernel) rfl rfl (Nat.le_of_ble_eq_true rfl) dX4_signOf_66 (fun H locs hP hS => ?_)
          obtain ⟨M_10, hM_10⟩ : ∃ z9 : mw_M, z9 = mw_up M o (.inr (4, [.int 0, .ref (A 0), .int (sSp S), .int (sSh S), .int (nI (sN S)), .ref (A 1), .ref (A 2), .ref (A 3), .ref (A 4), .ref (A 5), .ref (A 6), .ref (A 7), .int (nI np), .ref (A 8), .ref (A 9), .ref (A 10), .ref (A 11), .ref (A 12), .ref (A 13), .ref (A 14), .int z])) := ⟨_, rfl⟩
          have hP : mw_P (gD G) gx_cl M_10 H := by rw [hM_10]; exact hP
          have hT : md_at G o A M_10 0 (sSp S) (sSh S) (nI (sN S)) (nI np) z g := md_at.fld hT hM_10
          have hk : md_keeps o A M M_10 := md_keeps.fld hk hM_10
          refine lv_aload_n hx hb dX4_signOf_69 rfl (lv_at hl 0 rfl) ?_
          refine mw_get (D := gD G) (ci := 4) (v := .int 0) (C := RX4) (T := TX4) (N := 21) hx hb htb inX4 hown hK hP hT.1 rfl 0 (by decide) (htb _ wd524) (fun _ h9 => h9) rfl dX4_signOf_70 ?_
          refine lv_if_le (tgt := 80) hx hb dX4_signOf_73 (by decide) (fun c_11 => ?_) (fun c_11 => absurd (by decide) c_11)
          refine lv_aload_n hx hb dX4_signOf_80 rfl (lv_at hl 0 rfl) ?_
          refine lv_iload_n hx hb dX4_signOf_81 rfl (lv_at hl 1 rfl) ?_
          refine lv_iload_n hx hb dX4_signOf_82 rfl (lv_at hl 2 rfl) ?_
          refine mw_callV (C := RX4) (As := [.int (nI (fIx k)), .int least]) (rest := []) hx hb hml hown hl (kX4_signBy l htr G H.size M_10 o A 0 z S (⟨np, bg, g, hT, hB⟩ : md_R G o A M_10 0 z S) hok (fIx k) h_k least kb_6 (fun z9 => absurd z9 rd_8)) (g_B (n := 2) htb wd649 wd3 wd646 (by decide +kernel) ⟨Nat.le_of_ble_eq_true rfl, Nat.le_of_ble_eq_true rfl⟩) (htb _ wd648) (htb _ ws31) hE hP hS hT.1 rfl rfl rfl (Nat.le_of_ble_eq_true rfl) dX4_signOf_83 ⟨Nat.le_of_ble_eq_true rfl, Nat.le_of_ble_eq_true rfl⟩ (fun v9 M9 H locs hpo hP hz hS => ?_) (fun x9 E9 cell9 H9 locs9 hE9 => hE9.elim)
          obtain ⟨rfl, hRn, hkn⟩ := hpo
          obtain ⟨M_12, hM_12⟩ : ∃ z9 : mw_M, z9 = M9 := ⟨_, rfl⟩
          rw [← hM_12] at hP hRn hkn
          have hk := md_keeps.tr hk hkn
          refine W.eq (g2 := F0 m 86 ls [.int (kt_y S (fs_rd S (sF S (fIx k)) least))]) rfl ?_
          have hex : ex_signOf S k least = 0 := by rw [ex_signOf, if_neg (fun z9 => z9 kb_2), if_neg (fun z9 => z9 kb_4), if_neg (fun z9 => z9 kb_6), if_neg (fun z9 => z9 kb_9)]
          exact mx_iret (v := (kt_y S (fs_rd S (sF S (fIx k)) least))) (M' := M_12) hx hb hr hlocks hP hS ⟨by rw [hex, if_pos rfl], ⟨_, by rw [hex, if_pos rfl]; exact hRn⟩, hk⟩ dX4_signOf_86 (Nat.le_of_ble_eq_true rfl) (Nat.le_of_ble_eq_true rfl)
        · have rd_13 : (fs_rd S (sF S (fIx k)) least) = (-1) := (pl_3i hle o1 o2 kb_6).mp c_7
          refine lv_aload_n hx hb dX4_signOf_52 rfl (lv_at hl 0 rfl) ?_
          refine mw_get (D := gD G) (ci := 4) (v := .int (nI (sN S))) (C := RX4) (T := TX4) (N := 21) hx hb htb inX4 hown hK hP hT.1 rfl 4 (by decide) (htb _ wd528) (fun _ h9 => h9) rfl dX4_signOf_53 ?_
          refine lv_bipush (v := 120) hx hb dX4_signOf_56 (by decide) ?_
          refine lv_icmp_ne (tgt := 65) hx hb dX4_signOf_58 (by decide) (fun c_14 => ?_) (fun c_14 => ?_)
          · have kb_15 : rmk S 1 := Decidable.byContradiction (fun z9 => c_14 ((rmk_eq hle).mpr z9))
            have kb_16 : rmk S (if fs_rd S (sF S (fIx k)) least = (-1) then 1 else 0) := by rw [if_pos rd_13]; exact kb_15
            refine lv_iconst (v := 0) hx hb dX4_signOf_65 (by decide) ?_
            refine mw_put (D := gD G) (ci := 4) (v := .int 0) (ty := .int) (C := RX4) (T := TX4) (N := 21) hx hb htb inX4 tyX4 tyX4_ok nmX4 hown hK hP hS hT.1 hT.2.2.2.1 rfl 0 (by decide) (htb _ wd524) (fun _ h9 => h9) rfl (by decide +kernel) rfl rfl (Nat.le_of_ble_eq_true rfl) dX4_signOf_66 (fun H locs hP hS => ?_)
            obtain ⟨M_17, hM_17⟩ : ∃ z9 : mw_M, z9 = mw_up M o (.inr (4, [.int 0, .ref (A 0), .int (sSp S), .int (sSh S), .int (nI (sN S)), .ref (A 1), .ref (A 2), .ref (A 3), .ref (A 4), .ref (A 5), .ref (A 6), .ref (A 7), .int (nI np), .ref (A 8), .ref (A 9), .ref (A 10), .ref (A 11), .ref (A 12), .ref (A 13), .ref (A 14), .int z])) := ⟨_, rfl⟩
            have hP : mw_P (gD G) gx_cl M_17 H := by rw [hM_17]; exact hP
            have hT : md_at G o A M_17 0 (sSp S) (sSh S) (nI (sN S)) (nI np) z g := md_at.fld hT hM_17
            have hk : md_keeps o A M M_17 := md_keeps.fld hk hM_17
            refine lv_aload_n hx hb dX4_signOf_69 rfl (lv_at hl 0 rfl) ?_
            refine mw_get (D := gD G) (ci := 4) (v := .int 0) (C := RX4) (T := TX4) (N := 21) hx hb htb inX4 hown hK hP hT.1 rfl 0 (by decide) (htb _ wd524) (fun _ h9 => h9) rfl dX4_signOf_70 ?_
            refine lv_if_le (tgt := 80) hx hb dX4_signOf_73 (by decide) (fun c_18 => ?_) (fun c_18 => absurd (by decide) c_18)
            refine lv_aload_n hx hb dX4_signOf_80 rfl (lv_at hl 0 rfl) ?_
            refine lv_iload_n hx hb dX4_signOf_81 rfl (lv_at hl 1 rfl) ?_
            refine lv_iload_n hx hb dX4_signOf_82 rfl (lv_at hl 2 rfl) ?_
            refine mw_callV (C := RX4) (As := [.int (nI (fIx k)), .int least]) (rest := []) hx hb hml hown hl (kX4_signBy l htr G H.size M_17 o A 0 z S (⟨np, bg, g, hT, hB⟩ : md_R G o A M_17 0 z S) hok (fIx k) h_k least kb_6 (fun _ => rmk_lt kb_15 hle)) (g_B (n := 2) htb wd649 wd3 wd646 (by decide +kernel) ⟨Nat.le_of_ble_eq_true rfl, Nat.le_of_ble_eq_true rfl⟩) (htb _ wd648) (htb _ ws31) hE hP hS hT.1 rfl rfl rfl (Nat.le_of_ble_eq_true rfl) dX4_signOf_83 ⟨Nat.le_of_ble_eq_true rfl, Nat.le_of_ble_eq_true rfl⟩ (fun v9 M9 H locs hpo hP hz hS => ?_) (fun x9 E9 cell9 H9 locs9 hE9 => hE9.elim)
            obtain ⟨rfl, hRn, hkn⟩ := hpo
            obtain ⟨M_19, hM_19⟩ : ∃ z9 : mw_M, z9 = M9 := ⟨_, rfl⟩
            rw [← hM_19] at hP hRn hkn
            have hk := md_keeps.tr hk hkn
            refine W.eq (g2 := F0 m 86 ls [.int (kt_y S (fs_rd S (sF S (fIx k)) least))]) rfl ?_
            have hex : ex_signOf S k least = 0 := by rw [ex_signOf, if_neg (fun z9 => z9 kb_2), if_neg (fun z9 => z9 kb_4), if_neg (fun z9 => z9 kb_6), if_neg (fun z9 => z9 kb_16)]
            exact mx_iret (v := (kt_y S (fs_rd S (sF S (fIx k)) least))) (M' := M_19) hx hb hr hlocks hP hS ⟨by rw [hex, if_pos rfl], ⟨_, by rw [hex, if_pos rfl]; exact hRn⟩, hk⟩ dX4_signOf_86 (Nat.le_of_ble_eq_true rfl) (Nat.le_of_ble_eq_true rfl)
          · have kb_20 : ¬ rmk S 1 := (rmk_eq hle).mp c_14
            have kb_21 : ¬ rmk S (if fs_rd S (sF S (fIx k)) least = (-1) then 1 else 0) := by rw [if_pos rd_13]; exact kb_20
            refine lv_iconst (v := 4) hx hb dX4_signOf_61 (by decide) ?_
            refine lv_goto (tgt := 66) hx hb dX4_signOf_62 (by decide) ?_
            refine mw_put (D := gD G) (ci := 4) (v := .int 4) (ty := .int) (C := RX4) (T := TX4) (N := 21) hx hb htb inX4 tyX4 tyX4_ok nmX4 hown hK hP hS hT.1 hT.2.2.2.1 rfl 0 (by decide) (htb _ wd524) (fun _ h9 => h9) rfl (by decide +kernel) rfl rfl (Nat.le_of_ble_eq_true rfl) dX4_signOf_66 (fun H locs hP hS => ?_)
            obtain ⟨M_22, hM_22⟩ : ∃ z9 : mw_M, z9 = mw_up M o (.inr (4, [.int 4, .ref (A 0), .int (sSp S), .int (sSh S), .int (nI (sN S)), .ref (A 1), .ref (A 2), .ref (A 3), .ref (A 4), .ref (A 5), .ref (A 6), .ref (A 7), .int (nI np), .ref (A 8), .ref (A 9), .ref (A 10), .ref (A 11), .ref (A 12), .ref (A 13), .ref (A 14), .int z])) := ⟨_, rfl⟩
            have hP : mw_P (gD G) gx_cl M_22 H := by rw [hM_22]; exact hP
            have hT : md_at G o A M_22 4 (sSp S) (sSh S) (nI (sN S)) (nI np) z g := md_at.fld hT hM_22
            have hk : md_keeps o A M M_22 := md_keeps.fld hk hM_22
            refine lv_aload_n hx hb dX4_signOf_69 rfl (lv_at hl 0 rfl) ?_
            refine mw_get (D := gD G) (ci := 4) (v := .int 4) (C := RX4) (T := TX4) (N := 21) hx hb htb inX4 hown hK hP hT.1 rfl 0 (by decide) (htb _ wd524) (fun _ h9 => h9) rfl dX4_signOf_70 ?_
            refine lv_if_le (tgt := 80) hx hb dX4_signOf_73 (by decide) (fun c_23 => absurd c_23 (by decide)) (fun c_23 => ?_)
            refine lv_iconst (v := 0) hx hb dX4_signOf_76 (by decide) ?_
            refine lv_goto (tgt := 86) hx hb dX4_signOf_77 (by decide) ?_
            have hex : ex_signOf S k least = 4 := by rw [ex_signOf, if_neg (fun z9 => z9 kb_2), if_neg (fun z9 => z9 kb_4), if_neg (fun z9 => z9 kb_6), if_pos (fun z9 => kb_21 z9)]
            exact mx_iret (v := 0) (M' := M_22) hx hb hr hlocks hP hS ⟨by rw [hex]; rfl, ⟨_, by rw [hex]; exact (⟨np, bg, g, hT, hB⟩ : md_R G o A M_22 4 z S)⟩, hk⟩ dX4_signOf_86 (Nat.le_of_ble_eq_true rfl) (Nat.le_of_ble_eq_true rfl)
      · have kb_24 : ¬ isG S (fIx k) := fun z9 => z9 ((pl_2 hle o1 o2).mp c_5)
        refine lv_iconst (v := 3) hx hb dX4_signOf_37 (by decide) ?_
        refine lv_goto (tgt := 66) hx hb dX4_signOf_38 (by decide) ?_
        refine mw_put (D := gD G) (ci := 4) (v := .int 3) (ty := .int) (C := RX4) (T := TX4) (N := 21) hx hb htb inX4 tyX4 tyX4_ok nmX4 hown hK hP hS hT.1 hT.2.2.2.1 rfl 0 (by decide) (htb _ wd524) (fun _ h9 => h9) rfl (by decide +kernel) rfl rfl (Nat.le_of_ble_eq_true rfl) dX4_signOf_66 (fun H locs hP hS => ?_)
        obtain ⟨M_25, hM_25⟩ : ∃ z9 : mw_M, z9 = mw_up M o (.inr (4, [.int 3, .ref (A 0), .int (sSp S), .int (sSh S), .int (nI (sN S)), .ref (A 1), .ref (A 2), .ref (A 3), .ref (A 4), .ref (A 5), .ref (A 6), .ref (A 7), .int (nI np), .ref (A 8), .ref (A 9), .ref (A 10), .ref (A 11), .ref (A 12), .ref (A 13), .ref (A 14), .int z])) := ⟨_, rfl⟩
        have hP : mw_P (gD G) gx_cl M_25 H := by rw [hM_25]; exact hP
        have hT : md_at G o A M_25 3 (sSp S) (sSh S) (nI (sN S)) (nI np) z g := md_at.fld hT hM_25
        have hk : md_keeps o A M M_25 := md_keeps.fld hk hM_25
        refine lv_aload_n hx hb dX4_signOf_69 rfl (lv_at hl 0 rfl) ?_
        refine mw_get (D := gD G) (ci := 4) (v := .int 3) (C := RX4) (T := TX4) (N := 21) hx hb htb inX4 hown hK hP hT.1 rfl 0 (by decide) (htb _ wd524) (fun _ h9 => h9) rfl dX4_signOf_70 ?_
        refine lv_if_le (tgt := 80) hx hb dX4_signOf_73 (by decide) (fun c_26 => absurd c_26 (by decide)) (fun c_26 => ?_)
        refine lv_iconst (v := 0) hx hb dX4_signOf_76 (by decide) ?_
        refine lv_goto (tgt := 86) hx hb dX4_signOf_77 (by decide) ?_
        have hex : ex_signOf S k least = 3 := by rw [ex_signOf, if_neg (fun z9 => z9 kb_2), if_neg (fun z9 => z9 kb_4), if_pos (fun z9 => kb_24 z9)]
        exact mx_iret (v := 0) (M' := M_25) hx hb hr hlocks hP hS ⟨by rw [hex]; rfl, ⟨_, by rw [hex]; exact (⟨np, bg, g, hT, hB⟩ : md_R G o A M_25 3 z S)⟩, hk⟩ dX4_signOf_86 (Nat.le_of_ble_eq_true rfl) (Nat.le_of_ble_eq_true rfl)
    · have kb_27 : ¬ (wi least 0 100000000) := bI_f c_3
      refine lv_iconst (v := 2) hx hb dX4_signOf_22 (by decide) ?_
      refine lv_goto (tgt := 66) hx hb dX4_signOf_23 (by decide) ?_
      refine mw_put (D := gD G) (ci := 4) (v := .int 2) (ty := .int) (C := RX4) (T := TX4) (N := 21) hx hb htb inX4 tyX4 tyX4_ok nmX4 hown hK hP hS hT.1 hT.2.2.2.1 rfl 0 (by decide) (htb _ wd524) (fun _ h9 => h9) rfl (by decide +kernel) rfl rfl (Nat.le_of_ble_eq_true rfl) dX4_signOf_66 (fun H locs hP hS => ?_)
      obtain ⟨M_28, hM_28⟩ : ∃ z9 : mw_M, z9 = mw_up M o (.inr (4, [.int 2, .ref (A 0), .int (sSp S), .int (sSh S), .int (nI (sN S)), .ref (A 1), .ref (A 2), .ref (A 3), .ref (A 4), .ref (A 5), .ref (A 6), .ref (A 7), .int (nI np), .ref (A 8), .ref (A 9), .ref (A 10), .ref (A 11), .ref (A 12), .ref (A 13), .ref (A 14), .int z])) := ⟨_, rfl⟩
      have hP : mw_P (gD G) gx_cl M_28 H := by rw [hM_28]; exact hP
      have hT : md_at G o A M_28 2 (sSp S) (sSh S) (nI (sN S)) (nI np) z g := md_at.fld hT hM_28
      have hk : md_keeps o A M M_28 := md_keeps.fld hk hM_28
      refine lv_aload_n hx hb dX4_signOf_69 rfl (lv_at hl 0 rfl) ?_
      refine mw_get (D := gD G) (ci := 4) (v := .int 2) (C := RX4) (T := TX4) (N := 21) hx hb htb inX4 hown hK hP hT.1 rfl 0 (by decide) (htb _ wd524) (fun _ h9 => h9) rfl dX4_signOf_70 ?_
      refine lv_if_le (tgt := 80) hx hb dX4_signOf_73 (by decide) (fun c_29 => absurd c_29 (by decide)) (fun c_29 => ?_)
      refine lv_iconst (v := 0) hx hb dX4_signOf_76 (by decide) ?_
      refine lv_goto (tgt := 86) hx hb dX4_signOf_77 (by decide) ?_
      have hex : ex_signOf S k least = 2 := by rw [ex_signOf, if_neg (fun z9 => z9 kb_2), if_pos (fun z9 => kb_27 z9)]
      exact mx_iret (v := 0) (M' := M_28) hx hb hr hlocks hP hS ⟨by rw [hex]; rfl, ⟨_, by rw [hex]; exact (⟨np, bg, g, hT, hB⟩ : md_R G o A M_28 2 z S)⟩, hk⟩ dX4_signOf_86 (Nat.le_of_ble_eq_true rfl) (Nat.le_of_ble_eq_true rfl)
  · have kb_30 : ¬ (isF k) := bI_f c_1
    refine lv_iconst (v := 1) hx hb dX4_signOf_8 (by decide) ?_
    refine lv_goto (tgt := 66) hx hb dX4_signOf_9 (by decide) ?_
    refine mw_put (D := gD G) (ci := 4) (v := .int 1) (ty := .int) (C := RX4) (T := TX4) (N := 21) hx hb htb inX4 tyX4 tyX4_ok nmX4 hown hK hP hS hT.1 hT.2.2.2.1 rfl 0 (by decide) (htb _ wd524) (fun _ h9 => h9) rfl (by decide +kernel) rfl rfl (Nat.le_of_ble_eq_true rfl) dX4_signOf_66 (fun H locs hP hS => ?_)
    obtain ⟨M_31, hM_31⟩ : ∃ z9 : mw_M, z9 = mw_up M o (.inr (4, [.int 1, .ref (A 0), .int (sSp S), .int (sSh S), .int (nI (sN S)), .ref (A 1), .ref (A 2), .ref (A 3), .ref (A 4), .ref (A 5), .ref (A 6), .ref (A 7), .int (nI np), .ref (A 8), .ref (A 9), .ref (A 10), .ref (A 11), .ref (A 12), .ref (A 13), .ref (A 14), .int z])) := ⟨_, rfl⟩
    have hP : mw_P (gD G) gx_cl M_31 H := by rw [hM_31]; exact hP
    have hT : md_at G o A M_31 1 (sSp S) (sSh S) (nI (sN S)) (nI np) z g := md_at.fld hT hM_31
    have hk : md_keeps o A M M_31 := md_keeps.fld hk hM_31
    refine lv_aload_n hx hb dX4_signOf_69 rfl (lv_at hl 0 rfl) ?_
    refine mw_get (D := gD G) (ci := 4) (v := .int 1) (C := RX4) (T := TX4) (N := 21) hx hb htb inX4 hown hK hP hT.1 rfl 0 (by decide) (htb _ wd524) (fun _ h9 => h9) rfl dX4_signOf_70 ?_
    refine lv_if_le (tgt := 80) hx hb dX4_signOf_73 (by decide) (fun c_32 => absurd c_32 (by decide)) (fun c_32 => ?_)
    refine lv_iconst (v := 0) hx hb dX4_signOf_76 (by decide) ?_
    refine lv_goto (tgt := 86) hx hb dX4_signOf_77 (by decide) ?_
    have hex : ex_signOf S k least = 1 := by rw [ex_signOf, if_pos (fun z9 => kb_30 z9)]
    exact mx_iret (v := 0) (M' := M_31) hx hb hr hlocks hP hS ⟨by rw [hex]; rfl, ⟨_, by rw [hex]; exact (⟨np, bg, g, hT, hB⟩ : md_R G o A M_31 1 z S)⟩, hk⟩ dX4_signOf_86 (Nat.le_of_ble_eq_true rfl) (Nat.le_of_ble_eq_true rfl)
