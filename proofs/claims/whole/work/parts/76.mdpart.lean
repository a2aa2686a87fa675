/-! printed by wip/whole/spec*.py -/
theorem fIx2 {x : Int32} (h0 : ¬ x < 0) (h3 : x < 3) (a : ¬ x = 0) (b : ¬ x = 1) : fIx x = 2 := by
  have h := ix_lt (n := 3) (by decide) h0 h3
  have e := fIx_of h0
  rcases (show fIx x = 0 ∨ fIx x = 1 ∨ fIx x = 2 by omega) with r | r | r
  · rw [r] at e; exact absurd e a
  · rw [r] at e; exact absurd e b
  · exact r
-- X4_part
set_option maxHeartbeats 4000000 in
set_option maxRecDepth 100000 in
theorem kX4_part (l : Launch) (htr : l.stackTraces = false) (G : gx_G) (sz : Nat) (M : mw_M) (o : Nat) (A : Nat → Nat) (th z : Int32) (S : fs_S) (hR : md_R G o A M th z S) (hok : fs_ok S) (b i x : Int32) : g_Met l G yX4_part (.code yX4_part cX4_part 6 (some .int)) ({ frames := 5, cells := 0, slots := 0, locals := 200 } : Room) sz M [.ref o, .int b, .int i, .int x] (md_Mk G o A M S (ex_part S b i x) (S) (some (.int (if ex_part S b i x = 0 then re_part S b i x else 0)))) (fun _ => False) := by
  refine MetE.ofW (cc := cX4_part) (maxL := 6) (ret := (some .int)) (by decide) rfl ?_
  intro p e s m args below meth c s₁ B hml hv
  obtain ⟨rfl, hsz, hP, hE⟩ := hv
  have hx := B.exec
  have hb := B.bytes
  have hr := B.returns
  have hts := atoms_spec (ws := _ :: lw_big) B.pre
  have htb : ∀ w ∈ lw_big, w.before _ s = true := fun w h => hts w (List.mem_cons_of_mem _ h)
  have hno := B.noHandlers (hts _ List.mem_cons_self)
  have hown : s.vm.findClass RX4 = some m.cls := findClass_of_methodNamed B.named
  have hlocks := B.notSynchronized
  have hK := hE.1
  subst hsz
  have hS : va_S (gA G) s.heap s.heap [] := va_S.rf
  have hl := lv_entry ([.ref o, .int b, .int i, .int x]) (n := 6) (Nat.le_of_ble_eq_true rfl)
  rw [lg_entry_eq]
  generalize (lg_sl ([.ref o, .int b, .int i, .int x]) ++ List.replicate (6 - (lg_sl ([.ref o, .int b, .int i, .int x])).length) Slot.unset).toArray = ls at hl ⊢
  have hl : lv_has ls 6 [(0, .ref o), (1, .int b), (2, .int i), (3, .int x)] := hl
  obtain ⟨np, bg, g, hT, hB⟩ := id hR
  have hk : md_keeps o A M M := md_keeps.rf o A M
  have hle : sN S ≤ 120 := hB.1
  refine lv_aload_n hx hb dX4_part_0 rfl (lv_at hl 0 rfl) ?_
  refine lv_aload_n hx hb dX4_part_1 rfl (lv_at hl 0 rfl) ?_
  refine lv_iload_n hx hb dX4_part_2 rfl (lv_at hl 1 rfl) ?_
  refine mw_callV (C := RX4) (As := [.int b]) (rest := [.ref o]) hx hb hml hown hl (kX4_isBox l htr G s.heap.size M o A th z S (⟨np, bg, g, hT, hB⟩ : md_R G o A M th z S) b) (g_B (n := 1) htb wd624 wd3 wd621 (by decide +kernel) ⟨Nat.le_of_ble_eq_true rfl, Nat.le_of_ble_eq_true rfl⟩) (htb _ wd623) (htb _ ws27) hE hP hS hT.1 rfl rfl rfl (Nat.le_of_ble_eq_true rfl) dX4_part_3 ⟨Nat.le_of_ble_eq_true rfl, Nat.le_of_ble_eq_true rfl⟩ (fun v9 M9 H locs hpo hP hz hS => ?_) (fun x9 E9 cell9 H9 locs9 hE9 => hE9.elim)
  obtain ⟨rfl, rfl⟩ := hpo
  refine W.eq (g2 := F0 m 6 ls [.int (bI (isB S b)), .ref o]) rfl ?_
  refine lv_if_eq (tgt := 22) hx hb dX4_part_6 (by decide) (fun c_1 => ?_) (fun c_1 => ?_)
  · have kb_2 : ¬ (isB S b) := bI_f c_1
    refine lv_iconst (v := 1) hx hb dX4_part_22 (by decide) ?_
    refine mw_put (D := gD G) (ci := 4) (v := .int 1) (ty := .int) (C := RX4) (T := TX4) (N := 21) hx hb htb inX4 tyX4 tyX4_ok nmX4 hown hK hP hS hT.1 hT.2.2.2.1 rfl 0 (by decide) (htb _ wd524) (fun _ h9 => h9) rfl (by decide +kernel) rfl rfl (Nat.le_of_ble_eq_true rfl) dX4_part_23 (fun H locs hP hS => ?_)
    obtain ⟨M_3, hM_3⟩ : ∃ z9 : mw_M, z9 = mw_up M o (.inr (4, [.int 1, .ref (A 0), .int (sSp S), .int (sSh S), .int (nI (sN S)), .ref (A 1), .ref (A 2), .ref (A 3), .ref (A 4), .ref (A 5), .ref (A 6), .ref (A 7), .int (nI np), .ref (A 8), .ref (A 9), .ref (A 10), .ref (A 11), .ref (A 12), .ref (A 13), .ref (A 14), .int z])) := ⟨_, rfl⟩
    have hP : mw_P (gD G) gx_cl M_3 H := by rw [hM_3]; exact hP
    have hT : md_at G o A M_3 1 (sSp S) (sSh S) (nI (sN S)) (nI np) z g := md_at.fld hT hM_3
    have hk : md_keeps o A M M_3 := md_keeps.fld hk hM_3
    refine lv_aload_n hx hb dX4_part_26 rfl (lv_at hl 0 rfl) ?_
    refine lv_aload_n hx hb dX4_part_27 rfl (lv_at hl 0 rfl) ?_
    refine mw_get (D := gD G) (ci := 4) (v := .int 1) (C := RX4) (T := TX4) (N := 21) hx hb htb inX4 hown hK hP hT.1 rfl 0 (by decide) (htb _ wd524) (fun _ h9 => h9) rfl dX4_part_28 ?_
    refine lv_if_ne (tgt := 54) hx hb dX4_part_31 (by decide) (fun c_4 => ?_) (fun c_4 => absurd c_4 (by decide))
    refine lv_iconst (v := 1) hx hb dX4_part_54 (by decide) ?_
    refine mw_put (D := gD G) (ci := 4) (v := .int 1) (ty := .int) (C := RX4) (T := TX4) (N := 21) hx hb htb inX4 tyX4 tyX4_ok nmX4 hown hK hP hS hT.1 hT.2.2.2.1 rfl 0 (by decide) (htb _ wd524) (fun _ h9 => h9) rfl (by decide +kernel) rfl rfl (Nat.le_of_ble_eq_true rfl) dX4_part_55 (fun H locs hP hS => ?_)
    obtain ⟨M_5, hM_5⟩ : ∃ z9 : mw_M, z9 = mw_up M_3 o (.inr (4, [.int 1, .ref (A 0), .int (sSp S), .int (sSh S), .int (nI (sN S)), .ref (A 1), .ref (A 2), .ref (A 3), .ref (A 4), .ref (A 5), .ref (A 6), .ref (A 7), .int (nI np), .ref (A 8), .ref (A 9), .ref (A 10), .ref (A 11), .ref (A 12), .ref (A 13), .ref (A 14), .int z])) := ⟨_, rfl⟩
    have hP : mw_P (gD G) gx_cl M_5 H := by rw [hM_5]; exact hP
    have hT : md_at G o A M_5 1 (sSp S) (sSh S) (nI (sN S)) (nI np) z g := md_at.fld hT hM_5
    have hk : md_keeps o A M M_5 := md_keeps.fld hk hM_5
    refine lv_aload_n hx hb dX4_part_58 rfl (lv_at hl 0 rfl) ?_
    refine mw_get (D := gD G) (ci := 4) (v := .int 1) (C := RX4) (T := TX4) (N := 21) hx hb htb inX4 hown hK hP hT.1 rfl 0 (by decide) (htb _ wd524) (fun _ h9 => h9) rfl dX4_part_59 ?_
    refine lv_if_le (tgt := 67) hx hb dX4_part_62 (by decide) (fun c_6 => absurd c_6 (by decide)) (fun c_6 => ?_)
    refine lv_iconst (v := 0) hx hb dX4_part_65 (by decide) ?_
    have hex : ex_part S b i x = 1 := by rw [ex_part, if_pos (fun z9 => kb_2 z9.1)]
    exact mx_iret (v := 0) (M' := M_5) hx hb hr hlocks hP hS ⟨by rw [hex]; rfl, ⟨_, by rw [hex]; exact (⟨np, bg, g, hT, hB⟩ : md_R G o A M_5 1 z S)⟩, hk⟩ dX4_part_66 (Nat.le_of_ble_eq_true rfl) (Nat.le_of_ble_eq_true rfl)
  · have kb_7 : isB S b := bI_t c_1
    have h_b := isB_lt kb_7 hle
    have e_b := fIx_of kb_7.1
    rw [e_b] at hl
    have hpl9 := hok.2.1 (fIx b) h_b
    have h369 : (bP S (fIx b)).length ≤ 369 := hpl9.2.1
    refine lv_iload_n hx hb dX4_part_9 rfl (lv_at hl 3 rfl) ?_
    refine lv_iconst (v := 0) hx hb dX4_part_10 (by decide) ?_
    refine lv_iconst (v := 5) hx hb dX4_part_11 (by decide) ?_
    refine mw_callS (As := [.int x, .int 0, .int 5]) (rest := [.ref o]) hx hb hml hown hl (kX4_in l htr G H.size M x 0 5) (g_B (n := 3) htb wd599 wd3 wd597 (by decide +kernel) ⟨Nat.le_of_ble_eq_true rfl, Nat.le_of_ble_eq_true rfl⟩) (htb _ wd598) hE hP hS rfl rfl (Nat.le_of_ble_eq_true rfl) dX4_part_12 ⟨Nat.le_of_ble_eq_true rfl, Nat.le_of_ble_eq_true rfl⟩ (fun v9 M9 H locs hpo hP hz hS => ?_) (fun x9 E9 cell9 H9 locs9 hE9 => hE9.elim)
    obtain ⟨rfl, rfl⟩ := hpo
    refine W.eq (g2 := F0 m 15 ls [.int (bI (wi x 0 5)), .ref o]) rfl ?_
    refine lv_if_eq (tgt := 22) hx hb dX4_part_15 (by decide) (fun c_8 => ?_) (fun c_8 => ?_)
    · have kb_9 : ¬ (wi x 0 5) := bI_f c_8
      have kb_10 : ¬ (¬ x < 0 ∧ x ≤ 5) := fun z9 => kb_9 ((wi05 x).mpr z9)
      refine lv_iconst (v := 1) hx hb dX4_part_22 (by decide) ?_
      refine mw_put (D := gD G) (ci := 4) (v := .int 1) (ty := .int) (C := RX4) (T := TX4) (N := 21) hx hb htb inX4 tyX4 tyX4_ok nmX4 hown hK hP hS hT.1 hT.2.2.2.1 rfl 0 (by decide) (htb _ wd524) (fun _ h9 => h9) rfl (by decide +kernel) rfl rfl (Nat.le_of_ble_eq_true rfl) dX4_part_23 (fun H locs hP hS => ?_)
      obtain ⟨M_11, hM_11⟩ : ∃ z9 : mw_M, z9 = mw_up M o (.inr (4, [.int 1, .ref (A 0), .int (sSp S), .int (sSh S), .int (nI (sN S)), .ref (A 1), .ref (A 2), .ref (A 3), .ref (A 4), .ref (A 5), .ref (A 6), .ref (A 7), .int (nI np), .ref (A 8), .ref (A 9), .ref (A 10), .ref (A 11), .ref (A 12), .ref (A 13), .ref (A 14), .int z])) := ⟨_, rfl⟩
      have hP : mw_P (gD G) gx_cl M_11 H := by rw [hM_11]; exact hP
      have hT : md_at G o A M_11 1 (sSp S) (sSh S) (nI (sN S)) (nI np) z g := md_at.fld hT hM_11
      have hk : md_keeps o A M M_11 := md_keeps.fld hk hM_11
      refine lv_aload_n hx hb dX4_part_26 rfl (lv_at hl 0 rfl) ?_
      refine lv_aload_n hx hb dX4_part_27 rfl (lv_at hl 0 rfl) ?_
      refine mw_get (D := gD G) (ci := 4) (v := .int 1) (C := RX4) (T := TX4) (N := 21) hx hb htb inX4 hown hK hP hT.1 rfl 0 (by decide) (htb _ wd524) (fun _ h9 => h9) rfl dX4_part_28 ?_
      refine lv_if_ne (tgt := 54) hx hb dX4_part_31 (by decide) (fun c_12 => ?_) (fun c_12 => absurd c_12 (by decide))
      refine lv_iconst (v := 1) hx hb dX4_part_54 (by decide) ?_
      refine mw_put (D := gD G) (ci := 4) (v := .int 1) (ty := .int) (C := RX4) (T := TX4) (N := 21) hx hb htb inX4 tyX4 tyX4_ok nmX4 hown hK hP hS hT.1 hT.2.2.2.1 rfl 0 (by decide) (htb _ wd524) (fun _ h9 => h9) rfl (by decide +kernel) rfl rfl (Nat.le_of_ble_eq_true rfl) dX4_part_55 (fun H locs hP hS => ?_)
      obtain ⟨M_13, hM_13⟩ : ∃ z9 : mw_M, z9 = mw_up M_11 o (.inr (4, [.int 1, .ref (A 0), .int (sSp S), .int (sSh S), .int (nI (sN S)), .ref (A 1), .ref (A 2), .ref (A 3), .ref (A 4), .ref (A 5), .ref (A 6), .ref (A 7), .int (nI np), .ref (A 8), .ref (A 9), .ref (A 10), .ref (A 11), .ref (A 12), .ref (A 13), .ref (A 14), .int z])) := ⟨_, rfl⟩
      have hP : mw_P (gD G) gx_cl M_13 H := by rw [hM_13]; exact hP
      have hT : md_at G o A M_13 1 (sSp S) (sSh S) (nI (sN S)) (nI np) z g := md_at.fld hT hM_13
      have hk : md_keeps o A M M_13 := md_keeps.fld hk hM_13
      refine lv_aload_n hx hb dX4_part_58 rfl (lv_at hl 0 rfl) ?_
      refine mw_get (D := gD G) (ci := 4) (v := .int 1) (C := RX4) (T := TX4) (N := 21) hx hb htb inX4 hown hK hP hT.1 rfl 0 (by decide) (htb _ wd524) (fun _ h9 => h9) rfl dX4_part_59 ?_
      refine lv_if_le (tgt := 67) hx hb dX4_part_62 (by decide) (fun c_14 => absurd c_14 (by decide)) (fun c_14 => ?_)
      refine lv_iconst (v := 0) hx hb dX4_part_65 (by decide) ?_
      have hex : ex_part S b i x = 1 := by rw [ex_part, if_pos (fun z9 => kb_10 z9.2.2)]
      exact mx_iret (v := 0) (M' := M_13) hx hb hr hlocks hP hS ⟨by rw [hex]; rfl, ⟨_, by rw [hex]; exact (⟨np, bg, g, hT, hB⟩ : md_R G o A M_13 1 z S)⟩, hk⟩ dX4_part_66 (Nat.le_of_ble_eq_true rfl) (Nat.le_of_ble_eq_true rfl)
    · have kb_15 : wi x 0 5 := bI_t c_8
      have kb_16 : (¬ x < 0 ∧ x ≤ 5) := (wi05 x).mp kb_15
      refine lv_iconst (v := 0) hx hb dX4_part_18 (by decide) ?_
      refine lv_goto (tgt := 23) hx hb dX4_part_19 (by decide) ?_
      refine mw_put (D := gD G) (ci := 4) (v := .int 0) (ty := .int) (C := RX4) (T := TX4) (N := 21) hx hb htb inX4 tyX4 tyX4_ok nmX4 hown hK hP hS hT.1 hT.2.2.2.1 rfl 0 (by decide) (htb _ wd524) (fun _ h9 => h9) rfl (by decide +kernel) rfl rfl (Nat.le_of_ble_eq_true rfl) dX4_part_23 (fun H locs hP hS => ?_)
      obtain ⟨M_17, hM_17⟩ : ∃ z9 : mw_M, z9 = mw_up M o (.inr (4, [.int 0, .ref (A 0), .int (sSp S), .int (sSh S), .int (nI (sN S)), .ref (A 1), .ref (A 2), .ref (A 3), .ref (A 4), .ref (A 5), .ref (A 6), .ref (A 7), .int (nI np), .ref (A 8), .ref (A 9), .ref (A 10), .ref (A 11), .ref (A 12), .ref (A 13), .ref (A 14), .int z])) := ⟨_, rfl⟩
      have hP : mw_P (gD G) gx_cl M_17 H := by rw [hM_17]; exact hP
      have hT : md_at G o A M_17 0 (sSp S) (sSh S) (nI (sN S)) (nI np) z g := md_at.fld hT hM_17
      have hk : md_keeps o A M M_17 := md_keeps.fld hk hM_17
      refine lv_aload_n hx hb dX4_part_26 rfl (lv_at hl 0 rfl) ?_
      refine lv_aload_n hx hb dX4_part_27 rfl (lv_at hl 0 rfl) ?_
      refine mw_get (D := gD G) (ci := 4) (v := .int 0) (C := RX4) (T := TX4) (N := 21) hx hb htb inX4 hown hK hP hT.1 rfl 0 (by decide) (htb _ wd524) (fun _ h9 => h9) rfl dX4_part_28 ?_
      refine lv_if_ne (tgt := 54) hx hb dX4_part_31 (by decide) (fun c_18 => absurd (by decide) c_18) (fun c_18 => ?_)
      refine lv_iload_n hx hb dX4_part_34 rfl (lv_at hl 2 rfl) ?_
      refine lv_iconst (v := 0) hx hb dX4_part_35 (by decide) ?_
      refine lv_aload_n hx hb dX4_part_36 rfl (lv_at hl 0 rfl) ?_
      refine mw_get (D := gD G) (ci := 4) (v := .ref (A 5)) (C := RX4) (T := TX4) (N := 21) hx hb htb inX4 hown hK hP hT.1 rfl 9 (by decide) (htb _ wd533) (fun _ h9 => h9) rfl dX4_part_37 ?_
      refine lv_iload_n hx hb dX4_part_40 rfl (lv_at hl 1 rfl) ?_
      refine mw_iald hx hb hK hP 0 (show M_17 (A 5) = some (.inl (gI G, 120, .inl (g 5))) from hT.2.1 5 (by decide)) rfl (by exact vp_in_nI (show (fIx b) < 120 by have := hle; omega) (by decide)) dX4_part_41 ?_
      refine W.eq (g2 := F0 m 42 ls [.int (nI ((bP S (fIx b)).length / 3)), .int 0, .int i, .ref o]) (by rw [nI_clamp (show (fIx b) < 2 ^ 31 by have := hle; omega), show g 5 (fIx b) = nI ((bP S (fIx b)).length / 3) from (hB.2.2.1 (fIx b) h_b).1.2.2.2.2.1]) ?_
      refine lv_iconst (v := 1) hx hb dX4_part_42 (by decide) ?_
      refine lv_isub hx hb dX4_part_43 ?_
      refine mw_callS (As := [.int i, .int 0, .int ((nI ((bP S (fIx b)).length / 3)) - 1)]) (rest := [.ref o]) hx hb hml hown hl (kX4_in l htr G H.size M_17 i 0 ((nI ((bP S (fIx b)).length / 3)) - 1)) (g_B (n := 3) htb wd599 wd3 wd597 (by decide +kernel) ⟨Nat.le_of_ble_eq_true rfl, Nat.le_of_ble_eq_true rfl⟩) (htb _ wd598) hE hP hS rfl rfl (Nat.le_of_ble_eq_true rfl) dX4_part_44 ⟨Nat.le_of_ble_eq_true rfl, Nat.le_of_ble_eq_true rfl⟩ (fun v9 M9 H locs hpo hP hz hS => ?_) (fun x9 E9 cell9 H9 locs9 hE9 => hE9.elim)
      obtain ⟨rfl, rfl⟩ := hpo
      refine W.eq (g2 := F0 m 47 ls [.int (bI (wi i 0 ((nI ((bP S (fIx b)).length / 3)) - 1))), .ref o]) rfl ?_
      refine lv_if_eq (tgt := 54) hx hb dX4_part_47 (by decide) (fun c_19 => ?_) (fun c_19 => ?_)
      · have kb_20 : ¬ (wi i 0 ((nI ((bP S (fIx b)).length / 3)) - 1)) := bI_f c_19
        have kb_21 : ¬ (¬ i < 0 ∧ i < nI (bP S (fIx b)).length / 3) := fun z9 => kb_20 ((wiPart i h369).mpr z9)
        refine lv_iconst (v := 1) hx hb dX4_part_54 (by decide) ?_
        refine mw_put (D := gD G) (ci := 4) (v := .int 1) (ty := .int) (C := RX4) (T := TX4) (N := 21) hx hb htb inX4 tyX4 tyX4_ok nmX4 hown hK hP hS hT.1 hT.2.2.2.1 rfl 0 (by decide) (htb _ wd524) (fun _ h9 => h9) rfl (by decide +kernel) rfl rfl (Nat.le_of_ble_eq_true rfl) dX4_part_55 (fun H locs hP hS => ?_)
        obtain ⟨M_22, hM_22⟩ : ∃ z9 : mw_M, z9 = mw_up M_17 o (.inr (4, [.int 1, .ref (A 0), .int (sSp S), .int (sSh S), .int (nI (sN S)), .ref (A 1), .ref (A 2), .ref (A 3), .ref (A 4), .ref (A 5), .ref (A 6), .ref (A 7), .int (nI np), .ref (A 8), .ref (A 9), .ref (A 10), .ref (A 11), .ref (A 12), .ref (A 13), .ref (A 14), .int z])) := ⟨_, rfl⟩
        have hP : mw_P (gD G) gx_cl M_22 H := by rw [hM_22]; exact hP
        have hT : md_at G o A M_22 1 (sSp S) (sSh S) (nI (sN S)) (nI np) z g := md_at.fld hT hM_22
        have hk : md_keeps o A M M_22 := md_keeps.fld hk hM_22
        refine lv_aload_n hx hb dX4_part_58 rfl (lv_at hl 0 rfl) ?_
        refine mw_get (D := gD G) (ci := 4) (v := .int 1) (C := RX4) (T := TX4) (N := 21) hx hb htb inX4 hown hK hP hT.1 rfl 0 (by decide) (htb _ wd524) (fun _ h9 => h9) rfl dX4_part_59 ?_
        refine lv_if_le (tgt := 67) hx hb dX4_part_62 (by decide) (fun c_23 => absurd c_23 (by decide)) (fun c_23 => ?_)
        refine lv_iconst (v := 0) hx hb dX4_part_65 (by decide) ?_
        have hex : ex_part S b i x = 1 := by rw [ex_part, if_pos (fun z9 => kb_21 z9.2.1)]
        exact mx_iret (v := 0) (M' := M_22) hx hb hr hlocks hP hS ⟨by rw [hex]; rfl, ⟨_, by rw [hex]; exact (⟨np, bg, g, hT, hB⟩ : md_R G o A M_22 1 z S)⟩, hk⟩ dX4_part_66 (Nat.le_of_ble_eq_true rfl) (Nat.le_of_ble_eq_true rfl)
      · have kb_24 : wi i 0 ((nI ((bP S (fIx b)).length / 3)) - 1) := bI_t c_19
        have kb_25 : (¬ i < 0 ∧ i < nI (bP S (fIx b)).length / 3) := (wiPart i h369).mp kb_24
        have h_i := pt_lt hpl9.1 hpl9.2.1 kb_25.1 kb_25.2
        have e_i := fIx_of kb_25.1
        rw [e_i] at hl
        have hbn : bg (fIx b) + (bP S (fIx b)).length / 3 ≤ np := (hB.2.2.1 (fIx b) h_b).2.2.2.2.1
        have hnp := hB.2.1
        have e_at : nI (bg (fIx b)) + nI (fIx i) = nI (bg (fIx b) + fIx i) := nI_add _ _
        obtain ⟨hp8, hp9, hp10⟩ : g 8 (bg (fIx b) + fIx i) = (bP S (fIx b)).getD (fIx i * 3) 0 ∧ g 9 (bg (fIx b) + fIx i) = (bP S (fIx b)).getD (fIx i * 3 + 1) 0 ∧ g 10 (bg (fIx b) + fIx i) = (bP S (fIx b)).getD (fIx i * 3 + 2) 0 := by rw [Nat.mul_comm]; exact (hB.2.2.1 (fIx b) h_b).2.2.2.2.2 (fIx i) (show fIx i < (bP S (fIx b)).length / 3 by omega)
        refine lv_iconst (v := 0) hx hb dX4_part_50 (by decide) ?_
        refine lv_goto (tgt := 55) hx hb dX4_part_51 (by decide) ?_
        refine mw_put (D := gD G) (ci := 4) (v := .int 0) (ty := .int) (C := RX4) (T := TX4) (N := 21) hx hb htb inX4 tyX4 tyX4_ok nmX4 hown hK hP hS hT.1 hT.2.2.2.1 rfl 0 (by decide) (htb _ wd524) (fun _ h9 => h9) rfl (by decide +kernel) rfl rfl (Nat.le_of_ble_eq_true rfl) dX4_part_55 (fun H locs hP hS => ?_)
        obtain ⟨M_26, hM_26⟩ : ∃ z9 : mw_M, z9 = mw_up M_17 o (.inr (4, [.int 0, .ref (A 0), .int (sSp S), .int (sSh S), .int (nI (sN S)), .ref (A 1), .ref (A 2), .ref (A 3), .ref (A 4), .ref (A 5), .ref (A 6), .ref (A 7), .int (nI np), .ref (A 8), .ref (A 9), .ref (A 10), .ref (A 11), .ref (A 12), .ref (A 13), .ref (A 14), .int z])) := ⟨_, rfl⟩
        have hP : mw_P (gD G) gx_cl M_26 H := by rw [hM_26]; exact hP
        have hT : md_at G o A M_26 0 (sSp S) (sSh S) (nI (sN S)) (nI np) z g := md_at.fld hT hM_26
        have hk : md_keeps o A M M_26 := md_keeps.fld hk hM_26
        refine lv_aload_n hx hb dX4_part_58 rfl (lv_at hl 0 rfl) ?_
        refine mw_get (D := gD G) (ci := 4) (v := .int 0) (C := RX4) (T := TX4) (N := 21) hx hb htb inX4 hown hK hP hT.1 rfl 0 (by decide) (htb _ wd524) (fun _ h9 => h9) rfl dX4_part_59 ?_
        refine lv_if_le (tgt := 67) hx hb dX4_part_62 (by decide) (fun c_27 => ?_) (fun c_27 => absurd (by decide) c_27)
        refine lv_aload_n hx hb dX4_part_67 rfl (lv_at hl 0 rfl) ?_
        refine mw_get (D := gD G) (ci := 4) (v := .ref (A 4)) (C := RX4) (T := TX4) (N := 21) hx hb htb inX4 hown hK hP hT.1 rfl 8 (by decide) (htb _ wd532) (fun _ h9 => h9) rfl dX4_part_68 ?_
        refine lv_iload_n hx hb dX4_part_71 rfl (lv_at hl 1 rfl) ?_
        refine mw_iald hx hb hK hP 0 (show M_26 (A 4) = some (.inl (gI G, 120, .inl (g 4))) from hT.2.1 4 (by decide)) rfl (by exact vp_in_nI (show (fIx b) < 120 by have := hle; omega) (by decide)) dX4_part_72 ?_
        refine W.eq (g2 := F0 m 73 ls [.int (nI (bg (fIx b)))]) (by rw [nI_clamp (show (fIx b) < 2 ^ 31 by have := hle; omega), (hB.2.2.1 (fIx b) h_b).1.2.2.2.1]) ?_
        refine lv_iload_n hx hb dX4_part_73 rfl (lv_at hl 2 rfl) ?_
        refine lv_iadd hx hb dX4_part_74 ?_
        refine lv_istore (lv' := [(4, .int ((nI (bg (fIx b))) + (nI (fIx i)))), (0, .ref o), (1, .int (nI (fIx b))), (2, .int (nI (fIx i))), (3, .int x)]) hx hb dX4_part_75 hl (by decide) rfl (fun ls hl => ?_)
        refine lv_aload_n hx hb dX4_part_77 rfl (lv_at hl 1 rfl) ?_
        refine mw_get (D := gD G) (ci := 4) (v := .ref (A 8)) (C := RX4) (T := TX4) (N := 21) hx hb htb inX4 hown hK hP hT.1 rfl 13 (by decide) (htb _ wd537) (fun _ h9 => h9) rfl dX4_part_78 ?_
        refine lv_iload hx hb dX4_part_81 (lv_at hl 0 rfl) ?_
        refine mw_iald hx hb hK hP 0 (show M_26 (A 8) = some (.inl (gI G, 14800, .inl (g 8))) from hT.2.1 8 (by decide)) rfl (by rw [e_at]; exact vp_in_nI (show (bg (fIx b) + fIx i) < 14800 by omega) (by decide)) dX4_part_83 ?_
        refine W.eq (g2 := F0 m 84 ls [.int ((bP S (fIx b)).getD (fIx i * 3) 0)]) (by rw [e_at, nI_clamp (show (bg (fIx b) + fIx i) < 2 ^ 31 by omega), hp8]) ?_
        refine lv_istore (lv' := [(5, .int ((bP S (fIx b)).getD (fIx i * 3) 0)), (4, .int ((nI (bg (fIx b))) + (nI (fIx i)))), (0, .ref o), (1, .int (nI (fIx b))), (2, .int (nI (fIx i))), (3, .int x)]) hx hb dX4_part_84 hl (by decide) rfl (fun ls hl => ?_)
        refine lv_iload_n hx hb dX4_part_86 rfl (lv_at hl 5 rfl) ?_
        refine lv_iconst (v := 3) hx hb dX4_part_87 (by decide) ?_
        refine lv_icmp_ge (tgt := 123) hx hb dX4_part_88 (by decide) (fun c_28 => ?_) (fun c_28 => ?_)
        · refine lv_iload hx hb dX4_part_123 (lv_at hl 0 rfl) ?_
          refine lv_iconst (v := (-1)) hx hb dX4_part_125 (by decide) ?_
          refine lv_icmp_ne (tgt := 159) hx hb dX4_part_126 (by decide) (fun c_29 => ?_) (fun c_29 => ?_)
          · obtain ⟨ji, h_ji, e_ji⟩ := (hpl9.2.2 (fIx i * 3) (by omega) (by omega)).resolve_left c_29
            have e_j : (bP S (fIx b)).getD (fIx i * 3) 0 = nI (fIx ((bP S (fIx b)).getD (fIx i * 3) 0)) := by rw [e_ji, fIx_nI (show ji < 2 ^ 31 by omega)]
            have h_j : fIx ((bP S (fIx b)).getD (fIx i * 3) 0) < sN S := by rw [e_ji, fIx_nI (show ji < 2 ^ 31 by omega)]; exact h_ji
            obtain ⟨jx, hjx⟩ : ∃ z9, z9 = fIx ((bP S (fIx b)).getD (fIx i * 3) 0) := ⟨_, rfl⟩
            rw [← hjx] at h_j e_j
            rw [e_j] at hl
            refine lv_iload_n hx hb dX4_part_159 rfl (lv_at hl 5 rfl) ?_
            refine lv_iconst (v := 3) hx hb dX4_part_160 (by decide) ?_
            refine lv_icmp_ne (tgt := 174) hx hb dX4_part_161 (by decide) (fun c_30 => ?_) (fun c_30 => ?_)
            · refine lv_iload_n hx hb dX4_part_174 rfl (lv_at hl 5 rfl) ?_
              refine lv_iconst (v := 4) hx hb dX4_part_175 (by decide) ?_
              refine lv_icmp_ne (tgt := 189) hx hb dX4_part_176 (by decide) (fun c_31 => ?_) (fun c_31 => ?_)
              · refine lv_aload_n hx hb dX4_part_189 rfl (lv_at hl 2 rfl) ?_
                refine mw_get (D := gD G) (ci := 4) (v := .ref (A 3)) (C := RX4) (T := TX4) (N := 21) hx hb htb inX4 hown hK hP hT.1 rfl 7 (by decide) (htb _ wd531) (fun _ h9 => h9) rfl dX4_part_190 ?_
                refine lv_iload hx hb dX4_part_193 (lv_at hl 0 rfl) ?_
                refine mw_iald hx hb hK hP 0 (show M_26 (A 3) = some (.inl (gI G, 120, .inl (g 3))) from hT.2.1 3 (by decide)) rfl (by exact vp_in_nI (show jx < 120 by have := hle; omega) (by decide)) dX4_part_195 ?_
                refine W.eq (g2 := F0 m 196 ls [.int (bD S jx)]) (by rw [nI_clamp (show jx < 2 ^ 31 by have := hle; omega), hB.D h_j]) ?_
                have hex : ex_part S b i x = 0 := by rw [ex_part, if_neg (fun z9 => z9 ⟨kb_7, kb_25, kb_16⟩)]
                exact mx_iret (v := (bD S jx)) (M' := M_26) hx hb hr hlocks hP hS ⟨by rw [hex, if_pos rfl, re_part, if_neg (fun z9 => Int32.not_lt.mpr c_28 z9), if_neg c_29, if_neg c_30, if_neg c_31, ← hjx], ⟨_, by rw [hex, if_pos rfl]; exact (⟨np, bg, g, hT, hB⟩ : md_R G o A M_26 0 z S)⟩, hk⟩ dX4_part_196 (Nat.le_of_ble_eq_true rfl) (Nat.le_of_ble_eq_true rfl)
              · refine lv_aload_n hx hb dX4_part_179 rfl (lv_at hl 2 rfl) ?_
                refine mw_get (D := gD G) (ci := 4) (v := .ref (A 2)) (C := RX4) (T := TX4) (N := 21) hx hb htb inX4 hown hK hP hT.1 rfl 6 (by decide) (htb _ wd530) (fun _ h9 => h9) rfl dX4_part_180 ?_
                refine lv_iload hx hb dX4_part_183 (lv_at hl 0 rfl) ?_
                refine mw_iald hx hb hK hP 0 (show M_26 (A 2) = some (.inl (gI G, 120, .inl (g 2))) from hT.2.1 2 (by decide)) rfl (by exact vp_in_nI (show jx < 120 by have := hle; omega) (by decide)) dX4_part_185 ?_
                refine W.eq (g2 := F0 m 186 ls [.int (bH S jx)]) (by rw [nI_clamp (show jx < 2 ^ 31 by have := hle; omega), hB.H h_j]) ?_
                refine lv_goto (tgt := 196) hx hb dX4_part_186 (by decide) ?_
                have hex : ex_part S b i x = 0 := by rw [ex_part, if_neg (fun z9 => z9 ⟨kb_7, kb_25, kb_16⟩)]
                exact mx_iret (v := (bH S jx)) (M' := M_26) hx hb hr hlocks hP hS ⟨by rw [hex, if_pos rfl, re_part, if_neg (fun z9 => Int32.not_lt.mpr c_28 z9), if_neg c_29, if_neg c_30, if_pos c_31, ← hjx], ⟨_, by rw [hex, if_pos rfl]; exact (⟨np, bg, g, hT, hB⟩ : md_R G o A M_26 0 z S)⟩, hk⟩ dX4_part_196 (Nat.le_of_ble_eq_true rfl) (Nat.le_of_ble_eq_true rfl)
            · refine lv_aload_n hx hb dX4_part_164 rfl (lv_at hl 2 rfl) ?_
              refine mw_get (D := gD G) (ci := 4) (v := .ref (A 1)) (C := RX4) (T := TX4) (N := 21) hx hb htb inX4 hown hK hP hT.1 rfl 5 (by decide) (htb _ wd529) (fun _ h9 => h9) rfl dX4_part_165 ?_
              refine lv_iload hx hb dX4_part_168 (lv_at hl 0 rfl) ?_
              refine mw_iald hx hb hK hP 0 (show M_26 (A 1) = some (.inl (gI G, 120, .inl (g 1))) from hT.2.1 1 (by decide)) rfl (by exact vp_in_nI (show jx < 120 by have := hle; omega) (by decide)) dX4_part_170 ?_
              refine W.eq (g2 := F0 m 171 ls [.int (bW S jx)]) (by rw [nI_clamp (show jx < 2 ^ 31 by have := hle; omega), hB.W h_j]) ?_
              refine lv_goto (tgt := 196) hx hb dX4_part_171 (by decide) ?_
              have hex : ex_part S b i x = 0 := by rw [ex_part, if_neg (fun z9 => z9 ⟨kb_7, kb_25, kb_16⟩)]
              exact mx_iret (v := (bW S jx)) (M' := M_26) hx hb hr hlocks hP hS ⟨by rw [hex, if_pos rfl, re_part, if_neg (fun z9 => Int32.not_lt.mpr c_28 z9), if_neg c_29, if_pos c_30, ← hjx], ⟨_, by rw [hex, if_pos rfl]; exact (⟨np, bg, g, hT, hB⟩ : md_R G o A M_26 0 z S)⟩, hk⟩ dX4_part_196 (Nat.le_of_ble_eq_true rfl) (Nat.le_of_ble_eq_true rfl)
          · refine lv_iload_n hx hb dX4_part_129 rfl (lv_at hl 5 rfl) ?_
            refine lv_iconst (v := 3) hx hb dX4_part_130 (by decide) ?_
            refine lv_icmp_ne (tgt := 143) hx hb dX4_part_131 (by decide) (fun c_32 => ?_) (fun c_32 => ?_)
            · refine lv_iload_n hx hb dX4_part_143 rfl (lv_at hl 5 rfl) ?_
              refine lv_iconst (v := 4) hx hb dX4_part_144 (by decide) ?_
              refine lv_icmp_ne (tgt := 157) hx hb dX4_part_145 (by decide) (fun c_33 => ?_) (fun c_33 => ?_)
              · refine lv_iconst (v := 0) hx hb dX4_part_157 (by decide) ?_
                have hex : ex_part S b i x = 0 := by rw [ex_part, if_neg (fun z9 => z9 ⟨kb_7, kb_25, kb_16⟩)]
                exact mx_iret (v := 0) (M' := M_26) hx hb hr hlocks hP hS ⟨by rw [hex, if_pos rfl, re_part, if_neg (fun z9 => Int32.not_lt.mpr c_28 z9), if_pos c_29, if_neg c_32, if_neg c_33], ⟨_, by rw [hex, if_pos rfl]; exact (⟨np, bg, g, hT, hB⟩ : md_R G o A M_26 0 z S)⟩, hk⟩ dX4_part_158 (Nat.le_of_ble_eq_true rfl) (Nat.le_of_ble_eq_true rfl)
              · refine lv_aload_n hx hb dX4_part_148 rfl (lv_at hl 2 rfl) ?_
                refine mw_get (D := gD G) (ci := 4) (v := .ref (A 7)) (C := RX4) (T := TX4) (N := 21) hx hb htb inX4 hown hK hP hT.1 rfl 11 (by decide) (htb _ wd535) (fun _ h9 => h9) rfl dX4_part_149 ?_
                refine lv_iload_n hx hb dX4_part_152 rfl (lv_at hl 3 rfl) ?_
                refine mw_iald hx hb hK hP 0 (show M_26 (A 7) = some (.inl (gI G, 120, .inl (g 7))) from hT.2.1 7 (by decide)) rfl (by exact vp_in_nI (show (fIx b) < 120 by have := hle; omega) (by decide)) dX4_part_153 ?_
                refine W.eq (g2 := F0 m 154 ls [.int (sB S (fIx b)).2.2.2.2.2]) (by rw [nI_clamp (show (fIx b) < 2 ^ 31 by have := hle; omega), (hB.2.2.1 (fIx b) h_b).1.2.2.2.2.2.2]) ?_
                refine lv_goto (tgt := 158) hx hb dX4_part_154 (by decide) ?_
                have hex : ex_part S b i x = 0 := by rw [ex_part, if_neg (fun z9 => z9 ⟨kb_7, kb_25, kb_16⟩)]
                exact mx_iret (v := (sB S (fIx b)).2.2.2.2.2) (M' := M_26) hx hb hr hlocks hP hS ⟨by rw [hex, if_pos rfl, re_part, if_neg (fun z9 => Int32.not_lt.mpr c_28 z9), if_pos c_29, if_neg c_32, if_pos c_33], ⟨_, by rw [hex, if_pos rfl]; exact (⟨np, bg, g, hT, hB⟩ : md_R G o A M_26 0 z S)⟩, hk⟩ dX4_part_158 (Nat.le_of_ble_eq_true rfl) (Nat.le_of_ble_eq_true rfl)
            · refine lv_aload_n hx hb dX4_part_134 rfl (lv_at hl 2 rfl) ?_
              refine mw_get (D := gD G) (ci := 4) (v := .ref (A 6)) (C := RX4) (T := TX4) (N := 21) hx hb htb inX4 hown hK hP hT.1 rfl 10 (by decide) (htb _ wd534) (fun _ h9 => h9) rfl dX4_part_135 ?_
              refine lv_iload_n hx hb dX4_part_138 rfl (lv_at hl 3 rfl) ?_
              refine mw_iald hx hb hK hP 0 (show M_26 (A 6) = some (.inl (gI G, 120, .inl (g 6))) from hT.2.1 6 (by decide)) rfl (by exact vp_in_nI (show (fIx b) < 120 by have := hle; omega) (by decide)) dX4_part_139 ?_
              refine W.eq (g2 := F0 m 140 ls [.int (sB S (fIx b)).2.2.2.2.1]) (by rw [nI_clamp (show (fIx b) < 2 ^ 31 by have := hle; omega), (hB.2.2.1 (fIx b) h_b).1.2.2.2.2.2.1]) ?_
              refine lv_goto (tgt := 158) hx hb dX4_part_140 (by decide) ?_
              have hex : ex_part S b i x = 0 := by rw [ex_part, if_neg (fun z9 => z9 ⟨kb_7, kb_25, kb_16⟩)]
              exact mx_iret (v := (sB S (fIx b)).2.2.2.2.1) (M' := M_26) hx hb hr hlocks hP hS ⟨by rw [hex, if_pos rfl, re_part, if_neg (fun z9 => Int32.not_lt.mpr c_28 z9), if_pos c_29, if_pos c_32], ⟨_, by rw [hex, if_pos rfl]; exact (⟨np, bg, g, hT, hB⟩ : md_R G o A M_26 0 z S)⟩, hk⟩ dX4_part_158 (Nat.le_of_ble_eq_true rfl) (Nat.le_of_ble_eq_true rfl)
        · refine lv_iload_n hx hb dX4_part_91 rfl (lv_at hl 5 rfl) ?_
          refine lv_if_ne (tgt := 100) hx hb dX4_part_92 (by decide) (fun c_34 => ?_) (fun c_34 => ?_)
          · refine lv_iload_n hx hb dX4_part_100 rfl (lv_at hl 5 rfl) ?_
            refine lv_iconst (v := 1) hx hb dX4_part_101 (by decide) ?_
            refine lv_icmp_ne (tgt := 115) hx hb dX4_part_102 (by decide) (fun c_35 => ?_) (fun c_35 => ?_)
            · refine lv_aload_n hx hb dX4_part_115 rfl (lv_at hl 2 rfl) ?_
              refine mw_get (D := gD G) (ci := 4) (v := .ref (A 10)) (C := RX4) (T := TX4) (N := 21) hx hb htb inX4 hown hK hP hT.1 rfl 15 (by decide) (htb _ wd539) (fun _ h9 => h9) rfl dX4_part_116 ?_
              refine lv_iload hx hb dX4_part_119 (lv_at hl 1 rfl) ?_
              refine mw_iald hx hb hK hP 0 (show M_26 (A 10) = some (.inl (gI G, 14800, .inl (g 10))) from hT.2.1 10 (by decide)) rfl (by rw [e_at]; exact vp_in_nI (show (bg (fIx b) + fIx i) < 14800 by omega) (by decide)) dX4_part_121 ?_
              refine W.eq (g2 := F0 m 122 ls [.int ((bP S (fIx b)).getD (fIx i * 3 + 2) 0)]) (by rw [e_at, nI_clamp (show (bg (fIx b) + fIx i) < 2 ^ 31 by omega), hp10]) ?_
              have hex : ex_part S b i x = 0 := by rw [ex_part, if_neg (fun z9 => z9 ⟨kb_7, kb_25, kb_16⟩)]
              have ex : fIx x = 2 := fIx2 kb_16.1 (Int32.not_le.mp c_28) c_34 c_35
              exact mx_iret (v := ((bP S (fIx b)).getD (fIx i * 3 + 2) 0)) (M' := M_26) hx hb hr hlocks hP hS ⟨by rw [hex, if_pos rfl, re_part, if_pos (Int32.not_le.mp c_28), ex], ⟨_, by rw [hex, if_pos rfl]; exact (⟨np, bg, g, hT, hB⟩ : md_R G o A M_26 0 z S)⟩, hk⟩ dX4_part_122 (Nat.le_of_ble_eq_true rfl) (Nat.le_of_ble_eq_true rfl)
            · refine lv_aload_n hx hb dX4_part_105 rfl (lv_at hl 2 rfl) ?_
              refine mw_get (D := gD G) (ci := 4) (v := .ref (A 9)) (C := RX4) (T := TX4) (N := 21) hx hb htb inX4 hown hK hP hT.1 rfl 14 (by decide) (htb _ wd538) (fun _ h9 => h9) rfl dX4_part_106 ?_
              refine lv_iload hx hb dX4_part_109 (lv_at hl 1 rfl) ?_
              refine mw_iald hx hb hK hP 0 (show M_26 (A 9) = some (.inl (gI G, 14800, .inl (g 9))) from hT.2.1 9 (by decide)) rfl (by rw [e_at]; exact vp_in_nI (show (bg (fIx b) + fIx i) < 14800 by omega) (by decide)) dX4_part_111 ?_
              refine W.eq (g2 := F0 m 112 ls [.int ((bP S (fIx b)).getD (fIx i * 3 + 1) 0)]) (by rw [e_at, nI_clamp (show (bg (fIx b) + fIx i) < 2 ^ 31 by omega), hp9]) ?_
              refine lv_goto (tgt := 122) hx hb dX4_part_112 (by decide) ?_
              have hex : ex_part S b i x = 0 := by rw [ex_part, if_neg (fun z9 => z9 ⟨kb_7, kb_25, kb_16⟩)]
              have ex : fIx x = 1 := by rw [c_35]; rfl
              exact mx_iret (v := ((bP S (fIx b)).getD (fIx i * 3 + 1) 0)) (M' := M_26) hx hb hr hlocks hP hS ⟨by rw [hex, if_pos rfl, re_part, if_pos (Int32.not_le.mp c_28), ex], ⟨_, by rw [hex, if_pos rfl]; exact (⟨np, bg, g, hT, hB⟩ : md_R G o A M_26 0 z S)⟩, hk⟩ dX4_part_122 (Nat.le_of_ble_eq_true rfl) (Nat.le_of_ble_eq_true rfl)
          · refine lv_iload hx hb dX4_part_95 (lv_at hl 0 rfl) ?_
            refine lv_goto (tgt := 122) hx hb dX4_part_97 (by decide) ?_
            have hex : ex_part S b i x = 0 := by rw [ex_part, if_neg (fun z9 => z9 ⟨kb_7, kb_25, kb_16⟩)]
            have ex : fIx x = 0 := by rw [c_34]; rfl
            exact mx_iret (v := ((bP S (fIx b)).getD (fIx i * 3) 0)) (M' := M_26) hx hb hr hlocks hP hS ⟨by rw [hex, if_pos rfl, re_part, if_pos (Int32.not_le.mp c_28), ex, Nat.add_zero], ⟨_, by rw [hex, if_pos rfl]; exact (⟨np, bg, g, hT, hB⟩ : md_R G o A M_26 0 z S)⟩, hk⟩ dX4_part_122 (Nat.le_of_ble_eq_true rfl) (Nat.le_of_ble_eq_true rfl)
