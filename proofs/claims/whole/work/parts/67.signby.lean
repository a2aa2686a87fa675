/-! printed by wip/whole/spec*.py -/
theorem fs_in.pos {S : fs_S} {x : Int32} (h : fs_in S x) (hS : sN S ≤ 120) : ¬ x < 0 := by
  obtain ⟨i, hi, e⟩ := h
  rw [e]
  exact nI_pos (by omega)
theorem puo_succ {S : fs_S} {u : fs_Pi} {x : Int32} (h : ¬ x = (-1)) (j : Nat) : fs_puo S u x (j + 1) = fs_puo S (fs_puo S u x j) x 1 := by
  simp only [fs_puo, if_neg h]
  rfl
theorem puo_zero {S : fs_S} {u : fs_Pi} {x : Int32} (h : ¬ x = (-1)) : fs_puo S u x 0 = u := by
  simp only [fs_puo, if_neg h]
  rfl
theorem pl_3 {S : fs_S} {u : fs_F} {least : Int32} (hS : sN S ≤ 120) (h4 : u.1.length ≤ 4) (hm : ∀ j, j < u.1.length → fs_in S (u.1.getD j 0)) (hG : ¬ (nI u.1.length = 0 ∧ u.2.2.2.2 = (-1))) (h : md_pl S u least = (-3)) : fs_rd S u least = (-1) ∧ ¬ u.2.2.2.2 = (-1) := by
  rcases pl_cases least h4 hm with q | q | q
  · exact absurd q.2 hG
  · exact q.2.2
  · have h9 := q.2.2.pos hS
    rw [← q.2.1, h] at h9
    exact absurd (by decide) h9
theorem pl_n3 {S : fs_S} {u : fs_F} {least : Int32} (hS : sN S ≤ 120) (h4 : u.1.length ≤ 4) (hm : ∀ j, j < u.1.length → fs_in S (u.1.getD j 0)) (hG : ¬ (nI u.1.length = 0 ∧ u.2.2.2.2 = (-1))) (h : ¬ md_pl S u least = (-3)) : md_pl S u least = fs_rd S u least ∧ ¬ fs_rd S u least = (-1) := by
  rcases pl_cases least h4 hm with q | q | q
  · exact absurd q.2 hG
  · exact absurd q.2.1 h
  · exact ⟨q.2.1, q.2.2.ne hS⟩
theorem pl_2 {S : fs_S} {u : fs_F} {least : Int32} (hS : sN S ≤ 120) (h4 : u.1.length ≤ 4) (hm : ∀ j, j < u.1.length → fs_in S (u.1.getD j 0)) : md_pl S u least = (-2) ↔ (nI u.1.length = 0 ∧ u.2.2.2.2 = (-1)) := by
  rcases pl_cases least h4 hm with q | q | q
  · exact ⟨fun _ => q.2, fun _ => q.1⟩
  · exact ⟨fun h => by rw [q.2.1] at h; exact absurd h (by decide), fun h => absurd h q.1⟩
  · refine ⟨fun h => ?_, fun h => absurd h q.1⟩
    have h9 := q.2.2.pos hS
    rw [← q.2.1, h] at h9
    exact absurd (by decide) h9
theorem pl_3i {S : fs_S} {u : fs_F} {least : Int32} (hS : sN S ≤ 120) (h4 : u.1.length ≤ 4) (hm : ∀ j, j < u.1.length → fs_in S (u.1.getD j 0)) (hG : ¬ (nI u.1.length = 0 ∧ u.2.2.2.2 = (-1))) : md_pl S u least = (-3) ↔ fs_rd S u least = (-1) := by
  constructor
  · exact fun h => (pl_3 hS h4 hm hG h).1
  · intro h
    by_cases q : md_pl S u least = (-3)
    · exact q
    · exact absurd h (pl_n3 hS h4 hm hG q).2
-- X4_signBy
set_option maxHeartbeats 4000000 in
set_option maxRecDepth 100000 in
theorem kX4_signBy (l : Launch) (htr : l.stackTraces = false) (G : gx_G) (sz : Nat) (M : mw_M) (o : Nat) (A : Nat → Nat) (th z : Int32) (S : fs_S) (hR : md_R G o A M th z S) (hok : fs_ok S) (k : Nat) (hk8 : k < 8) (least : Int32) (hG : isG S k) (hroom : fs_rd S (sF S k) least = (-1) → sN S < 120) : g_Met l G yX4_signBy (.code yX4_signBy cX4_signBy 7 (some .int)) ({ frames := 3, cells := 0, slots := 0, locals := 140 } : Room) sz M [.ref o, .int (nI k), .int least] (fun v M9 => v = some (.int (kt_y S (fs_rd S (sF S k) least))) ∧ md_R G o A M9 th z (kt_S S (sF S k) (fs_rd S (sF S k) least) least) ∧ md_keeps o A M M9) (fun _ => False) := by
  refine MetE.ofW (cc := cX4_signBy) (maxL := 7) (ret := (some .int)) (by decide) rfl ?_
  intro p e s m args below meth c s₁ B hml hv
  obtain ⟨rfl, hsz, hP, hE⟩ := hv
  have hx := B.exec
  have hb := B.bytes
  have hr := B.returns
  have hts := atoms_spec (ws := _ :: lw_big) B.pre
  have htb : ∀ w ∈ lw_big, w.before _ s = true := fun w h => hts w (List.mem_cons_of_mem _ h)
  have hno := B.noHandlers (hts _ List.mem_cons_self)
  have hown : s.vm.findClass RX4 = some m.cls := findClass_of_methodNamed B.named
  have hlocks := B.notSynchronized
  have hK := hE.1
  subst hsz
  have hS : va_S (gA G) s.heap s.heap [] := va_S.rf
  have hl := lv_entry ([.ref o, .int (nI k), .int least]) (n := 7) (Nat.le_of_ble_eq_true rfl)
  rw [lg_entry_eq]
  generalize (lg_sl ([.ref o, .int (nI k), .int least]) ++ List.replicate (7 - (lg_sl ([.ref o, .int (nI k), .int least])).length) Slot.unset).toArray = ls at hl ⊢
  have hl : lv_has ls 7 [(0, .ref o), (1, .int (nI k)), (2, .int least)] := hl
  obtain ⟨np, bg, g, hT, hB⟩ := id hR
  have hk : md_keeps o A M M := md_keeps.rf o A M
  have hle : sN S ≤ 120 := hB.1
  obtain ⟨o1, o2, o3, o4, o5, o6⟩ := hok.2.2 k hk8
  have e_4 : 4 * nI k = nI (4 * k) := pk_mul 4 k
  have e_41 : 4 * nI k + 1 = nI (4 * k + 1) := by rw [e_4]; exact nI_add _ 1
  have e_42 : 4 * nI k + 2 = nI (4 * k + 2) := by rw [e_4]; exact nI_add _ 2
  have e_43 : 4 * nI k + 3 = nI (4 * k + 3) := by rw [e_4]; exact nI_add _ 3
  refine lv_aload_n hx hb dX4_signBy_0 rfl (lv_at hl 0 rfl) ?_
  refine lv_iload_n hx hb dX4_signBy_1 rfl (lv_at hl 1 rfl) ?_
  refine lv_iload_n hx hb dX4_signBy_2 rfl (lv_at hl 2 rfl) ?_
  refine mw_callV (C := RX4) (As := [.int (nI k), .int least]) (rest := []) hx hb hml hown hl (kX4_plan l htr G s.heap.size M o A th z S (⟨np, bg, g, hT, hB⟩ : md_R G o A M th z S) hok k hk8 least) (g_B (n := 2) htb wd641 wd3 wd638 (by decide +kernel) ⟨Nat.le_of_ble_eq_true rfl, Nat.le_of_ble_eq_true rfl⟩) (htb _ wd640) (htb _ ws29) hE hP hS hT.1 rfl rfl rfl (Nat.le_of_ble_eq_true rfl) dX4_signBy_3 ⟨Nat.le_of_ble_eq_true rfl, Nat.le_of_ble_eq_true rfl⟩ (fun v9 M9 H locs hpo hP hz hS => ?_) (fun x9 E9 cell9 H9 locs9 hE9 => hE9.elim)
  obtain ⟨rfl, rfl⟩ := hpo
  refine W.eq (g2 := F0 m 6 ls [.int (md_pl S (sF S k) least)]) rfl ?_
  refine lv_istore_n (lv' := [(3, .int (md_pl S (sF S k) least)), (0, .ref o), (1, .int (nI k)), (2, .int least)]) hx hb dX4_signBy_6 rfl hl (by decide) rfl (fun ls hl => ?_)
  refine lv_iload_n hx hb dX4_signBy_7 rfl (lv_at hl 0 rfl) ?_
  refine lv_bipush (v := (-3)) hx hb dX4_signBy_8 (by decide) ?_
  refine lv_icmp_eq (tgt := 15) hx hb dX4_signBy_10 (by decide) (fun c_1 => ?_) (fun c_1 => ?_)
  · obtain ⟨hrd, hrep⟩ := pl_3 hle o1 o2 hG c_1
    refine lv_aload_n hx hb dX4_signBy_15 rfl (lv_at hl 1 rfl) ?_
    refine lv_iload_n hx hb dX4_signBy_16 rfl (lv_at hl 2 rfl) ?_
    refine lv_iload_n hx hb dX4_signBy_17 rfl (lv_at hl 3 rfl) ?_
    refine mw_callV (C := RX4) (As := [.int (nI k), .int least]) (rest := []) hx hb hml hown hl (kX4_repeats l htr G H.size M o A th z S (⟨np, bg, g, hT, hB⟩ : md_R G o A M th z S) hok k hk8 hrep least) (g_B (n := 2) htb wd653 wd3 wd650 (by decide +kernel) ⟨Nat.le_of_ble_eq_true rfl, Nat.le_of_ble_eq_true rfl⟩) (htb _ wd652) (htb _ ws32) hE hP hS hT.1 rfl rfl rfl (Nat.le_of_ble_eq_true rfl) dX4_signBy_18 ⟨Nat.le_of_ble_eq_true rfl, Nat.le_of_ble_eq_true rfl⟩ (fun v9 M9 H locs hpo hP hz hS => ?_) (fun x9 E9 cell9 H9 locs9 hE9 => hE9.elim)
    obtain ⟨rfl, rfl⟩ := hpo
    obtain ⟨N, hN⟩ : ∃ z9, z9 = fs_tn S (sF S k) least := ⟨_, rfl⟩
    have hN60 : N ≤ 60 := by rw [hN]; exact fs_rn_le _ _ _ _
    refine W.eq (g2 := F0 m 21 ls [.int (nI N)]) (by subst hN; rfl) ?_
    refine lv_istore (lv' := [(4, .int (nI N)), (3, .int (md_pl S (sF S k) least)), (0, .ref o), (1, .int (nI k)), (2, .int least)]) hx hb dX4_signBy_21 hl (by decide) rfl (fun ls hl => ?_)
    refine lv_aload_n hx hb dX4_signBy_23 rfl (lv_at hl 2 rfl) ?_
    refine lv_iconst (v := 0) hx hb dX4_signBy_24 (by decide) ?_
    refine lv_iconst (v := 0) hx hb dX4_signBy_25 (by decide) ?_
    refine lv_iconst (v := 0) hx hb dX4_signBy_26 (by decide) ?_
    refine mw_callV (C := RX4) (As := [.int 0, .int 0, .int 0]) (rest := []) hx hb hml hown hl (kX4_make l htr G H.size M o A th z S (⟨np, bg, g, hT, hB⟩ : md_R G o A M th z S) (hroom hrd) 0 0 0) (g_B (n := 3) htb wd613 wd3 wd610 (by decide +kernel) ⟨Nat.le_of_ble_eq_true rfl, Nat.le_of_ble_eq_true rfl⟩) (htb _ wd612) (htb _ ws26) hE hP hS hT.1 rfl rfl rfl (Nat.le_of_ble_eq_true rfl) dX4_signBy_27 ⟨Nat.le_of_ble_eq_true rfl, Nat.le_of_ble_eq_true rfl⟩ (fun v9 M9 H locs hpo hP hz hS => ?_) (fun x9 E9 cell9 H9 locs9 hE9 => hE9.elim)
    obtain ⟨rfl, hRn, hkn⟩ := hpo
    obtain ⟨M_2, hM_2⟩ : ∃ z9 : mw_M, z9 = M9 := ⟨_, rfl⟩
    rw [← hM_2] at hP hRn hkn
    have hk := md_keeps.tr hk hkn
    have hRn : md_R G o A M_2 th z (fs_push S (fs_pb ([], 0, 0))) := hRn
    obtain ⟨np3, bg3, g3, hT, hB⟩ := id hRn
    rw [sN_push] at hT
    have hT : md_at G o A M_2 th (sSp S) (sSh S) (nI (sN S + 1)) (nI np3) z g3 := hT
    have hle : sN S + 1 ≤ 120 := by have := hB.1; rw [sN_push] at this; exact this
    refine W.eq (g2 := F0 m 30 ls [.int (nI (sN S))]) rfl ?_
    refine lv_istore (lv' := [(5, .int (nI (sN S))), (4, .int (nI N)), (3, .int (md_pl S (sF S k) least)), (0, .ref o), (1, .int (nI k)), (2, .int least)]) hx hb dX4_signBy_30 hl (by decide) rfl (fun ls hl => ?_)
    refine lv_aload_n hx hb dX4_signBy_32 rfl (lv_at hl 3 rfl) ?_
    refine lv_aload_n hx hb dX4_signBy_33 rfl (lv_at hl 3 rfl) ?_
    refine mw_get (D := gD G) (ci := 4) (v := .ref (A 14)) (C := RX4) (T := TX4) (N := 21) hx hb htb inX4 hown hK hP hT.1 rfl 19 (by decide) (htb _ wd543) (fun _ h9 => h9) rfl dX4_signBy_34 ?_
    refine lv_iconst (v := 4) hx hb dX4_signBy_37 (by decide) ?_
    refine lv_iload_n hx hb dX4_signBy_38 rfl (lv_at hl 4 rfl) ?_
    refine lv_imul hx hb dX4_signBy_39 ?_
    refine lv_iconst (v := 2) hx hb dX4_signBy_40 (by decide) ?_
    refine lv_iadd hx hb dX4_signBy_41 ?_
    refine mw_iald hx hb hK hP 0 (show M_2 (A 14) = some (.inl (gI G, 32, .inl (g3 14))) from hT.2.1 14 (by decide)) rfl (by rw [e_42]; exact vp_in_nI (show (4 * k + 2) < 32 by omega) (by decide)) dX4_signBy_42 ?_
    refine W.eq (g2 := F0 m 43 ls [.int (sF S k).2.2.2.1, .ref o]) (by rw [e_42, nI_clamp (show (4 * k + 2) < 2 ^ 31 by omega), show g3 14 (4 * k + 2) = (sF S k).2.2.2.1 from (hB.pcs hk8 hrep).2.2.1]) ?_
    refine mw_callV (C := RX4) (As := [.int (sF S k).2.2.2.1]) (rest := []) hx hb hml hown hl (kX4_pile l htr G H.size M_2 o A th z S ([], 0, 0) (md_R.of (np := np3) hT hB : md_R G o A M_2 th z (fs_push S (fs_pb ([], 0, 0)))) (by simp only [fs_puo_len, if_neg hrep, List.length_nil]; have := fs_le1 (sF S k).2.1; have := fs_le1 (sF S k).2.2.1; have := fs_le1 (sF S k).2.2.2.1; omega) ((sF S k).2.2.2.1) o5) (g_B (n := 1) htb wd657 wd3 wd654 (by decide +kernel) ⟨Nat.le_of_ble_eq_true rfl, Nat.le_of_ble_eq_true rfl⟩) (htb _ wd656) (htb _ ws33) hE hP hS hT.1 rfl rfl rfl (Nat.le_of_ble_eq_true rfl) dX4_signBy_43 ⟨Nat.le_of_ble_eq_true rfl, Nat.le_of_ble_eq_true rfl⟩ (fun v9 M9 H locs hpo hP hz hS => ?_) (fun x9 E9 cell9 H9 locs9 hE9 => hE9.elim)
    obtain ⟨rfl, hRn, hkn⟩ := hpo
    obtain ⟨M_4, hM_4⟩ : ∃ z9 : mw_M, z9 = M9 := ⟨_, rfl⟩
    rw [← hM_4] at hP hRn hkn
    have hk := md_keeps.tr hk hkn
    obtain ⟨np5, bg5, g5, hT, hB⟩ := id hRn
    rw [sN_push] at hT
    have hT : md_at G o A M_4 th (sSp S) (sSh S) (nI (sN S + 1)) (nI np5) z g5 := hT
    refine W.eq (g2 := F0 m 46 ls []) rfl ?_
    refine lv_iconst (v := 0) hx hb dX4_signBy_46 (by decide) ?_
    refine lv_istore (lv' := [(6, .int 0), (5, .int (nI (sN S))), (4, .int (nI N)), (3, .int (md_pl S (sF S k) least)), (0, .ref o), (1, .int (nI k)), (2, .int least)]) hx hb dX4_signBy_47 hl (by decide) rfl (fun ls hl => ?_)
    have loop49 : ∀ (n j : Nat), j + n = N → ∀ (M1 : mw_M), md_R G o A M1 th z (fs_push S (fs_pb (fs_puo S (fs_puo S ([], 0, 0) (sF S k).2.2.2.1 1) (sF S k).2.2.2.2 j))) → md_keeps o A M M1 → ∀ (H : Heap) (locs : List Loc) (ls : Array Slot), mw_P (gD G) gx_cl M1 H → va_S (gA G) s.heap H locs → lv_has ls 7 [(0, .ref o), (1, .int (nI k)), (4, .int (nI N)), (5, .int (nI (sN S))), (6, .int (nI j))] → W p l e (headSpec (Cond.code yX4_signBy cX4_signBy 7 (some .int) :: lw_big) ({ frames := 3, cells := 0, slots := 0, locals := 140 } : Room)).room s m ([.ref o, .int (nI k), .int least] : List Value).toArray below meth c H locs 0 0 (mx_Q below (mw_Qx (gD G) gx_cl M (fun v M9 => v = some (.int (kt_y S (fs_rd S (sF S k) least))) ∧ md_R G o A M9 th z (kt_S S (sF S k) (fs_rd S (sF S k) least) least) ∧ md_keeps o A M M9) (fun _ => False) (gA G)) ([.ref o, .int (nI k), .int least] : List Value).toArray s ({ frames := 3, cells := 0, slots := 0, locals := 140 } : Room).cells ({ frames := 3, cells := 0, slots := 0, locals := 140 } : Room).slots (gA G)) (F0 m 49 ls []) := by
      intro n
      induction n with
      | zero =>
        intro j hj M1 hR1 hk H locs ls hP hS hl
        have ej : j = N := by omega
        rw [ej] at hR1 hl
        obtain ⟨np6, bg6, g6, hT, hB⟩ := id hR1
        rw [sN_push] at hT
        have hT : md_at G o A M1 th (sSp S) (sSh S) (nI (sN S + 1)) (nI np6) z g6 := hT
        refine lv_iload hx hb dX4_signBy_49 (lv_at hl 4 rfl) ?_
        refine lv_iload hx hb dX4_signBy_51 (lv_at hl 2 rfl) ?_
        refine lv_icmp_ge (tgt := 76) hx hb dX4_signBy_53 (by decide) (fun c_7 => ?_) (fun c_7 => absurd (Int32.le_refl _) c_7)
        refine lv_aload_n hx hb dX4_signBy_76 rfl (lv_at hl 0 rfl) ?_
        refine mw_get (D := gD G) (ci := 4) (v := .ref (A 14)) (C := RX4) (T := TX4) (N := 21) hx hb htb inX4 hown hK hP hT.1 rfl 19 (by decide) (htb _ wd543) (fun _ h9 => h9) rfl dX4_signBy_77 ?_
        refine lv_iconst (v := 4) hx hb dX4_signBy_80 (by decide) ?_
        refine lv_iload_n hx hb dX4_signBy_81 rfl (lv_at hl 1 rfl) ?_
        refine lv_imul hx hb dX4_signBy_82 ?_
        refine lv_iconst (v := 1) hx hb dX4_signBy_83 (by decide) ?_
        refine lv_iadd hx hb dX4_signBy_84 ?_
        refine mw_iald hx hb hK hP 0 (show M1 (A 14) = some (.inl (gI G, 32, .inl (g6 14))) from hT.2.1 14 (by decide)) rfl (by rw [e_41]; exact vp_in_nI (show (4 * k + 1) < 32 by omega) (by decide)) dX4_signBy_85 ?_
        refine W.eq (g2 := F0 m 86 ls [.int (sF S k).2.2.1]) (by rw [e_41, nI_clamp (show (4 * k + 1) < 2 ^ 31 by omega), show g6 14 (4 * k + 1) = (sF S k).2.2.1 from (hB.pcs hk8 hrep).2.1]) ?_
        refine lv_iconst (v := (-1)) hx hb dX4_signBy_86 (by decide) ?_
        refine lv_icmp_eq (tgt := 134) hx hb dX4_signBy_87 (by decide) (fun c_8 => ?_) (fun c_8 => ?_)
        · refine lv_aload_n hx hb dX4_signBy_134 rfl (lv_at hl 0 rfl) ?_
          refine lv_aload_n hx hb dX4_signBy_135 rfl (lv_at hl 0 rfl) ?_
          refine mw_get (D := gD G) (ci := 4) (v := .ref (A 14)) (C := RX4) (T := TX4) (N := 21) hx hb htb inX4 hown hK hP hT.1 rfl 19 (by decide) (htb _ wd543) (fun _ h9 => h9) rfl dX4_signBy_136 ?_
          refine lv_iconst (v := 4) hx hb dX4_signBy_139 (by decide) ?_
          refine lv_iload_n hx hb dX4_signBy_140 rfl (lv_at hl 1 rfl) ?_
          refine lv_imul hx hb dX4_signBy_141 ?_
          refine mw_iald hx hb hK hP 0 (show M1 (A 14) = some (.inl (gI G, 32, .inl (g6 14))) from hT.2.1 14 (by decide)) rfl (by rw [e_4]; exact vp_in_nI (show (4 * k) < 32 by omega) (by decide)) dX4_signBy_142 ?_
          refine W.eq (g2 := F0 m 143 ls [.int (sF S k).2.1, .ref o]) (by rw [e_4, nI_clamp (show (4 * k) < 2 ^ 31 by omega), show g6 14 (4 * k) = (sF S k).2.1 from (hB.pcs hk8 hrep).1]) ?_
          refine mw_callV (C := RX4) (As := [.int (sF S k).2.1]) (rest := []) hx hb hml hown hl (kX4_pile l htr G H.size M1 o A th z S (fs_puo S (fs_puo S ([], 0, 0) (sF S k).2.2.2.1 1) (sF S k).2.2.2.2 N) (md_R.of (np := np6) hT hB : md_R G o A M1 th z (fs_push S (fs_pb (fs_puo S (fs_puo S ([], 0, 0) (sF S k).2.2.2.1 1) (sF S k).2.2.2.2 N)))) (by simp only [fs_puo_len, if_neg hrep, List.length_nil]; have := fs_le1 (sF S k).2.1; have := fs_le1 (sF S k).2.2.1; have := fs_le1 (sF S k).2.2.2.1; omega) ((sF S k).2.1) o3) (g_B (n := 1) htb wd657 wd3 wd654 (by decide +kernel) ⟨Nat.le_of_ble_eq_true rfl, Nat.le_of_ble_eq_true rfl⟩) (htb _ wd656) (htb _ ws33) hE hP hS hT.1 rfl rfl rfl (Nat.le_of_ble_eq_true rfl) dX4_signBy_143 ⟨Nat.le_of_ble_eq_true rfl, Nat.le_of_ble_eq_true rfl⟩ (fun v9 M9 H locs hpo hP hz hS => ?_) (fun x9 E9 cell9 H9 locs9 hE9 => hE9.elim)
          obtain ⟨rfl, hRn, hkn⟩ := hpo
          obtain ⟨M_9, hM_9⟩ : ∃ z9 : mw_M, z9 = M9 := ⟨_, rfl⟩
          rw [← hM_9] at hP hRn hkn
          have hk := md_keeps.tr hk hkn
          obtain ⟨np10, bg10, g10, hT, hB⟩ := id hRn
          rw [sN_push] at hT
          have hT : md_at G o A M_9 th (sSp S) (sSh S) (nI (sN S + 1)) (nI np10) z g10 := hT
          refine W.eq (g2 := F0 m 146 ls []) rfl ?_
          refine lv_iload hx hb dX4_signBy_146 (lv_at hl 3 rfl) ?_
          have e_u : fs_tp S (sF S k) N = (fs_puo S (fs_puo S (fs_puo S ([], 0, 0) (sF S k).2.2.2.1 1) (sF S k).2.2.2.2 N) (sF S k).2.1 1) := by rw [fs_tp, if_pos c_8]
          have e_t : fs_tg S (sF S k) least = fs_pb (fs_puo S (fs_puo S (fs_puo S ([], 0, 0) (sF S k).2.2.2.1 1) (sF S k).2.2.2.2 N) (sF S k).2.1 1) := by rw [← e_u, hN]; rfl
          exact mx_iret (v := (nI (sN S))) (M' := M_9) hx hb hr hlocks hP hS ⟨by rw [kt_y, if_pos hrd], by rw [kt_S, if_pos hrd, e_t]; exact (md_R.of (np := np10) hT hB : md_R G o A M_9 th z (fs_push S (fs_pb (fs_puo S (fs_puo S (fs_puo S ([], 0, 0) (sF S k).2.2.2.1 1) (sF S k).2.2.2.2 N) (sF S k).2.1 1)))), hk⟩ dX4_signBy_148 (Nat.le_of_ble_eq_true rfl) (Nat.le_of_ble_eq_true rfl)
        · refine lv_aload_n hx hb dX4_signBy_90 rfl (lv_at hl 0 rfl) ?_
          refine lv_aload_n hx hb dX4_signBy_91 rfl (lv_at hl 0 rfl) ?_
          refine mw_get (D := gD G) (ci := 4) (v := .ref (A 14)) (C := RX4) (T := TX4) (N := 21) hx hb htb inX4 hown hK hP hT.1 rfl 19 (by decide) (htb _ wd543) (fun _ h9 => h9) rfl dX4_signBy_92 ?_
          refine lv_iconst (v := 4) hx hb dX4_signBy_95 (by decide) ?_
          refine lv_iload_n hx hb dX4_signBy_96 rfl (lv_at hl 1 rfl) ?_
          refine lv_imul hx hb dX4_signBy_97 ?_
          refine lv_iconst (v := 1) hx hb dX4_signBy_98 (by decide) ?_
          refine lv_iadd hx hb dX4_signBy_99 ?_
          refine mw_iald hx hb hK hP 0 (show M1 (A 14) = some (.inl (gI G, 32, .inl (g6 14))) from hT.2.1 14 (by decide)) rfl (by rw [e_41]; exact vp_in_nI (show (4 * k + 1) < 32 by omega) (by decide)) dX4_signBy_100 ?_
          refine W.eq (g2 := F0 m 101 ls [.int (sF S k).2.2.1, .ref o]) (by rw [e_41, nI_clamp (show (4 * k + 1) < 2 ^ 31 by omega), show g6 14 (4 * k + 1) = (sF S k).2.2.1 from (hB.pcs hk8 hrep).2.1]) ?_
          refine mw_callV (C := RX4) (As := [.int (sF S k).2.2.1]) (rest := []) hx hb hml hown hl (kX4_pile l htr G H.size M1 o A th z S (fs_puo S (fs_puo S ([], 0, 0) (sF S k).2.2.2.1 1) (sF S k).2.2.2.2 N) (md_R.of (np := np6) hT hB : md_R G o A M1 th z (fs_push S (fs_pb (fs_puo S (fs_puo S ([], 0, 0) (sF S k).2.2.2.1 1) (sF S k).2.2.2.2 N)))) (by simp only [fs_puo_len, if_neg hrep, List.length_nil]; have := fs_le1 (sF S k).2.1; have := fs_le1 (sF S k).2.2.1; have := fs_le1 (sF S k).2.2.2.1; omega) ((sF S k).2.2.1) o4) (g_B (n := 1) htb wd657 wd3 wd654 (by decide +kernel) ⟨Nat.le_of_ble_eq_true rfl, Nat.le_of_ble_eq_true rfl⟩) (htb _ wd656) (htb _ ws33) hE hP hS hT.1 rfl rfl rfl (Nat.le_of_ble_eq_true rfl) dX4_signBy_101 ⟨Nat.le_of_ble_eq_true rfl, Nat.le_of_ble_eq_true rfl⟩ (fun v9 M9 H locs hpo hP hz hS => ?_) (fun x9 E9 cell9 H9 locs9 hE9 => hE9.elim)
          obtain ⟨rfl, hRn, hkn⟩ := hpo
          obtain ⟨M_11, hM_11⟩ : ∃ z9 : mw_M, z9 = M9 := ⟨_, rfl⟩
          rw [← hM_11] at hP hRn hkn
          have hk := md_keeps.tr hk hkn
          obtain ⟨np12, bg12, g12, hT, hB⟩ := id hRn
          rw [sN_push] at hT
          have hT : md_at G o A M_11 th (sSp S) (sSh S) (nI (sN S + 1)) (nI np12) z g12 := hT
          refine W.eq (g2 := F0 m 104 ls []) rfl ?_
          refine lv_iconst (v := 0) hx hb dX4_signBy_104 (by decide) ?_
          refine lv_istore (lv' := [(6, .int 0), (0, .ref o), (1, .int (nI k)), (4, .int (nI N)), (5, .int (nI (sN S)))]) hx hb dX4_signBy_105 hl (by decide) rfl (fun ls hl => ?_)
          have loop107 : ∀ (n j : Nat), j + n = N → ∀ (M1 : mw_M), md_R G o A M1 th z (fs_push S (fs_pb (fs_puo S (fs_puo S (fs_puo S (fs_puo S ([], 0, 0) (sF S k).2.2.2.1 1) (sF S k).2.2.2.2 N) (sF S k).2.2.1 1) (sF S k).2.2.2.2 j))) → md_keeps o A M M1 → ∀ (H : Heap) (locs : List Loc) (ls : Array Slot), mw_P (gD G) gx_cl M1 H → va_S (gA G) s.heap H locs → lv_has ls 7 [(0, .ref o), (1, .int (nI k)), (4, .int (nI N)), (5, .int (nI (sN S))), (6, .int (nI j))] → W p l e (headSpec (Cond.code yX4_signBy cX4_signBy 7 (some .int) :: lw_big) ({ frames := 3, cells := 0, slots := 0, locals := 140 } : Room)).room s m ([.ref o, .int (nI k), .int least] : List Value).toArray below meth c H locs 0 0 (mx_Q below (mw_Qx (gD G) gx_cl M (fun v M9 => v = some (.int (kt_y S (fs_rd S (sF S k) least))) ∧ md_R G o A M9 th z (kt_S S (sF S k) (fs_rd S (sF S k) least) least) ∧ md_keeps o A M M9) (fun _ => False) (gA G)) ([.ref o, .int (nI k), .int least] : List Value).toArray s ({ frames := 3, cells := 0, slots := 0, locals := 140 } : Room).cells ({ frames := 3, cells := 0, slots := 0, locals := 140 } : Room).slots (gA G)) (F0 m 107 ls []) := by
            intro n
            induction n with
            | zero =>
              intro j hj M1 hR1 hk H locs ls hP hS hl
              have ej : j = N := by omega
              rw [ej] at hR1 hl
              obtain ⟨np13, bg13, g13, hT, hB⟩ := id hR1
              rw [sN_push] at hT
              have hT : md_at G o A M1 th (sSp S) (sSh S) (nI (sN S + 1)) (nI np13) z g13 := hT
              refine lv_iload hx hb dX4_signBy_107 (lv_at hl 4 rfl) ?_
              refine lv_iload hx hb dX4_signBy_109 (lv_at hl 2 rfl) ?_
              refine lv_icmp_ge (tgt := 134) hx hb dX4_signBy_111 (by decide) (fun c_14 => ?_) (fun c_14 => absurd (Int32.le_refl _) c_14)
              refine lv_aload_n hx hb dX4_signBy_134 rfl (lv_at hl 0 rfl) ?_
              refine lv_aload_n hx hb dX4_signBy_135 rfl (lv_at hl 0 rfl) ?_
              refine mw_get (D := gD G) (ci := 4) (v := .ref (A 14)) (C := RX4) (T := TX4) (N := 21) hx hb htb inX4 hown hK hP hT.1 rfl 19 (by decide) (htb _ wd543) (fun _ h9 => h9) rfl dX4_signBy_136 ?_
              refine lv_iconst (v := 4) hx hb dX4_signBy_139 (by decide) ?_
              refine lv_iload_n hx hb dX4_signBy_140 rfl (lv_at hl 1 rfl) ?_
              refine lv_imul hx hb dX4_signBy_141 ?_
              refine mw_iald hx hb hK hP 0 (show M1 (A 14) = some (.inl (gI G, 32, .inl (g13 14))) from hT.2.1 14 (by decide)) rfl (by rw [e_4]; exact vp_in_nI (show (4 * k) < 32 by omega) (by decide)) dX4_signBy_142 ?_
              refine W.eq (g2 := F0 m 143 ls [.int (sF S k).2.1, .ref o]) (by rw [e_4, nI_clamp (show (4 * k) < 2 ^ 31 by omega), show g13 14 (4 * k) = (sF S k).2.1 from (hB.pcs hk8 hrep).1]) ?_
              refine mw_callV (C := RX4) (As := [.int (sF S k).2.1]) (rest := []) hx hb hml hown hl (kX4_pile l htr G H.size M1 o A th z S (fs_puo S (fs_puo S (fs_puo S (fs_puo S ([], 0, 0) (sF S k).2.2.2.1 1) (sF S k).2.2.2.2 N) (sF S k).2.2.1 1) (sF S k).2.2.2.2 N) (md_R.of (np := np13) hT hB : md_R G o A M1 th z (fs_push S (fs_pb (fs_puo S (fs_puo S (fs_puo S (fs_puo S ([], 0, 0) (sF S k).2.2.2.1 1) (sF S k).2.2.2.2 N) (sF S k).2.2.1 1) (sF S k).2.2.2.2 N)))) (by simp only [fs_puo_len, if_neg hrep, List.length_nil]; have := fs_le1 (sF S k).2.1; have := fs_le1 (sF S k).2.2.1; have := fs_le1 (sF S k).2.2.2.1; omega) ((sF S k).2.1) o3) (g_B (n := 1) htb wd657 wd3 wd654 (by decide +kernel) ⟨Nat.le_of_ble_eq_true rfl, Nat.le_of_ble_eq_true rfl⟩) (htb _ wd656) (htb _ ws33) hE hP hS hT.1 rfl rfl rfl (Nat.le_of_ble_eq_true rfl) dX4_signBy_143 ⟨Nat.le_of_ble_eq_true rfl, Nat.le_of_ble_eq_true rfl⟩ (fun v9 M9 H locs hpo hP hz hS => ?_) (fun x9 E9 cell9 H9 locs9 hE9 => hE9.elim)
              obtain ⟨rfl, hRn, hkn⟩ := hpo
              obtain ⟨M_15, hM_15⟩ : ∃ z9 : mw_M, z9 = M9 := ⟨_, rfl⟩
              rw [← hM_15] at hP hRn hkn
              have hk := md_keeps.tr hk hkn
              obtain ⟨np16, bg16, g16, hT, hB⟩ := id hRn
              rw [sN_push] at hT
              have hT : md_at G o A M_15 th (sSp S) (sSh S) (nI (sN S + 1)) (nI np16) z g16 := hT
              refine W.eq (g2 := F0 m 146 ls []) rfl ?_
              refine lv_iload hx hb dX4_signBy_146 (lv_at hl 3 rfl) ?_
              have e_u : fs_tp S (sF S k) N = (fs_puo S (fs_puo S (fs_puo S (fs_puo S (fs_puo S ([], 0, 0) (sF S k).2.2.2.1 1) (sF S k).2.2.2.2 N) (sF S k).2.2.1 1) (sF S k).2.2.2.2 N) (sF S k).2.1 1) := by rw [fs_tp, if_neg c_8]
              have e_t : fs_tg S (sF S k) least = fs_pb (fs_puo S (fs_puo S (fs_puo S (fs_puo S (fs_puo S ([], 0, 0) (sF S k).2.2.2.1 1) (sF S k).2.2.2.2 N) (sF S k).2.2.1 1) (sF S k).2.2.2.2 N) (sF S k).2.1 1) := by rw [← e_u, hN]; rfl
              exact mx_iret (v := (nI (sN S))) (M' := M_15) hx hb hr hlocks hP hS ⟨by rw [kt_y, if_pos hrd], by rw [kt_S, if_pos hrd, e_t]; exact (md_R.of (np := np16) hT hB : md_R G o A M_15 th z (fs_push S (fs_pb (fs_puo S (fs_puo S (fs_puo S (fs_puo S (fs_puo S ([], 0, 0) (sF S k).2.2.2.1 1) (sF S k).2.2.2.2 N) (sF S k).2.2.1 1) (sF S k).2.2.2.2 N) (sF S k).2.1 1)))), hk⟩ dX4_signBy_148 (Nat.le_of_ble_eq_true rfl) (Nat.le_of_ble_eq_true rfl)
            | succ n ih =>
              intro j hj M1 hR1 hk H locs ls hP hS hl
              have hK7 : ¬ nI N ≤ nI j := nI_ge (by omega) (by omega)
              obtain ⟨np17, bg17, g17, hT, hB⟩ := id hR1
              rw [sN_push] at hT
              have hT : md_at G o A M1 th (sSp S) (sSh S) (nI (sN S + 1)) (nI np17) z g17 := hT
              refine lv_iload hx hb dX4_signBy_107 (lv_at hl 4 rfl) ?_
              refine lv_iload hx hb dX4_signBy_109 (lv_at hl 2 rfl) ?_
              refine lv_icmp_ge (tgt := 134) hx hb dX4_signBy_111 (by decide) (fun c_18 => absurd c_18 hK7) (fun c_18 => ?_)
              refine lv_aload_n hx hb dX4_signBy_114 rfl (lv_at hl 0 rfl) ?_
              refine lv_aload_n hx hb dX4_signBy_115 rfl (lv_at hl 0 rfl) ?_
              refine mw_get (D := gD G) (ci := 4) (v := .ref (A 14)) (C := RX4) (T := TX4) (N := 21) hx hb htb inX4 hown hK hP hT.1 rfl 19 (by decide) (htb _ wd543) (fun _ h9 => h9) rfl dX4_signBy_116 ?_
              refine lv_iconst (v := 4) hx hb dX4_signBy_119 (by decide) ?_
              refine lv_iload_n hx hb dX4_signBy_120 rfl (lv_at hl 1 rfl) ?_
              refine lv_imul hx hb dX4_signBy_121 ?_
              refine lv_iconst (v := 3) hx hb dX4_signBy_122 (by decide) ?_
              refine lv_iadd hx hb dX4_signBy_123 ?_
              refine mw_iald hx hb hK hP 0 (show M1 (A 14) = some (.inl (gI G, 32, .inl (g17 14))) from hT.2.1 14 (by decide)) rfl (by rw [e_43]; exact vp_in_nI (show (4 * k + 3) < 32 by omega) (by decide)) dX4_signBy_124 ?_
              refine W.eq (g2 := F0 m 125 ls [.int (sF S k).2.2.2.2, .ref o]) (by rw [e_43, nI_clamp (show (4 * k + 3) < 2 ^ 31 by omega), show g17 14 (4 * k + 3) = (sF S k).2.2.2.2 from (hB.pcs hk8 hrep).2.2.2]) ?_
              refine mw_callV (C := RX4) (As := [.int (sF S k).2.2.2.2]) (rest := []) hx hb hml hown hl (kX4_pile l htr G H.size M1 o A th z S (fs_puo S (fs_puo S (fs_puo S (fs_puo S ([], 0, 0) (sF S k).2.2.2.1 1) (sF S k).2.2.2.2 N) (sF S k).2.2.1 1) (sF S k).2.2.2.2 j) (md_R.of (np := np17) hT hB : md_R G o A M1 th z (fs_push S (fs_pb (fs_puo S (fs_puo S (fs_puo S (fs_puo S ([], 0, 0) (sF S k).2.2.2.1 1) (sF S k).2.2.2.2 N) (sF S k).2.2.1 1) (sF S k).2.2.2.2 j)))) (by simp only [fs_puo_len, if_neg hrep, List.length_nil]; have := fs_le1 (sF S k).2.1; have := fs_le1 (sF S k).2.2.1; have := fs_le1 (sF S k).2.2.2.1; omega) ((sF S k).2.2.2.2) o6) (g_B (n := 1) htb wd657 wd3 wd654 (by decide +kernel) ⟨Nat.le_of_ble_eq_true rfl, Nat.le_of_ble_eq_true rfl⟩) (htb _ wd656) (htb _ ws33) hE hP hS hT.1 rfl rfl rfl (Nat.le_of_ble_eq_true rfl) dX4_signBy_125 ⟨Nat.le_of_ble_eq_true rfl, Nat.le_of_ble_eq_true rfl⟩ (fun v9 M9 H locs hpo hP hz hS => ?_) (fun x9 E9 cell9 H9 locs9 hE9 => hE9.elim)
              obtain ⟨rfl, hRn, hkn⟩ := hpo
              obtain ⟨M_19, hM_19⟩ : ∃ z9 : mw_M, z9 = M9 := ⟨_, rfl⟩
              rw [← hM_19] at hP hRn hkn
              have hk := md_keeps.tr hk hkn
              obtain ⟨np20, bg20, g20, hT, hB⟩ := id hRn
              rw [sN_push] at hT
              have hT : md_at G o A M_19 th (sSp S) (sSh S) (nI (sN S + 1)) (nI np20) z g20 := hT
              refine W.eq (g2 := F0 m 128 ls []) rfl ?_
              obtain ⟨v_21, ev_21⟩ : ∃ y : Int32, y = (nI j) + 1 := ⟨_, rfl⟩
              refine lv_iinc (v := v_21) (lv' := [(6, .int v_21), (0, .ref o), (1, .int (nI k)), (4, .int (nI N)), (5, .int (nI (sN S)))]) hx hb dX4_signBy_128 hl (k := 4) rfl (by rw [ev_21]; rfl) (by decide) rfl (fun ls hl => ?_)
              refine lv_goto (tgt := 107) hx hb dX4_signBy_131 (by decide) ?_
              obtain rfl : v_21 = nI (j + 1) := by rw [ev_21]; exact nI_1 j
              refine W.widen (k := 0) (n := 0) (Nat.le_of_ble_eq_true rfl) (Nat.le_of_ble_eq_true rfl) ?_
              exact ih (j + 1) (by omega) M_19 (by rw [puo_succ hrep]; exact (md_R.of (np := np20) hT hB : md_R G o A M_19 th z (fs_push S (fs_pb (fs_puo S (fs_puo S (fs_puo S (fs_puo S (fs_puo S ([], 0, 0) (sF S k).2.2.2.1 1) (sF S k).2.2.2.2 N) (sF S k).2.2.1 1) (sF S k).2.2.2.2 j) (sF S k).2.2.2.2 1))))) hk H locs ls hP hS (lv_sub hl [1, 2, 3, 4, 0] rfl)
          exact loop107 N 0 (by omega) M_11 (by rw [puo_zero hrep]; exact (md_R.of (np := np12) hT hB : md_R G o A M_11 th z (fs_push S (fs_pb (fs_puo S (fs_puo S (fs_puo S ([], 0, 0) (sF S k).2.2.2.1 1) (sF S k).2.2.2.2 N) (sF S k).2.2.1 1))))) hk _ _ _ hP hS (lv_sub hl [1, 2, 3, 4, 0] rfl)
      | succ n ih =>
        intro j hj M1 hR1 hk H locs ls hP hS hl
        have hK7 : ¬ nI N ≤ nI j := nI_ge (by omega) (by omega)
        obtain ⟨np22, bg22, g22, hT, hB⟩ := id hR1
        rw [sN_push] at hT
        have hT : md_at G o A M1 th (sSp S) (sSh S) (nI (sN S + 1)) (nI np22) z g22 := hT
        refine lv_iload hx hb dX4_signBy_49 (lv_at hl 4 rfl) ?_
        refine lv_iload hx hb dX4_signBy_51 (lv_at hl 2 rfl) ?_
        refine lv_icmp_ge (tgt := 76) hx hb dX4_signBy_53 (by decide) (fun c_23 => absurd c_23 hK7) (fun c_23 => ?_)
        refine lv_aload_n hx hb dX4_signBy_56 rfl (lv_at hl 0 rfl) ?_
        refine lv_aload_n hx hb dX4_signBy_57 rfl (lv_at hl 0 rfl) ?_
        refine mw_get (D := gD G) (ci := 4) (v := .ref (A 14)) (C := RX4) (T := TX4) (N := 21) hx hb htb inX4 hown hK hP hT.1 rfl 19 (by decide) (htb _ wd543) (fun _ h9 => h9) rfl dX4_signBy_58 ?_
        refine lv_iconst (v := 4) hx hb dX4_signBy_61 (by decide) ?_
        refine lv_iload_n hx hb dX4_signBy_62 rfl (lv_at hl 1 rfl) ?_
        refine lv_imul hx hb dX4_signBy_63 ?_
        refine lv_iconst (v := 3) hx hb dX4_signBy_64 (by decide) ?_
        refine lv_iadd hx hb dX4_signBy_65 ?_
        refine mw_iald hx hb hK hP 0 (show M1 (A 14) = some (.inl (gI G, 32, .inl (g22 14))) from hT.2.1 14 (by decide)) rfl (by rw [e_43]; exact vp_in_nI (show (4 * k + 3) < 32 by omega) (by decide)) dX4_signBy_66 ?_
        refine W.eq (g2 := F0 m 67 ls [.int (sF S k).2.2.2.2, .ref o]) (by rw [e_43, nI_clamp (show (4 * k + 3) < 2 ^ 31 by omega), show g22 14 (4 * k + 3) = (sF S k).2.2.2.2 from (hB.pcs hk8 hrep).2.2.2]) ?_
        refine mw_callV (C := RX4) (As := [.int (sF S k).2.2.2.2]) (rest := []) hx hb hml hown hl (kX4_pile l htr G H.size M1 o A th z S (fs_puo S (fs_puo S ([], 0, 0) (sF S k).2.2.2.1 1) (sF S k).2.2.2.2 j) (md_R.of (np := np22) hT hB : md_R G o A M1 th z (fs_push S (fs_pb (fs_puo S (fs_puo S ([], 0, 0) (sF S k).2.2.2.1 1) (sF S k).2.2.2.2 j)))) (by simp only [fs_puo_len, if_neg hrep, List.length_nil]; have := fs_le1 (sF S k).2.1; have := fs_le1 (sF S k).2.2.1; have := fs_le1 (sF S k).2.2.2.1; omega) ((sF S k).2.2.2.2) o6) (g_B (n := 1) htb wd657 wd3 wd654 (by decide +kernel) ⟨Nat.le_of_ble_eq_true rfl, Nat.le_of_ble_eq_true rfl⟩) (htb _ wd656) (htb _ ws33) hE hP hS hT.1 rfl rfl rfl (Nat.le_of_ble_eq_true rfl) dX4_signBy_67 ⟨Nat.le_of_ble_eq_true rfl, Nat.le_of_ble_eq_true rfl⟩ (fun v9 M9 H locs hpo hP hz hS => ?_) (fun x9 E9 cell9 H9 locs9 hE9 => hE9.elim)
        obtain ⟨rfl, hRn, hkn⟩ := hpo
        obtain ⟨M_24, hM_24⟩ : ∃ z9 : mw_M, z9 = M9 := ⟨_, rfl⟩
        rw [← hM_24] at hP hRn hkn
        have hk := md_keeps.tr hk hkn
        obtain ⟨np25, bg25, g25, hT, hB⟩ := id hRn
        rw [sN_push] at hT
        have hT : md_at G o A M_24 th (sSp S) (sSh S) (nI (sN S + 1)) (nI np25) z g25 := hT
        refine W.eq (g2 := F0 m 70 ls []) rfl ?_
        obtain ⟨v_26, ev_26⟩ : ∃ y : Int32, y = (nI j) + 1 := ⟨_, rfl⟩
        refine lv_iinc (v := v_26) (lv' := [(6, .int v_26), (0, .ref o), (1, .int (nI k)), (4, .int (nI N)), (5, .int (nI (sN S)))]) hx hb dX4_signBy_70 hl (k := 4) rfl (by rw [ev_26]; rfl) (by decide) rfl (fun ls hl => ?_)
        refine lv_goto (tgt := 49) hx hb dX4_signBy_73 (by decide) ?_
        obtain rfl : v_26 = nI (j + 1) := by rw [ev_26]; exact nI_1 j
        refine W.widen (k := 0) (n := 0) (Nat.le_of_ble_eq_true rfl) (Nat.le_of_ble_eq_true rfl) ?_
        exact ih (j + 1) (by omega) M_24 (by rw [puo_succ hrep]; exact (md_R.of (np := np25) hT hB : md_R G o A M_24 th z (fs_push S (fs_pb (fs_puo S (fs_puo S (fs_puo S ([], 0, 0) (sF S k).2.2.2.1 1) (sF S k).2.2.2.2 j) (sF S k).2.2.2.2 1))))) hk H locs ls hP hS (lv_sub hl [1, 2, 3, 4, 0] rfl)
    exact loop49 N 0 (by omega) M_4 (by rw [puo_zero hrep]; exact (md_R.of (np := np5) hT hB : md_R G o A M_4 th z (fs_push S (fs_pb (fs_puo S ([], 0, 0) (sF S k).2.2.2.1 1))))) hk _ _ _ hP hS (lv_sub hl [4, 5, 2, 1, 0] rfl)
  · obtain ⟨hrd, hrn⟩ := pl_n3 hle o1 o2 hG c_1
    refine lv_iload_n hx hb dX4_signBy_13 rfl (lv_at hl 0 rfl) ?_
    exact mx_iret (v := (md_pl S (sF S k) least)) (M' := M) hx hb hr hlocks hP hS ⟨by rw [kt_y, if_neg hrn, hrd], by rw [kt_S, if_neg hrn]; exact hR, hk⟩ dX4_signBy_14 (Nat.le_of_ble_eq_true rfl) (Nat.le_of_ble_eq_true rfl)
