/-! printed by wip/whole/spec*.py -/
-- X4_plan
set_option maxHeartbeats 4000000 in
set_option maxRecDepth 100000 in
theorem kX4_plan (l : Launch) (htr : l.stackTraces = false) (G : gx_G) (sz : Nat) (M : mw_M) (o : Nat) (A : Nat → Nat) (th z : Int32) (S : fs_S) (hR : md_R G o A M th z S) (hok : fs_ok S) (k : Nat) (hk8 : k < 8) (least : Int32) : g_Met l G yX4_plan (.code yX4_plan cX4_plan 4 (some .int)) ({ frames := 2, cells := 0, slots := 0, locals := 100 } : Room) sz M [.ref o, .int (nI k), .int least] (fun v M9 => v = some (.int (md_pl S (sF S k) least)) ∧ M = M9) (fun _ => False) := by
  refine MetE.ofW (cc := cX4_plan) (maxL := 4) (ret := (some .int)) (by decide) rfl ?_
  intro p e s m args below meth c s₁ B hml hv
  obtain ⟨rfl, hsz, hP, hE⟩ := hv
  have hx := B.exec
  have hb := B.bytes
  have hr := B.returns
  have hts := atoms_spec (ws := _ :: lw_big) B.pre
  have htb : ∀ w ∈ lw_big, w.before _ s = true := fun w h => hts w (List.mem_cons_of_mem _ h)
  have hno := B.noHandlers (hts _ List.mem_cons_self)
  have hown : s.vm.findClass RX4 = some m.cls := findClass_of_methodNamed B.named
  have hlocks := B.notSynchronized
  have hK := hE.1
  subst hsz
  have hS : va_S (gA G) s.heap s.heap [] := va_S.rf
  have hl := lv_entry ([.ref o, .int (nI k), .int least]) (n := 4) (Nat.le_of_ble_eq_true rfl)
  rw [lg_entry_eq]
  generalize (lg_sl ([.ref o, .int (nI k), .int least]) ++ List.replicate (4 - (lg_sl ([.ref o, .int (nI k), .int least])).length) Slot.unset).toArray = ls at hl ⊢
  have hl : lv_has ls 4 [(0, .ref o), (1, .int (nI k)), (2, .int least)] := hl
  obtain ⟨np, bg, g, hT, hB⟩ := id hR
  have hk : md_keeps o A M M := md_keeps.rf o A M
  have hle : sN S ≤ 120 := hB.1
  obtain ⟨o1, o2, o3⟩ := hok.2.2 k hk8
  have e_4 : 4 * nI k = nI (4 * k) := pk_mul 4 k
  have e_41 : 4 * nI k + 1 = nI (4 * k + 1) := by rw [e_4]; exact nI_add _ 1
  have e_42 : 4 * nI k + 2 = nI (4 * k + 2) := by rw [e_4]; exact nI_add _ 2
  have e_43 : 4 * nI k + 3 = nI (4 * k + 3) := by rw [e_4]; exact nI_add _ 3
  refine lv_iconst (v := 0) hx hb dX4_plan_0 (by decide) ?_
  refine lv_istore_n (lv' := [(3, .int 0), (0, .ref o), (1, .int (nI k)), (2, .int least)]) hx hb dX4_plan_1 rfl hl (by decide) rfl (fun ls hl => ?_)
  have loop : ∀ (n j : Nat), j + n = (sF S k).1.length → (sF S k).1.find? (fs_hi S least) = ((sF S k).1.drop j).find? (fs_hi S least) → ∀ (H : Heap) (locs : List Loc) (ls : Array Slot), mw_P (gD G) gx_cl M H → va_S (gA G) s.heap H locs → lv_has ls 4 [(0, .ref o), (1, .int (nI k)), (2, .int least), (3, .int (nI j))] → W p l e (headSpec (Cond.code yX4_plan cX4_plan 4 (some .int) :: lw_big) ({ frames := 2, cells := 0, slots := 0, locals := 100 } : Room)).room s m ([.ref o, .int (nI k), .int least] : List Value).toArray below meth c H locs 0 0 (mx_Q below (mw_Qx (gD G) gx_cl M (fun v M9 => v = some (.int (md_pl S (sF S k) least)) ∧ M = M9) (fun _ => False) (gA G)) ([.ref o, .int (nI k), .int least] : List Value).toArray s ({ frames := 2, cells := 0, slots := 0, locals := 100 } : Room).cells ({ frames := 2, cells := 0, slots := 0, locals := 100 } : Room).slots (gA G)) (F0 m 2 ls []) := by
    intro n
    induction n with
    | zero =>
      intro j hj hfi H locs ls hP hS hl
      have hK7 : nI (sF S k).1.length ≤ nI j := nI_le (by omega) (by omega)
      have hfn : (sF S k).1.find? (fs_hi S least) = none := by rw [hfi, List.drop_eq_nil_of_le (by omega)]; rfl
      refine lv_iload_n hx hb dX4_plan_2 rfl (lv_at hl 3 rfl) ?_
      refine lv_aload_n hx hb dX4_plan_3 rfl (lv_at hl 0 rfl) ?_
      refine mw_get (D := gD G) (ci := 4) (v := .ref (A 11)) (C := RX4) (T := TX4) (N := 21) hx hb htb inX4 hown hK hP hT.1 rfl 16 (by decide) (htb _ wd540) (fun _ h9 => h9) rfl dX4_plan_4 ?_
      refine lv_iload_n hx hb dX4_plan_7 rfl (lv_at hl 1 rfl) ?_
      refine mw_iald hx hb hK hP 0 (show M (A 11) = some (.inl (gI G, 8, .inl (g 11))) from hT.2.1 11 (by decide)) rfl (by exact vp_in_nI (show k < 8 by omega) (by decide)) dX4_plan_8 ?_
      refine W.eq (g2 := F0 m 9 ls [.int (nI (sF S k).1.length), .int (nI j)]) (by rw [nI_clamp (show k < 2 ^ 31 by omega), hB.signs hk8]) ?_
      refine lv_icmp_ge (tgt := 47) hx hb dX4_plan_9 (by decide) (fun c_1 => ?_) (fun c_1 => absurd hK7 c_1)
      refine lv_aload_n hx hb dX4_plan_47 rfl (lv_at hl 0 rfl) ?_
      refine mw_get (D := gD G) (ci := 4) (v := .ref (A 13)) (C := RX4) (T := TX4) (N := 21) hx hb htb inX4 hown hK hP hT.1 rfl 18 (by decide) (htb _ wd542) (fun _ h9 => h9) rfl dX4_plan_48 ?_
      refine lv_iload_n hx hb dX4_plan_51 rfl (lv_at hl 1 rfl) ?_
      refine mw_zald hx hb hK hP 4 (show M (A 13) = some (.inl (gZ G, 8, .inl (g 13))) from hT.2.1 13 (by decide)) rfl (by exact vp_in_nI (show k < 8 by omega) (by decide)) dX4_plan_52 ?_
      refine W.eq (g2 := F0 m 53 ls [.int (bI (¬ (sF S k).2.2.2.2 = (-1)))]) (by rw [nI_clamp (show k < 2 ^ 31 by omega), hB.hasP hk8]) ?_
      refine lv_if_eq (tgt := 61) hx hb dX4_plan_53 (by decide) (fun c_2 => ?_) (fun c_2 => ?_)
      · have kb_3 : ¬ (¬ (sF S k).2.2.2.2 = (-1)) := bI_f c_2
        refine lv_aload_n hx hb dX4_plan_61 rfl (lv_at hl 0 rfl) ?_
        refine mw_get (D := gD G) (ci := 4) (v := .ref (A 11)) (C := RX4) (T := TX4) (N := 21) hx hb htb inX4 hown hK hP hT.1 rfl 16 (by decide) (htb _ wd540) (fun _ h9 => h9) rfl dX4_plan_62 ?_
        refine lv_iload_n hx hb dX4_plan_65 rfl (lv_at hl 1 rfl) ?_
        refine mw_iald hx hb hK hP 0 (show M (A 11) = some (.inl (gI G, 8, .inl (g 11))) from hT.2.1 11 (by decide)) rfl (by exact vp_in_nI (show k < 8 by omega) (by decide)) dX4_plan_66 ?_
        refine W.eq (g2 := F0 m 67 ls [.int (nI (sF S k).1.length)]) (by rw [nI_clamp (show k < 2 ^ 31 by omega), hB.signs hk8]) ?_
        refine lv_if_ne (tgt := 75) hx hb dX4_plan_67 (by decide) (fun c_4 => ?_) (fun c_4 => ?_)
        · have hl0 : 0 < (sF S k).1.length := by
            rcases Nat.eq_zero_or_pos (sF S k).1.length with q | q
            · exact absurd (by rw [q]; rfl) c_4
            · exact q
          have e_l1 : 4 * nI k + nI (sF S k).1.length - 1 = nI (4 * k + ((sF S k).1.length - 1)) := by rw [e_4, nI_add, show (1 : Int32) = nI 1 from rfl, pk_sub (by omega)]; congr 1; omega
          refine lv_aload_n hx hb dX4_plan_75 rfl (lv_at hl 0 rfl) ?_
          refine mw_get (D := gD G) (ci := 4) (v := .ref (A 12)) (C := RX4) (T := TX4) (N := 21) hx hb htb inX4 hown hK hP hT.1 rfl 17 (by decide) (htb _ wd541) (fun _ h9 => h9) rfl dX4_plan_76 ?_
          refine lv_iconst (v := 4) hx hb dX4_plan_79 (by decide) ?_
          refine lv_iload_n hx hb dX4_plan_80 rfl (lv_at hl 1 rfl) ?_
          refine lv_imul hx hb dX4_plan_81 ?_
          refine lv_aload_n hx hb dX4_plan_82 rfl (lv_at hl 0 rfl) ?_
          refine mw_get (D := gD G) (ci := 4) (v := .ref (A 11)) (C := RX4) (T := TX4) (N := 21) hx hb htb inX4 hown hK hP hT.1 rfl 16 (by decide) (htb _ wd540) (fun _ h9 => h9) rfl dX4_plan_83 ?_
          refine lv_iload_n hx hb dX4_plan_86 rfl (lv_at hl 1 rfl) ?_
          refine mw_iald hx hb hK hP 0 (show M (A 11) = some (.inl (gI G, 8, .inl (g 11))) from hT.2.1 11 (by decide)) rfl (by exact vp_in_nI (show k < 8 by omega) (by decide)) dX4_plan_87 ?_
          refine W.eq (g2 := F0 m 88 ls [.int (nI (sF S k).1.length), .int (4 * (nI k)), .ref (A 12)]) (by rw [nI_clamp (show k < 2 ^ 31 by omega), hB.signs hk8]) ?_
          refine lv_iadd hx hb dX4_plan_88 ?_
          refine lv_iconst (v := 1) hx hb dX4_plan_89 (by decide) ?_
          refine lv_isub hx hb dX4_plan_90 ?_
          refine mw_iald hx hb hK hP 0 (show M (A 12) = some (.inl (gI G, 32, .inl (g 12))) from hT.2.1 12 (by decide)) rfl (by rw [e_l1]; exact vp_in_nI (show (4 * k + ((sF S k).1.length - 1)) < 32 by omega) (by decide)) dX4_plan_91 ?_
          refine W.eq (g2 := F0 m 92 ls [.int ((sF S k).1.getD ((sF S k).1.length - 1) 0)]) (by rw [e_l1, nI_clamp (show (4 * k + ((sF S k).1.length - 1)) < 2 ^ 31 by omega), hB.mem hk8 (show (sF S k).1.length - 1 < (sF S k).1.length by omega)]) ?_
          exact mx_iret (v := ((sF S k).1.getD ((sF S k).1.length - 1) 0)) (M' := M) hx hb hr hlocks hP hS ⟨by simp only [md_pl, hfn]; rw [if_neg kb_3, if_neg c_4], rfl⟩ dX4_plan_92 (Nat.le_of_ble_eq_true rfl) (Nat.le_of_ble_eq_true rfl)
        · refine lv_bipush (v := (-2)) hx hb dX4_plan_70 (by decide) ?_
          refine lv_goto (tgt := 92) hx hb dX4_plan_72 (by decide) ?_
          exact mx_iret (v := (-2)) (M' := M) hx hb hr hlocks hP hS ⟨by simp only [md_pl, hfn]; rw [if_neg kb_3, if_pos c_4], rfl⟩ dX4_plan_92 (Nat.le_of_ble_eq_true rfl) (Nat.le_of_ble_eq_true rfl)
      · have kb_5 : ¬ (sF S k).2.2.2.2 = (-1) := bI_t c_2
        refine lv_bipush (v := (-3)) hx hb dX4_plan_56 (by decide) ?_
        refine lv_goto (tgt := 92) hx hb dX4_plan_58 (by decide) ?_
        exact mx_iret (v := (-3)) (M' := M) hx hb hr hlocks hP hS ⟨by simp only [md_pl, hfn]; rw [if_pos kb_5], rfl⟩ dX4_plan_92 (Nat.le_of_ble_eq_true rfl) (Nat.le_of_ble_eq_true rfl)
    | succ n ih =>
      intro j hj hfi H locs ls hP hS hl
      have hK7 : ¬ nI (sF S k).1.length ≤ nI j := nI_ge (by omega) (by omega)
      have hin9 := o2 j (by omega)
      have e_4j : 4 * nI k + nI j = nI (4 * k + j) := by rw [e_4, nI_add]
      refine lv_iload_n hx hb dX4_plan_2 rfl (lv_at hl 3 rfl) ?_
      refine lv_aload_n hx hb dX4_plan_3 rfl (lv_at hl 0 rfl) ?_
      refine mw_get (D := gD G) (ci := 4) (v := .ref (A 11)) (C := RX4) (T := TX4) (N := 21) hx hb htb inX4 hown hK hP hT.1 rfl 16 (by decide) (htb _ wd540) (fun _ h9 => h9) rfl dX4_plan_4 ?_
      refine lv_iload_n hx hb dX4_plan_7 rfl (lv_at hl 1 rfl) ?_
      refine mw_iald hx hb hK hP 0 (show M (A 11) = some (.inl (gI G, 8, .inl (g 11))) from hT.2.1 11 (by decide)) rfl (by exact vp_in_nI (show k < 8 by omega) (by decide)) dX4_plan_8 ?_
      refine W.eq (g2 := F0 m 9 ls [.int (nI (sF S k).1.length), .int (nI j)]) (by rw [nI_clamp (show k < 2 ^ 31 by omega), hB.signs hk8]) ?_
      refine lv_icmp_ge (tgt := 47) hx hb dX4_plan_9 (by decide) (fun c_6 => absurd c_6 hK7) (fun c_6 => ?_)
      refine lv_aload_n hx hb dX4_plan_12 rfl (lv_at hl 0 rfl) ?_
      refine lv_aload_n hx hb dX4_plan_13 rfl (lv_at hl 0 rfl) ?_
      refine mw_get (D := gD G) (ci := 4) (v := .ref (A 12)) (C := RX4) (T := TX4) (N := 21) hx hb htb inX4 hown hK hP hT.1 rfl 17 (by decide) (htb _ wd541) (fun _ h9 => h9) rfl dX4_plan_14 ?_
      refine lv_iconst (v := 4) hx hb dX4_plan_17 (by decide) ?_
      refine lv_iload_n hx hb dX4_plan_18 rfl (lv_at hl 1 rfl) ?_
      refine lv_imul hx hb dX4_plan_19 ?_
      refine lv_iload_n hx hb dX4_plan_20 rfl (lv_at hl 3 rfl) ?_
      refine lv_iadd hx hb dX4_plan_21 ?_
      refine mw_iald hx hb hK hP 0 (show M (A 12) = some (.inl (gI G, 32, .inl (g 12))) from hT.2.1 12 (by decide)) rfl (by rw [e_4j]; exact vp_in_nI (show (4 * k + j) < 32 by omega) (by decide)) dX4_plan_22 ?_
      refine W.eq (g2 := F0 m 23 ls [.int ((sF S k).1.getD j 0), .ref o]) (by rw [e_4j, nI_clamp (show (4 * k + j) < 2 ^ 31 by omega), hB.mem hk8 (show j < (sF S k).1.length by omega)]) ?_
      refine mw_callV (C := RX4) (As := [.int ((sF S k).1.getD j 0)]) (rest := []) hx hb hml hown hl (kX4_tall l htr G H.size M o A th z S (⟨np, bg, g, hT, hB⟩ : md_R G o A M th z S) ((sF S k).1.getD j 0) (Or.inr hin9)) (g_B (n := 1) htb wd645 wd3 wd642 (by decide +kernel) ⟨Nat.le_of_ble_eq_true rfl, Nat.le_of_ble_eq_true rfl⟩) (htb _ wd644) (htb _ ws30) hE hP hS hT.1 rfl rfl rfl (Nat.le_of_ble_eq_true rfl) dX4_plan_23 ⟨Nat.le_of_ble_eq_true rfl, Nat.le_of_ble_eq_true rfl⟩ (fun v9 M9 H locs hpo hP hz hS => ?_) (fun x9 E9 cell9 H9 locs9 hE9 => hE9.elim)
      obtain ⟨rfl, rfl⟩ := hpo
      refine W.eq (g2 := F0 m 26 ls [.int (fEx S ((sF S k).1.getD j 0))]) rfl ?_
      refine lv_iload_n hx hb dX4_plan_26 rfl (lv_at hl 2 rfl) ?_
      refine lv_icmp_lt (tgt := 41) hx hb dX4_plan_27 (by decide) (fun c_7 => ?_) (fun c_7 => ?_)
      · obtain ⟨v_8, ev_8⟩ : ∃ y : Int32, y = (nI j) + 1 := ⟨_, rfl⟩
        refine lv_iinc (v := v_8) (lv' := [(3, .int v_8), (0, .ref o), (1, .int (nI k)), (2, .int least)]) hx hb dX4_plan_41 hl (k := 3) rfl (by rw [ev_8]; rfl) (by decide) rfl (fun ls hl => ?_)
        refine lv_goto (tgt := 2) hx hb dX4_plan_44 (by decide) ?_
        obtain rfl : v_8 = nI (j + 1) := by rw [ev_8]; exact nI_1 j
        refine W.widen (k := 0) (n := 0) (Nat.le_of_ble_eq_true rfl) (Nat.le_of_ble_eq_true rfl) ?_
        exact ih (j + 1) (by omega) (by rw [hfi, fs_drop (show j < (sF S k).1.length by omega), List.find?_cons, show fs_hi S least ((sF S k).1.getD j 0) = false from decide_eq_false (fun z9 => z9 c_7)]) H locs ls hP hS (lv_sub hl [1, 2, 3, 0] rfl)
      · refine lv_aload_n hx hb dX4_plan_30 rfl (lv_at hl 0 rfl) ?_
        refine mw_get (D := gD G) (ci := 4) (v := .ref (A 12)) (C := RX4) (T := TX4) (N := 21) hx hb htb inX4 hown hK hP hT.1 rfl 17 (by decide) (htb _ wd541) (fun _ h9 => h9) rfl dX4_plan_31 ?_
        refine lv_iconst (v := 4) hx hb dX4_plan_34 (by decide) ?_
        refine lv_iload_n hx hb dX4_plan_35 rfl (lv_at hl 1 rfl) ?_
        refine lv_imul hx hb dX4_plan_36 ?_
        refine lv_iload_n hx hb dX4_plan_37 rfl (lv_at hl 3 rfl) ?_
        refine lv_iadd hx hb dX4_plan_38 ?_
        refine mw_iald hx hb hK hP 0 (show M (A 12) = some (.inl (gI G, 32, .inl (g 12))) from hT.2.1 12 (by decide)) rfl (by rw [e_4j]; exact vp_in_nI (show (4 * k + j) < 32 by omega) (by decide)) dX4_plan_39 ?_
        refine W.eq (g2 := F0 m 40 ls [.int ((sF S k).1.getD j 0)]) (by rw [e_4j, nI_clamp (show (4 * k + j) < 2 ^ 31 by omega), hB.mem hk8 (show j < (sF S k).1.length by omega)]) ?_
        exact mx_iret (v := ((sF S k).1.getD j 0)) (M' := M) hx hb hr hlocks hP hS ⟨by rw [md_pl, hfi, fs_drop (show j < (sF S k).1.length by omega), List.find?_cons, show fs_hi S least ((sF S k).1.getD j 0) = true from by simp only [fs_hi, decide_eq_true_eq]; exact c_7], rfl⟩ dX4_plan_40 (Nat.le_of_ble_eq_true rfl) (Nat.le_of_ble_eq_true rfl)
  exact loop (sF S k).1.length 0 (by omega) (by rw [List.drop_zero]) _ _ _ hP hS (lv_sub hl [1, 2, 3, 0] rfl)
-- X4_repeats
set_option maxHeartbeats 4000000 in
set_option maxRecDepth 100000 in
theorem kX4_repeats (l : Launch) (htr : l.stackTraces = false) (G : gx_G) (sz : Nat) (M : mw_M) (o : Nat) (A : Nat → Nat) (th z : Int32) (S : fs_S) (hR : md_R G o A M th z S) (hok : fs_ok S) (k : Nat) (hk8 : k < 8) (hrep : ¬ (sF S k).2.2.2.2 = (-1)) (least : Int32) : g_Met l G yX4_repeats (.code yX4_repeats cX4_repeats 6 (some .int)) ({ frames := 2, cells := 0, slots := 0, locals := 100 } : Room) sz M [.ref o, .int (nI k), .int least] (fun v M9 => v = some (.int (nI (fs_tn S (sF S k) least))) ∧ M = M9) (fun _ => False) := by
  refine MetE.ofW (cc := cX4_repeats) (maxL := 6) (ret := (some .int)) (by decide) rfl ?_
  intro p e s m args below meth c s₁ B hml hv
  obtain ⟨rfl, hsz, hP, hE⟩ := hv
  have hx := B.exec
  have hb := B.bytes
  have hr := B.returns
  have hts := atoms_spec (ws := _ :: lw_big) B.pre
  have htb : ∀ w ∈ lw_big, w.before _ s = true := fun w h => hts w (List.mem_cons_of_mem _ h)
  have hno := B.noHandlers (hts _ List.mem_cons_self)
  have hown : s.vm.findClass RX4 = some m.cls := findClass_of_methodNamed B.named
  have hlocks := B.notSynchronized
  have hK := hE.1
  subst hsz
  have hS : va_S (gA G) s.heap s.heap [] := va_S.rf
  have hl := lv_entry ([.ref o, .int (nI k), .int least]) (n := 6) (Nat.le_of_ble_eq_true rfl)
  rw [lg_entry_eq]
  generalize (lg_sl ([.ref o, .int (nI k), .int least]) ++ List.replicate (6 - (lg_sl ([.ref o, .int (nI k), .int least])).length) Slot.unset).toArray = ls at hl ⊢
  have hl : lv_has ls 6 [(0, .ref o), (1, .int (nI k)), (2, .int least)] := hl
  obtain ⟨np, bg, g, hT, hB⟩ := id hR
  have hk : md_keeps o A M M := md_keeps.rf o A M
  have hle : sN S ≤ 120 := hB.1
  obtain ⟨o1, o2, o3, o4, o5, o6⟩ := hok.2.2 k hk8
  have e_4 : 4 * nI k = nI (4 * k) := pk_mul 4 k
  have e_41 : 4 * nI k + 1 = nI (4 * k + 1) := by rw [e_4]; exact nI_add _ 1
  have e_42 : 4 * nI k + 2 = nI (4 * k + 2) := by rw [e_4]; exact nI_add _ 2
  have e_43 : 4 * nI k + 3 = nI (4 * k + 3) := by rw [e_4]; exact nI_add _ 3
  refine lv_aload_n hx hb dX4_repeats_0 rfl (lv_at hl 0 rfl) ?_
  refine lv_aload_n hx hb dX4_repeats_1 rfl (lv_at hl 0 rfl) ?_
  refine mw_get (D := gD G) (ci := 4) (v := .ref (A 14)) (C := RX4) (T := TX4) (N := 21) hx hb htb inX4 hown hK hP hT.1 rfl 19 (by decide) (htb _ wd543) (fun _ h9 => h9) rfl dX4_repeats_2 ?_
  refine lv_iconst (v := 4) hx hb dX4_repeats_5 (by decide) ?_
  refine lv_iload_n hx hb dX4_repeats_6 rfl (lv_at hl 1 rfl) ?_
  refine lv_imul hx hb dX4_repeats_7 ?_
  refine mw_iald hx hb hK hP 0 (show M (A 14) = some (.inl (gI G, 32, .inl (g 14))) from hT.2.1 14 (by decide)) rfl (by rw [e_4]; exact vp_in_nI (show (4 * k) < 32 by omega) (by decide)) dX4_repeats_8 ?_
  refine W.eq (g2 := F0 m 9 ls [.int (sF S k).2.1, .ref o]) (by rw [e_4, nI_clamp (show (4 * k) < 2 ^ 31 by omega), show g 14 (4 * k) = (sF S k).2.1 from (hB.pcs hk8 hrep).1]) ?_
  refine mw_callV (C := RX4) (As := [.int (sF S k).2.1]) (rest := []) hx hb hml hown hl (kX4_tall l htr G s.heap.size M o A th z S (⟨np, bg, g, hT, hB⟩ : md_R G o A M th z S) ((sF S k).2.1) o3) (g_B (n := 1) htb wd645 wd3 wd642 (by decide +kernel) ⟨Nat.le_of_ble_eq_true rfl, Nat.le_of_ble_eq_true rfl⟩) (htb _ wd644) (htb _ ws30) hE hP hS hT.1 rfl rfl rfl (Nat.le_of_ble_eq_true rfl) dX4_repeats_9 ⟨Nat.le_of_ble_eq_true rfl, Nat.le_of_ble_eq_true rfl⟩ (fun v9 M9 H locs hpo hP hz hS => ?_) (fun x9 E9 cell9 H9 locs9 hE9 => hE9.elim)
  obtain ⟨rfl, rfl⟩ := hpo
  refine W.eq (g2 := F0 m 12 ls [.int (fEx S ((sF S k).2.1))]) rfl ?_
  refine lv_aload_n hx hb dX4_repeats_12 rfl (lv_at hl 0 rfl) ?_
  refine lv_aload_n hx hb dX4_repeats_13 rfl (lv_at hl 0 rfl) ?_
  refine mw_get (D := gD G) (ci := 4) (v := .ref (A 14)) (C := RX4) (T := TX4) (N := 21) hx hb htb inX4 hown hK hP hT.1 rfl 19 (by decide) (htb _ wd543) (fun _ h9 => h9) rfl dX4_repeats_14 ?_
  refine lv_iconst (v := 4) hx hb dX4_repeats_17 (by decide) ?_
  refine lv_iload_n hx hb dX4_repeats_18 rfl (lv_at hl 1 rfl) ?_
  refine lv_imul hx hb dX4_repeats_19 ?_
  refine lv_iconst (v := 1) hx hb dX4_repeats_20 (by decide) ?_
  refine lv_iadd hx hb dX4_repeats_21 ?_
  refine mw_iald hx hb hK hP 0 (show M (A 14) = some (.inl (gI G, 32, .inl (g 14))) from hT.2.1 14 (by decide)) rfl (by rw [e_41]; exact vp_in_nI (show (4 * k + 1) < 32 by omega) (by decide)) dX4_repeats_22 ?_
  refine W.eq (g2 := F0 m 23 ls [.int (sF S k).2.2.1, .ref o, .int (fEx S ((sF S k).2.1))]) (by rw [e_41, nI_clamp (show (4 * k + 1) < 2 ^ 31 by omega), show g 14 (4 * k + 1) = (sF S k).2.2.1 from (hB.pcs hk8 hrep).2.1]) ?_
  refine mw_callV (C := RX4) (As := [.int (sF S k).2.2.1]) (rest := [.int (fEx S ((sF S k).2.1))]) hx hb hml hown hl (kX4_tall l htr G H.size M o A th z S (⟨np, bg, g, hT, hB⟩ : md_R G o A M th z S) ((sF S k).2.2.1) o4) (g_B (n := 1) htb wd645 wd3 wd642 (by decide +kernel) ⟨Nat.le_of_ble_eq_true rfl, Nat.le_of_ble_eq_true rfl⟩) (htb _ wd644) (htb _ ws30) hE hP hS hT.1 rfl rfl rfl (Nat.le_of_ble_eq_true rfl) dX4_repeats_23 ⟨Nat.le_of_ble_eq_true rfl, Nat.le_of_ble_eq_true rfl⟩ (fun v9 M9 H locs hpo hP hz hS => ?_) (fun x9 E9 cell9 H9 locs9 hE9 => hE9.elim)
  obtain ⟨rfl, rfl⟩ := hpo
  refine W.eq (g2 := F0 m 26 ls [.int (fEx S ((sF S k).2.2.1)), .int (fEx S ((sF S k).2.1))]) rfl ?_
  refine lv_iadd hx hb dX4_repeats_26 ?_
  refine lv_aload_n hx hb dX4_repeats_27 rfl (lv_at hl 0 rfl) ?_
  refine lv_aload_n hx hb dX4_repeats_28 rfl (lv_at hl 0 rfl) ?_
  refine mw_get (D := gD G) (ci := 4) (v := .ref (A 14)) (C := RX4) (T := TX4) (N := 21) hx hb htb inX4 hown hK hP hT.1 rfl 19 (by decide) (htb _ wd543) (fun _ h9 => h9) rfl dX4_repeats_29 ?_
  refine lv_iconst (v := 4) hx hb dX4_repeats_32 (by decide) ?_
  refine lv_iload_n hx hb dX4_repeats_33 rfl (lv_at hl 1 rfl) ?_
  refine lv_imul hx hb dX4_repeats_34 ?_
  refine lv_iconst (v := 2) hx hb dX4_repeats_35 (by decide) ?_
  refine lv_iadd hx hb dX4_repeats_36 ?_
  refine mw_iald hx hb hK hP 0 (show M (A 14) = some (.inl (gI G, 32, .inl (g 14))) from hT.2.1 14 (by decide)) rfl (by rw [e_42]; exact vp_in_nI (show (4 * k + 2) < 32 by omega) (by decide)) dX4_repeats_37 ?_
  refine W.eq (g2 := F0 m 38 ls [.int (sF S k).2.2.2.1, .ref o, .int ((fEx S ((sF S k).2.1)) + (fEx S ((sF S k).2.2.1)))]) (by rw [e_42, nI_clamp (show (4 * k + 2) < 2 ^ 31 by omega), show g 14 (4 * k + 2) = (sF S k).2.2.2.1 from (hB.pcs hk8 hrep).2.2.1]) ?_
  refine mw_callV (C := RX4) (As := [.int (sF S k).2.2.2.1]) (rest := [.int ((fEx S ((sF S k).2.1)) + (fEx S ((sF S k).2.2.1)))]) hx hb hml hown hl (kX4_tall l htr G H.size M o A th z S (⟨np, bg, g, hT, hB⟩ : md_R G o A M th z S) ((sF S k).2.2.2.1) o5) (g_B (n := 1) htb wd645 wd3 wd642 (by decide +kernel) ⟨Nat.le_of_ble_eq_true rfl, Nat.le_of_ble_eq_true rfl⟩) (htb _ wd644) (htb _ ws30) hE hP hS hT.1 rfl rfl rfl (Nat.le_of_ble_eq_true rfl) dX4_repeats_38 ⟨Nat.le_of_ble_eq_true rfl, Nat.le_of_ble_eq_true rfl⟩ (fun v9 M9 H locs hpo hP hz hS => ?_) (fun x9 E9 cell9 H9 locs9 hE9 => hE9.elim)
  obtain ⟨rfl, rfl⟩ := hpo
  refine W.eq (g2 := F0 m 41 ls [.int (fEx S ((sF S k).2.2.2.1)), .int ((fEx S ((sF S k).2.1)) + (fEx S ((sF S k).2.2.1)))]) rfl ?_
  refine lv_iadd hx hb dX4_repeats_41 ?_
  refine lv_istore_n (lv' := [(3, .int (((fEx S ((sF S k).2.1)) + (fEx S ((sF S k).2.2.1))) + (fEx S ((sF S k).2.2.2.1)))), (0, .ref o), (1, .int (nI k)), (2, .int least)]) hx hb dX4_repeats_42 rfl hl (by decide) rfl (fun ls hl => ?_)
  refine lv_aload_n hx hb dX4_repeats_43 rfl (lv_at hl 1 rfl) ?_
  refine lv_aload_n hx hb dX4_repeats_44 rfl (lv_at hl 1 rfl) ?_
  refine mw_get (D := gD G) (ci := 4) (v := .ref (A 14)) (C := RX4) (T := TX4) (N := 21) hx hb htb inX4 hown hK hP hT.1 rfl 19 (by decide) (htb _ wd543) (fun _ h9 => h9) rfl dX4_repeats_45 ?_
  refine lv_iconst (v := 4) hx hb dX4_repeats_48 (by decide) ?_
  refine lv_iload_n hx hb dX4_repeats_49 rfl (lv_at hl 2 rfl) ?_
  refine lv_imul hx hb dX4_repeats_50 ?_
  refine lv_iconst (v := 3) hx hb dX4_repeats_51 (by decide) ?_
  refine lv_iadd hx hb dX4_repeats_52 ?_
  refine mw_iald hx hb hK hP 0 (show M (A 14) = some (.inl (gI G, 32, .inl (g 14))) from hT.2.1 14 (by decide)) rfl (by rw [e_43]; exact vp_in_nI (show (4 * k + 3) < 32 by omega) (by decide)) dX4_repeats_53 ?_
  refine W.eq (g2 := F0 m 54 ls [.int (sF S k).2.2.2.2, .ref o]) (by rw [e_43, nI_clamp (show (4 * k + 3) < 2 ^ 31 by omega), show g 14 (4 * k + 3) = (sF S k).2.2.2.2 from (hB.pcs hk8 hrep).2.2.2]) ?_
  refine mw_callV (C := RX4) (As := [.int (sF S k).2.2.2.2]) (rest := []) hx hb hml hown hl (kX4_tall l htr G H.size M o A th z S (⟨np, bg, g, hT, hB⟩ : md_R G o A M th z S) ((sF S k).2.2.2.2) o6) (g_B (n := 1) htb wd645 wd3 wd642 (by decide +kernel) ⟨Nat.le_of_ble_eq_true rfl, Nat.le_of_ble_eq_true rfl⟩) (htb _ wd644) (htb _ ws30) hE hP hS hT.1 rfl rfl rfl (Nat.le_of_ble_eq_true rfl) dX4_repeats_54 ⟨Nat.le_of_ble_eq_true rfl, Nat.le_of_ble_eq_true rfl⟩ (fun v9 M9 H locs hpo hP hz hS => ?_) (fun x9 E9 cell9 H9 locs9 hE9 => hE9.elim)
  obtain ⟨rfl, rfl⟩ := hpo
  refine W.eq (g2 := F0 m 57 ls [.int (fEx S ((sF S k).2.2.2.2))]) rfl ?_
  refine lv_istore (lv' := [(4, .int (fEx S ((sF S k).2.2.2.2))), (3, .int (((fEx S ((sF S k).2.1)) + (fEx S ((sF S k).2.2.1))) + (fEx S ((sF S k).2.2.2.1)))), (0, .ref o), (1, .int (nI k)), (2, .int least)]) hx hb dX4_repeats_57 hl (by decide) rfl (fun ls hl => ?_)
  refine lv_aload_n hx hb dX4_repeats_59 rfl (lv_at hl 2 rfl) ?_
  refine mw_get (D := gD G) (ci := 4) (v := .ref (A 14)) (C := RX4) (T := TX4) (N := 21) hx hb htb inX4 hown hK hP hT.1 rfl 19 (by decide) (htb _ wd543) (fun _ h9 => h9) rfl dX4_repeats_60 ?_
  refine lv_iconst (v := 4) hx hb dX4_repeats_63 (by decide) ?_
  refine lv_iload_n hx hb dX4_repeats_64 rfl (lv_at hl 3 rfl) ?_
  refine lv_imul hx hb dX4_repeats_65 ?_
  refine lv_iconst (v := 1) hx hb dX4_repeats_66 (by decide) ?_
  refine lv_iadd hx hb dX4_repeats_67 ?_
  refine mw_iald hx hb hK hP 0 (show M (A 14) = some (.inl (gI G, 32, .inl (g 14))) from hT.2.1 14 (by decide)) rfl (by rw [e_41]; exact vp_in_nI (show (4 * k + 1) < 32 by omega) (by decide)) dX4_repeats_68 ?_
  refine W.eq (g2 := F0 m 69 ls [.int (sF S k).2.2.1]) (by rw [e_41, nI_clamp (show (4 * k + 1) < 2 ^ 31 by omega), show g 14 (4 * k + 1) = (sF S k).2.2.1 from (hB.pcs hk8 hrep).2.1]) ?_
  refine lv_iconst (v := (-1)) hx hb dX4_repeats_69 (by decide) ?_
  refine lv_icmp_ne (tgt := 78) hx hb dX4_repeats_70 (by decide) (fun c_1 => ?_) (fun c_1 => ?_)
  · refine lv_iconst (v := 2) hx hb dX4_repeats_78 (by decide) ?_
    refine lv_iload hx hb dX4_repeats_79 (lv_at hl 0 rfl) ?_
    refine lv_imul hx hb dX4_repeats_81 ?_
    refine lv_istore (lv' := [(4, .int (2 * (fEx S ((sF S k).2.2.2.2)))), (3, .int (((fEx S ((sF S k).2.1)) + (fEx S ((sF S k).2.2.1))) + (fEx S ((sF S k).2.2.2.1)))), (0, .ref o), (1, .int (nI k)), (2, .int least)]) hx hb dX4_repeats_82 hl (by decide) rfl (fun ls hl => ?_)
    refine lv_iconst (v := 0) hx hb dX4_repeats_84 (by decide) ?_
    refine lv_istore (lv' := [(5, .int 0), (4, .int (2 * (fEx S ((sF S k).2.2.2.2)))), (3, .int (((fEx S ((sF S k).2.1)) + (fEx S ((sF S k).2.2.1))) + (fEx S ((sF S k).2.2.2.1)))), (0, .ref o), (1, .int (nI k)), (2, .int least)]) hx hb dX4_repeats_85 hl (by decide) rfl (fun ls hl => ?_)
    have e_stp : fs_stp S (sF S k) = (2 * (fEx S ((sF S k).2.2.2.2))) := by rw [fs_stp, if_neg c_1]
    have loop : ∀ (n j : Nat) (sm : Int32), j + n = 60 → fs_tn S (sF S k) least = j + fs_rn least (2 * (fEx S ((sF S k).2.2.2.2))) n sm → ∀ (H : Heap) (locs : List Loc) (ls : Array Slot), mw_P (gD G) gx_cl M H → va_S (gA G) s.heap H locs → lv_has ls 6 [(0, .ref o), (1, .int (nI k)), (2, .int least), (3, .int sm), (4, .int (2 * (fEx S ((sF S k).2.2.2.2)))), (5, .int (nI j))] → W p l e (headSpec (Cond.code yX4_repeats cX4_repeats 6 (some .int) :: lw_big) ({ frames := 2, cells := 0, slots := 0, locals := 100 } : Room)).room s m ([.ref o, .int (nI k), .int least] : List Value).toArray below meth c H locs 0 0 (mx_Q below (mw_Qx (gD G) gx_cl M (fun v M9 => v = some (.int (nI (fs_tn S (sF S k) least))) ∧ M = M9) (fun _ => False) (gA G)) ([.ref o, .int (nI k), .int least] : List Value).toArray s ({ frames := 2, cells := 0, slots := 0, locals := 100 } : Room).cells ({ frames := 2, cells := 0, slots := 0, locals := 100 } : Room).slots (gA G)) (F0 m 87 ls []) := by
      intro n
      induction n with
      | zero =>
        intro j sm hj hfi H locs ls hP hS hl
        have hK7 : (60 : Int32) ≤ nI j := nI_le (a := 60) (by omega) (by omega)
        refine lv_iload_n hx hb dX4_repeats_87 rfl (lv_at hl 3 rfl) ?_
        refine lv_iload_n hx hb dX4_repeats_88 rfl (lv_at hl 2 rfl) ?_
        refine lv_icmp_ge (tgt := 110) hx hb dX4_repeats_89 (by decide) (fun c_2 => ?_) (fun c_2 => ?_)
        · refine lv_iload hx hb dX4_repeats_110 (lv_at hl 5 rfl) ?_
          exact mx_iret (v := (nI j)) (M' := M) hx hb hr hlocks hP hS ⟨by rw [hfi]; rfl, rfl⟩ dX4_repeats_112 (Nat.le_of_ble_eq_true rfl) (Nat.le_of_ble_eq_true rfl)
        · refine lv_iload hx hb dX4_repeats_92 (lv_at hl 5 rfl) ?_
          refine lv_bipush (v := 60) hx hb dX4_repeats_94 (by decide) ?_
          refine lv_icmp_ge (tgt := 110) hx hb dX4_repeats_96 (by decide) (fun c_3 => ?_) (fun c_3 => absurd hK7 c_3)
          refine lv_iload hx hb dX4_repeats_110 (lv_at hl 5 rfl) ?_
          exact mx_iret (v := (nI j)) (M' := M) hx hb hr hlocks hP hS ⟨by rw [hfi]; rfl, rfl⟩ dX4_repeats_112 (Nat.le_of_ble_eq_true rfl) (Nat.le_of_ble_eq_true rfl)
      | succ n ih =>
        intro j sm hj hfi H locs ls hP hS hl
        have hK7 : ¬ (60 : Int32) ≤ nI j := nI_ge (a := j) (b := 60) (by omega) (by omega)
        refine lv_iload_n hx hb dX4_repeats_87 rfl (lv_at hl 3 rfl) ?_
        refine lv_iload_n hx hb dX4_repeats_88 rfl (lv_at hl 2 rfl) ?_
        refine lv_icmp_ge (tgt := 110) hx hb dX4_repeats_89 (by decide) (fun c_4 => ?_) (fun c_4 => ?_)
        · refine lv_iload hx hb dX4_repeats_110 (lv_at hl 5 rfl) ?_
          exact mx_iret (v := (nI j)) (M' := M) hx hb hr hlocks hP hS ⟨by rw [hfi, fs_rn, if_neg (Int32.not_lt.mpr c_4)]; rfl, rfl⟩ dX4_repeats_112 (Nat.le_of_ble_eq_true rfl) (Nat.le_of_ble_eq_true rfl)
        · refine lv_iload hx hb dX4_repeats_92 (lv_at hl 5 rfl) ?_
          refine lv_bipush (v := 60) hx hb dX4_repeats_94 (by decide) ?_
          refine lv_icmp_ge (tgt := 110) hx hb dX4_repeats_96 (by decide) (fun c_5 => absurd c_5 hK7) (fun c_5 => ?_)
          refine lv_iload_n hx hb dX4_repeats_99 rfl (lv_at hl 3 rfl) ?_
          refine lv_iload hx hb dX4_repeats_100 (lv_at hl 4 rfl) ?_
          refine lv_iadd hx hb dX4_repeats_102 ?_
          refine lv_istore_n (lv' := [(3, .int (sm + (2 * (fEx S ((sF S k).2.2.2.2))))), (0, .ref o), (1, .int (nI k)), (2, .int least), (4, .int (2 * (fEx S ((sF S k).2.2.2.2)))), (5, .int (nI j))]) hx hb dX4_repeats_103 rfl hl (by decide) rfl (fun ls hl => ?_)
          obtain ⟨v_6, ev_6⟩ : ∃ y : Int32, y = (nI j) + 1 := ⟨_, rfl⟩
          refine lv_iinc (v := v_6) (lv' := [(5, .int v_6), (3, .int (sm + (2 * (fEx S ((sF S k).2.2.2.2))))), (0, .ref o), (1, .int (nI k)), (2, .int least), (4, .int (2 * (fEx S ((sF S k).2.2.2.2))))]) hx hb dX4_repeats_104 hl (k := 5) rfl (by rw [ev_6]; rfl) (by decide) rfl (fun ls hl => ?_)
          refine lv_goto (tgt := 87) hx hb dX4_repeats_107 (by decide) ?_
          obtain rfl : v_6 = nI (j + 1) := by rw [ev_6]; exact nI_1 j
          refine W.widen (k := 0) (n := 0) (Nat.le_of_ble_eq_true rfl) (Nat.le_of_ble_eq_true rfl) ?_
          exact ih (j + 1) (sm + (2 * (fEx S ((sF S k).2.2.2.2)))) (by omega) (by rw [hfi, fs_rn, if_pos (Int32.not_le.mp c_4)]; omega) H locs ls hP hS (lv_sub hl [2, 3, 4, 1, 5, 0] rfl)
    exact loop 60 0 _ (by omega) (by rw [fs_tn, e_stp, Nat.zero_add]; rfl) _ _ _ hP hS (lv_sub hl [3, 4, 5, 2, 1, 0] rfl)
  · refine lv_iload hx hb dX4_repeats_73 (lv_at hl 0 rfl) ?_
    refine lv_goto (tgt := 82) hx hb dX4_repeats_75 (by decide) ?_
    refine lv_istore (lv' := [(4, .int (fEx S ((sF S k).2.2.2.2))), (3, .int (((fEx S ((sF S k).2.1)) + (fEx S ((sF S k).2.2.1))) + (fEx S ((sF S k).2.2.2.1)))), (0, .ref o), (1, .int (nI k)), (2, .int least)]) hx hb dX4_repeats_82 hl (by decide) rfl (fun ls hl => ?_)
    refine lv_iconst (v := 0) hx hb dX4_repeats_84 (by decide) ?_
    refine lv_istore (lv' := [(5, .int 0), (4, .int (fEx S ((sF S k).2.2.2.2))), (3, .int (((fEx S ((sF S k).2.1)) + (fEx S ((sF S k).2.2.1))) + (fEx S ((sF S k).2.2.2.1)))), (0, .ref o), (1, .int (nI k)), (2, .int least)]) hx hb dX4_repeats_85 hl (by decide) rfl (fun ls hl => ?_)
    have e_stp : fs_stp S (sF S k) = (fEx S ((sF S k).2.2.2.2)) := by rw [fs_stp, if_pos c_1]
    have loop : ∀ (n j : Nat) (sm : Int32), j + n = 60 → fs_tn S (sF S k) least = j + fs_rn least (fEx S ((sF S k).2.2.2.2)) n sm → ∀ (H : Heap) (locs : List Loc) (ls : Array Slot), mw_P (gD G) gx_cl M H → va_S (gA G) s.heap H locs → lv_has ls 6 [(0, .ref o), (1, .int (nI k)), (2, .int least), (3, .int sm), (4, .int (fEx S ((sF S k).2.2.2.2))), (5, .int (nI j))] → W p l e (headSpec (Cond.code yX4_repeats cX4_repeats 6 (some .int) :: lw_big) ({ frames := 2, cells := 0, slots := 0, locals := 100 } : Room)).room s m ([.ref o, .int (nI k), .int least] : List Value).toArray below meth c H locs 0 0 (mx_Q below (mw_Qx (gD G) gx_cl M (fun v M9 => v = some (.int (nI (fs_tn S (sF S k) least))) ∧ M = M9) (fun _ => False) (gA G)) ([.ref o, .int (nI k), .int least] : List Value).toArray s ({ frames := 2, cells := 0, slots := 0, locals := 100 } : Room).cells ({ frames := 2, cells := 0, slots := 0, locals := 100 } : Room).slots (gA G)) (F0 m 87 ls []) := by
      intro n
      induction n with
      | zero =>
        intro j sm hj hfi H locs ls hP hS hl
        have hK7 : (60 : Int32) ≤ nI j := nI_le (a := 60) (by omega) (by omega)
        refine lv_iload_n hx hb dX4_repeats_87 rfl (lv_at hl 3 rfl) ?_
        refine lv_iload_n hx hb dX4_repeats_88 rfl (lv_at hl 2 rfl) ?_
        refine lv_icmp_ge (tgt := 110) hx hb dX4_repeats_89 (by decide) (fun c_7 => ?_) (fun c_7 => ?_)
        · refine lv_iload hx hb dX4_repeats_110 (lv_at hl 5 rfl) ?_
          exact mx_iret (v := (nI j)) (M' := M) hx hb hr hlocks hP hS ⟨by rw [hfi]; rfl, rfl⟩ dX4_repeats_112 (Nat.le_of_ble_eq_true rfl) (Nat.le_of_ble_eq_true rfl)
        · refine lv_iload hx hb dX4_repeats_92 (lv_at hl 5 rfl) ?_
          refine lv_bipush (v := 60) hx hb dX4_repeats_94 (by decide) ?_
          refine lv_icmp_ge (tgt := 110) hx hb dX4_repeats_96 (by decide) (fun c_8 => ?_) (fun c_8 => absurd hK7 c_8)
          refine lv_iload hx hb dX4_repeats_110 (lv_at hl 5 rfl) ?_
          exact mx_iret (v := (nI j)) (M' := M) hx hb hr hlocks hP hS ⟨by rw [hfi]; rfl, rfl⟩ dX4_repeats_112 (Nat.le_of_ble_eq_true rfl) (Nat.le_of_ble_eq_true rfl)
      | succ n ih =>
        intro j sm hj hfi H locs ls hP hS hl
        have hK7 : ¬ (60 : Int32) ≤ nI j := nI_ge (a := j) (b := 60) (by omega) (by omega)
        refine lv_iload_n hx hb dX4_repeats_87 rfl (lv_at hl 3 rfl) ?_
        refine lv_iload_n hx hb dX4_repeats_88 rfl (lv_at hl 2 rfl) ?_
        refine lv_icmp_ge (tgt := 110) hx hb dX4_repeats_89 (by decide) (fun c_9 => ?_) (fun c_9 => ?_)
        · refine lv_iload hx hb dX4_repeats_110 (lv_at hl 5 rfl) ?_
          exact mx_iret (v := (nI j)) (M' := M) hx hb hr hlocks hP hS ⟨by rw [hfi, fs_rn, if_neg (Int32.not_lt.mpr c_9)]; rfl, rfl⟩ dX4_repeats_112 (Nat.le_of_ble_eq_true rfl) (Nat.le_of_ble_eq_true rfl)
        · refine lv_iload hx hb dX4_repeats_92 (lv_at hl 5 rfl) ?_
          refine lv_bipush (v := 60) hx hb dX4_repeats_94 (by decide) ?_
          refine lv_icmp_ge (tgt := 110) hx hb dX4_repeats_96 (by decide) (fun c_10 => absurd c_10 hK7) (fun c_10 => ?_)
          refine lv_iload_n hx hb dX4_repeats_99 rfl (lv_at hl 3 rfl) ?_
          refine lv_iload hx hb dX4_repeats_100 (lv_at hl 4 rfl) ?_
          refine lv_iadd hx hb dX4_repeats_102 ?_
          refine lv_istore_n (lv' := [(3, .int (sm + (fEx S ((sF S k).2.2.2.2)))), (0, .ref o), (1, .int (nI k)), (2, .int least), (4, .int (fEx S ((sF S k).2.2.2.2))), (5, .int (nI j))]) hx hb dX4_repeats_103 rfl hl (by decide) rfl (fun ls hl => ?_)
          obtain ⟨v_11, ev_11⟩ : ∃ y : Int32, y = (nI j) + 1 := ⟨_, rfl⟩
          refine lv_iinc (v := v_11) (lv' := [(5, .int v_11), (3, .int (sm + (fEx S ((sF S k).2.2.2.2)))), (0, .ref o), (1, .int (nI k)), (2, .int least), (4, .int (fEx S ((sF S k).2.2.2.2)))]) hx hb dX4_repeats_104 hl (k := 5) rfl (by rw [ev_11]; rfl) (by decide) rfl (fun ls hl => ?_)
          refine lv_goto (tgt := 87) hx hb dX4_repeats_107 (by decide) ?_
          obtain rfl : v_11 = nI (j + 1) := by rw [ev_11]; exact nI_1 j
          refine W.widen (k := 0) (n := 0) (Nat.le_of_ble_eq_true rfl) (Nat.le_of_ble_eq_true rfl) ?_
          exact ih (j + 1) (sm + (fEx S ((sF S k).2.2.2.2))) (by omega) (by rw [hfi, fs_rn, if_pos (Int32.not_le.mp c_9)]; omega) H locs ls hP hS (lv_sub hl [2, 3, 4, 1, 5, 0] rfl)
    exact loop 60 0 _ (by omega) (by rw [fs_tn, e_stp, Nat.zero_add]; rfl) _ _ _ hP hS (lv_sub hl [3, 4, 5, 2, 1, 0] rfl)
