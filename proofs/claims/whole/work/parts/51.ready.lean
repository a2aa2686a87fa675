/-! printed by wip/whole/spec*.py -/
-- X3_readySign
set_option maxHeartbeats 4000000 in
set_option maxRecDepth 100000 in
theorem kX3_readySign (l : Launch) (htr : l.stackTraces = false) (G : gx_G) (sz : Nat) (M : mw_M) (f : fs_A) (S : fs_S) (hR : fs_R G f M S) (k : Nat) (hk : k < 8) (least : Int32) : g_Met l G yX3_readySign (.code yX3_readySign cX3_readySign 4 (some .int)) ({ frames := 2, cells := 0, slots := 0, locals := 110 } : Room) sz M [.ref (f0 f), .ref (fQ f k), .int least] (fun v M9 => v = some (.int (fs_rd S (sF S k) least)) ∧ M = M9) (fun _ => False) := by
  refine MetE.ofW (cc := cX3_readySign) (maxL := 4) (ret := (some .int)) (by decide) rfl ?_
  intro p e s m args below meth c s₁ B hml hv
  obtain ⟨rfl, hsz, hP, hE⟩ := hv
  have hx := B.exec
  have hb := B.bytes
  have hr := B.returns
  have hts := atoms_spec (ws := _ :: lw_big) B.pre
  have htb : ∀ w ∈ lw_big, w.before _ s = true := fun w h => hts w (List.mem_cons_of_mem _ h)
  have hno := B.noHandlers (hts _ List.mem_cons_self)
  have hown : s.vm.findClass RX3 = some m.cls := findClass_of_methodNamed B.named
  have hlocks := B.notSynchronized
  have hK := hE.1
  subst hsz
  have hS : va_S (gA G) s.heap s.heap [] := va_S.rf
  have hl := lv_entry ([.ref (f0 f), .ref (fQ f k), .int least]) (n := 4) (Nat.le_of_ble_eq_true rfl)
  rw [lg_entry_eq]
  generalize (lg_sl ([.ref (f0 f), .ref (fQ f k), .int least]) ++ List.replicate (4 - (lg_sl ([.ref (f0 f), .ref (fQ f k), .int least])).length) Slot.unset).toArray = ls at hl ⊢
  have hl : lv_has ls 4 [(0, .ref (f0 f)), (1, .ref (fQ f k)), (2, .int least)] := hl
  obtain ⟨gm, gf, g, h1, h2, h3, h4, h5, h6, h7, h8, h9⟩ := id hR
  obtain ⟨hgf_k, gr_k, hf1_k, hf2_k, hf3_k⟩ := h7 k hk
  obtain ⟨o1, o2, o3⟩ := h8.2.2 k hk
  refine lv_iconst (v := 0) hx hb dX3_readySign_0 (by decide) ?_
  refine lv_istore_n (lv' := [(3, .int 0), (0, .ref (f0 f)), (1, .ref (fQ f k)), (2, .int least)]) hx hb dX3_readySign_1 rfl hl (by decide) rfl (fun ls hl => ?_)
  have loop : ∀ (n j : Nat), j + n = (sF S k).1.length → (sF S k).1.find? (fs_hi S least) = ((sF S k).1.drop j).find? (fs_hi S least) → ∀ (H : Heap) (locs : List Loc) (ls : Array Slot), mw_P (gD G) gx_cl M H → va_S (gA G) s.heap H locs → lv_has ls 4 [(0, .ref (f0 f)), (1, .ref (fQ f k)), (2, .int least), (3, .int (nI j))] → W p l e (headSpec (Cond.code yX3_readySign cX3_readySign 4 (some .int) :: lw_big) ({ frames := 2, cells := 0, slots := 0, locals := 110 } : Room)).room s m ([.ref (f0 f), .ref (fQ f k), .int least] : List Value).toArray below meth c H locs 0 0 (mx_Q below (mw_Qx (gD G) gx_cl M (fun v M9 => v = some (.int (fs_rd S (sF S k) least)) ∧ M = M9) (fun _ => False) (gA G)) ([.ref (f0 f), .ref (fQ f k), .int least] : List Value).toArray s ({ frames := 2, cells := 0, slots := 0, locals := 110 } : Room).cells ({ frames := 2, cells := 0, slots := 0, locals := 110 } : Room).slots (gA G)) (F0 m 2 ls []) := by
    intro n
    induction n with
    | zero =>
      intro j hj hfi H locs ls hP hS hl
      have hK7 : nI (sF S k).1.length ≤ nI j := nI_le (by omega) (by omega)
      have hfn : (sF S k).1.find? (fs_hi S least) = none := by rw [hfi, List.drop_eq_nil_of_le (by omega)]; rfl
      refine lv_iload_n hx hb dX3_readySign_2 rfl (lv_at hl 3 rfl) ?_
      refine lv_aload_n hx hb dX3_readySign_3 rfl (lv_at hl 1 rfl) ?_
      refine mw_get (D := gD G) (ci := 1) (v := .int (nI (sF S k).1.length)) (C := RX1) (T := TX1) (N := 6) hx hb htb inX1 hown hK hP hf1_k rfl 1 (by decide) (htb _ wd33) (fun _ h9 => h9) rfl dX3_readySign_4 ?_
      refine lv_icmp_ge (tgt := 37) hx hb dX3_readySign_7 (by decide) (fun c_1 => ?_) (fun c_1 => absurd hK7 c_1)
      refine lv_aload_n hx hb dX3_readySign_37 rfl (lv_at hl 1 rfl) ?_
      refine mw_get (D := gD G) (ci := 1) (v := .int (sF S k).2.2.2.2) (C := RX1) (T := TX1) (N := 6) hx hb htb inX1 hown hK hP hf1_k rfl 5 (by decide) (htb _ wd41) (fun _ h9 => h9) rfl dX3_readySign_38 ?_
      refine lv_iconst (v := (-1)) hx hb dX3_readySign_41 (by decide) ?_
      refine lv_icmp_ne (tgt := 52) hx hb dX3_readySign_42 (by decide) (fun c_2 => ?_) (fun c_2 => ?_)
      · refine lv_iconst (v := (-1)) hx hb dX3_readySign_52 (by decide) ?_
        refine lv_goto (tgt := 67) hx hb dX3_readySign_53 (by decide) ?_
        exact mx_iret (v := (-1)) (M' := M) hx hb hr hlocks hP hS ⟨by simp only [fs_rd, hfn]; rw [if_pos c_2], rfl⟩ dX3_readySign_67 (Nat.le_of_ble_eq_true rfl) (Nat.le_of_ble_eq_true rfl)
      · refine lv_aload_n hx hb dX3_readySign_45 rfl (lv_at hl 1 rfl) ?_
        refine mw_get (D := gD G) (ci := 1) (v := .int (nI (sF S k).1.length)) (C := RX1) (T := TX1) (N := 6) hx hb htb inX1 hown hK hP hf1_k rfl 1 (by decide) (htb _ wd33) (fun _ h9 => h9) rfl dX3_readySign_46 ?_
        refine lv_if_ne (tgt := 56) hx hb dX3_readySign_49 (by decide) (fun c_3 => ?_) (fun c_3 => ?_)
        · have hl0 : 0 < (sF S k).1.length := by
            rcases Nat.eq_zero_or_pos (sF S k).1.length with q | q
            · exact absurd (by rw [q]; rfl) c_3
            · exact q
          have e_l1 : nI (sF S k).1.length - 1 = nI ((sF S k).1.length - 1) := pk_sub (b := 1) (by omega)
          refine lv_aload_n hx hb dX3_readySign_56 rfl (lv_at hl 1 rfl) ?_
          refine mw_get (D := gD G) (ci := 1) (v := .ref (fR f k)) (C := RX1) (T := TX1) (N := 6) hx hb htb inX1 hown hK hP hf1_k rfl 0 (by decide) (htb _ wd32) (fun _ h9 => h9) rfl dX3_readySign_57 ?_
          refine lv_aload_n hx hb dX3_readySign_60 rfl (lv_at hl 1 rfl) ?_
          refine mw_get (D := gD G) (ci := 1) (v := .int (nI (sF S k).1.length)) (C := RX1) (T := TX1) (N := 6) hx hb htb inX1 hown hK hP hf1_k rfl 1 (by decide) (htb _ wd33) (fun _ h9 => h9) rfl dX3_readySign_61 ?_
          refine lv_iconst (v := 1) hx hb dX3_readySign_64 (by decide) ?_
          refine lv_isub hx hb dX3_readySign_65 ?_
          refine mw_iald hx hb hK hP 0 hf2_k rfl (by rw [e_l1]; exact vp_in_nI (show (sF S k).1.length - 1 < 4 by omega) (by decide)) dX3_readySign_66 ?_
          refine W.eq (g2 := F0 m 67 ls [.int ((sF S k).1.getD ((sF S k).1.length - 1) 0)]) (by rw [e_l1, nI_clamp (show (sF S k).1.length - 1 < 2 ^ 31 by omega), hf3_k _ (show (sF S k).1.length - 1 < (sF S k).1.length by omega)]) ?_
          exact mx_iret (v := ((sF S k).1.getD ((sF S k).1.length - 1) 0)) (M' := M) hx hb hr hlocks hP hS ⟨by simp only [fs_rd, hfn]; rw [if_neg (fun z9 => z9 c_2), if_neg c_3], rfl⟩ dX3_readySign_67 (Nat.le_of_ble_eq_true rfl) (Nat.le_of_ble_eq_true rfl)
        · refine lv_iconst (v := (-1)) hx hb dX3_readySign_52 (by decide) ?_
          refine lv_goto (tgt := 67) hx hb dX3_readySign_53 (by decide) ?_
          exact mx_iret (v := (-1)) (M' := M) hx hb hr hlocks hP hS ⟨by simp only [fs_rd, hfn]; rw [if_neg (fun z9 => z9 c_2), if_pos c_3], rfl⟩ dX3_readySign_67 (Nat.le_of_ble_eq_true rfl) (Nat.le_of_ble_eq_true rfl)
    | succ n ih =>
      intro j hj hfi H locs ls hP hS hl
      have hK7 : ¬ nI (sF S k).1.length ≤ nI j := nI_ge (by omega) (by omega)
      have hin9 := o2 j (by omega)
      refine lv_iload_n hx hb dX3_readySign_2 rfl (lv_at hl 3 rfl) ?_
      refine lv_aload_n hx hb dX3_readySign_3 rfl (lv_at hl 1 rfl) ?_
      refine mw_get (D := gD G) (ci := 1) (v := .int (nI (sF S k).1.length)) (C := RX1) (T := TX1) (N := 6) hx hb htb inX1 hown hK hP hf1_k rfl 1 (by decide) (htb _ wd33) (fun _ h9 => h9) rfl dX3_readySign_4 ?_
      refine lv_icmp_ge (tgt := 37) hx hb dX3_readySign_7 (by decide) (fun c_4 => absurd c_4 hK7) (fun c_4 => ?_)
      refine lv_aload_n hx hb dX3_readySign_10 rfl (lv_at hl 0 rfl) ?_
      refine lv_aload_n hx hb dX3_readySign_11 rfl (lv_at hl 1 rfl) ?_
      refine mw_get (D := gD G) (ci := 1) (v := .ref (fR f k)) (C := RX1) (T := TX1) (N := 6) hx hb htb inX1 hown hK hP hf1_k rfl 0 (by decide) (htb _ wd32) (fun _ h9 => h9) rfl dX3_readySign_12 ?_
      refine lv_iload_n hx hb dX3_readySign_15 rfl (lv_at hl 3 rfl) ?_
      refine mw_iald hx hb hK hP 0 hf2_k rfl (vp_in_nI (show j < 4 by omega) (by decide)) dX3_readySign_16 ?_
      refine W.eq (g2 := F0 m 17 ls [.int ((sF S k).1.getD j 0), .ref (f0 f)]) (by rw [nI_clamp (show j < 2 ^ 31 by omega), hf3_k _ (show j < (sF S k).1.length by omega)]) ?_
      refine mw_callV (C := RX3) (As := [.int ((sF S k).1.getD j 0)]) (rest := []) hx hb hml hown hl (kX3_extentOf l htr G H.size M f S hR ((sF S k).1.getD j 0) (Or.inr hin9)) (g_B (n := 1) htb wd288 wd1 wd285 (by decide +kernel) ⟨Nat.le_of_ble_eq_true rfl, Nat.le_of_ble_eq_true rfl⟩) (htb _ wd287) (htb _ ws5) hE hP hS (fs_R.this hR) rfl rfl rfl (Nat.le_of_ble_eq_true rfl) dX3_readySign_17 ⟨Nat.le_of_ble_eq_true rfl, Nat.le_of_ble_eq_true rfl⟩ (fun v9 M9 H locs hpo hP hz hS => ?_) (fun x9 E9 cell9 H9 locs9 hE9 => hE9.elim)
      obtain ⟨rfl, rfl⟩ := hpo
      refine W.eq (g2 := F0 m 20 ls [.int (fEx S ((sF S k).1.getD j 0))]) rfl ?_
      refine lv_iload_n hx hb dX3_readySign_20 rfl (lv_at hl 2 rfl) ?_
      refine lv_icmp_lt (tgt := 31) hx hb dX3_readySign_21 (by decide) (fun c_5 => ?_) (fun c_5 => ?_)
      · obtain ⟨v_6, ev_6⟩ : ∃ y : Int32, y = (nI j) + 1 := ⟨_, rfl⟩
        refine lv_iinc (v := v_6) (lv' := [(3, .int v_6), (0, .ref (f0 f)), (1, .ref (fQ f k)), (2, .int least)]) hx hb dX3_readySign_31 hl (k := 3) rfl (by rw [ev_6]; rfl) (by decide) rfl (fun ls hl => ?_)
        refine lv_goto (tgt := 2) hx hb dX3_readySign_34 (by decide) ?_
        obtain rfl : v_6 = nI (j + 1) := by rw [ev_6]; exact nI_1 j
        refine W.widen (k := 0) (n := 0) (Nat.le_of_ble_eq_true rfl) (Nat.le_of_ble_eq_true rfl) ?_
        exact ih (j + 1) (by omega) (by rw [hfi, fs_drop (show j < (sF S k).1.length by omega), List.find?_cons, show fs_hi S least ((sF S k).1.getD j 0) = false from decide_eq_false (fun z9 => z9 c_5)]) H locs ls hP hS (lv_sub hl [1, 2, 3, 0] rfl)
      · refine lv_aload_n hx hb dX3_readySign_24 rfl (lv_at hl 1 rfl) ?_
        refine mw_get (D := gD G) (ci := 1) (v := .ref (fR f k)) (C := RX1) (T := TX1) (N := 6) hx hb htb inX1 hown hK hP hf1_k rfl 0 (by decide) (htb _ wd32) (fun _ h9 => h9) rfl dX3_readySign_25 ?_
        refine lv_iload_n hx hb dX3_readySign_28 rfl (lv_at hl 3 rfl) ?_
        refine mw_iald hx hb hK hP 0 hf2_k rfl (vp_in_nI (show j < 4 by omega) (by decide)) dX3_readySign_29 ?_
        refine W.eq (g2 := F0 m 30 ls [.int ((sF S k).1.getD j 0)]) (by rw [nI_clamp (show j < 2 ^ 31 by omega), hf3_k _ (show j < (sF S k).1.length by omega)]) ?_
        exact mx_iret (v := ((sF S k).1.getD j 0)) (M' := M) hx hb hr hlocks hP hS ⟨by rw [fs_rd, hfi, fs_drop (show j < (sF S k).1.length by omega), List.find?_cons, show fs_hi S least ((sF S k).1.getD j 0) = true from by simp only [fs_hi, decide_eq_true_eq]; exact c_5], rfl⟩ dX3_readySign_30 (Nat.le_of_ble_eq_true rfl) (Nat.le_of_ble_eq_true rfl)
  exact loop (sF S k).1.length 0 (by omega) (by rw [List.drop_zero]) _ _ _ hP hS (lv_sub hl [1, 2, 3, 0] rfl)
