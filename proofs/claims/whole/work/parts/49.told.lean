/-! printed by wip/whole/spec*.py -/
-- X3_told
set_option maxHeartbeats 4000000 in
set_option maxRecDepth 100000 in
theorem kX3_told (l : Launch) (htr : l.stackTraces = false) (G : gx_G) (sz : Nat) (M : mw_M) (f : fs_A) (S : fs_S) (hR : fs_R G f M S) (b x : Int32) : g_Met l G yX3_told (.code yX3_told cX3_told 3 (some .int)) ({ frames := 8, cells := 8, slots := 60, locals := 260 } : Room) sz M [.ref (f0 f), .int b, .int x] (fs_Up G f M (ex_told S b x) (some (.int (re_told S b x))) (S)) (fs_Th (ex_told S b x) ["java/lang/IndexOutOfBoundsException"]) := by
  refine MetE.ofW (cc := cX3_told) (maxL := 3) (ret := (some .int)) (by decide) rfl ?_
  intro p e s m args below meth c s₁ B hml hv
  obtain ⟨rfl, hsz, hP, hE⟩ := hv
  have hx := B.exec
  have hb := B.bytes
  have hr := B.returns
  have hts := atoms_spec (ws := _ :: lw_big) B.pre
  have htb : ∀ w ∈ lw_big, w.before _ s = true := fun w h => hts w (List.mem_cons_of_mem _ h)
  have hno := B.noHandlers (hts _ List.mem_cons_self)
  have hown : s.vm.findClass RX3 = some m.cls := findClass_of_methodNamed B.named
  have hlocks := B.notSynchronized
  have hK := hE.1
  subst hsz
  have hS : va_S (gA G) s.heap s.heap [] := va_S.rf
  have hl := lv_entry ([.ref (f0 f), .int b, .int x]) (n := 3) (Nat.le_of_ble_eq_true rfl)
  rw [lg_entry_eq]
  generalize (lg_sl ([.ref (f0 f), .int b, .int x]) ++ List.replicate (3 - (lg_sl ([.ref (f0 f), .int b, .int x])).length) Slot.unset).toArray = ls at hl ⊢
  have hl : lv_has ls 3 [(0, .ref (f0 f)), (1, .int b), (2, .int x)] := hl
  obtain ⟨gm, gf, g, h1, h2, h3, h4, h5, h6, h7, h8, h9⟩ := id hR
  refine lv_aload_n hx hb dX3_told_0 rfl (lv_at hl 0 rfl) ?_
  refine lv_iload_n hx hb dX3_told_1 rfl (lv_at hl 1 rfl) ?_
  refine mw_callV (C := RX3) (As := [.int b]) (rest := []) hx hb hml hown hl (kX3_needBox l htr G s.heap.size M f S hR b) (g_B (n := 1) htb wd271 wd1 wd268 (by decide +kernel) ⟨Nat.le_of_ble_eq_true rfl, Nat.le_of_ble_eq_true rfl⟩) (htb _ wd270) (htb _ ws3) hE hP hS (fs_R.this hR) rfl rfl rfl (Nat.le_of_ble_eq_true rfl) dX3_told_2 ⟨Nat.le_of_ble_eq_true rfl, Nat.le_of_ble_eq_true rfl⟩ (fun v9 M9 H locs hpo hP hz hS => ?_) (fun x9 E9 cell9 H9 locs9 hE9 hx9 ho9 hf9 hP9 hz9 hS9 => mx_outF (thr0 := fs_Th (ex_told S b x) ["java/lang/IndexOutOfBoundsException"]) hno hlocks ⟨0, by rw [ex_told, if_pos (fun z9 => hE9.2 z9.1)], by rw [hE9.1]; rfl⟩ hx9 ho9 hf9 hP9 hS9 (Nat.le_of_ble_eq_true rfl) (Nat.le_of_ble_eq_true rfl))
  obtain ⟨rfl, rfl, k_1⟩ := hpo
  have h_b := isB_lt k_1 hR.ok.1
  have e_b := fIx_of k_1.1
  rw [e_b] at hl
  obtain ⟨q, hgq, pl, gp, hb1, hb2, hb3, hb4, hb5⟩ := h6 (fIx b) h_b
  refine W.eq (g2 := F0 m 5 ls []) rfl ?_
  refine lv_iload_n hx hb dX3_told_5 rfl (lv_at hl 2 rfl) ?_
  by_cases c_2 : x = 0
  · have ht : x.toInt = 0 := by rw [c_2]; rfl
    refine lv_tableIn (tgt := 36) hx hb dX3_told_6 (by rw [ht]; decide) (by rw [ht]; decide) (by rw [ht]; rfl) (by decide) ?_
    refine lv_aload_n hx hb dX3_told_36 rfl (lv_at hl 0 rfl) ?_
    refine lv_iload_n hx hb dX3_told_37 rfl (lv_at hl 1 rfl) ?_
    refine mw_callV (C := RX3) (As := [.int (nI (fIx b))]) (rest := []) hx hb hml hown hl (kX3_widthOf l htr G H.size M f S hR (fIx b) h_b) (g_B (n := 1) htb wd406 wd1 wd403 (by decide +kernel) ⟨Nat.le_of_ble_eq_true rfl, Nat.le_of_ble_eq_true rfl⟩) (htb _ wd405) (htb _ ws14) hE hP hS (fs_R.this hR) rfl rfl rfl (Nat.le_of_ble_eq_true rfl) dX3_told_38 ⟨Nat.le_of_ble_eq_true rfl, Nat.le_of_ble_eq_true rfl⟩ (fun v9 M9 H locs hpo hP hz hS => ?_) (fun x9 E9 cell9 H9 locs9 hE9 => hE9.elim)
    obtain ⟨rfl, rfl⟩ := hpo
    refine W.eq (g2 := F0 m 41 ls [.int (bW S (fIx b))]) rfl ?_
    exact mx_iret (v := (bW S (fIx b))) (M' := M) hx hb hr hlocks hP hS ⟨by rw [ex_told, if_neg (fun z9 => z9 ⟨k_1, Or.inl c_2⟩)], by rw [re_told, if_pos c_2], hR, fs_keeps.of (mw_ext.rf M)⟩ dX3_told_41 (Nat.le_of_ble_eq_true rfl) (Nat.le_of_ble_eq_true rfl)
  · by_cases c_3 : x = 1
    · have ht : x.toInt = 1 := by rw [c_3]; rfl
      refine lv_tableIn (tgt := 42) hx hb dX3_told_6 (by rw [ht]; decide) (by rw [ht]; decide) (by rw [ht]; rfl) (by decide) ?_
      refine lv_aload_n hx hb dX3_told_42 rfl (lv_at hl 0 rfl) ?_
      refine lv_iload_n hx hb dX3_told_43 rfl (lv_at hl 1 rfl) ?_
      refine mw_callV (C := RX3) (As := [.int (nI (fIx b))]) (rest := []) hx hb hml hown hl (kX3_heightOf l htr G H.size M f S hR (fIx b) h_b) (g_B (n := 1) htb wd402 wd1 wd399 (by decide +kernel) ⟨Nat.le_of_ble_eq_true rfl, Nat.le_of_ble_eq_true rfl⟩) (htb _ wd401) (htb _ ws13) hE hP hS (fs_R.this hR) rfl rfl rfl (Nat.le_of_ble_eq_true rfl) dX3_told_44 ⟨Nat.le_of_ble_eq_true rfl, Nat.le_of_ble_eq_true rfl⟩ (fun v9 M9 H locs hpo hP hz hS => ?_) (fun x9 E9 cell9 H9 locs9 hE9 => hE9.elim)
      obtain ⟨rfl, rfl⟩ := hpo
      refine W.eq (g2 := F0 m 47 ls [.int (bH S (fIx b))]) rfl ?_
      exact mx_iret (v := (bH S (fIx b))) (M' := M) hx hb hr hlocks hP hS ⟨by rw [ex_told, if_neg (fun z9 => z9 ⟨k_1, Or.inr (Or.inl c_3)⟩)], by rw [re_told, if_neg c_2, if_pos c_3], hR, fs_keeps.of (mw_ext.rf M)⟩ dX3_told_47 (Nat.le_of_ble_eq_true rfl) (Nat.le_of_ble_eq_true rfl)
    · by_cases c_4 : x = 2
      · have ht : x.toInt = 2 := by rw [c_4]; rfl
        refine lv_tableIn (tgt := 48) hx hb dX3_told_6 (by rw [ht]; decide) (by rw [ht]; decide) (by rw [ht]; rfl) (by decide) ?_
        refine lv_aload_n hx hb dX3_told_48 rfl (lv_at hl 0 rfl) ?_
        refine lv_iload_n hx hb dX3_told_49 rfl (lv_at hl 1 rfl) ?_
        refine mw_callV (C := RX3) (As := [.int (nI (fIx b))]) (rest := []) hx hb hml hown hl (kX3_depthOf l htr G H.size M f S hR (fIx b) h_b) (g_B (n := 1) htb wd397 wd1 wd394 (by decide +kernel) ⟨Nat.le_of_ble_eq_true rfl, Nat.le_of_ble_eq_true rfl⟩) (htb _ wd396) (htb _ ws12) hE hP hS (fs_R.this hR) rfl rfl rfl (Nat.le_of_ble_eq_true rfl) dX3_told_50 ⟨Nat.le_of_ble_eq_true rfl, Nat.le_of_ble_eq_true rfl⟩ (fun v9 M9 H locs hpo hP hz hS => ?_) (fun x9 E9 cell9 H9 locs9 hE9 => hE9.elim)
        obtain ⟨rfl, rfl⟩ := hpo
        refine W.eq (g2 := F0 m 53 ls [.int (bD S (fIx b))]) rfl ?_
        exact mx_iret (v := (bD S (fIx b))) (M' := M) hx hb hr hlocks hP hS ⟨by rw [ex_told, if_neg (fun z9 => z9 ⟨k_1, Or.inr (Or.inr (Or.inl c_4))⟩)], by rw [re_told, if_neg c_2, if_neg c_3, if_pos c_4], hR, fs_keeps.of (mw_ext.rf M)⟩ dX3_told_53 (Nat.le_of_ble_eq_true rfl) (Nat.le_of_ble_eq_true rfl)
      · by_cases c_5 : x = 3
        · have ht : x.toInt = 3 := by rw [c_5]; rfl
          refine lv_tableIn (tgt := 54) hx hb dX3_told_6 (by rw [ht]; decide) (by rw [ht]; decide) (by rw [ht]; rfl) (by decide) ?_
          refine lv_aload_n hx hb dX3_told_54 rfl (lv_at hl 0 rfl) ?_
          refine mw_get (D := gD G) (ci := 3) (v := .ref (fM f)) (C := RX3) (T := TX3) (N := 6) hx hb htb inX3 hown hK hP h1 rfl 0 (by decide) (htb _ wd56) (fun _ h9 => h9) rfl dX3_told_55 ?_
          refine lv_iload_n hx hb dX3_told_58 rfl (lv_at hl 1 rfl) ?_
          refine mw_aald hx hb hK hP 1 h2 rfl (vp_in_nI (show (fIx b) < 120 by have := h8.1; omega) (by decide)) dX3_told_59 ?_
          refine W.eq (g2 := F0 m 60 ls [.ref q]) (by rw [nI_clamp (show (fIx b) < 2 ^ 31 by have := h8.1; omega), hgq]; rfl) ?_
          refine mw_get (D := gD G) (ci := 0) (v := .ref pl) (C := RX0) (T := TX0) (N := 6) hx hb htb inX0 hown hK hP hb1 rfl 3 (by decide) (htb _ wd235) (fun _ h9 => h9) rfl dX3_told_60 ?_
          refine mw_alen (v := (nI (bP S (fIx b)).length)) hx hb hK hP 0 hb2 rfl rfl dX3_told_63 ?_
          refine lv_iconst (v := 3) hx hb dX3_told_64 (by decide) ?_
          refine lv_idiv hx hb dX3_told_65 (by decide) ?_
          exact mx_iret (v := ((nI (bP S (fIx b)).length) / 3)) (M' := M) hx hb hr hlocks hP hS ⟨by rw [ex_told, if_neg (fun z9 => z9 ⟨k_1, Or.inr (Or.inr (Or.inr (c_5)))⟩)], by rw [re_told, if_neg c_2, if_neg c_3, if_neg c_4], hR, fs_keeps.of (mw_ext.rf M)⟩ dX3_told_66 (Nat.le_of_ble_eq_true rfl) (Nat.le_of_ble_eq_true rfl)
        · have hto : x.toInt < 0 ∨ (3 : Int) < x.toInt := sw_out (n := 3) (fun j hj => by
            rcases (show j = 0 ∨ j = 1 ∨ j = 2 ∨ j = 3 by omega) with rfl | rfl | rfl | rfl
            · exact c_2
            · exact c_3
            · exact c_4
            · exact c_5)
          refine lv_tableOut (tgt := 67) hx hb dX3_told_6 hto (by decide) ?_
          exact g_thrIO (M := M) hx hb htr hno hlocks hml hl hown htb hE (List.mem_cons_of_mem _ (List.mem_cons_of_mem _ (List.mem_cons_of_mem _ (List.mem_cons_of_mem _ (List.mem_cons_of_mem _ (List.mem_cons_of_mem _ (List.mem_cons_of_mem _ (List.mem_cons_of_mem _ (List.mem_cons_of_mem _ (List.mem_cons_of_mem _ (List.mem_cons_of_mem _ (List.mem_cons_of_mem _ List.mem_cons_self)))))))))))) hS hP dX3_told_67 dX3_told_70 dX3_told_71 dX3_told_73 dX3_told_76 (Nat.le_of_ble_eq_true rfl) (Nat.le_of_ble_eq_true rfl) (Nat.le_of_ble_eq_true rfl) (Nat.le_of_ble_eq_true rfl) ⟨0, by rw [ex_told, if_pos (fun z9 => z9.2.elim c_2 (fun z9 => z9.elim c_3 (fun z9 => z9.elim c_4 c_5)))], rfl⟩ (Nat.le_of_ble_eq_true rfl) (Nat.le_of_ble_eq_true rfl)
theorem pt_lt {i : Int32} {n : Nat} (hn : n % 3 = 0) (hn2 : n ≤ 369) (h0 : ¬ i < 0) (h : i < nI n / 3) : fIx i * 3 + 3 ≤ n := by
  have e : nI n / 3 = nI (n / 3) := pk_div (d := 3) (by omega) (by decide) (by decide)
  rw [e] at h
  have := ix_lt (by omega) h0 h
  omega
-- X3_part
set_option maxHeartbeats 4000000 in
set_option maxRecDepth 100000 in
theorem kX3_part (l : Launch) (htr : l.stackTraces = false) (G : gx_G) (sz : Nat) (M : mw_M) (f : fs_A) (S : fs_S) (hR : fs_R G f M S) (b i x : Int32) : g_Met l G yX3_part (.code yX3_part cX3_part 6 (some .int)) ({ frames := 8, cells := 8, slots := 60, locals := 260 } : Room) sz M [.ref (f0 f), .int b, .int i, .int x] (fs_Up G f M (ex_part S b i x) (some (.int (re_part S b i x))) (S)) (fs_Th (ex_part S b i x) ["java/lang/IndexOutOfBoundsException"]) := by
  refine MetE.ofW (cc := cX3_part) (maxL := 6) (ret := (some .int)) (by decide) rfl ?_
  intro p e s m args below meth c s₁ B hml hv
  obtain ⟨rfl, hsz, hP, hE⟩ := hv
  have hx := B.exec
  have hb := B.bytes
  have hr := B.returns
  have hts := atoms_spec (ws := _ :: lw_big) B.pre
  have htb : ∀ w ∈ lw_big, w.before _ s = true := fun w h => hts w (List.mem_cons_of_mem _ h)
  have hno := B.noHandlers (hts _ List.mem_cons_self)
  have hown : s.vm.findClass RX3 = some m.cls := findClass_of_methodNamed B.named
  have hlocks := B.notSynchronized
  have hK := hE.1
  subst hsz
  have hS : va_S (gA G) s.heap s.heap [] := va_S.rf
  have hl := lv_entry ([.ref (f0 f), .int b, .int i, .int x]) (n := 6) (Nat.le_of_ble_eq_true rfl)
  rw [lg_entry_eq]
  generalize (lg_sl ([.ref (f0 f), .int b, .int i, .int x]) ++ List.replicate (6 - (lg_sl ([.ref (f0 f), .int b, .int i, .int x])).length) Slot.unset).toArray = ls at hl ⊢
  have hl : lv_has ls 6 [(0, .ref (f0 f)), (1, .int b), (2, .int i), (3, .int x)] := hl
  obtain ⟨gm, gf, g, h1, h2, h3, h4, h5, h6, h7, h8, h9⟩ := id hR
  refine lv_aload_n hx hb dX3_part_0 rfl (lv_at hl 0 rfl) ?_
  refine lv_iload_n hx hb dX3_part_1 rfl (lv_at hl 1 rfl) ?_
  refine mw_callV (C := RX3) (As := [.int b]) (rest := []) hx hb hml hown hl (kX3_needBox l htr G s.heap.size M f S hR b) (g_B (n := 1) htb wd271 wd1 wd268 (by decide +kernel) ⟨Nat.le_of_ble_eq_true rfl, Nat.le_of_ble_eq_true rfl⟩) (htb _ wd270) (htb _ ws3) hE hP hS (fs_R.this hR) rfl rfl rfl (Nat.le_of_ble_eq_true rfl) dX3_part_2 ⟨Nat.le_of_ble_eq_true rfl, Nat.le_of_ble_eq_true rfl⟩ (fun v9 M9 H locs hpo hP hz hS => ?_) (fun x9 E9 cell9 H9 locs9 hE9 hx9 ho9 hf9 hP9 hz9 hS9 => mx_outF (thr0 := fs_Th (ex_part S b i x) ["java/lang/IndexOutOfBoundsException"]) hno hlocks ⟨0, by rw [ex_part, if_pos (fun z9 => hE9.2 z9.1)], by rw [hE9.1]; rfl⟩ hx9 ho9 hf9 hP9 hS9 (Nat.le_of_ble_eq_true rfl) (Nat.le_of_ble_eq_true rfl))
  obtain ⟨rfl, rfl, k_1⟩ := hpo
  have h_b := isB_lt k_1 hR.ok.1
  have e_b := fIx_of k_1.1
  rw [e_b] at hl
  obtain ⟨q, hgq, pl, gp, hb1, hb2, hb3, hb4, hb5⟩ := h6 (fIx b) h_b
  refine W.eq (g2 := F0 m 5 ls []) rfl ?_
  refine lv_aload_n hx hb dX3_part_5 rfl (lv_at hl 0 rfl) ?_
  refine mw_get (D := gD G) (ci := 3) (v := .ref (fM f)) (C := RX3) (T := TX3) (N := 6) hx hb htb inX3 hown hK hP h1 rfl 0 (by decide) (htb _ wd56) (fun _ h9 => h9) rfl dX3_part_6 ?_
  refine lv_iload_n hx hb dX3_part_9 rfl (lv_at hl 1 rfl) ?_
  refine mw_aald hx hb hK hP 1 h2 rfl (vp_in_nI (show (fIx b) < 120 by have := h8.1; omega) (by decide)) dX3_part_10 ?_
  refine W.eq (g2 := F0 m 11 ls [.ref q]) (by rw [nI_clamp (show (fIx b) < 2 ^ 31 by have := h8.1; omega), hgq]; rfl) ?_
  refine lv_astore (lv' := [(4, .ref q), (0, .ref (f0 f)), (1, .int (nI (fIx b))), (2, .int i), (3, .int x)]) hx hb dX3_part_11 hl (by decide) rfl (fun ls hl => ?_)
  refine lv_iload_n hx hb dX3_part_13 rfl (lv_at hl 3 rfl) ?_
  refine lv_if_lt (tgt := 29) hx hb dX3_part_14 (by decide) (fun c_2 => ?_) (fun c_2 => ?_)
  · exact g_thrIO (M := M) hx hb htr hno hlocks hml hl hown htb hE (List.mem_cons_of_mem _ (List.mem_cons_of_mem _ (List.mem_cons_of_mem _ (List.mem_cons_of_mem _ (List.mem_cons_of_mem _ (List.mem_cons_of_mem _ (List.mem_cons_of_mem _ (List.mem_cons_of_mem _ (List.mem_cons_of_mem _ (List.mem_cons_of_mem _ (List.mem_cons_of_mem _ (List.mem_cons_of_mem _ (List.mem_cons_of_mem _ List.mem_cons_self))))))))))))) hS hP dX3_part_29 dX3_part_32 dX3_part_33 dX3_part_35 dX3_part_38 (Nat.le_of_ble_eq_true rfl) (Nat.le_of_ble_eq_true rfl) (Nat.le_of_ble_eq_true rfl) (Nat.le_of_ble_eq_true rfl) ⟨0, by rw [ex_part, if_pos (fun z9 => z9.2.1.1 c_2)], rfl⟩ (Nat.le_of_ble_eq_true rfl) (Nat.le_of_ble_eq_true rfl)
  · refine lv_iload_n hx hb dX3_part_17 rfl (lv_at hl 3 rfl) ?_
    refine lv_aload hx hb dX3_part_18 (lv_at hl 0 rfl) ?_
    refine mw_get (D := gD G) (ci := 0) (v := .ref pl) (C := RX0) (T := TX0) (N := 6) hx hb htb inX0 hown hK hP hb1 rfl 3 (by decide) (htb _ wd235) (fun _ h9 => h9) rfl dX3_part_20 ?_
    refine mw_alen (v := (nI (bP S (fIx b)).length)) hx hb hK hP 0 hb2 rfl rfl dX3_part_23 ?_
    refine lv_iconst (v := 3) hx hb dX3_part_24 (by decide) ?_
    refine lv_idiv hx hb dX3_part_25 (by decide) ?_
    refine lv_icmp_lt (tgt := 39) hx hb dX3_part_26 (by decide) (fun c_3 => ?_) (fun c_3 => ?_)
    · have hpl9 := h8.2.1 (fIx b) h_b
      have hlen9 : (bP S (fIx b)).length ≤ 369 := hpl9.2.1
      have h_i := pt_lt hpl9.1 hpl9.2.1 c_2 c_3
      have e_i := fIx_of c_2
      refine lv_iload_n hx hb dX3_part_39 rfl (lv_at hl 4 rfl) ?_
      refine lv_if_lt (tgt := 48) hx hb dX3_part_40 (by decide) (fun c_4 => ?_) (fun c_4 => ?_)
      · exact g_thrIO (M := M) hx hb htr hno hlocks hml hl hown htb hE (List.mem_cons_of_mem _ (List.mem_cons_of_mem _ (List.mem_cons_of_mem _ (List.mem_cons_of_mem _ (List.mem_cons_of_mem _ (List.mem_cons_of_mem _ (List.mem_cons_of_mem _ (List.mem_cons_of_mem _ (List.mem_cons_of_mem _ (List.mem_cons_of_mem _ (List.mem_cons_of_mem _ (List.mem_cons_of_mem _ (List.mem_cons_of_mem _ (List.mem_cons_of_mem _ List.mem_cons_self)))))))))))))) hS hP dX3_part_48 dX3_part_51 dX3_part_52 dX3_part_54 dX3_part_57 (Nat.le_of_ble_eq_true rfl) (Nat.le_of_ble_eq_true rfl) (Nat.le_of_ble_eq_true rfl) (Nat.le_of_ble_eq_true rfl) ⟨0, by rw [ex_part, if_pos (fun z9 => z9.2.2.1 c_4)], rfl⟩ (Nat.le_of_ble_eq_true rfl) (Nat.le_of_ble_eq_true rfl)
      · refine lv_iload_n hx hb dX3_part_43 rfl (lv_at hl 4 rfl) ?_
        refine lv_iconst (v := 5) hx hb dX3_part_44 (by decide) ?_
        refine lv_icmp_le (tgt := 58) hx hb dX3_part_45 (by decide) (fun c_5 => ?_) (fun c_5 => ?_)
        · have h_x : fIx x < 6 := by
            obtain ⟨j, hj, e⟩ := nI_of c_4
            rw [e, fIx_nI hj]
            rcases Nat.lt_or_ge j 6 with q | q
            · exact q
            · exact absurd c_5 (by rw [e]; exact nI_ge (a := 5) (by omega) hj)
          have e_x := fIx_of c_4
          have e_3 : i * 3 = nI (fIx i * 3) := (show i * 3 = nI (fIx i) * nI 3 by rw [← e_i]; rfl).trans (pk_mul _ _)
          refine lv_iload_n hx hb dX3_part_58 rfl (lv_at hl 4 rfl) ?_
          refine lv_iconst (v := 3) hx hb dX3_part_59 (by decide) ?_
          refine lv_icmp_ge (tgt := 75) hx hb dX3_part_60 (by decide) (fun c_6 => ?_) (fun c_6 => ?_)
          · refine lv_aload hx hb dX3_part_75 (lv_at hl 0 rfl) ?_
            refine mw_get (D := gD G) (ci := 0) (v := .ref pl) (C := RX0) (T := TX0) (N := 6) hx hb htb inX0 hown hK hP hb1 rfl 3 (by decide) (htb _ wd235) (fun _ h9 => h9) rfl dX3_part_77 ?_
            refine lv_iload_n hx hb dX3_part_80 rfl (lv_at hl 3 rfl) ?_
            refine lv_iconst (v := 3) hx hb dX3_part_81 (by decide) ?_
            refine lv_imul hx hb dX3_part_82 ?_
            refine mw_iald hx hb hK hP 0 hb2 rfl (by rw [e_3]; exact vp_in_nI (show fIx i * 3 < (bP S (fIx b)).length by omega) (show (bP S (fIx b)).length < 2 ^ 31 by omega)) dX3_part_83 ?_
            refine W.eq (g2 := F0 m 84 ls [.int ((bP S (fIx b)).getD (fIx i * 3) 0)]) (by rw [e_3, nI_clamp (show fIx i * 3 < 2 ^ 31 by omega), hb3 _ (show fIx i * 3 < (bP S (fIx b)).length by omega)]; rfl) ?_
            refine lv_istore (lv' := [(5, .int ((bP S (fIx b)).getD (fIx i * 3) 0)), (4, .ref q), (0, .ref (f0 f)), (1, .int (nI (fIx b))), (2, .int i), (3, .int x)]) hx hb dX3_part_84 hl (by decide) rfl (fun ls hl => ?_)
            refine lv_iload hx hb dX3_part_86 (lv_at hl 0 rfl) ?_
            refine lv_iconst (v := (-1)) hx hb dX3_part_88 (by decide) ?_
            refine lv_icmp_ne (tgt := 120) hx hb dX3_part_89 (by decide) (fun c_7 => ?_) (fun c_7 => ?_)
            · obtain ⟨ji, h_ji, e_ji⟩ := (hpl9.2.2 (fIx i * 3) (by omega) (by omega)).resolve_left c_7
              have e_j : (bP S (fIx b)).getD (fIx i * 3) 0 = nI (fIx ((bP S (fIx b)).getD (fIx i * 3) 0)) := by rw [e_ji, fIx_nI (show ji < 2 ^ 31 by have := h8.1; omega)]
              have h_j : fIx ((bP S (fIx b)).getD (fIx i * 3) 0) < sN S := by rw [e_ji, fIx_nI (show ji < 2 ^ 31 by have := h8.1; omega)]; exact h_ji
              obtain ⟨jx, hjx⟩ : ∃ z9, z9 = fIx ((bP S (fIx b)).getD (fIx i * 3) 0) := ⟨_, rfl⟩
              rw [← hjx] at h_j e_j
              rw [e_j] at hl
              refine lv_iload_n hx hb dX3_part_120 rfl (lv_at hl 5 rfl) ?_
              refine lv_iconst (v := 3) hx hb dX3_part_121 (by decide) ?_
              refine lv_icmp_ne (tgt := 134) hx hb dX3_part_122 (by decide) (fun c_8 => ?_) (fun c_8 => ?_)
              · refine lv_iload_n hx hb dX3_part_134 rfl (lv_at hl 5 rfl) ?_
                refine lv_iconst (v := 4) hx hb dX3_part_135 (by decide) ?_
                refine lv_icmp_ne (tgt := 148) hx hb dX3_part_136 (by decide) (fun c_9 => ?_) (fun c_9 => ?_)
                · refine lv_aload_n hx hb dX3_part_148 rfl (lv_at hl 2 rfl) ?_
                  refine lv_iload hx hb dX3_part_149 (lv_at hl 0 rfl) ?_
                  refine mw_callV (C := RX3) (As := [.int (nI jx)]) (rest := []) hx hb hml hown hl (kX3_depthOf l htr G H.size M f S hR jx h_j) (g_B (n := 1) htb wd397 wd1 wd394 (by decide +kernel) ⟨Nat.le_of_ble_eq_true rfl, Nat.le_of_ble_eq_true rfl⟩) (htb _ wd396) (htb _ ws12) hE hP hS (fs_R.this hR) rfl rfl rfl (Nat.le_of_ble_eq_true rfl) dX3_part_151 ⟨Nat.le_of_ble_eq_true rfl, Nat.le_of_ble_eq_true rfl⟩ (fun v9 M9 H locs hpo hP hz hS => ?_) (fun x9 E9 cell9 H9 locs9 hE9 => hE9.elim)
                  obtain ⟨rfl, rfl⟩ := hpo
                  refine W.eq (g2 := F0 m 154 ls [.int (bD S jx)]) rfl ?_
                  exact mx_iret (v := (bD S jx)) (M' := M) hx hb hr hlocks hP hS ⟨by rw [ex_part, if_neg (fun z9 => z9 ⟨k_1, ⟨c_2, c_3⟩, ⟨c_4, c_5⟩⟩)], by rw [re_part, if_neg (fun z9 => Int32.not_lt.mpr c_6 z9), if_neg c_7, if_neg c_8, if_neg c_9, ← hjx], hR, fs_keeps.of (mw_ext.rf M)⟩ dX3_part_154 (Nat.le_of_ble_eq_true rfl) (Nat.le_of_ble_eq_true rfl)
                · refine lv_aload_n hx hb dX3_part_139 rfl (lv_at hl 2 rfl) ?_
                  refine lv_iload hx hb dX3_part_140 (lv_at hl 0 rfl) ?_
                  refine mw_callV (C := RX3) (As := [.int (nI jx)]) (rest := []) hx hb hml hown hl (kX3_heightOf l htr G H.size M f S hR jx h_j) (g_B (n := 1) htb wd402 wd1 wd399 (by decide +kernel) ⟨Nat.le_of_ble_eq_true rfl, Nat.le_of_ble_eq_true rfl⟩) (htb _ wd401) (htb _ ws13) hE hP hS (fs_R.this hR) rfl rfl rfl (Nat.le_of_ble_eq_true rfl) dX3_part_142 ⟨Nat.le_of_ble_eq_true rfl, Nat.le_of_ble_eq_true rfl⟩ (fun v9 M9 H locs hpo hP hz hS => ?_) (fun x9 E9 cell9 H9 locs9 hE9 => hE9.elim)
                  obtain ⟨rfl, rfl⟩ := hpo
                  refine W.eq (g2 := F0 m 145 ls [.int (bH S jx)]) rfl ?_
                  refine lv_goto (tgt := 154) hx hb dX3_part_145 (by decide) ?_
                  exact mx_iret (v := (bH S jx)) (M' := M) hx hb hr hlocks hP hS ⟨by rw [ex_part, if_neg (fun z9 => z9 ⟨k_1, ⟨c_2, c_3⟩, ⟨c_4, c_5⟩⟩)], by rw [re_part, if_neg (fun z9 => Int32.not_lt.mpr c_6 z9), if_neg c_7, if_neg c_8, if_pos c_9, ← hjx], hR, fs_keeps.of (mw_ext.rf M)⟩ dX3_part_154 (Nat.le_of_ble_eq_true rfl) (Nat.le_of_ble_eq_true rfl)
              · refine lv_aload_n hx hb dX3_part_125 rfl (lv_at hl 2 rfl) ?_
                refine lv_iload hx hb dX3_part_126 (lv_at hl 0 rfl) ?_
                refine mw_callV (C := RX3) (As := [.int (nI jx)]) (rest := []) hx hb hml hown hl (kX3_widthOf l htr G H.size M f S hR jx h_j) (g_B (n := 1) htb wd406 wd1 wd403 (by decide +kernel) ⟨Nat.le_of_ble_eq_true rfl, Nat.le_of_ble_eq_true rfl⟩) (htb _ wd405) (htb _ ws14) hE hP hS (fs_R.this hR) rfl rfl rfl (Nat.le_of_ble_eq_true rfl) dX3_part_128 ⟨Nat.le_of_ble_eq_true rfl, Nat.le_of_ble_eq_true rfl⟩ (fun v9 M9 H locs hpo hP hz hS => ?_) (fun x9 E9 cell9 H9 locs9 hE9 => hE9.elim)
                obtain ⟨rfl, rfl⟩ := hpo
                refine W.eq (g2 := F0 m 131 ls [.int (bW S jx)]) rfl ?_
                refine lv_goto (tgt := 154) hx hb dX3_part_131 (by decide) ?_
                exact mx_iret (v := (bW S jx)) (M' := M) hx hb hr hlocks hP hS ⟨by rw [ex_part, if_neg (fun z9 => z9 ⟨k_1, ⟨c_2, c_3⟩, ⟨c_4, c_5⟩⟩)], by rw [re_part, if_neg (fun z9 => Int32.not_lt.mpr c_6 z9), if_neg c_7, if_pos c_8, ← hjx], hR, fs_keeps.of (mw_ext.rf M)⟩ dX3_part_154 (Nat.le_of_ble_eq_true rfl) (Nat.le_of_ble_eq_true rfl)
            · refine lv_iload_n hx hb dX3_part_92 rfl (lv_at hl 5 rfl) ?_
              refine lv_iconst (v := 3) hx hb dX3_part_93 (by decide) ?_
              refine lv_icmp_ne (tgt := 105) hx hb dX3_part_94 (by decide) (fun c_10 => ?_) (fun c_10 => ?_)
              · refine lv_iload_n hx hb dX3_part_105 rfl (lv_at hl 5 rfl) ?_
                refine lv_iconst (v := 4) hx hb dX3_part_106 (by decide) ?_
                refine lv_icmp_ne (tgt := 118) hx hb dX3_part_107 (by decide) (fun c_11 => ?_) (fun c_11 => ?_)
                · refine lv_iconst (v := 0) hx hb dX3_part_118 (by decide) ?_
                  exact mx_iret (v := 0) (M' := M) hx hb hr hlocks hP hS ⟨by rw [ex_part, if_neg (fun z9 => z9 ⟨k_1, ⟨c_2, c_3⟩, ⟨c_4, c_5⟩⟩)], by rw [re_part, if_neg (fun z9 => Int32.not_lt.mpr c_6 z9), if_pos c_7, if_neg c_10, if_neg c_11], hR, fs_keeps.of (mw_ext.rf M)⟩ dX3_part_119 (Nat.le_of_ble_eq_true rfl) (Nat.le_of_ble_eq_true rfl)
                · refine lv_aload hx hb dX3_part_110 (lv_at hl 1 rfl) ?_
                  refine mw_get (D := gD G) (ci := 0) (v := .int (sB S (fIx b)).2.2.2.2.2) (C := RX0) (T := TX0) (N := 6) hx hb htb inX0 hown hK hP hb1 rfl 5 (by decide) (htb _ wd239) (fun _ h9 => h9) rfl dX3_part_112 ?_
                  refine lv_goto (tgt := 119) hx hb dX3_part_115 (by decide) ?_
                  exact mx_iret (v := (sB S (fIx b)).2.2.2.2.2) (M' := M) hx hb hr hlocks hP hS ⟨by rw [ex_part, if_neg (fun z9 => z9 ⟨k_1, ⟨c_2, c_3⟩, ⟨c_4, c_5⟩⟩)], by rw [re_part, if_neg (fun z9 => Int32.not_lt.mpr c_6 z9), if_pos c_7, if_neg c_10, if_pos c_11], hR, fs_keeps.of (mw_ext.rf M)⟩ dX3_part_119 (Nat.le_of_ble_eq_true rfl) (Nat.le_of_ble_eq_true rfl)
              · refine lv_aload hx hb dX3_part_97 (lv_at hl 1 rfl) ?_
                refine mw_get (D := gD G) (ci := 0) (v := .int (sB S (fIx b)).2.2.2.2.1) (C := RX0) (T := TX0) (N := 6) hx hb htb inX0 hown hK hP hb1 rfl 4 (by decide) (htb _ wd237) (fun _ h9 => h9) rfl dX3_part_99 ?_
                refine lv_goto (tgt := 119) hx hb dX3_part_102 (by decide) ?_
                exact mx_iret (v := (sB S (fIx b)).2.2.2.2.1) (M' := M) hx hb hr hlocks hP hS ⟨by rw [ex_part, if_neg (fun z9 => z9 ⟨k_1, ⟨c_2, c_3⟩, ⟨c_4, c_5⟩⟩)], by rw [re_part, if_neg (fun z9 => Int32.not_lt.mpr c_6 z9), if_pos c_7, if_pos c_10], hR, fs_keeps.of (mw_ext.rf M)⟩ dX3_part_119 (Nat.le_of_ble_eq_true rfl) (Nat.le_of_ble_eq_true rfl)
          · have h_x3 : fIx x < 3 := ix_lt (by decide) c_4 (Int32.not_le.mp c_6)
            have e_4 : i * 3 + x = nI (fIx i * 3 + fIx x) := by rw [e_3, ← nI_add, ← e_x]
            refine lv_aload hx hb dX3_part_63 (lv_at hl 0 rfl) ?_
            refine mw_get (D := gD G) (ci := 0) (v := .ref pl) (C := RX0) (T := TX0) (N := 6) hx hb htb inX0 hown hK hP hb1 rfl 3 (by decide) (htb _ wd235) (fun _ h9 => h9) rfl dX3_part_65 ?_
            refine lv_iload_n hx hb dX3_part_68 rfl (lv_at hl 3 rfl) ?_
            refine lv_iconst (v := 3) hx hb dX3_part_69 (by decide) ?_
            refine lv_imul hx hb dX3_part_70 ?_
            refine lv_iload_n hx hb dX3_part_71 rfl (lv_at hl 4 rfl) ?_
            refine lv_iadd hx hb dX3_part_72 ?_
            refine mw_iald hx hb hK hP 0 hb2 rfl (by rw [e_4]; exact vp_in_nI (show fIx i * 3 + fIx x < (bP S (fIx b)).length by omega) (show (bP S (fIx b)).length < 2 ^ 31 by omega)) dX3_part_73 ?_
            refine W.eq (g2 := F0 m 74 ls [.int ((bP S (fIx b)).getD (fIx i * 3 + fIx x) 0)]) (by rw [e_4, nI_clamp (show fIx i * 3 + fIx x < 2 ^ 31 by omega), hb3 _ (show fIx i * 3 + fIx x < (bP S (fIx b)).length by omega)]; rfl) ?_
            exact mx_iret (v := ((bP S (fIx b)).getD (fIx i * 3 + fIx x) 0)) (M' := M) hx hb hr hlocks hP hS ⟨by rw [ex_part, if_neg (fun z9 => z9 ⟨k_1, ⟨c_2, c_3⟩, ⟨c_4, c_5⟩⟩)], by rw [re_part, if_pos (Int32.not_le.mp c_6)], hR, fs_keeps.of (mw_ext.rf M)⟩ dX3_part_74 (Nat.le_of_ble_eq_true rfl) (Nat.le_of_ble_eq_true rfl)
        · exact g_thrIO (M := M) hx hb htr hno hlocks hml hl hown htb hE (List.mem_cons_of_mem _ (List.mem_cons_of_mem _ (List.mem_cons_of_mem _ (List.mem_cons_of_mem _ (List.mem_cons_of_mem _ (List.mem_cons_of_mem _ (List.mem_cons_of_mem _ (List.mem_cons_of_mem _ (List.mem_cons_of_mem _ (List.mem_cons_of_mem _ (List.mem_cons_of_mem _ (List.mem_cons_of_mem _ (List.mem_cons_of_mem _ (List.mem_cons_of_mem _ List.mem_cons_self)))))))))))))) hS hP dX3_part_48 dX3_part_51 dX3_part_52 dX3_part_54 dX3_part_57 (Nat.le_of_ble_eq_true rfl) (Nat.le_of_ble_eq_true rfl) (Nat.le_of_ble_eq_true rfl) (Nat.le_of_ble_eq_true rfl) ⟨0, by rw [ex_part, if_pos (fun z9 => c_5 z9.2.2.2)], rfl⟩ (Nat.le_of_ble_eq_true rfl) (Nat.le_of_ble_eq_true rfl)
    · exact g_thrIO (M := M) hx hb htr hno hlocks hml hl hown htb hE (List.mem_cons_of_mem _ (List.mem_cons_of_mem _ (List.mem_cons_of_mem _ (List.mem_cons_of_mem _ (List.mem_cons_of_mem _ (List.mem_cons_of_mem _ (List.mem_cons_of_mem _ (List.mem_cons_of_mem _ (List.mem_cons_of_mem _ (List.mem_cons_of_mem _ (List.mem_cons_of_mem _ (List.mem_cons_of_mem _ (List.mem_cons_of_mem _ List.mem_cons_self))))))))))))) hS hP dX3_part_29 dX3_part_32 dX3_part_33 dX3_part_35 dX3_part_38 (Nat.le_of_ble_eq_true rfl) (Nat.le_of_ble_eq_true rfl) (Nat.le_of_ble_eq_true rfl) (Nat.le_of_ble_eq_true rfl) ⟨0, by rw [ex_part, if_pos (fun z9 => c_3 z9.2.1.2)], rfl⟩ (Nat.le_of_ble_eq_true rfl) (Nat.le_of_ble_eq_true rfl)
