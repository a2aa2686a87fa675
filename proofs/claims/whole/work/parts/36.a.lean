/-! printed by wip/whole/spec*.py -/
-- X3_needBoxOrNone
set_option maxHeartbeats 4000000 in
set_option maxRecDepth 100000 in
theorem kX3_needBoxOrNone (l : Launch) (htr : l.stackTraces = false) (G : gx_G) (sz : Nat) (M : mw_M) (f : fs_A) (S : fs_S) (hR : fs_R G f M S) (x : Int32) : g_Met l G yX3_needBoxOrNone (.code yX3_needBoxOrNone cX3_needBoxOrNone 2 none) ({ frames := 7, cells := 1, slots := 6, locals := 160 } : Room) sz M [.ref (f0 f), .int x] (fun v M9 => v = none ∧ M = M9 ∧ (x = (-1) ∨ (¬ x < 0 ∧ ¬ nI (sN S) ≤ x))) (fun E => E = "java/lang/IndexOutOfBoundsException" ∧ ¬ (x = (-1) ∨ (¬ x < 0 ∧ ¬ nI (sN S) ≤ x))) := by
  refine MetE.ofW (cc := cX3_needBoxOrNone) (maxL := 2) (ret := none) (by decide) rfl ?_
  intro p e s m args below meth c s₁ B hml hv
  obtain ⟨rfl, hsz, hP, hE⟩ := hv
  have hx := B.exec
  have hb := B.bytes
  have hr := B.returns
  have hts := atoms_spec (ws := _ :: lw_big) B.pre
  have htb : ∀ w ∈ lw_big, w.before _ s = true := fun w h => hts w (List.mem_cons_of_mem _ h)
  have hno := B.noHandlers (hts _ List.mem_cons_self)
  have hown : s.vm.findClass RX3 = some m.cls := findClass_of_methodNamed B.named
  have hlocks := B.notSynchronized
  have hK := hE.1
  subst hsz
  have hS : va_S (gA G) s.heap s.heap [] := va_S.rf
  have hl := lv_entry ([.ref (f0 f), .int x]) (n := 2) (Nat.le_of_ble_eq_true rfl)
  rw [lg_entry_eq]
  generalize (lg_sl ([.ref (f0 f), .int x]) ++ List.replicate (2 - (lg_sl ([.ref (f0 f), .int x])).length) Slot.unset).toArray = ls at hl ⊢
  have hl : lv_has ls 2 [(0, .ref (f0 f)), (1, .int x)] := hl
  refine lv_iload_n hx hb dX3_needBoxOrNone_0 rfl (lv_at hl 1 rfl) ?_
  refine lv_iconst (v := (-1)) hx hb dX3_needBoxOrNone_1 (by decide) ?_
  refine lv_icmp_eq (tgt := 10) hx hb dX3_needBoxOrNone_2 (by decide) (fun c_1 => ?_) (fun c_1 => ?_)
  · exact mx_vret (M' := M) hx hb hr hlocks hP hS ⟨rfl, rfl, (Or.inl c_1)⟩ dX3_needBoxOrNone_10 (Nat.le_of_ble_eq_true rfl) (Nat.le_of_ble_eq_true rfl)
  · refine lv_aload_n hx hb dX3_needBoxOrNone_5 rfl (lv_at hl 0 rfl) ?_
    refine lv_iload_n hx hb dX3_needBoxOrNone_6 rfl (lv_at hl 1 rfl) ?_
    refine mw_callV (C := RX3) (As := [.int x]) (rest := []) hx hb hml hown hl (kX3_needBox l htr G s.heap.size M f S hR x) (g_B (n := 1) htb wd271 wd1 wd268 (by decide +kernel) ⟨Nat.le_of_ble_eq_true rfl, Nat.le_of_ble_eq_true rfl⟩) (htb _ wd270) (htb _ ws3) hE hP hS (fs_R.this hR) rfl rfl rfl (Nat.le_of_ble_eq_true rfl) dX3_needBoxOrNone_7 ⟨Nat.le_of_ble_eq_true rfl, Nat.le_of_ble_eq_true rfl⟩ (fun v9 M9 H locs hpo hP hz hS => ?_) (fun x9 E9 cell9 H9 locs9 hE9 hx9 ho9 hf9 hP9 hz9 hS9 => mx_outF (thr0 := fun E => E = "java/lang/IndexOutOfBoundsException" ∧ ¬ (x = (-1) ∨ (¬ x < 0 ∧ ¬ nI (sN S) ≤ x))) hno hlocks ⟨hE9.1, fun z => z.elim c_1 hE9.2⟩ hx9 ho9 hf9 hP9 hS9 (Nat.le_of_ble_eq_true rfl) (Nat.le_of_ble_eq_true rfl))
    obtain ⟨rfl, rfl, k_2⟩ := hpo
    refine W.eq (g2 := F0 m 10 ls []) rfl ?_
    exact mx_vret (M' := M) hx hb hr hlocks hP hS ⟨rfl, rfl, (Or.inr k_2)⟩ dX3_needBoxOrNone_10 (Nat.le_of_ble_eq_true rfl) (Nat.le_of_ble_eq_true rfl)
-- X3_needSign
set_option maxHeartbeats 4000000 in
set_option maxRecDepth 100000 in
theorem kX3_needSign (l : Launch) (htr : l.stackTraces = false) (G : gx_G) (sz : Nat) (M : mw_M) (f : fs_A) (S : fs_S) (hR : fs_R G f M S) (k : Nat) (hk : k < 8) : g_Met l G yX3_needSign (.code yX3_needSign cX3_needSign 1 none) ({ frames := 6, cells := 1, slots := 6, locals := 120 } : Room) sz M [.ref (fQ f k)] (fun v M9 => v = none ∧ M = M9 ∧ (¬ (nI (sF S k).1.length = 0 ∧ (sF S k).2.2.2.2 = (-1)))) (fun E => E = "java/lang/IllegalStateException" ∧ ¬ (¬ (nI (sF S k).1.length = 0 ∧ (sF S k).2.2.2.2 = (-1)))) := by
  refine MetE.ofW (cc := cX3_needSign) (maxL := 1) (ret := none) (by decide) rfl ?_
  intro p e s m args below meth c s₁ B hml hv
  obtain ⟨rfl, hsz, hP, hE⟩ := hv
  have hx := B.exec
  have hb := B.bytes
  have hr := B.returns
  have hts := atoms_spec (ws := _ :: lw_big) B.pre
  have htb : ∀ w ∈ lw_big, w.before _ s = true := fun w h => hts w (List.mem_cons_of_mem _ h)
  have hno := B.noHandlers (hts _ List.mem_cons_self)
  have hown : s.vm.findClass RX3 = some m.cls := findClass_of_methodNamed B.named
  have hlocks := B.notSynchronized
  have hK := hE.1
  subst hsz
  have hS : va_S (gA G) s.heap s.heap [] := va_S.rf
  have hl := lv_entry ([.ref (fQ f k)]) (n := 1) (Nat.le_of_ble_eq_true rfl)
  rw [lg_entry_eq]
  generalize (lg_sl ([.ref (fQ f k)]) ++ List.replicate (1 - (lg_sl ([.ref (fQ f k)])).length) Slot.unset).toArray = ls at hl ⊢
  have hl : lv_has ls 1 [(0, .ref (fQ f k))] := hl
  obtain ⟨gm, gf, g, h1, h2, h3, h4, h5, h6, h7, h8, h9⟩ := id hR
  obtain ⟨hgf_k, gr_k, hf1_k, hf2_k, hf3_k⟩ := h7 k hk
  refine lv_aload_n hx hb dX3_needSign_0 rfl (lv_at hl 0 rfl) ?_
  refine mw_get (D := gD G) (ci := 1) (v := .int (nI (sF S k).1.length)) (C := RX1) (T := TX1) (N := 6) hx hb htb inX1 hown hK hP hf1_k rfl 1 (by decide) (htb _ wd33) (fun _ h9 => h9) rfl dX3_needSign_1 ?_
  refine lv_if_ne (tgt := 25) hx hb dX3_needSign_4 (by decide) (fun c_1 => ?_) (fun c_1 => ?_)
  · exact mx_vret (M' := M) hx hb hr hlocks hP hS ⟨rfl, rfl, (by first | (simp only [*, not_true_eq_false, not_false_eq_true, and_self, or_self, true_and, and_true, true_or, or_true, false_and, and_false, false_or, or_false]; done) | simp_all)⟩ dX3_needSign_25 (Nat.le_of_ble_eq_true rfl) (Nat.le_of_ble_eq_true rfl)
  · refine lv_aload_n hx hb dX3_needSign_7 rfl (lv_at hl 0 rfl) ?_
    refine mw_get (D := gD G) (ci := 1) (v := .int (sF S k).2.2.2.2) (C := RX1) (T := TX1) (N := 6) hx hb htb inX1 hown hK hP hf1_k rfl 5 (by decide) (htb _ wd41) (fun _ h9 => h9) rfl dX3_needSign_8 ?_
    refine lv_iconst (v := (-1)) hx hb dX3_needSign_11 (by decide) ?_
    refine lv_icmp_ne (tgt := 25) hx hb dX3_needSign_12 (by decide) (fun c_2 => ?_) (fun c_2 => ?_)
    · exact mx_vret (M' := M) hx hb hr hlocks hP hS ⟨rfl, rfl, (by first | (simp only [*, not_true_eq_false, not_false_eq_true, and_self, or_self, true_and, and_true, true_or, or_true, false_and, and_false, false_or, or_false]; done) | simp_all)⟩ dX3_needSign_25 (Nat.le_of_ble_eq_true rfl) (Nat.le_of_ble_eq_true rfl)
    · exact g_thrIS (M := M) hx hb htr hno hlocks hml hl hown htb hE (List.mem_cons_of_mem _ (List.mem_cons_of_mem _ (List.mem_cons_of_mem _ (List.mem_cons_of_mem _ (List.mem_cons_of_mem _ (List.mem_cons_of_mem _ (List.mem_cons_of_mem _ (List.mem_cons_of_mem _ (List.mem_cons_of_mem _ List.mem_cons_self))))))))) hS hP dX3_needSign_15 dX3_needSign_18 dX3_needSign_19 dX3_needSign_21 dX3_needSign_24 (Nat.le_of_ble_eq_true rfl) (Nat.le_of_ble_eq_true rfl) (Nat.le_of_ble_eq_true rfl) (Nat.le_of_ble_eq_true rfl) ⟨rfl, (by first | (simp only [*, not_true_eq_false, not_false_eq_true, and_self, or_self, true_and, and_true, true_or, or_true, false_and, and_false, false_or, or_false]; done) | simp_all)⟩ (Nat.le_of_ble_eq_true rfl) (Nat.le_of_ble_eq_true rfl)
-- X3_onAxis
set_option maxHeartbeats 4000000 in
set_option maxRecDepth 100000 in
theorem kX3_onAxis (l : Launch) (htr : l.stackTraces = false) (G : gx_G) (sz : Nat) (M : mw_M) (f : fs_A) (S : fs_S) (hR : fs_R G f M S) (st i : Nat) (h_st : st < 4) (hi : i < sN S) : g_Met l G yX3_onAxis (.code yX3_onAxis cX3_onAxis 3 (some .int)) ({ frames := 2, cells := 0, slots := 0, locals := 100 } : Room) sz M [.ref (f0 f), .int (nI st), .int (nI i)] (fun v M9 => v = some (.int (fs_ax S st i)) ∧ M = M9) (fun _ => False) := by
  refine MetE.ofW (cc := cX3_onAxis) (maxL := 3) (ret := (some .int)) (by decide) rfl ?_
  intro p e s m args below meth c s₁ B hml hv
  obtain ⟨rfl, hsz, hP, hE⟩ := hv
  have hx := B.exec
  have hb := B.bytes
  have hr := B.returns
  have hts := atoms_spec (ws := _ :: lw_big) B.pre
  have htb : ∀ w ∈ lw_big, w.before _ s = true := fun w h => hts w (List.mem_cons_of_mem _ h)
  have hno := B.noHandlers (hts _ List.mem_cons_self)
  have hown : s.vm.findClass RX3 = some m.cls := findClass_of_methodNamed B.named
  have hlocks := B.notSynchronized
  have hK := hE.1
  subst hsz
  have hS : va_S (gA G) s.heap s.heap [] := va_S.rf
  have hl := lv_entry ([.ref (f0 f), .int (nI st), .int (nI i)]) (n := 3) (Nat.le_of_ble_eq_true rfl)
  rw [lg_entry_eq]
  generalize (lg_sl ([.ref (f0 f), .int (nI st), .int (nI i)]) ++ List.replicate (3 - (lg_sl ([.ref (f0 f), .int (nI st), .int (nI i)])).length) Slot.unset).toArray = ls at hl ⊢
  have hl : lv_has ls 3 [(0, .ref (f0 f)), (1, .int (nI st)), (2, .int (nI i))] := hl
  refine lv_aload_n hx hb dX3_onAxis_0 rfl (lv_at hl 0 rfl) ?_
  refine lv_iload_n hx hb dX3_onAxis_1 rfl (lv_at hl 1 rfl) ?_
  refine lv_iconst (v := 0) hx hb dX3_onAxis_2 (by decide) ?_
  refine mw_callV (C := RX3) (As := [.int (nI st), .int 0]) (rest := []) hx hb hml hown hl (kX3_valueOf l htr G s.heap.size M f S hR st 0 h_st (by decide)) (g_B (n := 2) htb wd390 wd1 wd387 (by decide +kernel) ⟨Nat.le_of_ble_eq_true rfl, Nat.le_of_ble_eq_true rfl⟩) (htb _ wd389) (htb _ ws11) hE hP hS (fs_R.this hR) rfl rfl rfl (Nat.le_of_ble_eq_true rfl) dX3_onAxis_3 ⟨Nat.le_of_ble_eq_true rfl, Nat.le_of_ble_eq_true rfl⟩ (fun v9 M9 H locs hpo hP hz hS => ?_) (fun x9 E9 cell9 H9 locs9 hE9 => hE9.elim)
  obtain ⟨rfl, rfl⟩ := hpo
  refine W.eq (g2 := F0 m 6 ls [.int (pV S st 0)]) rfl ?_
  refine lv_aload_n hx hb dX3_onAxis_6 rfl (lv_at hl 0 rfl) ?_
  refine lv_iload_n hx hb dX3_onAxis_7 rfl (lv_at hl 2 rfl) ?_
  refine mw_callV (C := RX3) (As := [.int (nI i)]) (rest := [.int (pV S st 0)]) hx hb hml hown hl (kX3_heightOf l htr G H.size M f S hR i hi) (g_B (n := 1) htb wd402 wd1 wd399 (by decide +kernel) ⟨Nat.le_of_ble_eq_true rfl, Nat.le_of_ble_eq_true rfl⟩) (htb _ wd401) (htb _ ws13) hE hP hS (fs_R.this hR) rfl rfl rfl (Nat.le_of_ble_eq_true rfl) dX3_onAxis_8 ⟨Nat.le_of_ble_eq_true rfl, Nat.le_of_ble_eq_true rfl⟩ (fun v9 M9 H locs hpo hP hz hS => ?_) (fun x9 E9 cell9 H9 locs9 hE9 => hE9.elim)
  obtain ⟨rfl, rfl⟩ := hpo
  refine W.eq (g2 := F0 m 11 ls [.int (bH S i), .int (pV S st 0)]) rfl ?_
  refine lv_aload_n hx hb dX3_onAxis_11 rfl (lv_at hl 0 rfl) ?_
  refine lv_iload_n hx hb dX3_onAxis_12 rfl (lv_at hl 2 rfl) ?_
  refine mw_callV (C := RX3) (As := [.int (nI i)]) (rest := [.int (bH S i), .int (pV S st 0)]) hx hb hml hown hl (kX3_depthOf l htr G H.size M f S hR i hi) (g_B (n := 1) htb wd397 wd1 wd394 (by decide +kernel) ⟨Nat.le_of_ble_eq_true rfl, Nat.le_of_ble_eq_true rfl⟩) (htb _ wd396) (htb _ ws12) hE hP hS (fs_R.this hR) rfl rfl rfl (Nat.le_of_ble_eq_true rfl) dX3_onAxis_13 ⟨Nat.le_of_ble_eq_true rfl, Nat.le_of_ble_eq_true rfl⟩ (fun v9 M9 H locs hpo hP hz hS => ?_) (fun x9 E9 cell9 H9 locs9 hE9 => hE9.elim)
  obtain ⟨rfl, rfl⟩ := hpo
  refine W.eq (g2 := F0 m 16 ls [.int (bD S i), .int (bH S i), .int (pV S st 0)]) rfl ?_
  refine lv_isub hx hb dX3_onAxis_16 ?_
  refine mw_callS (As := [.int ((bH S i) - (bD S i))]) (rest := [.int (pV S st 0)]) hx hb hml hown hl (kX3_half l htr G H.size M ((bH S i) - (bD S i))) (g_B (n := 1) htb wd393 wd1 wd391 (by decide +kernel) ⟨Nat.le_of_ble_eq_true rfl, Nat.le_of_ble_eq_true rfl⟩) (htb _ wd392) hE hP hS rfl rfl (Nat.le_of_ble_eq_true rfl) dX3_onAxis_17 ⟨Nat.le_of_ble_eq_true rfl, Nat.le_of_ble_eq_true rfl⟩ (fun v9 M9 H locs hpo hP hz hS => ?_) (fun x9 E9 cell9 H9 locs9 hE9 => hE9.elim)
  obtain ⟨rfl, rfl⟩ := hpo
  refine W.eq (g2 := F0 m 20 ls [.int (fHf ((bH S i) - (bD S i))), .int (pV S st 0)]) rfl ?_
  refine lv_isub hx hb dX3_onAxis_20 ?_
  exact mx_iret (v := ((pV S st 0) - (fHf ((bH S i) - (bD S i))))) (M' := M) hx hb hr hlocks hP hS ⟨rfl, rfl⟩ dX3_onAxis_21 (Nat.le_of_ble_eq_true rfl) (Nat.le_of_ble_eq_true rfl)
