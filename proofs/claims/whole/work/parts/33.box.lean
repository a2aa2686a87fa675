/-! printed by wip/whole/spec*.py -/
-- Box(6)
set_option maxHeartbeats 4000000 in
set_option maxRecDepth 100000 in
theorem kX0_init_1 (l : Launch) (htr : l.stackTraces = false) (G : gx_G) (sz : Nat) (M : mw_M) (q : Nat) (hAq : gA G q) (hq : M q = some (.inr (0, [.int 0, .int 0, .int 0, .null, .int 0, .int 0]))) (w h d : Int32) (pl : Nat) (rw rh : Int32) : g_Met l G yX0_init_1 (.code yX0_init_1 cX0_init_1 7 none) ({ frames := 1, cells := 0, slots := 0, locals := 60 } : Room) sz M [.ref q, .int w, .int h, .int d, .ref pl, .int rw, .int rh] (fun v M9 => v = none ∧ mw_up M q (.inr (0, [.int w, .int h, .int d, .ref pl, .int rw, .int rh])) = M9) (fun _ => False) := by
  refine MetE.ofW (cc := cX0_init_1) (maxL := 7) (ret := none) (by decide) rfl ?_
  intro p e s m args below meth c s₁ B hml hv
  obtain ⟨rfl, hsz, hP, hE⟩ := hv
  have hx := B.exec
  have hb := B.bytes
  have hr := B.returns
  have hts := atoms_spec (ws := _ :: lw_big) B.pre
  have htb : ∀ w ∈ lw_big, w.before _ s = true := fun w h => hts w (List.mem_cons_of_mem _ h)
  have hno := B.noHandlers (hts _ List.mem_cons_self)
  have hown : s.vm.findClass RX0 = some m.cls := findClass_of_methodNamed B.named
  have hlocks := B.notSynchronized
  have hin : meth.name = "<init>" := (name_of_methodNamed B.named B.method).1
  have hK := hE.1
  subst hsz
  have hS : va_S (gA G) s.heap s.heap [] := va_S.rf
  have hl := lv_entry ([.ref q, .int w, .int h, .int d, .ref pl, .int rw, .int rh]) (n := 7) (Nat.le_of_ble_eq_true rfl)
  rw [lg_entry_eq]
  generalize (lg_sl ([.ref q, .int w, .int h, .int d, .ref pl, .int rw, .int rh]) ++ List.replicate (7 - (lg_sl ([.ref q, .int w, .int h, .int d, .ref pl, .int rw, .int rh])).length) Slot.unset).toArray = ls at hl ⊢
  have hl : lv_has ls 7 [(0, .ref q), (1, .int w), (2, .int h), (3, .int d), (4, .ref pl), (5, .int rw), (6, .int rh)] := hl
  refine lv_aload_n hx hb dX0_init_1_0 rfl (lv_at hl 0 rfl) ?_
  refine W.objInit hx hb hown (htb _ wd224) (htb _ wd20) (htb _ wd21) rfl (by rw [hml]; exact hl.1) rfl dX0_init_1_1 (Nat.le_of_ble_eq_true rfl) (Nat.le_of_ble_eq_true rfl) ?_
  refine W.eq (g2 := F0 m 4 ls []) rfl ?_
  refine lv_aload_n hx hb dX0_init_1_4 rfl (lv_at hl 0 rfl) ?_
  refine lv_iload_n hx hb dX0_init_1_5 rfl (lv_at hl 1 rfl) ?_
  refine mw_putF (D := gD G) (ci := 0) (v := .int w) (ty := .int) (C := RX0) (T := TX0) (N := 6) hx hb htb inX0 tyX0 tyX0_ok nmX0 hown hK hP hS hq hAq rfl 0 (by decide) (htb _ wd225) (fun _ h9 => h9) rfl hin rfl (by decide +kernel) rfl rfl (Nat.le_of_ble_eq_true rfl) dX0_init_1_6 (fun H locs hP hS => ?_)
  obtain ⟨M_1, hM_1⟩ : ∃ z9 : mw_M, z9 = mw_up M q (.inr (0, [.int w, .int 0, .int 0, .null, .int 0, .int 0])) := ⟨_, rfl⟩
  have hP : mw_P (gD G) gx_cl M_1 H := by rw [hM_1]; exact hP
  have f_2 : M_1 q = some (.inr (0, [.int w, .int 0, .int 0, .null, .int 0, .int 0])) := by rw [hM_1]; exact mw_self _ _ _
  refine lv_aload_n hx hb dX0_init_1_9 rfl (lv_at hl 0 rfl) ?_
  refine lv_iload_n hx hb dX0_init_1_10 rfl (lv_at hl 2 rfl) ?_
  refine mw_putF (D := gD G) (ci := 0) (v := .int h) (ty := .int) (C := RX0) (T := TX0) (N := 6) hx hb htb inX0 tyX0 tyX0_ok nmX0 hown hK hP hS f_2 hAq rfl 1 (by decide) (htb _ wd228) (fun _ h9 => h9) rfl hin rfl (by decide +kernel) rfl rfl (Nat.le_of_ble_eq_true rfl) dX0_init_1_11 (fun H locs hP hS => ?_)
  obtain ⟨M_3, hM_3⟩ : ∃ z9 : mw_M, z9 = mw_up M_1 q (.inr (0, [.int w, .int h, .int 0, .null, .int 0, .int 0])) := ⟨_, rfl⟩
  have hP : mw_P (gD G) gx_cl M_3 H := by rw [hM_3]; exact hP
  have f_4 : M_3 q = some (.inr (0, [.int w, .int h, .int 0, .null, .int 0, .int 0])) := by rw [hM_3]; exact mw_self _ _ _
  refine lv_aload_n hx hb dX0_init_1_14 rfl (lv_at hl 0 rfl) ?_
  refine lv_iload_n hx hb dX0_init_1_15 rfl (lv_at hl 3 rfl) ?_
  refine mw_putF (D := gD G) (ci := 0) (v := .int d) (ty := .int) (C := RX0) (T := TX0) (N := 6) hx hb htb inX0 tyX0 tyX0_ok nmX0 hown hK hP hS f_4 hAq rfl 2 (by decide) (htb _ wd231) (fun _ h9 => h9) rfl hin rfl (by decide +kernel) rfl rfl (Nat.le_of_ble_eq_true rfl) dX0_init_1_16 (fun H locs hP hS => ?_)
  obtain ⟨M_5, hM_5⟩ : ∃ z9 : mw_M, z9 = mw_up M_3 q (.inr (0, [.int w, .int h, .int d, .null, .int 0, .int 0])) := ⟨_, rfl⟩
  have hP : mw_P (gD G) gx_cl M_5 H := by rw [hM_5]; exact hP
  have f_6 : M_5 q = some (.inr (0, [.int w, .int h, .int d, .null, .int 0, .int 0])) := by rw [hM_5]; exact mw_self _ _ _
  refine lv_aload_n hx hb dX0_init_1_19 rfl (lv_at hl 0 rfl) ?_
  refine lv_aload hx hb dX0_init_1_20 (lv_at hl 4 rfl) ?_
  refine mw_putF (D := gD G) (ci := 0) (v := .ref pl) (ty := .array (.int)) (C := RX0) (T := TX0) (N := 6) hx hb htb inX0 tyX0 tyX0_ok nmX0 hown hK hP hS f_6 hAq rfl 3 (by decide) (htb _ wd234) (fun _ h9 => h9) rfl hin rfl (by decide +kernel) rfl rfl (Nat.le_of_ble_eq_true rfl) dX0_init_1_22 (fun H locs hP hS => ?_)
  obtain ⟨M_7, hM_7⟩ : ∃ z9 : mw_M, z9 = mw_up M_5 q (.inr (0, [.int w, .int h, .int d, .ref pl, .int 0, .int 0])) := ⟨_, rfl⟩
  have hP : mw_P (gD G) gx_cl M_7 H := by rw [hM_7]; exact hP
  have f_8 : M_7 q = some (.inr (0, [.int w, .int h, .int d, .ref pl, .int 0, .int 0])) := by rw [hM_7]; exact mw_self _ _ _
  refine lv_aload_n hx hb dX0_init_1_25 rfl (lv_at hl 0 rfl) ?_
  refine lv_iload hx hb dX0_init_1_26 (lv_at hl 5 rfl) ?_
  refine mw_putF (D := gD G) (ci := 0) (v := .int rw) (ty := .int) (C := RX0) (T := TX0) (N := 6) hx hb htb inX0 tyX0 tyX0_ok nmX0 hown hK hP hS f_8 hAq rfl 4 (by decide) (htb _ wd236) (fun _ h9 => h9) rfl hin rfl (by decide +kernel) rfl rfl (Nat.le_of_ble_eq_true rfl) dX0_init_1_28 (fun H locs hP hS => ?_)
  obtain ⟨M_9, hM_9⟩ : ∃ z9 : mw_M, z9 = mw_up M_7 q (.inr (0, [.int w, .int h, .int d, .ref pl, .int rw, .int 0])) := ⟨_, rfl⟩
  have hP : mw_P (gD G) gx_cl M_9 H := by rw [hM_9]; exact hP
  have f_10 : M_9 q = some (.inr (0, [.int w, .int h, .int d, .ref pl, .int rw, .int 0])) := by rw [hM_9]; exact mw_self _ _ _
  refine lv_aload_n hx hb dX0_init_1_31 rfl (lv_at hl 0 rfl) ?_
  refine lv_iload hx hb dX0_init_1_32 (lv_at hl 6 rfl) ?_
  refine mw_putF (D := gD G) (ci := 0) (v := .int rh) (ty := .int) (C := RX0) (T := TX0) (N := 6) hx hb htb inX0 tyX0 tyX0_ok nmX0 hown hK hP hS f_10 hAq rfl 5 (by decide) (htb _ wd238) (fun _ h9 => h9) rfl hin rfl (by decide +kernel) rfl rfl (Nat.le_of_ble_eq_true rfl) dX0_init_1_34 (fun H locs hP hS => ?_)
  obtain ⟨M_11, hM_11⟩ : ∃ z9 : mw_M, z9 = mw_up M_9 q (.inr (0, [.int w, .int h, .int d, .ref pl, .int rw, .int rh])) := ⟨_, rfl⟩
  have hP : mw_P (gD G) gx_cl M_11 H := by rw [hM_11]; exact hP
  have f_12 : M_11 q = some (.inr (0, [.int w, .int h, .int d, .ref pl, .int rw, .int rh])) := by rw [hM_11]; exact mw_self _ _ _
  exact mx_vret (M' := M_11) hx hb hr hlocks hP hS ⟨rfl, by rw [hM_11, hM_9, hM_7, hM_5, hM_3, hM_1, mw_upup, mw_upup, mw_upup, mw_upup, mw_upup]⟩ dX0_init_1_37 (Nat.le_of_ble_eq_true rfl) (Nat.le_of_ble_eq_true rfl)
-- Box(4)
set_option maxHeartbeats 4000000 in
set_option maxRecDepth 100000 in
theorem kX0_init_0 (l : Launch) (htr : l.stackTraces = false) (G : gx_G) (sz : Nat) (M : mw_M) (q : Nat) (hAq : gA G q) (hq : M q = some (.inr (0, [.int 0, .int 0, .int 0, .null, .int 0, .int 0]))) (w h d : Int32) (pl : Nat) : g_Met l G yX0_init_0 (.code yX0_init_0 cX0_init_0 5 none) ({ frames := 2, cells := 0, slots := 0, locals := 100 } : Room) sz M [.ref q, .int w, .int h, .int d, .ref pl] (fun v M9 => v = none ∧ mw_up M q (.inr (0, [.int w, .int h, .int d, .ref pl, .int 0, .int 0])) = M9) (fun _ => False) := by
  refine MetE.ofW (cc := cX0_init_0) (maxL := 5) (ret := none) (by decide) rfl ?_
  intro p e s m args below meth c s₁ B hml hv
  obtain ⟨rfl, hsz, hP, hE⟩ := hv
  have hx := B.exec
  have hb := B.bytes
  have hr := B.returns
  have hts := atoms_spec (ws := _ :: lw_big) B.pre
  have htb : ∀ w ∈ lw_big, w.before _ s = true := fun w h => hts w (List.mem_cons_of_mem _ h)
  have hno := B.noHandlers (hts _ List.mem_cons_self)
  have hown : s.vm.findClass RX0 = some m.cls := findClass_of_methodNamed B.named
  have hlocks := B.notSynchronized
  have hin : meth.name = "<init>" := (name_of_methodNamed B.named B.method).1
  have hK := hE.1
  subst hsz
  have hS : va_S (gA G) s.heap s.heap [] := va_S.rf
  have hl := lv_entry ([.ref q, .int w, .int h, .int d, .ref pl]) (n := 5) (Nat.le_of_ble_eq_true rfl)
  rw [lg_entry_eq]
  generalize (lg_sl ([.ref q, .int w, .int h, .int d, .ref pl]) ++ List.replicate (5 - (lg_sl ([.ref q, .int w, .int h, .int d, .ref pl])).length) Slot.unset).toArray = ls at hl ⊢
  have hl : lv_has ls 5 [(0, .ref q), (1, .int w), (2, .int h), (3, .int d), (4, .ref pl)] := hl
  refine lv_aload_n hx hb dX0_init_0_0 rfl (lv_at hl 0 rfl) ?_
  refine lv_iload_n hx hb dX0_init_0_1 rfl (lv_at hl 1 rfl) ?_
  refine lv_iload_n hx hb dX0_init_0_2 rfl (lv_at hl 2 rfl) ?_
  refine lv_iload_n hx hb dX0_init_0_3 rfl (lv_at hl 3 rfl) ?_
  refine lv_aload hx hb dX0_init_0_4 (lv_at hl 4 rfl) ?_
  refine lv_iconst (v := 0) hx hb dX0_init_0_6 (by decide) ?_
  refine lv_iconst (v := 0) hx hb dX0_init_0_7 (by decide) ?_
  refine mw_callI (As := [.int w, .int h, .int d, .ref pl, .int 0, .int 0]) (rest := []) hx hb hml hown hl (kX0_init_1 l htr G s.heap.size M q hAq hq w h d pl 0 0) (g_B (n := 6) htb wd223 wd10 wd221 (by decide +kernel) ⟨Nat.le_of_ble_eq_true rfl, Nat.le_of_ble_eq_true rfl⟩) (htb _ wd222) (htb _ wd223) rfl hE hP hS rfl rfl (Nat.le_of_ble_eq_true rfl) dX0_init_0_8 ⟨Nat.le_of_ble_eq_true rfl, Nat.le_of_ble_eq_true rfl⟩ (fun v9 M9 H locs hpo hP hz hS => ?_) (fun x9 E9 cell9 H9 locs9 hE9 => hE9.elim)
  obtain ⟨rfl, hM9⟩ := hpo
  obtain ⟨M_1, hM_1⟩ : ∃ z9 : mw_M, z9 = mw_up M q (.inr (0, [.int w, .int h, .int d, .ref pl, .int 0, .int 0])) := ⟨_, rfl⟩
  have hP : mw_P (gD G) gx_cl M_1 H := by rw [hM_1, hM9]; exact hP
  have f_2 : M_1 q = some (.inr (0, [.int w, .int h, .int d, .ref pl, .int 0, .int 0])) := by rw [hM_1]; exact mw_self _ _ _
  refine W.eq (g2 := F0 m 11 ls []) rfl ?_
  exact mx_vret (M' := M_1) hx hb hr hlocks hP hS ⟨rfl, hM_1.symm⟩ dX0_init_0_11 (Nat.le_of_ble_eq_true rfl) (Nat.le_of_ble_eq_true rfl)
