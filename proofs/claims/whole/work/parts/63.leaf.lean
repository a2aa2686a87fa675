/-! printed by wip/whole/spec*.py -/
-- X4_in
set_option maxHeartbeats 4000000 in
set_option maxRecDepth 100000 in
theorem kX4_in (l : Launch) (htr : l.stackTraces = false) (G : gx_G) (sz : Nat) (M : mw_M) (x a b : Int32) : g_Met l G yX4_in (.code yX4_in cX4_in 3 (some .boolean)) ({ frames := 1, cells := 0, slots := 0, locals := 60 } : Room) sz M [.int x, .int a, .int b] (fun v M9 => v = some (.int (bI (wi x a b))) ∧ M = M9) (fun _ => False) := by
  refine MetE.ofW (cc := cX4_in) (maxL := 3) (ret := (some .boolean)) (by decide) rfl ?_
  intro p e s m args below meth c s₁ B hml hv
  obtain ⟨rfl, hsz, hP, hE⟩ := hv
  have hx := B.exec
  have hb := B.bytes
  have hr := B.returns
  have hts := atoms_spec (ws := _ :: lw_big) B.pre
  have htb : ∀ w ∈ lw_big, w.before _ s = true := fun w h => hts w (List.mem_cons_of_mem _ h)
  have hno := B.noHandlers (hts _ List.mem_cons_self)
  have hown : s.vm.findClass RX4 = some m.cls := findClass_of_methodNamed B.named
  have hlocks := B.notSynchronized
  have hK := hE.1
  subst hsz
  have hS : va_S (gA G) s.heap s.heap [] := va_S.rf
  have hl := lv_entry ([.int x, .int a, .int b]) (n := 3) (Nat.le_of_ble_eq_true rfl)
  rw [lg_entry_eq]
  generalize (lg_sl ([.int x, .int a, .int b]) ++ List.replicate (3 - (lg_sl ([.int x, .int a, .int b])).length) Slot.unset).toArray = ls at hl ⊢
  have hl : lv_has ls 3 [(0, .int x), (1, .int a), (2, .int b)] := hl
  refine lv_iload_n hx hb dX4_in_0 rfl (lv_at hl 0 rfl) ?_
  refine lv_iload_n hx hb dX4_in_1 rfl (lv_at hl 1 rfl) ?_
  refine lv_icmp_lt (tgt := 14) hx hb dX4_in_2 (by decide) (fun c_1 => ?_) (fun c_1 => ?_)
  · refine lv_iconst (v := 0) hx hb dX4_in_14 (by decide) ?_
    exact mx_zret (v := 0) (M' := M) hx hb hr rfl hlocks hP hS ⟨by rw [bI_0 (fun z9 => z9.1 c_1)], rfl⟩ dX4_in_15 (Nat.le_of_ble_eq_true rfl) (Nat.le_of_ble_eq_true rfl)
  · refine lv_iload_n hx hb dX4_in_5 rfl (lv_at hl 0 rfl) ?_
    refine lv_iload_n hx hb dX4_in_6 rfl (lv_at hl 2 rfl) ?_
    refine lv_icmp_gt (tgt := 14) hx hb dX4_in_7 (by decide) (fun c_2 => ?_) (fun c_2 => ?_)
    · refine lv_iconst (v := 0) hx hb dX4_in_14 (by decide) ?_
      exact mx_zret (v := 0) (M' := M) hx hb hr rfl hlocks hP hS ⟨by rw [bI_0 (fun z9 => z9.2 c_2)], rfl⟩ dX4_in_15 (Nat.le_of_ble_eq_true rfl) (Nat.le_of_ble_eq_true rfl)
    · refine lv_iconst (v := 1) hx hb dX4_in_10 (by decide) ?_
      refine lv_goto (tgt := 15) hx hb dX4_in_11 (by decide) ?_
      exact mx_zret (v := 1) (M' := M) hx hb hr rfl hlocks hP hS ⟨by rw [bI_1 ⟨c_1, c_2⟩], rfl⟩ dX4_in_15 (Nat.le_of_ble_eq_true rfl) (Nat.le_of_ble_eq_true rfl)
-- X4_half
set_option maxHeartbeats 4000000 in
set_option maxRecDepth 100000 in
theorem kX4_half (l : Launch) (htr : l.stackTraces = false) (G : gx_G) (sz : Nat) (M : mw_M) (x : Int32) : g_Met l G yX4_half (.code yX4_half cX4_half 1 (some .int)) ({ frames := 1, cells := 0, slots := 0, locals := 60 } : Room) sz M [.int x] (fun v M9 => v = some (.int (fHf x)) ∧ M = M9) (fun _ => False) := by
  refine MetE.ofW (cc := cX4_half) (maxL := 1) (ret := (some .int)) (by decide) rfl ?_
  intro p e s m args below meth c s₁ B hml hv
  obtain ⟨rfl, hsz, hP, hE⟩ := hv
  have hx := B.exec
  have hb := B.bytes
  have hr := B.returns
  have hts := atoms_spec (ws := _ :: lw_big) B.pre
  have htb : ∀ w ∈ lw_big, w.before _ s = true := fun w h => hts w (List.mem_cons_of_mem _ h)
  have hno := B.noHandlers (hts _ List.mem_cons_self)
  have hown : s.vm.findClass RX4 = some m.cls := findClass_of_methodNamed B.named
  have hlocks := B.notSynchronized
  have hK := hE.1
  subst hsz
  have hS : va_S (gA G) s.heap s.heap [] := va_S.rf
  have hl := lv_entry ([.int x]) (n := 1) (Nat.le_of_ble_eq_true rfl)
  rw [lg_entry_eq]
  generalize (lg_sl ([.int x]) ++ List.replicate (1 - (lg_sl ([.int x])).length) Slot.unset).toArray = ls at hl ⊢
  have hl : lv_has ls 1 [(0, .int x)] := hl
  refine lv_iload_n hx hb dX4_half_0 rfl (lv_at hl 0 rfl) ?_
  refine lv_iconst (v := 2) hx hb dX4_half_1 (by decide) ?_
  refine lv_irem hx hb dX4_half_2 (by decide) ?_
  refine lv_if_ne (tgt := 12) hx hb dX4_half_3 (by decide) (fun c_1 => ?_) (fun c_1 => ?_)
  · refine lv_iload_n hx hb dX4_half_12 rfl (lv_at hl 0 rfl) ?_
    refine lv_iconst (v := 1) hx hb dX4_half_13 (by decide) ?_
    refine lv_iadd hx hb dX4_half_14 ?_
    refine lv_iconst (v := 2) hx hb dX4_half_15 (by decide) ?_
    refine lv_idiv hx hb dX4_half_16 (by decide) ?_
    exact mx_iret (v := ((x + 1) / 2)) (M' := M) hx hb hr hlocks hP hS ⟨by rw [fHf, if_neg c_1], rfl⟩ dX4_half_17 (Nat.le_of_ble_eq_true rfl) (Nat.le_of_ble_eq_true rfl)
  · refine lv_iload_n hx hb dX4_half_6 rfl (lv_at hl 0 rfl) ?_
    refine lv_iconst (v := 2) hx hb dX4_half_7 (by decide) ?_
    refine lv_idiv hx hb dX4_half_8 (by decide) ?_
    refine lv_goto (tgt := 17) hx hb dX4_half_9 (by decide) ?_
    exact mx_iret (v := (x / 2)) (M' := M) hx hb hr hlocks hP hS ⟨by rw [fHf, if_pos c_1], rfl⟩ dX4_half_17 (Nat.le_of_ble_eq_true rfl) (Nat.le_of_ble_eq_true rfl)
-- X4_abs
set_option maxHeartbeats 4000000 in
set_option maxRecDepth 100000 in
theorem kX4_abs (l : Launch) (htr : l.stackTraces = false) (G : gx_G) (sz : Nat) (M : mw_M) (x : Int32) : g_Met l G yX4_abs (.code yX4_abs cX4_abs 1 (some .int)) ({ frames := 1, cells := 0, slots := 0, locals := 60 } : Room) sz M [.int x] (fun v M9 => v = some (.int (fAb x)) ∧ M = M9) (fun _ => False) := by
  refine MetE.ofW (cc := cX4_abs) (maxL := 1) (ret := (some .int)) (by decide) rfl ?_
  intro p e s m args below meth c s₁ B hml hv
  obtain ⟨rfl, hsz, hP, hE⟩ := hv
  have hx := B.exec
  have hb := B.bytes
  have hr := B.returns
  have hts := atoms_spec (ws := _ :: lw_big) B.pre
  have htb : ∀ w ∈ lw_big, w.before _ s = true := fun w h => hts w (List.mem_cons_of_mem _ h)
  have hno := B.noHandlers (hts _ List.mem_cons_self)
  have hown : s.vm.findClass RX4 = some m.cls := findClass_of_methodNamed B.named
  have hlocks := B.notSynchronized
  have hK := hE.1
  subst hsz
  have hS : va_S (gA G) s.heap s.heap [] := va_S.rf
  have hl := lv_entry ([.int x]) (n := 1) (Nat.le_of_ble_eq_true rfl)
  rw [lg_entry_eq]
  generalize (lg_sl ([.int x]) ++ List.replicate (1 - (lg_sl ([.int x])).length) Slot.unset).toArray = ls at hl ⊢
  have hl : lv_has ls 1 [(0, .int x)] := hl
  refine lv_iload_n hx hb dX4_abs_0 rfl (lv_at hl 0 rfl) ?_
  refine lv_if_ge (tgt := 9) hx hb dX4_abs_1 (by decide) (fun c_1 => ?_) (fun c_1 => ?_)
  · refine lv_iload_n hx hb dX4_abs_9 rfl (lv_at hl 0 rfl) ?_
    exact mx_iret (v := x) (M' := M) hx hb hr hlocks hP hS ⟨by rw [← fAb_lt, if_neg (Int32.not_lt.mpr c_1)], rfl⟩ dX4_abs_10 (Nat.le_of_ble_eq_true rfl) (Nat.le_of_ble_eq_true rfl)
  · refine lv_iload_n hx hb dX4_abs_4 rfl (lv_at hl 0 rfl) ?_
    refine lv_ineg hx hb dX4_abs_5 ?_
    refine lv_goto (tgt := 10) hx hb dX4_abs_6 (by decide) ?_
    exact mx_iret (v := (-x)) (M' := M) hx hb hr hlocks hP hS ⟨by rw [← fAb_lt, if_pos (Int32.not_le.mp c_1)], rfl⟩ dX4_abs_10 (Nat.le_of_ble_eq_true rfl) (Nat.le_of_ble_eq_true rfl)
-- X4_greater
set_option maxHeartbeats 4000000 in
set_option maxRecDepth 100000 in
theorem kX4_greater (l : Launch) (htr : l.stackTraces = false) (G : gx_G) (sz : Nat) (M : mw_M) (a b : Int32) : g_Met l G yX4_greater (.code yX4_greater cX4_greater 2 (some .int)) ({ frames := 1, cells := 0, slots := 0, locals := 60 } : Room) sz M [.int a, .int b] (fun v M9 => v = some (.int (fMx a b)) ∧ M = M9) (fun _ => False) := by
  refine MetE.ofW (cc := cX4_greater) (maxL := 2) (ret := (some .int)) (by decide) rfl ?_
  intro p e s m args below meth c s₁ B hml hv
  obtain ⟨rfl, hsz, hP, hE⟩ := hv
  have hx := B.exec
  have hb := B.bytes
  have hr := B.returns
  have hts := atoms_spec (ws := _ :: lw_big) B.pre
  have htb : ∀ w ∈ lw_big, w.before _ s = true := fun w h => hts w (List.mem_cons_of_mem _ h)
  have hno := B.noHandlers (hts _ List.mem_cons_self)
  have hown : s.vm.findClass RX4 = some m.cls := findClass_of_methodNamed B.named
  have hlocks := B.notSynchronized
  have hK := hE.1
  subst hsz
  have hS : va_S (gA G) s.heap s.heap [] := va_S.rf
  have hl := lv_entry ([.int a, .int b]) (n := 2) (Nat.le_of_ble_eq_true rfl)
  rw [lg_entry_eq]
  generalize (lg_sl ([.int a, .int b]) ++ List.replicate (2 - (lg_sl ([.int a, .int b])).length) Slot.unset).toArray = ls at hl ⊢
  have hl : lv_has ls 2 [(0, .int a), (1, .int b)] := hl
  refine lv_iload_n hx hb dX4_greater_0 rfl (lv_at hl 0 rfl) ?_
  refine lv_iload_n hx hb dX4_greater_1 rfl (lv_at hl 1 rfl) ?_
  refine lv_icmp_le (tgt := 9) hx hb dX4_greater_2 (by decide) (fun c_1 => ?_) (fun c_1 => ?_)
  · refine lv_iload_n hx hb dX4_greater_9 rfl (lv_at hl 1 rfl) ?_
    exact mx_iret (v := b) (M' := M) hx hb hr hlocks hP hS ⟨by rw [← fMx_gt, if_neg (Int32.not_lt.mpr c_1)], rfl⟩ dX4_greater_10 (Nat.le_of_ble_eq_true rfl) (Nat.le_of_ble_eq_true rfl)
  · refine lv_iload_n hx hb dX4_greater_5 rfl (lv_at hl 0 rfl) ?_
    refine lv_goto (tgt := 10) hx hb dX4_greater_6 (by decide) ?_
    exact mx_iret (v := a) (M' := M) hx hb hr hlocks hP hS ⟨by rw [← fMx_gt, if_pos (Int32.not_le.mp c_1)], rfl⟩ dX4_greater_10 (Nat.le_of_ble_eq_true rfl) (Nat.le_of_ble_eq_true rfl)
-- X4_isStyle
set_option maxHeartbeats 4000000 in
set_option maxRecDepth 100000 in
theorem kX4_isStyle (l : Launch) (htr : l.stackTraces = false) (G : gx_G) (sz : Nat) (M : mw_M) (x : Int32) : g_Met l G yX4_isStyle (.code yX4_isStyle cX4_isStyle 1 (some .boolean)) ({ frames := 2, cells := 0, slots := 0, locals := 100 } : Room) sz M [.int x] (fun v M9 => v = some (.int (bI (isT x))) ∧ M = M9) (fun _ => False) := by
  refine MetE.ofW (cc := cX4_isStyle) (maxL := 1) (ret := (some .boolean)) (by decide) rfl ?_
  intro p e s m args below meth c s₁ B hml hv
  obtain ⟨rfl, hsz, hP, hE⟩ := hv
  have hx := B.exec
  have hb := B.bytes
  have hr := B.returns
  have hts := atoms_spec (ws := _ :: lw_big) B.pre
  have htb : ∀ w ∈ lw_big, w.before _ s = true := fun w h => hts w (List.mem_cons_of_mem _ h)
  have hno := B.noHandlers (hts _ List.mem_cons_self)
  have hown : s.vm.findClass RX4 = some m.cls := findClass_of_methodNamed B.named
  have hlocks := B.notSynchronized
  have hK := hE.1
  subst hsz
  have hS : va_S (gA G) s.heap s.heap [] := va_S.rf
  have hl := lv_entry ([.int x]) (n := 1) (Nat.le_of_ble_eq_true rfl)
  rw [lg_entry_eq]
  generalize (lg_sl ([.int x]) ++ List.replicate (1 - (lg_sl ([.int x])).length) Slot.unset).toArray = ls at hl ⊢
  have hl : lv_has ls 1 [(0, .int x)] := hl
  refine lv_iload_n hx hb dX4_isStyle_0 rfl (lv_at hl 0 rfl) ?_
  refine lv_iconst (v := 0) hx hb dX4_isStyle_1 (by decide) ?_
  refine lv_iconst (v := 3) hx hb dX4_isStyle_2 (by decide) ?_
  refine mw_callS (As := [.int x, .int 0, .int 3]) (rest := []) hx hb hml hown hl (kX4_in l htr G s.heap.size M x 0 3) (g_B (n := 3) htb wd599 wd3 wd597 (by decide +kernel) ⟨Nat.le_of_ble_eq_true rfl, Nat.le_of_ble_eq_true rfl⟩) (htb _ wd598) hE hP hS rfl rfl (Nat.le_of_ble_eq_true rfl) dX4_isStyle_3 ⟨Nat.le_of_ble_eq_true rfl, Nat.le_of_ble_eq_true rfl⟩ (fun v9 M9 H locs hpo hP hz hS => ?_) (fun x9 E9 cell9 H9 locs9 hE9 => hE9.elim)
  obtain ⟨rfl, rfl⟩ := hpo
  refine W.eq (g2 := F0 m 6 ls [.int (bI (wi x 0 3))]) rfl ?_
  exact mx_zret (v := (bI (wi x 0 3))) (M' := M) hx hb hr (narrow_bI _) hlocks hP hS ⟨rfl, rfl⟩ dX4_isStyle_6 (Nat.le_of_ble_eq_true rfl) (Nat.le_of_ble_eq_true rfl)
-- X4_isFamily
set_option maxHeartbeats 4000000 in
set_option maxRecDepth 100000 in
theorem kX4_isFamily (l : Launch) (htr : l.stackTraces = false) (G : gx_G) (sz : Nat) (M : mw_M) (x : Int32) : g_Met l G yX4_isFamily (.code yX4_isFamily cX4_isFamily 1 (some .boolean)) ({ frames := 2, cells := 0, slots := 0, locals := 100 } : Room) sz M [.int x] (fun v M9 => v = some (.int (bI (isF x))) ∧ M = M9) (fun _ => False) := by
  refine MetE.ofW (cc := cX4_isFamily) (maxL := 1) (ret := (some .boolean)) (by decide) rfl ?_
  intro p e s m args below meth c s₁ B hml hv
  obtain ⟨rfl, hsz, hP, hE⟩ := hv
  have hx := B.exec
  have hb := B.bytes
  have hr := B.returns
  have hts := atoms_spec (ws := _ :: lw_big) B.pre
  have htb : ∀ w ∈ lw_big, w.before _ s = true := fun w h => hts w (List.mem_cons_of_mem _ h)
  have hno := B.noHandlers (hts _ List.mem_cons_self)
  have hown : s.vm.findClass RX4 = some m.cls := findClass_of_methodNamed B.named
  have hlocks := B.notSynchronized
  have hK := hE.1
  subst hsz
  have hS : va_S (gA G) s.heap s.heap [] := va_S.rf
  have hl := lv_entry ([.int x]) (n := 1) (Nat.le_of_ble_eq_true rfl)
  rw [lg_entry_eq]
  generalize (lg_sl ([.int x]) ++ List.replicate (1 - (lg_sl ([.int x])).length) Slot.unset).toArray = ls at hl ⊢
  have hl : lv_has ls 1 [(0, .int x)] := hl
  refine lv_iload_n hx hb dX4_isFamily_0 rfl (lv_at hl 0 rfl) ?_
  refine lv_iconst (v := 0) hx hb dX4_isFamily_1 (by decide) ?_
  refine lv_bipush (v := 7) hx hb dX4_isFamily_2 (by decide) ?_
  refine mw_callS (As := [.int x, .int 0, .int 7]) (rest := []) hx hb hml hown hl (kX4_in l htr G s.heap.size M x 0 7) (g_B (n := 3) htb wd599 wd3 wd597 (by decide +kernel) ⟨Nat.le_of_ble_eq_true rfl, Nat.le_of_ble_eq_true rfl⟩) (htb _ wd598) hE hP hS rfl rfl (Nat.le_of_ble_eq_true rfl) dX4_isFamily_4 ⟨Nat.le_of_ble_eq_true rfl, Nat.le_of_ble_eq_true rfl⟩ (fun v9 M9 H locs hpo hP hz hS => ?_) (fun x9 E9 cell9 H9 locs9 hE9 => hE9.elim)
  obtain ⟨rfl, rfl⟩ := hpo
  refine W.eq (g2 := F0 m 7 ls [.int (bI (wi x 0 7))]) rfl ?_
  exact mx_zret (v := (bI (wi x 0 7))) (M' := M) hx hb hr (narrow_bI _) hlocks hP hS ⟨by rw [bI_iff (isF_in x)], rfl⟩ dX4_isFamily_7 (Nat.le_of_ble_eq_true rfl) (Nat.le_of_ble_eq_true rfl)
-- X4_isBox
set_option maxHeartbeats 4000000 in
set_option maxRecDepth 100000 in
theorem kX4_isBox (l : Launch) (htr : l.stackTraces = false) (G : gx_G) (sz : Nat) (M : mw_M) (o : Nat) (A : Nat → Nat) (th z : Int32) (S : fs_S) (hR : md_R G o A M th z S) (x : Int32) : g_Met l G yX4_isBox (.code yX4_isBox cX4_isBox 2 (some .boolean)) ({ frames := 2, cells := 0, slots := 0, locals := 100 } : Room) sz M [.ref o, .int x] (fun v M9 => v = some (.int (bI (isB S x))) ∧ M = M9) (fun _ => False) := by
  refine MetE.ofW (cc := cX4_isBox) (maxL := 2) (ret := (some .boolean)) (by decide) rfl ?_
  intro p e s m args below meth c s₁ B hml hv
  obtain ⟨rfl, hsz, hP, hE⟩ := hv
  have hx := B.exec
  have hb := B.bytes
  have hr := B.returns
  have hts := atoms_spec (ws := _ :: lw_big) B.pre
  have htb : ∀ w ∈ lw_big, w.before _ s = true := fun w h => hts w (List.mem_cons_of_mem _ h)
  have hno := B.noHandlers (hts _ List.mem_cons_self)
  have hown : s.vm.findClass RX4 = some m.cls := findClass_of_methodNamed B.named
  have hlocks := B.notSynchronized
  have hK := hE.1
  subst hsz
  have hS : va_S (gA G) s.heap s.heap [] := va_S.rf
  have hl := lv_entry ([.ref o, .int x]) (n := 2) (Nat.le_of_ble_eq_true rfl)
  rw [lg_entry_eq]
  generalize (lg_sl ([.ref o, .int x]) ++ List.replicate (2 - (lg_sl ([.ref o, .int x])).length) Slot.unset).toArray = ls at hl ⊢
  have hl : lv_has ls 2 [(0, .ref o), (1, .int x)] := hl
  obtain ⟨np, bg, g, hT, hB⟩ := id hR
  have hk : md_keeps o A M M := md_keeps.rf o A M
  have hle : sN S ≤ 120 := hB.1
  refine lv_iload_n hx hb dX4_isBox_0 rfl (lv_at hl 1 rfl) ?_
  refine lv_iconst (v := 0) hx hb dX4_isBox_1 (by decide) ?_
  refine lv_aload_n hx hb dX4_isBox_2 rfl (lv_at hl 0 rfl) ?_
  refine mw_get (D := gD G) (ci := 4) (v := .int (nI (sN S))) (C := RX4) (T := TX4) (N := 21) hx hb htb inX4 hown hK hP hT.1 rfl 4 (by decide) (htb _ wd528) (fun _ h9 => h9) rfl dX4_isBox_3 ?_
  refine lv_iconst (v := 1) hx hb dX4_isBox_6 (by decide) ?_
  refine lv_isub hx hb dX4_isBox_7 ?_
  refine mw_callS (As := [.int x, .int 0, .int ((nI (sN S)) - 1)]) (rest := []) hx hb hml hown hl (kX4_in l htr G s.heap.size M x 0 ((nI (sN S)) - 1)) (g_B (n := 3) htb wd599 wd3 wd597 (by decide +kernel) ⟨Nat.le_of_ble_eq_true rfl, Nat.le_of_ble_eq_true rfl⟩) (htb _ wd598) hE hP hS rfl rfl (Nat.le_of_ble_eq_true rfl) dX4_isBox_8 ⟨Nat.le_of_ble_eq_true rfl, Nat.le_of_ble_eq_true rfl⟩ (fun v9 M9 H locs hpo hP hz hS => ?_) (fun x9 E9 cell9 H9 locs9 hE9 => hE9.elim)
  obtain ⟨rfl, rfl⟩ := hpo
  refine W.eq (g2 := F0 m 11 ls [.int (bI (wi x 0 ((nI (sN S)) - 1)))]) rfl ?_
  exact mx_zret (v := (bI (wi x 0 ((nI (sN S)) - 1)))) (M' := M) hx hb hr (narrow_bI _) hlocks hP hS ⟨by rw [bI_iff (isB_in hle x)], rfl⟩ dX4_isBox_11 (Nat.le_of_ble_eq_true rfl) (Nat.le_of_ble_eq_true rfl)
-- X4_isBoxOrNone
set_option maxHeartbeats 4000000 in
set_option maxRecDepth 100000 in
theorem kX4_isBoxOrNone (l : Launch) (htr : l.stackTraces = false) (G : gx_G) (sz : Nat) (M : mw_M) (o : Nat) (A : Nat → Nat) (th z : Int32) (S : fs_S) (hR : md_R G o A M th z S) (x : Int32) : g_Met l G yX4_isBoxOrNone (.code yX4_isBoxOrNone cX4_isBoxOrNone 2 (some .boolean)) ({ frames := 3, cells := 0, slots := 0, locals := 140 } : Room) sz M [.ref o, .int x] (fun v M9 => v = some (.int (bI (isO S x))) ∧ M = M9) (fun _ => False) := by
  refine MetE.ofW (cc := cX4_isBoxOrNone) (maxL := 2) (ret := (some .boolean)) (by decide) rfl ?_
  intro p e s m args below meth c s₁ B hml hv
  obtain ⟨rfl, hsz, hP, hE⟩ := hv
  have hx := B.exec
  have hb := B.bytes
  have hr := B.returns
  have hts := atoms_spec (ws := _ :: lw_big) B.pre
  have htb : ∀ w ∈ lw_big, w.before _ s = true := fun w h => hts w (List.mem_cons_of_mem _ h)
  have hno := B.noHandlers (hts _ List.mem_cons_self)
  have hown : s.vm.findClass RX4 = some m.cls := findClass_of_methodNamed B.named
  have hlocks := B.notSynchronized
  have hK := hE.1
  subst hsz
  have hS : va_S (gA G) s.heap s.heap [] := va_S.rf
  have hl := lv_entry ([.ref o, .int x]) (n := 2) (Nat.le_of_ble_eq_true rfl)
  rw [lg_entry_eq]
  generalize (lg_sl ([.ref o, .int x]) ++ List.replicate (2 - (lg_sl ([.ref o, .int x])).length) Slot.unset).toArray = ls at hl ⊢
  have hl : lv_has ls 2 [(0, .ref o), (1, .int x)] := hl
  obtain ⟨np, bg, g, hT, hB⟩ := id hR
  have hk : md_keeps o A M M := md_keeps.rf o A M
  have hle : sN S ≤ 120 := hB.1
  refine lv_iload_n hx hb dX4_isBoxOrNone_0 rfl (lv_at hl 1 rfl) ?_
  refine lv_iconst (v := (-1)) hx hb dX4_isBoxOrNone_1 (by decide) ?_
  refine lv_icmp_eq (tgt := 13) hx hb dX4_isBoxOrNone_2 (by decide) (fun c_1 => ?_) (fun c_1 => ?_)
  · refine lv_iconst (v := 1) hx hb dX4_isBoxOrNone_13 (by decide) ?_
    refine lv_goto (tgt := 18) hx hb dX4_isBoxOrNone_14 (by decide) ?_
    exact mx_zret (v := 1) (M' := M) hx hb hr rfl hlocks hP hS ⟨by rw [bI_1 (Or.inl c_1)], rfl⟩ dX4_isBoxOrNone_18 (Nat.le_of_ble_eq_true rfl) (Nat.le_of_ble_eq_true rfl)
  · refine lv_aload_n hx hb dX4_isBoxOrNone_5 rfl (lv_at hl 0 rfl) ?_
    refine lv_iload_n hx hb dX4_isBoxOrNone_6 rfl (lv_at hl 1 rfl) ?_
    refine mw_callV (C := RX4) (As := [.int x]) (rest := []) hx hb hml hown hl (kX4_isBox l htr G s.heap.size M o A th z S (⟨np, bg, g, hT, hB⟩ : md_R G o A M th z S) x) (g_B (n := 1) htb wd624 wd3 wd621 (by decide +kernel) ⟨Nat.le_of_ble_eq_true rfl, Nat.le_of_ble_eq_true rfl⟩) (htb _ wd623) (htb _ ws27) hE hP hS hT.1 rfl rfl rfl (Nat.le_of_ble_eq_true rfl) dX4_isBoxOrNone_7 ⟨Nat.le_of_ble_eq_true rfl, Nat.le_of_ble_eq_true rfl⟩ (fun v9 M9 H locs hpo hP hz hS => ?_) (fun x9 E9 cell9 H9 locs9 hE9 => hE9.elim)
    obtain ⟨rfl, rfl⟩ := hpo
    refine W.eq (g2 := F0 m 10 ls [.int (bI (isB S x))]) rfl ?_
    refine lv_if_eq (tgt := 17) hx hb dX4_isBoxOrNone_10 (by decide) (fun c_2 => ?_) (fun c_2 => ?_)
    · have kb_3 := bI_f c_2
      refine lv_iconst (v := 0) hx hb dX4_isBoxOrNone_17 (by decide) ?_
      exact mx_zret (v := 0) (M' := M) hx hb hr rfl hlocks hP hS ⟨by rw [bI_0 (fun z9 => z9.elim c_1 kb_3)], rfl⟩ dX4_isBoxOrNone_18 (Nat.le_of_ble_eq_true rfl) (Nat.le_of_ble_eq_true rfl)
    · have kb_4 := bI_t c_2
      refine lv_iconst (v := 1) hx hb dX4_isBoxOrNone_13 (by decide) ?_
      refine lv_goto (tgt := 18) hx hb dX4_isBoxOrNone_14 (by decide) ?_
      exact mx_zret (v := 1) (M' := M) hx hb hr rfl hlocks hP hS ⟨by rw [bI_1 (Or.inr kb_4)], rfl⟩ dX4_isBoxOrNone_18 (Nat.le_of_ble_eq_true rfl) (Nat.le_of_ble_eq_true rfl)
-- X4_thrown
set_option maxHeartbeats 4000000 in
set_option maxRecDepth 100000 in
theorem kX4_thrown (l : Launch) (htr : l.stackTraces = false) (G : gx_G) (sz : Nat) (M : mw_M) (o : Nat) (A : Nat → Nat) (th z : Int32) (S : fs_S) (hR : md_R G o A M th z S)  : g_Met l G yX4_thrown (.code yX4_thrown cX4_thrown 1 (some .int)) ({ frames := 1, cells := 0, slots := 0, locals := 60 } : Room) sz M [.ref o] (fun v M9 => v = some (.int (th)) ∧ M = M9) (fun _ => False) := by
  refine MetE.ofW (cc := cX4_thrown) (maxL := 1) (ret := (some .int)) (by decide) rfl ?_
  intro p e s m args below meth c s₁ B hml hv
  obtain ⟨rfl, hsz, hP, hE⟩ := hv
  have hx := B.exec
  have hb := B.bytes
  have hr := B.returns
  have hts := atoms_spec (ws := _ :: lw_big) B.pre
  have htb : ∀ w ∈ lw_big, w.before _ s = true := fun w h => hts w (List.mem_cons_of_mem _ h)
  have hno := B.noHandlers (hts _ List.mem_cons_self)
  have hown : s.vm.findClass RX4 = some m.cls := findClass_of_methodNamed B.named
  have hlocks := B.notSynchronized
  have hK := hE.1
  subst hsz
  have hS : va_S (gA G) s.heap s.heap [] := va_S.rf
  have hl := lv_entry ([.ref o]) (n := 1) (Nat.le_of_ble_eq_true rfl)
  rw [lg_entry_eq]
  generalize (lg_sl ([.ref o]) ++ List.replicate (1 - (lg_sl ([.ref o])).length) Slot.unset).toArray = ls at hl ⊢
  have hl : lv_has ls 1 [(0, .ref o)] := hl
  obtain ⟨np, bg, g, hT, hB⟩ := id hR
  have hk : md_keeps o A M M := md_keeps.rf o A M
  have hle : sN S ≤ 120 := hB.1
  refine lv_aload_n hx hb dX4_thrown_0 rfl (lv_at hl 0 rfl) ?_
  refine mw_get (D := gD G) (ci := 4) (v := .int th) (C := RX4) (T := TX4) (N := 21) hx hb htb inX4 hown hK hP hT.1 rfl 0 (by decide) (htb _ wd524) (fun _ h9 => h9) rfl dX4_thrown_1 ?_
  exact mx_iret (v := th) (M' := M) hx hb hr hlocks hP hS ⟨rfl, rfl⟩ dX4_thrown_4 (Nat.le_of_ble_eq_true rfl) (Nat.le_of_ble_eq_true rfl)
-- X4_p
set_option maxHeartbeats 4000000 in
set_option maxRecDepth 100000 in
theorem kX4_p (l : Launch) (htr : l.stackTraces = false) (G : gx_G) (sz : Nat) (M : mw_M) (o : Nat) (A : Nat → Nat) (th : Int32) (S : fs_S) (st k : Nat) (h_st : st < 4) (h_k : k < 21) (hR : md_R G o A M th (nI (fSz st)) S) : g_Met l G yX4_p (.code yX4_p cX4_p 2 (some .int)) ({ frames := 1, cells := 0, slots := 0, locals := 60 } : Room) sz M [.ref o, .int (nI k)] (fun v M9 => v = some (.int (pV S st k)) ∧ M = M9) (fun _ => False) := by
  refine MetE.ofW (cc := cX4_p) (maxL := 2) (ret := (some .int)) (by decide) rfl ?_
  intro p e s m args below meth c s₁ B hml hv
  obtain ⟨rfl, hsz, hP, hE⟩ := hv
  have hx := B.exec
  have hb := B.bytes
  have hr := B.returns
  have hts := atoms_spec (ws := _ :: lw_big) B.pre
  have htb : ∀ w ∈ lw_big, w.before _ s = true := fun w h => hts w (List.mem_cons_of_mem _ h)
  have hno := B.noHandlers (hts _ List.mem_cons_self)
  have hown : s.vm.findClass RX4 = some m.cls := findClass_of_methodNamed B.named
  have hlocks := B.notSynchronized
  have hK := hE.1
  subst hsz
  have hS : va_S (gA G) s.heap s.heap [] := va_S.rf
  have hl := lv_entry ([.ref o, .int (nI k)]) (n := 2) (Nat.le_of_ble_eq_true rfl)
  rw [lg_entry_eq]
  generalize (lg_sl ([.ref o, .int (nI k)]) ++ List.replicate (2 - (lg_sl ([.ref o, .int (nI k)])).length) Slot.unset).toArray = ls at hl ⊢
  have hl : lv_has ls 2 [(0, .ref o), (1, .int (nI k))] := hl
  obtain ⟨np, bg, g, hT, hB⟩ := id hR
  have hk : md_keeps o A M M := md_keeps.rf o A M
  have hle : sN S ≤ 120 := hB.1
  have e_i : 21 * nI (fSz st) + nI k = nI (fSz st * 21 + k) := by rw [show (21 : Int32) = nI 21 from rfl, pk_mul, nI_add, Nat.mul_comm]
  refine lv_aload_n hx hb dX4_p_0 rfl (lv_at hl 0 rfl) ?_
  refine mw_get (D := gD G) (ci := 4) (v := .ref (A 0)) (C := RX4) (T := TX4) (N := 21) hx hb htb inX4 hown hK hP hT.1 rfl 1 (by decide) (htb _ wd525) (fun _ h9 => h9) rfl dX4_p_1 ?_
  refine lv_bipush (v := 21) hx hb dX4_p_4 (by decide) ?_
  refine lv_aload_n hx hb dX4_p_6 rfl (lv_at hl 0 rfl) ?_
  refine mw_get (D := gD G) (ci := 4) (v := .int (nI (fSz st))) (C := RX4) (T := TX4) (N := 21) hx hb htb inX4 hown hK hP hT.1 rfl 20 (by decide) (htb _ wd544) (fun _ h9 => h9) rfl dX4_p_7 ?_
  refine lv_imul hx hb dX4_p_10 ?_
  refine lv_iload_n hx hb dX4_p_11 rfl (lv_at hl 1 rfl) ?_
  refine lv_iadd hx hb dX4_p_12 ?_
  refine mw_iald hx hb hK hP 0 (show M (A 0) = some (.inl (gI G, 63, .inl (g 0))) from hT.2.1 0 (by decide)) rfl (by rw [e_i]; exact vp_in_nI (show (fSz st * 21 + k) < 63 by have := fv_lt h_st h_k; omega) (by decide)) dX4_p_13 ?_
  refine W.eq (g2 := F0 m 14 ls [.int (pV S st k)]) (by rw [e_i, nI_clamp (show (fSz st * 21 + k) < 2 ^ 31 by have := fv_lt h_st h_k; omega), hB.2.2.2.2.1 _ (fv_lt h_st h_k), ← (show pV S st k = sP S (fSz st * 21 + k) from rfl)]) ?_
  exact mx_iret (v := (pV S st k)) (M' := M) hx hb hr hlocks hP hS ⟨rfl, rfl⟩ dX4_p_14 (Nat.le_of_ble_eq_true rfl) (Nat.le_of_ble_eq_true rfl)
theorem fEx_push {S : fs_S} (b : fs_B) (hS : sN S + 1 ≤ 120) {x : Int32} (h : fs_on S x) : fEx (fs_push S b) x = fEx S x := by
  unfold fEx
  by_cases e : x = -1
  · rw [if_pos e, if_pos e]
  · obtain ⟨i, hi, e2⟩ := h.resolve_left e
    rw [if_neg e, if_neg e, e2, nI_clamp (by omega), bH_push b hi, bD_push b hi]
-- X4_tall
set_option maxHeartbeats 4000000 in
set_option maxRecDepth 100000 in
theorem kX4_tall (l : Launch) (htr : l.stackTraces = false) (G : gx_G) (sz : Nat) (M : mw_M) (o : Nat) (A : Nat → Nat) (th z : Int32) (S : fs_S) (hR : md_R G o A M th z S) (x : Int32) (hxo : fs_on S x) : g_Met l G yX4_tall (.code yX4_tall cX4_tall 2 (some .int)) ({ frames := 1, cells := 0, slots := 0, locals := 60 } : Room) sz M [.ref o, .int x] (fun v M9 => v = some (.int (fEx S x)) ∧ M = M9) (fun _ => False) := by
  refine MetE.ofW (cc := cX4_tall) (maxL := 2) (ret := (some .int)) (by decide) rfl ?_
  intro p e s m args below meth c s₁ B hml hv
  obtain ⟨rfl, hsz, hP, hE⟩ := hv
  have hx := B.exec
  have hb := B.bytes
  have hr := B.returns
  have hts := atoms_spec (ws := _ :: lw_big) B.pre
  have htb : ∀ w ∈ lw_big, w.before _ s = true := fun w h => hts w (List.mem_cons_of_mem _ h)
  have hno := B.noHandlers (hts _ List.mem_cons_self)
  have hown : s.vm.findClass RX4 = some m.cls := findClass_of_methodNamed B.named
  have hlocks := B.notSynchronized
  have hK := hE.1
  subst hsz
  have hS : va_S (gA G) s.heap s.heap [] := va_S.rf
  have hl := lv_entry ([.ref o, .int x]) (n := 2) (Nat.le_of_ble_eq_true rfl)
  rw [lg_entry_eq]
  generalize (lg_sl ([.ref o, .int x]) ++ List.replicate (2 - (lg_sl ([.ref o, .int x])).length) Slot.unset).toArray = ls at hl ⊢
  have hl : lv_has ls 2 [(0, .ref o), (1, .int x)] := hl
  obtain ⟨np, bg, g, hT, hB⟩ := id hR
  have hk : md_keeps o A M M := md_keeps.rf o A M
  have hle : sN S ≤ 120 := hB.1
  refine lv_iload_n hx hb dX4_tall_0 rfl (lv_at hl 1 rfl) ?_
  refine lv_iconst (v := (-1)) hx hb dX4_tall_1 (by decide) ?_
  refine lv_icmp_ne (tgt := 9) hx hb dX4_tall_2 (by decide) (fun c_1 => ?_) (fun c_1 => ?_)
  · obtain ⟨i, hi, exi⟩ := hxo.resolve_left c_1
    rw [exi] at hl
    refine lv_aload_n hx hb dX4_tall_9 rfl (lv_at hl 0 rfl) ?_
    refine mw_get (D := gD G) (ci := 4) (v := .ref (A 2)) (C := RX4) (T := TX4) (N := 21) hx hb htb inX4 hown hK hP hT.1 rfl 6 (by decide) (htb _ wd530) (fun _ h9 => h9) rfl dX4_tall_10 ?_
    refine lv_iload_n hx hb dX4_tall_13 rfl (lv_at hl 1 rfl) ?_
    refine mw_iald hx hb hK hP 0 (show M (A 2) = some (.inl (gI G, 120, .inl (g 2))) from hT.2.1 2 (by decide)) rfl (by exact vp_in_nI (show i < 120 by have := hle; omega) (by decide)) dX4_tall_14 ?_
    refine W.eq (g2 := F0 m 15 ls [.int (bH S i)]) (by rw [nI_clamp (show i < 2 ^ 31 by have := hle; omega), hB.H hi]) ?_
    refine lv_aload_n hx hb dX4_tall_15 rfl (lv_at hl 0 rfl) ?_
    refine mw_get (D := gD G) (ci := 4) (v := .ref (A 3)) (C := RX4) (T := TX4) (N := 21) hx hb htb inX4 hown hK hP hT.1 rfl 7 (by decide) (htb _ wd531) (fun _ h9 => h9) rfl dX4_tall_16 ?_
    refine lv_iload_n hx hb dX4_tall_19 rfl (lv_at hl 1 rfl) ?_
    refine mw_iald hx hb hK hP 0 (show M (A 3) = some (.inl (gI G, 120, .inl (g 3))) from hT.2.1 3 (by decide)) rfl (by exact vp_in_nI (show i < 120 by have := hle; omega) (by decide)) dX4_tall_20 ?_
    refine W.eq (g2 := F0 m 21 ls [.int (bD S i), .int (bH S i)]) (by rw [nI_clamp (show i < 2 ^ 31 by have := hle; omega), hB.D hi]) ?_
    refine lv_iadd hx hb dX4_tall_21 ?_
    exact mx_iret (v := ((bH S i) + (bD S i))) (M' := M) hx hb hr hlocks hP hS ⟨by rw [fEx, if_neg c_1, exi, nI_clamp (show i < 2 ^ 31 by have := hle; omega)], rfl⟩ dX4_tall_22 (Nat.le_of_ble_eq_true rfl) (Nat.le_of_ble_eq_true rfl)
  · refine lv_iconst (v := 0) hx hb dX4_tall_5 (by decide) ?_
    refine lv_goto (tgt := 22) hx hb dX4_tall_6 (by decide) ?_
    exact mx_iret (v := 0) (M' := M) hx hb hr hlocks hP hS ⟨by rw [fEx, if_pos c_1], rfl⟩ dX4_tall_22 (Nat.le_of_ble_eq_true rfl) (Nat.le_of_ble_eq_true rfl)
