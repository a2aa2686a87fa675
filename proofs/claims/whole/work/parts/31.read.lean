/-! printed by wip/whole/spec*.py -/
-- X3_widthOf
set_option maxHeartbeats 4000000 in
set_option maxRecDepth 100000 in
theorem kX3_widthOf (l : Launch) (htr : l.stackTraces = false) (G : gx_G) (sz : Nat) (M : mw_M) (f : fs_A) (S : fs_S) (hR : fs_R G f M S) (i : Nat) (hi : i < sN S) : g_Met l G yX3_widthOf (.code yX3_widthOf cX3_widthOf 2 (some .int)) ({ frames := 1, cells := 0, slots := 0, locals := 60 } : Room) sz M [.ref (f0 f), .int (nI i)] (fun v M9 => v = some (.int (bW S i)) ∧ M = M9) (fun _ => False) := by
  refine MetE.ofW (cc := cX3_widthOf) (maxL := 2) (ret := (some .int)) (by decide) rfl ?_
  intro p e s m args below meth c s₁ B hml hv
  obtain ⟨rfl, hsz, hP, hE⟩ := hv
  have hx := B.exec
  have hb := B.bytes
  have hr := B.returns
  have hts := atoms_spec (ws := _ :: lw_big) B.pre
  have htb : ∀ w ∈ lw_big, w.before _ s = true := fun w h => hts w (List.mem_cons_of_mem _ h)
  have hno := B.noHandlers (hts _ List.mem_cons_self)
  have hown : s.vm.findClass RX3 = some m.cls := findClass_of_methodNamed B.named
  have hlocks := B.notSynchronized
  have hK := hE.1
  subst hsz
  have hS : va_S (gA G) s.heap s.heap [] := va_S.rf
  have hl := lv_entry ([.ref (f0 f), .int (nI i)]) (n := 2) (Nat.le_of_ble_eq_true rfl)
  rw [lg_entry_eq]
  generalize (lg_sl ([.ref (f0 f), .int (nI i)]) ++ List.replicate (2 - (lg_sl ([.ref (f0 f), .int (nI i)])).length) Slot.unset).toArray = ls at hl ⊢
  have hl : lv_has ls 2 [(0, .ref (f0 f)), (1, .int (nI i))] := hl
  obtain ⟨gm, gf, g, h1, h2, h3, h4, h5, h6, h7, h8, h9⟩ := id hR
  obtain ⟨q, hgq, pl, gp, hb1, hb2, hb3, hb4, hb5⟩ := h6 i hi
  refine lv_aload_n hx hb dX3_widthOf_0 rfl (lv_at hl 0 rfl) ?_
  refine mw_get (D := gD G) (ci := 3) (v := .ref (fM f)) (C := RX3) (T := TX3) (N := 6) hx hb htb inX3 hown hK hP h1 rfl 0 (by decide) (htb _ wd56) (fun _ h9 => h9) rfl dX3_widthOf_1 ?_
  refine lv_iload_n hx hb dX3_widthOf_4 rfl (lv_at hl 1 rfl) ?_
  refine mw_aald hx hb hK hP 1 h2 rfl (vp_in_nI (show i < 120 by have := h8.1; omega) (by decide)) dX3_widthOf_5 ?_
  refine W.eq (g2 := F0 m 6 ls [.ref q]) (by rw [nI_clamp (show i < 2 ^ 31 by have := h8.1; omega), hgq]; rfl) ?_
  refine mw_get (D := gD G) (ci := 0) (v := .int (sB S i).1) (C := RX0) (T := TX0) (N := 6) hx hb htb inX0 hown hK hP hb1 rfl 0 (by decide) (htb _ wd227) (fun _ h9 => h9) rfl dX3_widthOf_6 ?_
  exact mx_iret (v := (sB S i).1) (M' := M) hx hb hr hlocks hP hS ⟨rfl, rfl⟩ dX3_widthOf_9 (Nat.le_of_ble_eq_true rfl) (Nat.le_of_ble_eq_true rfl)
-- X3_heightOf
set_option maxHeartbeats 4000000 in
set_option maxRecDepth 100000 in
theorem kX3_heightOf (l : Launch) (htr : l.stackTraces = false) (G : gx_G) (sz : Nat) (M : mw_M) (f : fs_A) (S : fs_S) (hR : fs_R G f M S) (i : Nat) (hi : i < sN S) : g_Met l G yX3_heightOf (.code yX3_heightOf cX3_heightOf 2 (some .int)) ({ frames := 1, cells := 0, slots := 0, locals := 60 } : Room) sz M [.ref (f0 f), .int (nI i)] (fun v M9 => v = some (.int (bH S i)) ∧ M = M9) (fun _ => False) := by
  refine MetE.ofW (cc := cX3_heightOf) (maxL := 2) (ret := (some .int)) (by decide) rfl ?_
  intro p e s m args below meth c s₁ B hml hv
  obtain ⟨rfl, hsz, hP, hE⟩ := hv
  have hx := B.exec
  have hb := B.bytes
  have hr := B.returns
  have hts := atoms_spec (ws := _ :: lw_big) B.pre
  have htb : ∀ w ∈ lw_big, w.before _ s = true := fun w h => hts w (List.mem_cons_of_mem _ h)
  have hno := B.noHandlers (hts _ List.mem_cons_self)
  have hown : s.vm.findClass RX3 = some m.cls := findClass_of_methodNamed B.named
  have hlocks := B.notSynchronized
  have hK := hE.1
  subst hsz
  have hS : va_S (gA G) s.heap s.heap [] := va_S.rf
  have hl := lv_entry ([.ref (f0 f), .int (nI i)]) (n := 2) (Nat.le_of_ble_eq_true rfl)
  rw [lg_entry_eq]
  generalize (lg_sl ([.ref (f0 f), .int (nI i)]) ++ List.replicate (2 - (lg_sl ([.ref (f0 f), .int (nI i)])).length) Slot.unset).toArray = ls at hl ⊢
  have hl : lv_has ls 2 [(0, .ref (f0 f)), (1, .int (nI i))] := hl
  obtain ⟨gm, gf, g, h1, h2, h3, h4, h5, h6, h7, h8, h9⟩ := id hR
  obtain ⟨q, hgq, pl, gp, hb1, hb2, hb3, hb4, hb5⟩ := h6 i hi
  refine lv_aload_n hx hb dX3_heightOf_0 rfl (lv_at hl 0 rfl) ?_
  refine mw_get (D := gD G) (ci := 3) (v := .ref (fM f)) (C := RX3) (T := TX3) (N := 6) hx hb htb inX3 hown hK hP h1 rfl 0 (by decide) (htb _ wd56) (fun _ h9 => h9) rfl dX3_heightOf_1 ?_
  refine lv_iload_n hx hb dX3_heightOf_4 rfl (lv_at hl 1 rfl) ?_
  refine mw_aald hx hb hK hP 1 h2 rfl (vp_in_nI (show i < 120 by have := h8.1; omega) (by decide)) dX3_heightOf_5 ?_
  refine W.eq (g2 := F0 m 6 ls [.ref q]) (by rw [nI_clamp (show i < 2 ^ 31 by have := h8.1; omega), hgq]; rfl) ?_
  refine mw_get (D := gD G) (ci := 0) (v := .int (sB S i).2.1) (C := RX0) (T := TX0) (N := 6) hx hb htb inX0 hown hK hP hb1 rfl 1 (by decide) (htb _ wd230) (fun _ h9 => h9) rfl dX3_heightOf_6 ?_
  exact mx_iret (v := (sB S i).2.1) (M' := M) hx hb hr hlocks hP hS ⟨rfl, rfl⟩ dX3_heightOf_9 (Nat.le_of_ble_eq_true rfl) (Nat.le_of_ble_eq_true rfl)
-- X3_depthOf
set_option maxHeartbeats 4000000 in
set_option maxRecDepth 100000 in
theorem kX3_depthOf (l : Launch) (htr : l.stackTraces = false) (G : gx_G) (sz : Nat) (M : mw_M) (f : fs_A) (S : fs_S) (hR : fs_R G f M S) (i : Nat) (hi : i < sN S) : g_Met l G yX3_depthOf (.code yX3_depthOf cX3_depthOf 2 (some .int)) ({ frames := 1, cells := 0, slots := 0, locals := 60 } : Room) sz M [.ref (f0 f), .int (nI i)] (fun v M9 => v = some (.int (bD S i)) ∧ M = M9) (fun _ => False) := by
  refine MetE.ofW (cc := cX3_depthOf) (maxL := 2) (ret := (some .int)) (by decide) rfl ?_
  intro p e s m args below meth c s₁ B hml hv
  obtain ⟨rfl, hsz, hP, hE⟩ := hv
  have hx := B.exec
  have hb := B.bytes
  have hr := B.returns
  have hts := atoms_spec (ws := _ :: lw_big) B.pre
  have htb : ∀ w ∈ lw_big, w.before _ s = true := fun w h => hts w (List.mem_cons_of_mem _ h)
  have hno := B.noHandlers (hts _ List.mem_cons_self)
  have hown : s.vm.findClass RX3 = some m.cls := findClass_of_methodNamed B.named
  have hlocks := B.notSynchronized
  have hK := hE.1
  subst hsz
  have hS : va_S (gA G) s.heap s.heap [] := va_S.rf
  have hl := lv_entry ([.ref (f0 f), .int (nI i)]) (n := 2) (Nat.le_of_ble_eq_true rfl)
  rw [lg_entry_eq]
  generalize (lg_sl ([.ref (f0 f), .int (nI i)]) ++ List.replicate (2 - (lg_sl ([.ref (f0 f), .int (nI i)])).length) Slot.unset).toArray = ls at hl ⊢
  have hl : lv_has ls 2 [(0, .ref (f0 f)), (1, .int (nI i))] := hl
  obtain ⟨gm, gf, g, h1, h2, h3, h4, h5, h6, h7, h8, h9⟩ := id hR
  obtain ⟨q, hgq, pl, gp, hb1, hb2, hb3, hb4, hb5⟩ := h6 i hi
  refine lv_aload_n hx hb dX3_depthOf_0 rfl (lv_at hl 0 rfl) ?_
  refine mw_get (D := gD G) (ci := 3) (v := .ref (fM f)) (C := RX3) (T := TX3) (N := 6) hx hb htb inX3 hown hK hP h1 rfl 0 (by decide) (htb _ wd56) (fun _ h9 => h9) rfl dX3_depthOf_1 ?_
  refine lv_iload_n hx hb dX3_depthOf_4 rfl (lv_at hl 1 rfl) ?_
  refine mw_aald hx hb hK hP 1 h2 rfl (vp_in_nI (show i < 120 by have := h8.1; omega) (by decide)) dX3_depthOf_5 ?_
  refine W.eq (g2 := F0 m 6 ls [.ref q]) (by rw [nI_clamp (show i < 2 ^ 31 by have := h8.1; omega), hgq]; rfl) ?_
  refine mw_get (D := gD G) (ci := 0) (v := .int (sB S i).2.2.1) (C := RX0) (T := TX0) (N := 6) hx hb htb inX0 hown hK hP hb1 rfl 2 (by decide) (htb _ wd233) (fun _ h9 => h9) rfl dX3_depthOf_6 ?_
  exact mx_iret (v := (sB S i).2.2.1) (M' := M) hx hb hr hlocks hP hS ⟨rfl, rfl⟩ dX3_depthOf_9 (Nat.le_of_ble_eq_true rfl) (Nat.le_of_ble_eq_true rfl)
-- half
set_option maxHeartbeats 4000000 in
set_option maxRecDepth 100000 in
theorem kX3_half (l : Launch) (htr : l.stackTraces = false) (G : gx_G) (sz : Nat) (M : mw_M) (x : Int32) : g_Met l G yX3_half (.code yX3_half cX3_half 1 (some .int)) ({ frames := 1, cells := 0, slots := 0, locals := 60 } : Room) sz M [.int x] (fun v M9 => v = some (.int (fHf x)) ∧ M = M9) (fun _ => False) := by
  refine MetE.ofW (cc := cX3_half) (maxL := 1) (ret := (some .int)) (by decide) rfl ?_
  intro p e s m args below meth c s₁ B hml hv
  obtain ⟨rfl, hsz, hP, hE⟩ := hv
  have hx := B.exec
  have hb := B.bytes
  have hr := B.returns
  have hts := atoms_spec (ws := _ :: lw_big) B.pre
  have htb : ∀ w ∈ lw_big, w.before _ s = true := fun w h => hts w (List.mem_cons_of_mem _ h)
  have hno := B.noHandlers (hts _ List.mem_cons_self)
  have hown : s.vm.findClass RX3 = some m.cls := findClass_of_methodNamed B.named
  have hlocks := B.notSynchronized
  have hK := hE.1
  subst hsz
  have hS : va_S (gA G) s.heap s.heap [] := va_S.rf
  have hl := lv_entry ([.int x]) (n := 1) (Nat.le_of_ble_eq_true rfl)
  rw [lg_entry_eq]
  generalize (lg_sl ([.int x]) ++ List.replicate (1 - (lg_sl ([.int x])).length) Slot.unset).toArray = ls at hl ⊢
  have hl : lv_has ls 1 [(0, .int x)] := hl
  refine lv_iload_n hx hb dX3_half_0 rfl (lv_at hl 0 rfl) ?_
  refine lv_iconst (v := 2) hx hb dX3_half_1 (by decide) ?_
  refine lv_irem hx hb dX3_half_2 (by decide) ?_
  refine lv_if_ne (tgt := 12) hx hb dX3_half_3 (by decide) (fun c_1 => ?_) (fun c_1 => ?_)
  · refine lv_iload_n hx hb dX3_half_12 rfl (lv_at hl 0 rfl) ?_
    refine lv_iconst (v := 1) hx hb dX3_half_13 (by decide) ?_
    refine lv_iadd hx hb dX3_half_14 ?_
    refine lv_iconst (v := 2) hx hb dX3_half_15 (by decide) ?_
    refine lv_idiv hx hb dX3_half_16 (by decide) ?_
    exact mx_iret (v := ((x + 1) / 2)) (M' := M) hx hb hr hlocks hP hS ⟨by rw [fHf, if_neg c_1], rfl⟩ dX3_half_17 (Nat.le_of_ble_eq_true rfl) (Nat.le_of_ble_eq_true rfl)
  · refine lv_iload_n hx hb dX3_half_6 rfl (lv_at hl 0 rfl) ?_
    refine lv_iconst (v := 2) hx hb dX3_half_7 (by decide) ?_
    refine lv_idiv hx hb dX3_half_8 (by decide) ?_
    refine lv_goto (tgt := 17) hx hb dX3_half_9 (by decide) ?_
    exact mx_iret (v := (x / 2)) (M' := M) hx hb hr hlocks hP hS ⟨by rw [fHf, if_pos c_1], rfl⟩ dX3_half_17 (Nat.le_of_ble_eq_true rfl) (Nat.le_of_ble_eq_true rfl)
-- X3_newBoxesFor
set_option maxHeartbeats 4000000 in
set_option maxRecDepth 100000 in
theorem kX3_newBoxesFor (l : Launch) (htr : l.stackTraces = false) (G : gx_G) (sz : Nat) (M : mw_M) (x : Int32) : g_Met l G yX3_newBoxesFor (.code yX3_newBoxesFor cX3_newBoxesFor 1 (some .int)) ({ frames := 1, cells := 0, slots := 0, locals := 60 } : Room) sz M [.int x] (fun v M9 => v = some (.int (if x = (-1) then 1 else 0)) ∧ M = M9) (fun _ => False) := by
  refine MetE.ofW (cc := cX3_newBoxesFor) (maxL := 1) (ret := (some .int)) (by decide) rfl ?_
  intro p e s m args below meth c s₁ B hml hv
  obtain ⟨rfl, hsz, hP, hE⟩ := hv
  have hx := B.exec
  have hb := B.bytes
  have hr := B.returns
  have hts := atoms_spec (ws := _ :: lw_big) B.pre
  have htb : ∀ w ∈ lw_big, w.before _ s = true := fun w h => hts w (List.mem_cons_of_mem _ h)
  have hno := B.noHandlers (hts _ List.mem_cons_self)
  have hown : s.vm.findClass RX3 = some m.cls := findClass_of_methodNamed B.named
  have hlocks := B.notSynchronized
  have hK := hE.1
  subst hsz
  have hS : va_S (gA G) s.heap s.heap [] := va_S.rf
  have hl := lv_entry ([.int x]) (n := 1) (Nat.le_of_ble_eq_true rfl)
  rw [lg_entry_eq]
  generalize (lg_sl ([.int x]) ++ List.replicate (1 - (lg_sl ([.int x])).length) Slot.unset).toArray = ls at hl ⊢
  have hl : lv_has ls 1 [(0, .int x)] := hl
  refine lv_iload_n hx hb dX3_newBoxesFor_0 rfl (lv_at hl 0 rfl) ?_
  refine lv_iconst (v := (-1)) hx hb dX3_newBoxesFor_1 (by decide) ?_
  refine lv_icmp_ne (tgt := 9) hx hb dX3_newBoxesFor_2 (by decide) (fun c_1 => ?_) (fun c_1 => ?_)
  · refine lv_iconst (v := 0) hx hb dX3_newBoxesFor_9 (by decide) ?_
    exact mx_iret (v := 0) (M' := M) hx hb hr hlocks hP hS ⟨by rw [if_neg c_1], rfl⟩ dX3_newBoxesFor_10 (Nat.le_of_ble_eq_true rfl) (Nat.le_of_ble_eq_true rfl)
  · refine lv_iconst (v := 1) hx hb dX3_newBoxesFor_5 (by decide) ?_
    refine lv_goto (tgt := 10) hx hb dX3_newBoxesFor_6 (by decide) ?_
    exact mx_iret (v := 1) (M' := M) hx hb hr hlocks hP hS ⟨by rw [if_pos c_1], rfl⟩ dX3_newBoxesFor_10 (Nat.le_of_ble_eq_true rfl) (Nat.le_of_ble_eq_true rfl)
-- X3_oneIfThere
set_option maxHeartbeats 4000000 in
set_option maxRecDepth 100000 in
theorem kX3_oneIfThere (l : Launch) (htr : l.stackTraces = false) (G : gx_G) (sz : Nat) (M : mw_M) (x : Int32) : g_Met l G yX3_oneIfThere (.code yX3_oneIfThere cX3_oneIfThere 1 (some .int)) ({ frames := 1, cells := 0, slots := 0, locals := 60 } : Room) sz M [.int x] (fun v M9 => v = some (.int (if x = (-1) then 0 else 1)) ∧ M = M9) (fun _ => False) := by
  refine MetE.ofW (cc := cX3_oneIfThere) (maxL := 1) (ret := (some .int)) (by decide) rfl ?_
  intro p e s m args below meth c s₁ B hml hv
  obtain ⟨rfl, hsz, hP, hE⟩ := hv
  have hx := B.exec
  have hb := B.bytes
  have hr := B.returns
  have hts := atoms_spec (ws := _ :: lw_big) B.pre
  have htb : ∀ w ∈ lw_big, w.before _ s = true := fun w h => hts w (List.mem_cons_of_mem _ h)
  have hno := B.noHandlers (hts _ List.mem_cons_self)
  have hown : s.vm.findClass RX3 = some m.cls := findClass_of_methodNamed B.named
  have hlocks := B.notSynchronized
  have hK := hE.1
  subst hsz
  have hS : va_S (gA G) s.heap s.heap [] := va_S.rf
  have hl := lv_entry ([.int x]) (n := 1) (Nat.le_of_ble_eq_true rfl)
  rw [lg_entry_eq]
  generalize (lg_sl ([.int x]) ++ List.replicate (1 - (lg_sl ([.int x])).length) Slot.unset).toArray = ls at hl ⊢
  have hl : lv_has ls 1 [(0, .int x)] := hl
  refine lv_iload_n hx hb dX3_oneIfThere_0 rfl (lv_at hl 0 rfl) ?_
  refine lv_iconst (v := (-1)) hx hb dX3_oneIfThere_1 (by decide) ?_
  refine lv_icmp_ne (tgt := 9) hx hb dX3_oneIfThere_2 (by decide) (fun c_1 => ?_) (fun c_1 => ?_)
  · refine lv_iconst (v := 1) hx hb dX3_oneIfThere_9 (by decide) ?_
    exact mx_iret (v := 1) (M' := M) hx hb hr hlocks hP hS ⟨by rw [if_neg c_1], rfl⟩ dX3_oneIfThere_10 (Nat.le_of_ble_eq_true rfl) (Nat.le_of_ble_eq_true rfl)
  · refine lv_iconst (v := 0) hx hb dX3_oneIfThere_5 (by decide) ?_
    refine lv_goto (tgt := 10) hx hb dX3_oneIfThere_6 (by decide) ?_
    exact mx_iret (v := 0) (M' := M) hx hb hr hlocks hP hS ⟨by rw [if_pos c_1], rfl⟩ dX3_oneIfThere_10 (Nat.le_of_ble_eq_true rfl) (Nat.le_of_ble_eq_true rfl)
theorem fv_lt {st k : Nat} (h1 : st < 4) (h2 : k < 21) : fSz st * 21 + k < 63 := by
  unfold fSz; split <;> omega
theorem fv_lo {st k : Nat} (h1 : st < 4) (h2 : k < 21) (c : ¬ 1 < nI st) : 0 * 21 + nI k = nI (fSz st * 21 + k) := by
  have h : st ≤ 1 := by
    rcases Nat.lt_or_ge 1 st with q | q
    · exact absurd (show nI 1 < nI st from nI_lt q (by omega)) c
    · exact q
  rw [show fSz st = 0 from if_pos h, Nat.zero_mul, Nat.zero_add]
  simp
theorem fv_hi {st k : Nat} (h1 : st < 4) (h2 : k < 21) (c : 1 < nI st) : (nI st - 1) * 21 + nI k = nI (fSz st * 21 + k) := by
  have h : ¬ st ≤ 1 := fun q => nI_nlt (a := 1) (b := st) q (by decide) c
  rw [show fSz st = st - 1 from if_neg h, show (1 : Int32) = nI 1 from rfl, pk_sub (by omega), show (21 : Int32) = nI 21 from rfl, pk_mul, nI_add]
-- valueOf
set_option maxHeartbeats 4000000 in
set_option maxRecDepth 100000 in
theorem kX3_valueOf (l : Launch) (htr : l.stackTraces = false) (G : gx_G) (sz : Nat) (M : mw_M) (f : fs_A) (S : fs_S) (hR : fs_R G f M S) (st k : Nat) (h_st : st < 4) (h_k : k < 21) : g_Met l G yX3_valueOf (.code yX3_valueOf cX3_valueOf 4 (some .int)) ({ frames := 1, cells := 0, slots := 0, locals := 60 } : Room) sz M [.ref (f0 f), .int (nI st), .int (nI k)] (fun v M9 => v = some (.int (pV S st k)) ∧ M = M9) (fun _ => False) := by
  refine MetE.ofW (cc := cX3_valueOf) (maxL := 4) (ret := (some .int)) (by decide) rfl ?_
  intro p e s m args below meth c s₁ B hml hv
  obtain ⟨rfl, hsz, hP, hE⟩ := hv
  have hx := B.exec
  have hb := B.bytes
  have hr := B.returns
  have hts := atoms_spec (ws := _ :: lw_big) B.pre
  have htb : ∀ w ∈ lw_big, w.before _ s = true := fun w h => hts w (List.mem_cons_of_mem _ h)
  have hno := B.noHandlers (hts _ List.mem_cons_self)
  have hown : s.vm.findClass RX3 = some m.cls := findClass_of_methodNamed B.named
  have hlocks := B.notSynchronized
  have hK := hE.1
  subst hsz
  have hS : va_S (gA G) s.heap s.heap [] := va_S.rf
  have hl := lv_entry ([.ref (f0 f), .int (nI st), .int (nI k)]) (n := 4) (Nat.le_of_ble_eq_true rfl)
  rw [lg_entry_eq]
  generalize (lg_sl ([.ref (f0 f), .int (nI st), .int (nI k)]) ++ List.replicate (4 - (lg_sl ([.ref (f0 f), .int (nI st), .int (nI k)])).length) Slot.unset).toArray = ls at hl ⊢
  have hl : lv_has ls 4 [(0, .ref (f0 f)), (1, .int (nI st)), (2, .int (nI k))] := hl
  obtain ⟨gm, gf, g, h1, h2, h3, h4, h5, h6, h7, h8, h9⟩ := id hR
  refine lv_iload_n hx hb dX3_valueOf_0 rfl (lv_at hl 1 rfl) ?_
  refine lv_iconst (v := 1) hx hb dX3_valueOf_1 (by decide) ?_
  refine lv_icmp_gt (tgt := 9) hx hb dX3_valueOf_2 (by decide) (fun c_1 => ?_) (fun c_1 => ?_)
  · refine lv_iload_n hx hb dX3_valueOf_9 rfl (lv_at hl 1 rfl) ?_
    refine lv_iconst (v := 1) hx hb dX3_valueOf_10 (by decide) ?_
    refine lv_isub hx hb dX3_valueOf_11 ?_
    refine lv_istore_n (lv' := [(3, .int ((nI st) - 1)), (0, .ref (f0 f)), (1, .int (nI st)), (2, .int (nI k))]) hx hb dX3_valueOf_12 rfl hl (by decide) rfl (fun ls hl => ?_)
    refine lv_aload_n hx hb dX3_valueOf_13 rfl (lv_at hl 1 rfl) ?_
    refine mw_get (D := gD G) (ci := 3) (v := .ref (fP f)) (C := RX3) (T := TX3) (N := 6) hx hb htb inX3 hown hK hP h1 rfl 3 (by decide) (htb _ wd59) (fun _ h9 => h9) rfl dX3_valueOf_14 ?_
    refine lv_iload_n hx hb dX3_valueOf_17 rfl (lv_at hl 0 rfl) ?_
    refine lv_bipush (v := 21) hx hb dX3_valueOf_18 (by decide) ?_
    refine lv_imul hx hb dX3_valueOf_20 ?_
    refine lv_iload_n hx hb dX3_valueOf_21 rfl (lv_at hl 3 rfl) ?_
    refine lv_iadd hx hb dX3_valueOf_22 ?_
    refine mw_iald hx hb hK hP 0 h4 rfl (by rw [(fv_hi h_st h_k c_1)]; exact vp_in_nI (fv_lt h_st h_k) (by decide)) dX3_valueOf_23 ?_
    refine W.eq (g2 := F0 m 24 ls [.int (pV S st k)]) (by rw [(fv_hi h_st h_k c_1), nI_clamp (show _ < 2 ^ 31 by have := fv_lt h_st h_k; omega), h5 _ (fv_lt h_st h_k)]; rfl) ?_
    exact mx_iret (v := (pV S st k)) (M' := M) hx hb hr hlocks hP hS ⟨rfl, rfl⟩ dX3_valueOf_24 (Nat.le_of_ble_eq_true rfl) (Nat.le_of_ble_eq_true rfl)
  · refine lv_iconst (v := 0) hx hb dX3_valueOf_5 (by decide) ?_
    refine lv_goto (tgt := 12) hx hb dX3_valueOf_6 (by decide) ?_
    refine lv_istore_n (lv' := [(3, .int 0), (0, .ref (f0 f)), (1, .int (nI st)), (2, .int (nI k))]) hx hb dX3_valueOf_12 rfl hl (by decide) rfl (fun ls hl => ?_)
    refine lv_aload_n hx hb dX3_valueOf_13 rfl (lv_at hl 1 rfl) ?_
    refine mw_get (D := gD G) (ci := 3) (v := .ref (fP f)) (C := RX3) (T := TX3) (N := 6) hx hb htb inX3 hown hK hP h1 rfl 3 (by decide) (htb _ wd59) (fun _ h9 => h9) rfl dX3_valueOf_14 ?_
    refine lv_iload_n hx hb dX3_valueOf_17 rfl (lv_at hl 0 rfl) ?_
    refine lv_bipush (v := 21) hx hb dX3_valueOf_18 (by decide) ?_
    refine lv_imul hx hb dX3_valueOf_20 ?_
    refine lv_iload_n hx hb dX3_valueOf_21 rfl (lv_at hl 3 rfl) ?_
    refine lv_iadd hx hb dX3_valueOf_22 ?_
    refine mw_iald hx hb hK hP 0 h4 rfl (by rw [(fv_lo h_st h_k c_1)]; exact vp_in_nI (fv_lt h_st h_k) (by decide)) dX3_valueOf_23 ?_
    refine W.eq (g2 := F0 m 24 ls [.int (pV S st k)]) (by rw [(fv_lo h_st h_k c_1), nI_clamp (show _ < 2 ^ 31 by have := fv_lt h_st h_k; omega), h5 _ (fv_lt h_st h_k)]; rfl) ?_
    exact mx_iret (v := (pV S st k)) (M' := M) hx hb hr hlocks hP hS ⟨rfl, rfl⟩ dX3_valueOf_24 (Nat.le_of_ble_eq_true rfl) (Nat.le_of_ble_eq_true rfl)
-- extentOf
set_option maxHeartbeats 4000000 in
set_option maxRecDepth 100000 in
theorem kX3_extentOf (l : Launch) (htr : l.stackTraces = false) (G : gx_G) (sz : Nat) (M : mw_M) (f : fs_A) (S : fs_S) (hR : fs_R G f M S) (x : Int32) (hxo : fs_on S x) : g_Met l G yX3_extentOf (.code yX3_extentOf cX3_extentOf 2 (some .int)) ({ frames := 1, cells := 0, slots := 0, locals := 60 } : Room) sz M [.ref (f0 f), .int x] (fun v M9 => v = some (.int (fEx S x)) ∧ M = M9) (fun _ => False) := by
  refine MetE.ofW (cc := cX3_extentOf) (maxL := 2) (ret := (some .int)) (by decide) rfl ?_
  intro p e s m args below meth c s₁ B hml hv
  obtain ⟨rfl, hsz, hP, hE⟩ := hv
  have hx := B.exec
  have hb := B.bytes
  have hr := B.returns
  have hts := atoms_spec (ws := _ :: lw_big) B.pre
  have htb : ∀ w ∈ lw_big, w.before _ s = true := fun w h => hts w (List.mem_cons_of_mem _ h)
  have hno := B.noHandlers (hts _ List.mem_cons_self)
  have hown : s.vm.findClass RX3 = some m.cls := findClass_of_methodNamed B.named
  have hlocks := B.notSynchronized
  have hK := hE.1
  subst hsz
  have hS : va_S (gA G) s.heap s.heap [] := va_S.rf
  have hl := lv_entry ([.ref (f0 f), .int x]) (n := 2) (Nat.le_of_ble_eq_true rfl)
  rw [lg_entry_eq]
  generalize (lg_sl ([.ref (f0 f), .int x]) ++ List.replicate (2 - (lg_sl ([.ref (f0 f), .int x])).length) Slot.unset).toArray = ls at hl ⊢
  have hl : lv_has ls 2 [(0, .ref (f0 f)), (1, .int x)] := hl
  obtain ⟨gm, gf, g, h1, h2, h3, h4, h5, h6, h7, h8, h9⟩ := id hR
  refine lv_iload_n hx hb dX3_extentOf_0 rfl (lv_at hl 1 rfl) ?_
  refine lv_iconst (v := (-1)) hx hb dX3_extentOf_1 (by decide) ?_
  refine lv_icmp_ne (tgt := 9) hx hb dX3_extentOf_2 (by decide) (fun c_1 => ?_) (fun c_1 => ?_)
  · obtain ⟨i, hi, rfl⟩ := hxo.resolve_left c_1
    obtain ⟨q, hgq, pl, gp, hb1, hb2, hb3, hb4, hb5⟩ := h6 i hi
    refine lv_aload_n hx hb dX3_extentOf_9 rfl (lv_at hl 0 rfl) ?_
    refine mw_get (D := gD G) (ci := 3) (v := .ref (fM f)) (C := RX3) (T := TX3) (N := 6) hx hb htb inX3 hown hK hP h1 rfl 0 (by decide) (htb _ wd56) (fun _ h9 => h9) rfl dX3_extentOf_10 ?_
    refine lv_iload_n hx hb dX3_extentOf_13 rfl (lv_at hl 1 rfl) ?_
    refine mw_aald hx hb hK hP 1 h2 rfl (vp_in_nI (show i < 120 by have := h8.1; omega) (by decide)) dX3_extentOf_14 ?_
    refine W.eq (g2 := F0 m 15 ls [.ref q]) (by rw [nI_clamp (show i < 2 ^ 31 by have := h8.1; omega), hgq]; rfl) ?_
    refine mw_get (D := gD G) (ci := 0) (v := .int (sB S i).2.1) (C := RX0) (T := TX0) (N := 6) hx hb htb inX0 hown hK hP hb1 rfl 1 (by decide) (htb _ wd230) (fun _ h9 => h9) rfl dX3_extentOf_15 ?_
    refine lv_aload_n hx hb dX3_extentOf_18 rfl (lv_at hl 0 rfl) ?_
    refine mw_get (D := gD G) (ci := 3) (v := .ref (fM f)) (C := RX3) (T := TX3) (N := 6) hx hb htb inX3 hown hK hP h1 rfl 0 (by decide) (htb _ wd56) (fun _ h9 => h9) rfl dX3_extentOf_19 ?_
    refine lv_iload_n hx hb dX3_extentOf_22 rfl (lv_at hl 1 rfl) ?_
    refine mw_aald hx hb hK hP 1 h2 rfl (vp_in_nI (show i < 120 by have := h8.1; omega) (by decide)) dX3_extentOf_23 ?_
    refine W.eq (g2 := F0 m 24 ls [.ref q, .int (sB S i).2.1]) (by rw [nI_clamp (show i < 2 ^ 31 by have := h8.1; omega), hgq]; rfl) ?_
    refine mw_get (D := gD G) (ci := 0) (v := .int (sB S i).2.2.1) (C := RX0) (T := TX0) (N := 6) hx hb htb inX0 hown hK hP hb1 rfl 2 (by decide) (htb _ wd233) (fun _ h9 => h9) rfl dX3_extentOf_24 ?_
    refine lv_iadd hx hb dX3_extentOf_27 ?_
    exact mx_iret (v := ((sB S i).2.1 + (sB S i).2.2.1)) (M' := M) hx hb hr hlocks hP hS ⟨by rw [fEx, if_neg c_1, nI_clamp (show i < 2 ^ 31 by have := h8.1; omega)]; rfl, rfl⟩ dX3_extentOf_28 (Nat.le_of_ble_eq_true rfl) (Nat.le_of_ble_eq_true rfl)
  · refine lv_iconst (v := 0) hx hb dX3_extentOf_5 (by decide) ?_
    refine lv_goto (tgt := 28) hx hb dX3_extentOf_6 (by decide) ?_
    exact mx_iret (v := 0) (M' := M) hx hb hr hlocks hP hS ⟨by rw [fEx, if_pos c_1], rfl⟩ dX3_extentOf_28 (Nat.le_of_ble_eq_true rfl) (Nat.le_of_ble_eq_true rfl)
