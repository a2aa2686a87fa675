/-! printed by wip/whole/spec*.py -/
-- needFamily
set_option maxHeartbeats 4000000 in
set_option maxRecDepth 100000 in
theorem kX3_needFamily (l : Launch) (htr : l.stackTraces = false) (G : gx_G) (sz : Nat) (M : mw_M) (x : Int32) : g_Met l G yX3_needFamily (.code yX3_needFamily cX3_needFamily 1 none) ({ frames := 6, cells := 1, slots := 6, locals := 120 } : Room) sz M [.int x] (fun v M9 => v = none ∧ M = M9 ∧ (¬ x < 0 ∧ ¬ 8 ≤ x)) (fun E => E = "java/lang/IndexOutOfBoundsException" ∧ ¬ (¬ x < 0 ∧ ¬ 8 ≤ x)) := by
  refine MetE.ofW (cc := cX3_needFamily) (maxL := 1) (ret := none) (by decide) rfl ?_
  intro p e s m args below meth c s₁ B hml hv
  obtain ⟨rfl, hsz, hP, hE⟩ := hv
  have hx := B.exec
  have hb := B.bytes
  have hr := B.returns
  have hts := atoms_spec (ws := _ :: lw_big) B.pre
  have htb : ∀ w ∈ lw_big, w.before _ s = true := fun w h => hts w (List.mem_cons_of_mem _ h)
  have hno := B.noHandlers (hts _ List.mem_cons_self)
  have hown : s.vm.findClass RX3 = some m.cls := findClass_of_methodNamed B.named
  have hlocks := B.notSynchronized
  have hK := hE.1
  subst hsz
  have hS : va_S (gA G) s.heap s.heap [] := va_S.rf
  have hl := lv_entry ([.int x]) (n := 1) (Nat.le_of_ble_eq_true rfl)
  rw [lg_entry_eq]
  generalize (lg_sl ([.int x]) ++ List.replicate (1 - (lg_sl ([.int x])).length) Slot.unset).toArray = ls at hl ⊢
  have hl : lv_has ls 1 [(0, .int x)] := hl
  refine lv_iload_n hx hb dX3_needFamily_0 rfl (lv_at hl 0 rfl) ?_
  refine lv_if_lt (tgt := 10) hx hb dX3_needFamily_1 (by decide) (fun c_1 => ?_) (fun c_1 => ?_)
  · exact g_thrIO (M := M) hx hb htr hno hlocks hml hl hown htb hE (List.mem_cons_of_mem _ (List.mem_cons_of_mem _ (List.mem_cons_of_mem _ (List.mem_cons_of_mem _ (List.mem_cons_of_mem _ List.mem_cons_self))))) hS hP dX3_needFamily_10 dX3_needFamily_13 dX3_needFamily_14 dX3_needFamily_16 dX3_needFamily_19 (Nat.le_of_ble_eq_true rfl) (Nat.le_of_ble_eq_true rfl) (Nat.le_of_ble_eq_true rfl) (Nat.le_of_ble_eq_true rfl) ⟨rfl, (by first | (simp only [*, not_true_eq_false, not_false_eq_true, and_self, or_self, true_and, and_true, true_or, or_true, false_and, and_false, false_or, or_false]; done) | simp_all)⟩ (Nat.le_of_ble_eq_true rfl) (Nat.le_of_ble_eq_true rfl)
  · refine lv_iload_n hx hb dX3_needFamily_4 rfl (lv_at hl 0 rfl) ?_
    refine lv_bipush (v := 8) hx hb dX3_needFamily_5 (by decide) ?_
    refine lv_icmp_lt (tgt := 20) hx hb dX3_needFamily_7 (by decide) (fun c_2 => ?_) (fun c_2 => ?_)
    · exact mx_vret (M' := M) hx hb hr hlocks hP hS ⟨rfl, rfl, (by first | (simp only [*, not_true_eq_false, not_false_eq_true, and_self, or_self, true_and, and_true, true_or, or_true, false_and, and_false, false_or, or_false]; done) | simp_all)⟩ dX3_needFamily_20 (Nat.le_of_ble_eq_true rfl) (Nat.le_of_ble_eq_true rfl)
    · exact g_thrIO (M := M) hx hb htr hno hlocks hml hl hown htb hE (List.mem_cons_of_mem _ (List.mem_cons_of_mem _ (List.mem_cons_of_mem _ (List.mem_cons_of_mem _ (List.mem_cons_of_mem _ List.mem_cons_self))))) hS hP dX3_needFamily_10 dX3_needFamily_13 dX3_needFamily_14 dX3_needFamily_16 dX3_needFamily_19 (Nat.le_of_ble_eq_true rfl) (Nat.le_of_ble_eq_true rfl) (Nat.le_of_ble_eq_true rfl) (Nat.le_of_ble_eq_true rfl) ⟨rfl, (by first | (simp only [*, not_true_eq_false, not_false_eq_true, and_self, or_self, true_and, and_true, true_or, or_true, false_and, and_false, false_or, or_false]; done) | simp_all)⟩ (Nat.le_of_ble_eq_true rfl) (Nat.le_of_ble_eq_true rfl)
-- needStyle
set_option maxHeartbeats 4000000 in
set_option maxRecDepth 100000 in
theorem kX3_needStyle (l : Launch) (htr : l.stackTraces = false) (G : gx_G) (sz : Nat) (M : mw_M) (x : Int32) : g_Met l G yX3_needStyle (.code yX3_needStyle cX3_needStyle 1 none) ({ frames := 6, cells := 1, slots := 6, locals := 120 } : Room) sz M [.int x] (fun v M9 => v = none ∧ M = M9 ∧ (¬ x < 0 ∧ ¬ 3 < x)) (fun E => E = "java/lang/IllegalArgumentException" ∧ ¬ (¬ x < 0 ∧ ¬ 3 < x)) := by
  refine MetE.ofW (cc := cX3_needStyle) (maxL := 1) (ret := none) (by decide) rfl ?_
  intro p e s m args below meth c s₁ B hml hv
  obtain ⟨rfl, hsz, hP, hE⟩ := hv
  have hx := B.exec
  have hb := B.bytes
  have hr := B.returns
  have hts := atoms_spec (ws := _ :: lw_big) B.pre
  have htb : ∀ w ∈ lw_big, w.before _ s = true := fun w h => hts w (List.mem_cons_of_mem _ h)
  have hno := B.noHandlers (hts _ List.mem_cons_self)
  have hown : s.vm.findClass RX3 = some m.cls := findClass_of_methodNamed B.named
  have hlocks := B.notSynchronized
  have hK := hE.1
  subst hsz
  have hS : va_S (gA G) s.heap s.heap [] := va_S.rf
  have hl := lv_entry ([.int x]) (n := 1) (Nat.le_of_ble_eq_true rfl)
  rw [lg_entry_eq]
  generalize (lg_sl ([.int x]) ++ List.replicate (1 - (lg_sl ([.int x])).length) Slot.unset).toArray = ls at hl ⊢
  have hl : lv_has ls 1 [(0, .int x)] := hl
  refine lv_iload_n hx hb dX3_needStyle_0 rfl (lv_at hl 0 rfl) ?_
  refine lv_if_lt (tgt := 9) hx hb dX3_needStyle_1 (by decide) (fun c_1 => ?_) (fun c_1 => ?_)
  · exact g_thrIA (M := M) hx hb htr hno hlocks hml hl hown htb hE (List.mem_cons_of_mem _ (List.mem_cons_of_mem _ (List.mem_cons_of_mem _ (List.mem_cons_of_mem _ (List.mem_cons_of_mem _ (List.mem_cons_of_mem _ (List.mem_cons_of_mem _ (List.mem_cons_of_mem _ (List.mem_cons_of_mem _ (List.mem_cons_of_mem _ List.mem_cons_self)))))))))) hS hP dX3_needStyle_9 dX3_needStyle_12 dX3_needStyle_13 dX3_needStyle_15 dX3_needStyle_18 (Nat.le_of_ble_eq_true rfl) (Nat.le_of_ble_eq_true rfl) (Nat.le_of_ble_eq_true rfl) (Nat.le_of_ble_eq_true rfl) ⟨rfl, (by first | (simp only [*, not_true_eq_false, not_false_eq_true, and_self, or_self, true_and, and_true, true_or, or_true, false_and, and_false, false_or, or_false]; done) | simp_all)⟩ (Nat.le_of_ble_eq_true rfl) (Nat.le_of_ble_eq_true rfl)
  · refine lv_iload_n hx hb dX3_needStyle_4 rfl (lv_at hl 0 rfl) ?_
    refine lv_iconst (v := 3) hx hb dX3_needStyle_5 (by decide) ?_
    refine lv_icmp_le (tgt := 19) hx hb dX3_needStyle_6 (by decide) (fun c_2 => ?_) (fun c_2 => ?_)
    · exact mx_vret (M' := M) hx hb hr hlocks hP hS ⟨rfl, rfl, (by first | (simp only [*, not_true_eq_false, not_false_eq_true, and_self, or_self, true_and, and_true, true_or, or_true, false_and, and_false, false_or, or_false]; done) | simp_all)⟩ dX3_needStyle_19 (Nat.le_of_ble_eq_true rfl) (Nat.le_of_ble_eq_true rfl)
    · exact g_thrIA (M := M) hx hb htr hno hlocks hml hl hown htb hE (List.mem_cons_of_mem _ (List.mem_cons_of_mem _ (List.mem_cons_of_mem _ (List.mem_cons_of_mem _ (List.mem_cons_of_mem _ (List.mem_cons_of_mem _ (List.mem_cons_of_mem _ (List.mem_cons_of_mem _ (List.mem_cons_of_mem _ (List.mem_cons_of_mem _ List.mem_cons_self)))))))))) hS hP dX3_needStyle_9 dX3_needStyle_12 dX3_needStyle_13 dX3_needStyle_15 dX3_needStyle_18 (Nat.le_of_ble_eq_true rfl) (Nat.le_of_ble_eq_true rfl) (Nat.le_of_ble_eq_true rfl) (Nat.le_of_ble_eq_true rfl) ⟨rfl, (by first | (simp only [*, not_true_eq_false, not_false_eq_true, and_self, or_self, true_and, and_true, true_or, or_true, false_and, and_false, false_or, or_false]; done) | simp_all)⟩ (Nat.le_of_ble_eq_true rfl) (Nat.le_of_ble_eq_true rfl)
-- needWithin
set_option maxHeartbeats 4000000 in
set_option maxRecDepth 100000 in
theorem kX3_needWithin (l : Launch) (htr : l.stackTraces = false) (G : gx_G) (sz : Nat) (M : mw_M) (x a b : Int32) : g_Met l G yX3_needWithin (.code yX3_needWithin cX3_needWithin 3 none) ({ frames := 6, cells := 1, slots := 6, locals := 120 } : Room) sz M [.int x, .int a, .int b] (fun v M9 => v = none ∧ M = M9 ∧ (¬ x < a ∧ ¬ b < x)) (fun E => E = "java/lang/IllegalArgumentException" ∧ ¬ (¬ x < a ∧ ¬ b < x)) := by
  refine MetE.ofW (cc := cX3_needWithin) (maxL := 3) (ret := none) (by decide) rfl ?_
  intro p e s m args below meth c s₁ B hml hv
  obtain ⟨rfl, hsz, hP, hE⟩ := hv
  have hx := B.exec
  have hb := B.bytes
  have hr := B.returns
  have hts := atoms_spec (ws := _ :: lw_big) B.pre
  have htb : ∀ w ∈ lw_big, w.before _ s = true := fun w h => hts w (List.mem_cons_of_mem _ h)
  have hno := B.noHandlers (hts _ List.mem_cons_self)
  have hown : s.vm.findClass RX3 = some m.cls := findClass_of_methodNamed B.named
  have hlocks := B.notSynchronized
  have hK := hE.1
  subst hsz
  have hS : va_S (gA G) s.heap s.heap [] := va_S.rf
  have hl := lv_entry ([.int x, .int a, .int b]) (n := 3) (Nat.le_of_ble_eq_true rfl)
  rw [lg_entry_eq]
  generalize (lg_sl ([.int x, .int a, .int b]) ++ List.replicate (3 - (lg_sl ([.int x, .int a, .int b])).length) Slot.unset).toArray = ls at hl ⊢
  have hl : lv_has ls 3 [(0, .int x), (1, .int a), (2, .int b)] := hl
  refine lv_iload_n hx hb dX3_needWithin_0 rfl (lv_at hl 0 rfl) ?_
  refine lv_iload_n hx hb dX3_needWithin_1 rfl (lv_at hl 1 rfl) ?_
  refine lv_icmp_lt (tgt := 10) hx hb dX3_needWithin_2 (by decide) (fun c_1 => ?_) (fun c_1 => ?_)
  · exact g_thrIA (M := M) hx hb htr hno hlocks hml hl hown htb hE (List.mem_cons_of_mem _ (List.mem_cons_of_mem _ List.mem_cons_self)) hS hP dX3_needWithin_10 dX3_needWithin_13 dX3_needWithin_14 dX3_needWithin_16 dX3_needWithin_19 (Nat.le_of_ble_eq_true rfl) (Nat.le_of_ble_eq_true rfl) (Nat.le_of_ble_eq_true rfl) (Nat.le_of_ble_eq_true rfl) ⟨rfl, (by first | (simp only [*, not_true_eq_false, not_false_eq_true, and_self, or_self, true_and, and_true, true_or, or_true, false_and, and_false, false_or, or_false]; done) | simp_all)⟩ (Nat.le_of_ble_eq_true rfl) (Nat.le_of_ble_eq_true rfl)
  · refine lv_iload_n hx hb dX3_needWithin_5 rfl (lv_at hl 0 rfl) ?_
    refine lv_iload_n hx hb dX3_needWithin_6 rfl (lv_at hl 2 rfl) ?_
    refine lv_icmp_le (tgt := 20) hx hb dX3_needWithin_7 (by decide) (fun c_2 => ?_) (fun c_2 => ?_)
    · exact mx_vret (M' := M) hx hb hr hlocks hP hS ⟨rfl, rfl, (by first | (simp only [*, not_true_eq_false, not_false_eq_true, and_self, or_self, true_and, and_true, true_or, or_true, false_and, and_false, false_or, or_false]; done) | simp_all)⟩ dX3_needWithin_20 (Nat.le_of_ble_eq_true rfl) (Nat.le_of_ble_eq_true rfl)
    · exact g_thrIA (M := M) hx hb htr hno hlocks hml hl hown htb hE (List.mem_cons_of_mem _ (List.mem_cons_of_mem _ List.mem_cons_self)) hS hP dX3_needWithin_10 dX3_needWithin_13 dX3_needWithin_14 dX3_needWithin_16 dX3_needWithin_19 (Nat.le_of_ble_eq_true rfl) (Nat.le_of_ble_eq_true rfl) (Nat.le_of_ble_eq_true rfl) (Nat.le_of_ble_eq_true rfl) ⟨rfl, (by first | (simp only [*, not_true_eq_false, not_false_eq_true, and_self, or_self, true_and, and_true, true_or, or_true, false_and, and_false, false_or, or_false]; done) | simp_all)⟩ (Nat.le_of_ble_eq_true rfl) (Nat.le_of_ble_eq_true rfl)
-- needOneOf
set_option maxHeartbeats 4000000 in
set_option maxRecDepth 100000 in
theorem kX3_needOneOf (l : Launch) (htr : l.stackTraces = false) (G : gx_G) (sz : Nat) (M : mw_M) (a b : Int32) : g_Met l G yX3_needOneOf (.code yX3_needOneOf cX3_needOneOf 2 none) ({ frames := 6, cells := 1, slots := 6, locals := 120 } : Room) sz M [.int a, .int b] (fun v M9 => v = none ∧ M = M9 ∧ (¬ (a = (-1) ∧ b = (-1)))) (fun E => E = "java/lang/IllegalArgumentException" ∧ ¬ (¬ (a = (-1) ∧ b = (-1)))) := by
  refine MetE.ofW (cc := cX3_needOneOf) (maxL := 2) (ret := none) (by decide) rfl ?_
  intro p e s m args below meth c s₁ B hml hv
  obtain ⟨rfl, hsz, hP, hE⟩ := hv
  have hx := B.exec
  have hb := B.bytes
  have hr := B.returns
  have hts := atoms_spec (ws := _ :: lw_big) B.pre
  have htb : ∀ w ∈ lw_big, w.before _ s = true := fun w h => hts w (List.mem_cons_of_mem _ h)
  have hno := B.noHandlers (hts _ List.mem_cons_self)
  have hown : s.vm.findClass RX3 = some m.cls := findClass_of_methodNamed B.named
  have hlocks := B.notSynchronized
  have hK := hE.1
  subst hsz
  have hS : va_S (gA G) s.heap s.heap [] := va_S.rf
  have hl := lv_entry ([.int a, .int b]) (n := 2) (Nat.le_of_ble_eq_true rfl)
  rw [lg_entry_eq]
  generalize (lg_sl ([.int a, .int b]) ++ List.replicate (2 - (lg_sl ([.int a, .int b])).length) Slot.unset).toArray = ls at hl ⊢
  have hl : lv_has ls 2 [(0, .int a), (1, .int b)] := hl
  refine lv_iload_n hx hb dX3_needOneOf_0 rfl (lv_at hl 0 rfl) ?_
  refine lv_iconst (v := (-1)) hx hb dX3_needOneOf_1 (by decide) ?_
  refine lv_icmp_ne (tgt := 20) hx hb dX3_needOneOf_2 (by decide) (fun c_1 => ?_) (fun c_1 => ?_)
  · exact mx_vret (M' := M) hx hb hr hlocks hP hS ⟨rfl, rfl, (by first | (simp only [*, not_true_eq_false, not_false_eq_true, and_self, or_self, true_and, and_true, true_or, or_true, false_and, and_false, false_or, or_false]; done) | simp_all)⟩ dX3_needOneOf_20 (Nat.le_of_ble_eq_true rfl) (Nat.le_of_ble_eq_true rfl)
  · refine lv_iload_n hx hb dX3_needOneOf_5 rfl (lv_at hl 1 rfl) ?_
    refine lv_iconst (v := (-1)) hx hb dX3_needOneOf_6 (by decide) ?_
    refine lv_icmp_ne (tgt := 20) hx hb dX3_needOneOf_7 (by decide) (fun c_2 => ?_) (fun c_2 => ?_)
    · exact mx_vret (M' := M) hx hb hr hlocks hP hS ⟨rfl, rfl, (by first | (simp only [*, not_true_eq_false, not_false_eq_true, and_self, or_self, true_and, and_true, true_or, or_true, false_and, and_false, false_or, or_false]; done) | simp_all)⟩ dX3_needOneOf_20 (Nat.le_of_ble_eq_true rfl) (Nat.le_of_ble_eq_true rfl)
    · exact g_thrIA (M := M) hx hb htr hno hlocks hml hl hown htb hE (List.mem_cons_of_mem _ (List.mem_cons_of_mem _ (List.mem_cons_of_mem _ (List.mem_cons_of_mem _ (List.mem_cons_of_mem _ (List.mem_cons_of_mem _ (List.mem_cons_of_mem _ (List.mem_cons_of_mem _ (List.mem_cons_of_mem _ (List.mem_cons_of_mem _ (List.mem_cons_of_mem _ List.mem_cons_self))))))))))) hS hP dX3_needOneOf_10 dX3_needOneOf_13 dX3_needOneOf_14 dX3_needOneOf_16 dX3_needOneOf_19 (Nat.le_of_ble_eq_true rfl) (Nat.le_of_ble_eq_true rfl) (Nat.le_of_ble_eq_true rfl) (Nat.le_of_ble_eq_true rfl) ⟨rfl, (by first | (simp only [*, not_true_eq_false, not_false_eq_true, and_self, or_self, true_and, and_true, true_or, or_true, false_and, and_false, false_or, or_false]; done) | simp_all)⟩ (Nat.le_of_ble_eq_true rfl) (Nat.le_of_ble_eq_true rfl)
-- X3_needBox
set_option maxHeartbeats 4000000 in
set_option maxRecDepth 100000 in
theorem kX3_needBox (l : Launch) (htr : l.stackTraces = false) (G : gx_G) (sz : Nat) (M : mw_M) (f : fs_A) (S : fs_S) (hR : fs_R G f M S) (x : Int32) : g_Met l G yX3_needBox (.code yX3_needBox cX3_needBox 2 none) ({ frames := 6, cells := 1, slots := 6, locals := 120 } : Room) sz M [.ref (f0 f), .int x] (fun v M9 => v = none ∧ M = M9 ∧ (¬ x < 0 ∧ ¬ nI (sN S) ≤ x)) (fun E => E = "java/lang/IndexOutOfBoundsException" ∧ ¬ (¬ x < 0 ∧ ¬ nI (sN S) ≤ x)) := by
  refine MetE.ofW (cc := cX3_needBox) (maxL := 2) (ret := none) (by decide) rfl ?_
  intro p e s m args below meth c s₁ B hml hv
  obtain ⟨rfl, hsz, hP, hE⟩ := hv
  have hx := B.exec
  have hb := B.bytes
  have hr := B.returns
  have hts := atoms_spec (ws := _ :: lw_big) B.pre
  have htb : ∀ w ∈ lw_big, w.before _ s = true := fun w h => hts w (List.mem_cons_of_mem _ h)
  have hno := B.noHandlers (hts _ List.mem_cons_self)
  have hown : s.vm.findClass RX3 = some m.cls := findClass_of_methodNamed B.named
  have hlocks := B.notSynchronized
  have hK := hE.1
  subst hsz
  have hS : va_S (gA G) s.heap s.heap [] := va_S.rf
  have hl := lv_entry ([.ref (f0 f), .int x]) (n := 2) (Nat.le_of_ble_eq_true rfl)
  rw [lg_entry_eq]
  generalize (lg_sl ([.ref (f0 f), .int x]) ++ List.replicate (2 - (lg_sl ([.ref (f0 f), .int x])).length) Slot.unset).toArray = ls at hl ⊢
  have hl : lv_has ls 2 [(0, .ref (f0 f)), (1, .int x)] := hl
  refine lv_iload_n hx hb dX3_needBox_0 rfl (lv_at hl 1 rfl) ?_
  refine lv_if_lt (tgt := 12) hx hb dX3_needBox_1 (by decide) (fun c_1 => ?_) (fun c_1 => ?_)
  · exact g_thrIO (M := M) hx hb htr hno hlocks hml hl hown htb hE (List.mem_cons_of_mem _ (List.mem_cons_of_mem _ (List.mem_cons_of_mem _ (List.mem_cons_of_mem _ (List.mem_cons_of_mem _ (List.mem_cons_of_mem _ List.mem_cons_self)))))) hS hP dX3_needBox_12 dX3_needBox_15 dX3_needBox_16 dX3_needBox_18 dX3_needBox_21 (Nat.le_of_ble_eq_true rfl) (Nat.le_of_ble_eq_true rfl) (Nat.le_of_ble_eq_true rfl) (Nat.le_of_ble_eq_true rfl) ⟨rfl, (by first | (simp only [*, not_true_eq_false, not_false_eq_true, and_self, or_self, true_and, and_true, true_or, or_true, false_and, and_false, false_or, or_false]; done) | simp_all)⟩ (Nat.le_of_ble_eq_true rfl) (Nat.le_of_ble_eq_true rfl)
  · refine lv_iload_n hx hb dX3_needBox_4 rfl (lv_at hl 1 rfl) ?_
    refine lv_aload_n hx hb dX3_needBox_5 rfl (lv_at hl 0 rfl) ?_
    refine mw_get (D := gD G) (ci := 3) (v := .int (nI (sN S))) (C := RX3) (T := TX3) (N := 6) hx hb htb inX3 hown hK hP (hR.this) rfl 1 (by decide) (htb _ wd57) (fun _ h9 => h9) rfl dX3_needBox_6 ?_
    refine lv_icmp_lt (tgt := 22) hx hb dX3_needBox_9 (by decide) (fun c_2 => ?_) (fun c_2 => ?_)
    · exact mx_vret (M' := M) hx hb hr hlocks hP hS ⟨rfl, rfl, (by first | (simp only [*, not_true_eq_false, not_false_eq_true, and_self, or_self, true_and, and_true, true_or, or_true, false_and, and_false, false_or, or_false]; done) | simp_all)⟩ dX3_needBox_22 (Nat.le_of_ble_eq_true rfl) (Nat.le_of_ble_eq_true rfl)
    · exact g_thrIO (M := M) hx hb htr hno hlocks hml hl hown htb hE (List.mem_cons_of_mem _ (List.mem_cons_of_mem _ (List.mem_cons_of_mem _ (List.mem_cons_of_mem _ (List.mem_cons_of_mem _ (List.mem_cons_of_mem _ List.mem_cons_self)))))) hS hP dX3_needBox_12 dX3_needBox_15 dX3_needBox_16 dX3_needBox_18 dX3_needBox_21 (Nat.le_of_ble_eq_true rfl) (Nat.le_of_ble_eq_true rfl) (Nat.le_of_ble_eq_true rfl) (Nat.le_of_ble_eq_true rfl) ⟨rfl, (by first | (simp only [*, not_true_eq_false, not_false_eq_true, and_self, or_self, true_and, and_true, true_or, or_true, false_and, and_false, false_or, or_false]; done) | simp_all)⟩ (Nat.le_of_ble_eq_true rfl) (Nat.le_of_ble_eq_true rfl)
-- X3_needRoom
set_option maxHeartbeats 4000000 in
set_option maxRecDepth 100000 in
theorem kX3_needRoom (l : Launch) (htr : l.stackTraces = false) (G : gx_G) (sz : Nat) (M : mw_M) (f : fs_A) (S : fs_S) (hR : fs_R G f M S) (x : Int32) : g_Met l G yX3_needRoom (.code yX3_needRoom cX3_needRoom 2 none) ({ frames := 6, cells := 1, slots := 6, locals := 120 } : Room) sz M [.ref (f0 f), .int x] (fun v M9 => v = none ∧ M = M9 ∧ (¬ 120 < nI (sN S) + x)) (fun E => E = "java/lang/UnsupportedOperationException" ∧ ¬ (¬ 120 < nI (sN S) + x)) := by
  refine MetE.ofW (cc := cX3_needRoom) (maxL := 2) (ret := none) (by decide) rfl ?_
  intro p e s m args below meth c s₁ B hml hv
  obtain ⟨rfl, hsz, hP, hE⟩ := hv
  have hx := B.exec
  have hb := B.bytes
  have hr := B.returns
  have hts := atoms_spec (ws := _ :: lw_big) B.pre
  have htb : ∀ w ∈ lw_big, w.before _ s = true := fun w h => hts w (List.mem_cons_of_mem _ h)
  have hno := B.noHandlers (hts _ List.mem_cons_self)
  have hown : s.vm.findClass RX3 = some m.cls := findClass_of_methodNamed B.named
  have hlocks := B.notSynchronized
  have hK := hE.1
  subst hsz
  have hS : va_S (gA G) s.heap s.heap [] := va_S.rf
  have hl := lv_entry ([.ref (f0 f), .int x]) (n := 2) (Nat.le_of_ble_eq_true rfl)
  rw [lg_entry_eq]
  generalize (lg_sl ([.ref (f0 f), .int x]) ++ List.replicate (2 - (lg_sl ([.ref (f0 f), .int x])).length) Slot.unset).toArray = ls at hl ⊢
  have hl : lv_has ls 2 [(0, .ref (f0 f)), (1, .int x)] := hl
  refine lv_aload_n hx hb dX3_needRoom_0 rfl (lv_at hl 0 rfl) ?_
  refine mw_get (D := gD G) (ci := 3) (v := .int (nI (sN S))) (C := RX3) (T := TX3) (N := 6) hx hb htb inX3 hown hK hP (hR.this) rfl 1 (by decide) (htb _ wd57) (fun _ h9 => h9) rfl dX3_needRoom_1 ?_
  refine lv_iload_n hx hb dX3_needRoom_4 rfl (lv_at hl 1 rfl) ?_
  refine lv_iadd hx hb dX3_needRoom_5 ?_
  refine lv_bipush (v := 120) hx hb dX3_needRoom_6 (by decide) ?_
  refine lv_icmp_le (tgt := 21) hx hb dX3_needRoom_8 (by decide) (fun c_1 => ?_) (fun c_1 => ?_)
  · exact mx_vret (M' := M) hx hb hr hlocks hP hS ⟨rfl, rfl, (by first | (simp only [*, not_true_eq_false, not_false_eq_true, and_self, or_self, true_and, and_true, true_or, or_true, false_and, and_false, false_or, or_false]; done) | simp_all)⟩ dX3_needRoom_21 (Nat.le_of_ble_eq_true rfl) (Nat.le_of_ble_eq_true rfl)
  · exact g_thrUO (M := M) hx hb htr hno hlocks hml hl hown htb hE (List.mem_cons_of_mem _ (List.mem_cons_of_mem _ (List.mem_cons_of_mem _ (List.mem_cons_of_mem _ List.mem_cons_self)))) hS hP dX3_needRoom_11 dX3_needRoom_14 dX3_needRoom_15 dX3_needRoom_17 dX3_needRoom_20 (Nat.le_of_ble_eq_true rfl) (Nat.le_of_ble_eq_true rfl) (Nat.le_of_ble_eq_true rfl) (Nat.le_of_ble_eq_true rfl) ⟨rfl, (by first | (simp only [*, not_true_eq_false, not_false_eq_true, and_self, or_self, true_and, and_true, true_or, or_true, false_and, and_false, false_or, or_false]; done) | simp_all)⟩ (Nat.le_of_ble_eq_true rfl) (Nat.le_of_ble_eq_true rfl)
