/-! printed by wip/whole/spec*.py -/
theorem mw_hno {M M1 : mw_M} {a q : Nat} (h : ∀ x e, x ≠ a → M x = some e → M1 x = some e) (hq : M1 q = none) (hn : a ≠ q) : M q = none := by
  cases he : M q with
  | none => rfl
  | some e => rw [h q e (Ne.symm hn) he] at hq; cases hq
theorem mw_hup {M M1 : mw_M} {a q : Nat} (h : ∀ x e, x ≠ a → M x = some e → M1 x = some e) (hq : M1 q = none) (c : va_E) : ∀ x e, x ≠ a → M x = some e → mw_up M1 q c x = some e := fun x e n k => by
  rw [mw_ne _ _ (fun z => by have := h x e n k; rw [z, hq] at this; cases this)]
  exact h x e n k
def fs_S0 : fs_S := ([], fun _ => ([], -1, -1, -1, -1), fun _ => 0, 0, 0)
theorem fs_S0_ok : fs_ok fs_S0 := ⟨Nat.zero_le _, fun i hi => absurd hi (Nat.not_lt_zero i), fun k hk => ⟨Nat.zero_le _, fun j hj => absurd hj (Nat.not_lt_zero j), Or.inl rfl, Or.inl rfl, Or.inl rfl, Or.inl rfl⟩⟩
-- Family()
set_option maxHeartbeats 4000000 in
set_option maxRecDepth 100000 in
theorem kX1_init (l : Launch) (htr : l.stackTraces = false) (G : gx_G) (sz : Nat) (M : mw_M) (hA : ∀ q : Nat, sz ≤ q → gA G q) (a : Nat) (hAa : gA G a) (ha : M a = some (.inr (1, [.null, .int 0, .int 0, .int 0, .int 0, .int 0]))) : g_Met l G yX1_init (.code yX1_init cX1_init 1 none) ({ frames := 1, cells := 1, slots := 4, locals := 60 } : Room) sz M [.ref a] (fun v M9 => v = none ∧ ∃ r, M r = none ∧ gA G r ∧ M9 a = some (.inr (1, [.ref r, .int 0, .int (-1), .int (-1), .int (-1), .int (-1)])) ∧ M9 r = some (.inl (gI G, 4, .inl (fun _ => 0))) ∧ ∀ x e, x ≠ a → M x = some e → M9 x = some e) (fun _ => False) := by
  refine MetE.ofW (cc := cX1_init) (maxL := 1) (ret := none) (by decide) rfl ?_
  intro p e s m args below meth c s₁ B hml hv
  obtain ⟨rfl, hsz, hP, hE⟩ := hv
  have hx := B.exec
  have hb := B.bytes
  have hr := B.returns
  have hts := atoms_spec (ws := _ :: lw_big) B.pre
  have htb : ∀ w ∈ lw_big, w.before _ s = true := fun w h => hts w (List.mem_cons_of_mem _ h)
  have hno := B.noHandlers (hts _ List.mem_cons_self)
  have hown : s.vm.findClass RX1 = some m.cls := findClass_of_methodNamed B.named
  have hlocks := B.notSynchronized
  have hin : meth.name = "<init>" := (name_of_methodNamed B.named B.method).1
  have hK := hE.1
  subst hsz
  have hAn : ∀ q : Nat, s.heap.size ≤ q → gA G q := hA
  have hS : va_S (gA G) s.heap s.heap [] := va_S.rf
  have hl := lv_entry ([.ref a]) (n := 1) (Nat.le_of_ble_eq_true rfl)
  rw [lg_entry_eq]
  generalize (lg_sl ([.ref a]) ++ List.replicate (1 - (lg_sl ([.ref a])).length) Slot.unset).toArray = ls at hl ⊢
  have hl : lv_has ls 1 [(0, .ref a)] := hl
  have hold : ∀ x9 e9, x9 ≠ a → M x9 = some e9 → M x9 = some e9 := fun _ _ _ h => h
  refine lv_aload_n hx hb dX1_init_0 rfl (lv_at hl 0 rfl) ?_
  refine W.objInit hx hb hown (htb _ wd30) (htb _ wd20) (htb _ wd21) rfl (by rw [hml]; exact hl.1) rfl dX1_init_1 (Nat.le_of_ble_eq_true rfl) (Nat.le_of_ble_eq_true rfl) ?_
  refine W.eq (g2 := F0 m 4 ls []) rfl ?_
  refine lv_aload_n hx hb dX1_init_4 rfl (lv_at hl 0 rfl) ?_
  refine lv_iconst (v := 4) hx hb dX1_init_5 (by decide) ?_
  refine mw_newi (N := 4) hx hb (htb _ wd55) hK hP hS 0 rfl (by decide) (by decide) (by decide) (Nat.le_of_ble_eq_true rfl) (Nat.le_of_ble_eq_true rfl) dX1_init_6 (fun q_1 H hq_2 hs_3 hP hS => ?_)
  obtain ⟨M_4, hM_4⟩ : ∃ z9 : mw_M, z9 = mw_up M q_1 (.inl (gI G, 4, .inl (fun _ => 0))) := ⟨_, rfl⟩
  have hP : mw_P (gD G) gx_cl M_4 H := by rw [hM_4]; exact hP
  have f_6 : M_4 a = some (.inr (1, [.null, .int 0, .int 0, .int 0, .int 0, .int 0])) := by rw [hM_4, mw_ne _ _ (fun z => by have z1 := ha; rw [z, hq_2] at z1; cases z1)]; exact ha
  have ne_7 : a ≠ q_1 := fun z => by have z1 := ha; rw [z, hq_2] at z1; cases z1
  have f_8 : M_4 q_1 = some (.inl (gI G, 4, .inl (fun _ => 0))) := by rw [hM_4]; exact mw_self _ _ _
  have n0_9 : M q_1 = none := mw_hno hold hq_2 ne_7
  have hold_10 : ∀ x9 e9, x9 ≠ a → M x9 = some e9 → M_4 x9 = some e9 := by rw [hM_4]; exact mw_hup hold hq_2 _
  refine mw_putF (D := gD G) (ci := 1) (v := .ref q_1) (ty := .array (.int)) (C := RX1) (T := TX1) (N := 6) hx hb htb inX1 tyX1 tyX1_ok nmX1 hown hK hP hS f_6 hAa rfl 0 (by decide) (htb _ wd31) (fun _ h9 => h9) rfl hin rfl (by decide +kernel) rfl rfl (Nat.le_of_ble_eq_true rfl) dX1_init_8 (fun H locs hP hS => ?_)
  obtain ⟨M_11, hM_11⟩ : ∃ z9 : mw_M, z9 = mw_up M_4 a (.inr (1, [.ref q_1, .int 0, .int 0, .int 0, .int 0, .int 0])) := ⟨_, rfl⟩
  have hP : mw_P (gD G) gx_cl M_11 H := by rw [hM_11]; exact hP
  have f_12 : M_11 a = some (.inr (1, [.ref q_1, .int 0, .int 0, .int 0, .int 0, .int 0])) := by rw [hM_11]; exact mw_self _ _ _
  have f_13 : M_11 q_1 = some (.inl (gI G, 4, .inl (fun _ => 0))) := by rw [hM_11, mw_ne _ _ (Ne.symm ne_7)]; exact f_8
  have hold_14 : ∀ x9 e9, x9 ≠ a → M x9 = some e9 → M_11 x9 = some e9 := fun x9 e9 n9 h9 => by rw [hM_11, mw_ne _ _ n9]; exact hold_10 x9 e9 n9 h9
  refine lv_aload_n hx hb dX1_init_11 rfl (lv_at hl 0 rfl) ?_
  refine lv_iconst (v := (-1)) hx hb dX1_init_12 (by decide) ?_
  refine mw_put (D := gD G) (ci := 1) (v := .int (-1)) (ty := .int) (C := RX1) (T := TX1) (N := 6) hx hb htb inX1 tyX1 tyX1_ok nmX1 hown hK hP hS f_12 hAa rfl 2 (by decide) (htb _ wd34) (fun _ h9 => h9) rfl (by decide +kernel) rfl rfl (Nat.le_of_ble_eq_true rfl) dX1_init_13 (fun H locs hP hS => ?_)
  obtain ⟨M_15, hM_15⟩ : ∃ z9 : mw_M, z9 = mw_up M_11 a (.inr (1, [.ref q_1, .int 0, .int (-1), .int 0, .int 0, .int 0])) := ⟨_, rfl⟩
  have hP : mw_P (gD G) gx_cl M_15 H := by rw [hM_15]; exact hP
  have f_16 : M_15 a = some (.inr (1, [.ref q_1, .int 0, .int (-1), .int 0, .int 0, .int 0])) := by rw [hM_15]; exact mw_self _ _ _
  have f_17 : M_15 q_1 = some (.inl (gI G, 4, .inl (fun _ => 0))) := by rw [hM_15, mw_ne _ _ (Ne.symm ne_7)]; exact f_13
  have hold_18 : ∀ x9 e9, x9 ≠ a → M x9 = some e9 → M_15 x9 = some e9 := fun x9 e9 n9 h9 => by rw [hM_15, mw_ne _ _ n9]; exact hold_14 x9 e9 n9 h9
  refine lv_aload_n hx hb dX1_init_16 rfl (lv_at hl 0 rfl) ?_
  refine lv_iconst (v := (-1)) hx hb dX1_init_17 (by decide) ?_
  refine mw_put (D := gD G) (ci := 1) (v := .int (-1)) (ty := .int) (C := RX1) (T := TX1) (N := 6) hx hb htb inX1 tyX1 tyX1_ok nmX1 hown hK hP hS f_16 hAa rfl 3 (by decide) (htb _ wd36) (fun _ h9 => h9) rfl (by decide +kernel) rfl rfl (Nat.le_of_ble_eq_true rfl) dX1_init_18 (fun H locs hP hS => ?_)
  obtain ⟨M_19, hM_19⟩ : ∃ z9 : mw_M, z9 = mw_up M_15 a (.inr (1, [.ref q_1, .int 0, .int (-1), .int (-1), .int 0, .int 0])) := ⟨_, rfl⟩
  have hP : mw_P (gD G) gx_cl M_19 H := by rw [hM_19]; exact hP
  have f_20 : M_19 a = some (.inr (1, [.ref q_1, .int 0, .int (-1), .int (-1), .int 0, .int 0])) := by rw [hM_19]; exact mw_self _ _ _
  have f_21 : M_19 q_1 = some (.inl (gI G, 4, .inl (fun _ => 0))) := by rw [hM_19, mw_ne _ _ (Ne.symm ne_7)]; exact f_17
  have hold_22 : ∀ x9 e9, x9 ≠ a → M x9 = some e9 → M_19 x9 = some e9 := fun x9 e9 n9 h9 => by rw [hM_19, mw_ne _ _ n9]; exact hold_18 x9 e9 n9 h9
  refine lv_aload_n hx hb dX1_init_21 rfl (lv_at hl 0 rfl) ?_
  refine lv_iconst (v := (-1)) hx hb dX1_init_22 (by decide) ?_
  refine mw_put (D := gD G) (ci := 1) (v := .int (-1)) (ty := .int) (C := RX1) (T := TX1) (N := 6) hx hb htb inX1 tyX1 tyX1_ok nmX1 hown hK hP hS f_20 hAa rfl 4 (by decide) (htb _ wd38) (fun _ h9 => h9) rfl (by decide +kernel) rfl rfl (Nat.le_of_ble_eq_true rfl) dX1_init_23 (fun H locs hP hS => ?_)
  obtain ⟨M_23, hM_23⟩ : ∃ z9 : mw_M, z9 = mw_up M_19 a (.inr (1, [.ref q_1, .int 0, .int (-1), .int (-1), .int (-1), .int 0])) := ⟨_, rfl⟩
  have hP : mw_P (gD G) gx_cl M_23 H := by rw [hM_23]; exact hP
  have f_24 : M_23 a = some (.inr (1, [.ref q_1, .int 0, .int (-1), .int (-1), .int (-1), .int 0])) := by rw [hM_23]; exact mw_self _ _ _
  have f_25 : M_23 q_1 = some (.inl (gI G, 4, .inl (fun _ => 0))) := by rw [hM_23, mw_ne _ _ (Ne.symm ne_7)]; exact f_21
  have hold_26 : ∀ x9 e9, x9 ≠ a → M x9 = some e9 → M_23 x9 = some e9 := fun x9 e9 n9 h9 => by rw [hM_23, mw_ne _ _ n9]; exact hold_22 x9 e9 n9 h9
  refine lv_aload_n hx hb dX1_init_26 rfl (lv_at hl 0 rfl) ?_
  refine lv_iconst (v := (-1)) hx hb dX1_init_27 (by decide) ?_
  refine mw_put (D := gD G) (ci := 1) (v := .int (-1)) (ty := .int) (C := RX1) (T := TX1) (N := 6) hx hb htb inX1 tyX1 tyX1_ok nmX1 hown hK hP hS f_24 hAa rfl 5 (by decide) (htb _ wd40) (fun _ h9 => h9) rfl (by decide +kernel) rfl rfl (Nat.le_of_ble_eq_true rfl) dX1_init_28 (fun H locs hP hS => ?_)
  obtain ⟨M_27, hM_27⟩ : ∃ z9 : mw_M, z9 = mw_up M_23 a (.inr (1, [.ref q_1, .int 0, .int (-1), .int (-1), .int (-1), .int (-1)])) := ⟨_, rfl⟩
  have hP : mw_P (gD G) gx_cl M_27 H := by rw [hM_27]; exact hP
  have f_28 : M_27 a = some (.inr (1, [.ref q_1, .int 0, .int (-1), .int (-1), .int (-1), .int (-1)])) := by rw [hM_27]; exact mw_self _ _ _
  have f_29 : M_27 q_1 = some (.inl (gI G, 4, .inl (fun _ => 0))) := by rw [hM_27, mw_ne _ _ (Ne.symm ne_7)]; exact f_25
  have hold_30 : ∀ x9 e9, x9 ≠ a → M x9 = some e9 → M_27 x9 = some e9 := fun x9 e9 n9 h9 => by rw [hM_27, mw_ne _ _ n9]; exact hold_26 x9 e9 n9 h9
  exact mx_vret (M' := M_27) hx hb hr hlocks hP hS ⟨rfl, q_1, n0_9, (hAn _ hs_3), f_28, f_29, hold_30⟩ dX1_init_31 (Nat.le_of_ble_eq_true rfl) (Nat.le_of_ble_eq_true rfl)
-- FormulaShapes()
set_option maxHeartbeats 4000000 in
set_option maxRecDepth 100000 in
theorem kX3_init (l : Launch) (htr : l.stackTraces = false) (G : gx_G) (sz : Nat) (M : mw_M) (hA : ∀ q : Nat, sz ≤ q → gA G q) (a : Nat) (hAa : gA G a) (ha : M a = some (.inr (3, [.null, .int 0, .null, .null, .int 0, .int 0]))) : g_Met l G yX3_init (.code yX3_init cX3_init 2 none) ({ frames := 2, cells := 20, slots := 280, locals := 120 } : Room) sz M [.ref a] (fun v M9 => v = none ∧ ∃ (m F P : Nat) (Q R : Nat → Nat), (∀ X : Nat → Prop, (∀ x, fs_mu ((a, m, F, P, Q, R, X) : fs_A) x → X x) → fs_R G (a, m, F, P, Q, R, X) M9 fs_S0) ∧ (∀ x, fs_mu ((a, m, F, P, Q, R, fun _ => True) : fs_A) x → x = a ∨ M x = none) ∧ ∀ x e, x ≠ a → M x = some e → M9 x = some e) (fun _ => False) := by
  refine MetE.ofW (cc := cX3_init) (maxL := 2) (ret := none) (by decide) rfl ?_
  intro p e s m args below meth c s₁ B hml hv
  obtain ⟨rfl, hsz, hP, hE⟩ := hv
  have hx := B.exec
  have hb := B.bytes
  have hr := B.returns
  have hts := atoms_spec (ws := _ :: lw_big) B.pre
  have htb : ∀ w ∈ lw_big, w.before _ s = true := fun w h => hts w (List.mem_cons_of_mem _ h)
  have hno := B.noHandlers (hts _ List.mem_cons_self)
  have hown : s.vm.findClass RX3 = some m.cls := findClass_of_methodNamed B.named
  have hlocks := B.notSynchronized
  have hin : meth.name = "<init>" := (name_of_methodNamed B.named B.method).1
  have hK := hE.1
  subst hsz
  have hAn : ∀ q : Nat, s.heap.size ≤ q → gA G q := hA
  have hS : va_S (gA G) s.heap s.heap [] := va_S.rf
  have hl := lv_entry ([.ref a]) (n := 2) (Nat.le_of_ble_eq_true rfl)
  rw [lg_entry_eq]
  generalize (lg_sl ([.ref a]) ++ List.replicate (2 - (lg_sl ([.ref a])).length) Slot.unset).toArray = ls at hl ⊢
  have hl : lv_has ls 2 [(0, .ref a)] := hl
  have hold : ∀ x9 e9, x9 ≠ a → M x9 = some e9 → M x9 = some e9 := fun _ _ _ h => h
  refine lv_aload_n hx hb dX3_init_0 rfl (lv_at hl 0 rfl) ?_
  refine W.objInit hx hb hown (htb _ wd19) (htb _ wd20) (htb _ wd21) rfl (by rw [hml]; exact hl.1) rfl dX3_init_1 (Nat.le_of_ble_eq_true rfl) (Nat.le_of_ble_eq_true rfl) ?_
  refine W.eq (g2 := F0 m 4 ls []) rfl ?_
  refine lv_aload_n hx hb dX3_init_4 rfl (lv_at hl 0 rfl) ?_
  refine lv_bipush (v := 120) hx hb dX3_init_5 (by decide) ?_
  refine mw_newq (N := 120) hx hb hown (htb _ wd22) (va_AO.use (hE.2.2.2.2 (gB G, .object "FormulaShapes$Box") (List.mem_cons_of_mem _ List.mem_cons_self) _ rfl)) hK hP hS 1 rfl (by decide) (by decide) (by decide) (Nat.le_of_ble_eq_true rfl) (Nat.le_of_ble_eq_true rfl) dX3_init_7 (fun q_1 H hq_2 hs_3 hP hS => ?_)
  obtain ⟨M_4, hM_4⟩ : ∃ z9 : mw_M, z9 = mw_up M q_1 (.inl (gB G, 120, .inr (.inr (.inr (.inr (fun _ => none)))))) := ⟨_, rfl⟩
  have hP : mw_P (gD G) gx_cl M_4 H := by rw [hM_4]; exact hP
  have f_6 : M_4 a = some (.inr (3, [.null, .int 0, .null, .null, .int 0, .int 0])) := by rw [hM_4, mw_ne _ _ (fun z => by have z1 := ha; rw [z, hq_2] at z1; cases z1)]; exact ha
  have ne_7 : a ≠ q_1 := fun z => by have z1 := ha; rw [z, hq_2] at z1; cases z1
  have f_8 : M_4 q_1 = some (.inl (gB G, 120, .inr (.inr (.inr (.inr (fun _ => none)))))) := by rw [hM_4]; exact mw_self _ _ _
  have n0_9 : M q_1 = none := mw_hno hold hq_2 ne_7
  have hold_10 : ∀ x9 e9, x9 ≠ a → M x9 = some e9 → M_4 x9 = some e9 := by rw [hM_4]; exact mw_hup hold hq_2 _
  refine mw_putF (D := gD G) (ci := 3) (v := .ref q_1) (ty := .array (.object "FormulaShapes$Box")) (C := RX3) (T := TX3) (N := 6) hx hb htb inX3 tyX3 tyX3_ok nmX3 hown hK hP hS f_6 hAa rfl 0 (by decide) (htb _ wd56) (fun _ h9 => h9) rfl hin rfl (by decide +kernel) rfl rfl (Nat.le_of_ble_eq_true rfl) dX3_init_10 (fun H locs hP hS => ?_)
  obtain ⟨M_11, hM_11⟩ : ∃ z9 : mw_M, z9 = mw_up M_4 a (.inr (3, [.ref q_1, .int 0, .null, .null, .int 0, .int 0])) := ⟨_, rfl⟩
  have hP : mw_P (gD G) gx_cl M_11 H := by rw [hM_11]; exact hP
  have f_12 : M_11 a = some (.inr (3, [.ref q_1, .int 0, .null, .null, .int 0, .int 0])) := by rw [hM_11]; exact mw_self _ _ _
  have f_13 : M_11 q_1 = some (.inl (gB G, 120, .inr (.inr (.inr (.inr (fun _ => none)))))) := by rw [hM_11, mw_ne _ _ (Ne.symm ne_7)]; exact f_8
  have hold_14 : ∀ x9 e9, x9 ≠ a → M x9 = some e9 → M_11 x9 = some e9 := fun x9 e9 n9 h9 => by rw [hM_11, mw_ne _ _ n9]; exact hold_10 x9 e9 n9 h9
  refine lv_aload_n hx hb dX3_init_13 rfl (lv_at hl 0 rfl) ?_
  refine lv_bipush (v := 8) hx hb dX3_init_14 (by decide) ?_
  refine mw_newq (N := 8) hx hb hown (htb _ wd24) (va_AO.use (hE.2.2.2.2 (gF G, .object "FormulaShapes$Family") (List.mem_cons_of_mem _ (List.mem_cons_of_mem _ List.mem_cons_self)) _ rfl)) hK hP hS 2 rfl (by decide) (by decide) (by decide) (Nat.le_of_ble_eq_true rfl) (Nat.le_of_ble_eq_true rfl) dX3_init_16 (fun q_15 H hq_16 hs_17 hP hS => ?_)
  obtain ⟨M_18, hM_18⟩ : ∃ z9 : mw_M, z9 = mw_up M_11 q_15 (.inl (gF G, 8, .inr (.inr (.inr (.inr (fun _ => none)))))) := ⟨_, rfl⟩
  have hP : mw_P (gD G) gx_cl M_18 H := by rw [hM_18]; exact hP
  have f_20 : M_18 a = some (.inr (3, [.ref q_1, .int 0, .null, .null, .int 0, .int 0])) := by rw [hM_18, mw_ne _ _ (fun z => by have z1 := f_12; rw [z, hq_16] at z1; cases z1)]; exact f_12
  have ne_21 : a ≠ q_15 := fun z => by have z1 := f_12; rw [z, hq_16] at z1; cases z1
  have f_22 : M_18 q_1 = some (.inl (gB G, 120, .inr (.inr (.inr (.inr (fun _ => none)))))) := by rw [hM_18, mw_ne _ _ (fun z => by have z1 := f_13; rw [z, hq_16] at z1; cases z1)]; exact f_13
  have ne_23 : q_1 ≠ q_15 := fun z => by have z1 := f_13; rw [z, hq_16] at z1; cases z1
  have f_24 : M_18 q_15 = some (.inl (gF G, 8, .inr (.inr (.inr (.inr (fun _ => none)))))) := by rw [hM_18]; exact mw_self _ _ _
  have n0_25 : M q_15 = none := mw_hno hold_14 hq_16 ne_21
  have hold_26 : ∀ x9 e9, x9 ≠ a → M x9 = some e9 → M_18 x9 = some e9 := by rw [hM_18]; exact mw_hup hold_14 hq_16 _
  refine mw_putF (D := gD G) (ci := 3) (v := .ref q_15) (ty := .array (.object "FormulaShapes$Family")) (C := RX3) (T := TX3) (N := 6) hx hb htb inX3 tyX3 tyX3_ok nmX3 hown hK hP hS f_20 hAa rfl 2 (by decide) (htb _ wd58) (fun _ h9 => h9) rfl hin rfl (by decide +kernel) rfl rfl (Nat.le_of_ble_eq_true rfl) dX3_init_19 (fun H locs hP hS => ?_)
  obtain ⟨M_27, hM_27⟩ : ∃ z9 : mw_M, z9 = mw_up M_18 a (.inr (3, [.ref q_1, .int 0, .ref q_15, .null, .int 0, .int 0])) := ⟨_, rfl⟩
  have hP : mw_P (gD G) gx_cl M_27 H := by rw [hM_27]; exact hP
  have f_28 : M_27 a = some (.inr (3, [.ref q_1, .int 0, .ref q_15, .null, .int 0, .int 0])) := by rw [hM_27]; exact mw_self _ _ _
  have f_29 : M_27 q_1 = some (.inl (gB G, 120, .inr (.inr (.inr (.inr (fun _ => none)))))) := by rw [hM_27, mw_ne _ _ (Ne.symm ne_7)]; exact f_22
  have f_30 : M_27 q_15 = some (.inl (gF G, 8, .inr (.inr (.inr (.inr (fun _ => none)))))) := by rw [hM_27, mw_ne _ _ (Ne.symm ne_21)]; exact f_24
  have hold_31 : ∀ x9 e9, x9 ≠ a → M x9 = some e9 → M_27 x9 = some e9 := fun x9 e9 n9 h9 => by rw [hM_27, mw_ne _ _ n9]; exact hold_26 x9 e9 n9 h9
  refine lv_iconst (v := 0) hx hb dX3_init_22 (by decide) ?_
  refine lv_istore_n (lv' := [(1, .int 0), (0, .ref a)]) hx hb dX3_init_23 rfl hl (by decide) rfl (fun ls hl => ?_)
  refine lv_iload_n hx hb dX3_init_24 rfl (lv_at hl 0 rfl) ?_
  refine lv_bipush (v := 8) hx hb dX3_init_25 (by decide) ?_
  refine lv_icmp_ge (tgt := 49) hx hb dX3_init_27 (by decide) (fun c_32 => absurd c_32 (by decide)) (fun c_32 => ?_)
  refine lv_aload_n hx hb dX3_init_30 rfl (lv_at hl 1 rfl) ?_
  refine mw_get (D := gD G) (ci := 3) (v := .ref q_15) (C := RX3) (T := TX3) (N := 6) hx hb htb inX3 hown hK hP f_28 rfl 2 (by decide) (htb _ wd58) (fun _ h9 => h9) rfl dX3_init_31 ?_
  refine lv_iload_n hx hb dX3_init_34 rfl (lv_at hl 0 rfl) ?_
  refine mw_new (ci := 1) (fs := [.null, .int 0, .int 0, .int 0, .int 0, .int 0]) (C := RX1) (T := TX1) (N := 6) hx hb htb inX1 tyX1 tyX1_ok hown (htb _ wd24) (htb _ wd26) (htb _ wd2) hK hP hS rfl (fun j hj => by rcases (show j = 0 ∨ j = 1 ∨ j = 2 ∨ j = 3 ∨ j = 4 ∨ j = 5 by omega) with rfl | rfl | rfl | rfl | rfl | rfl <;> rfl) (Nat.le_of_ble_eq_true rfl) (Nat.le_of_ble_eq_true rfl) dX3_init_35 (fun q_33 H hq_34 hs_35 hP hS => ?_)
  obtain ⟨M_36, hM_36⟩ : ∃ z9 : mw_M, z9 = mw_up M_27 q_33 (.inr (1, [.null, .int 0, .int 0, .int 0, .int 0, .int 0])) := ⟨_, rfl⟩
  have hP : mw_P (gD G) gx_cl M_36 H := by rw [hM_36]; exact hP
  have f_38 : M_36 a = some (.inr (3, [.ref q_1, .int 0, .ref q_15, .null, .int 0, .int 0])) := by rw [hM_36, mw_ne _ _ (fun z => by have z1 := f_28; rw [z, hq_34] at z1; cases z1)]; exact f_28
  have ne_39 : a ≠ q_33 := fun z => by have z1 := f_28; rw [z, hq_34] at z1; cases z1
  have f_40 : M_36 q_1 = some (.inl (gB G, 120, .inr (.inr (.inr (.inr (fun _ => none)))))) := by rw [hM_36, mw_ne _ _ (fun z => by have z1 := f_29; rw [z, hq_34] at z1; cases z1)]; exact f_29
  have ne_41 : q_1 ≠ q_33 := fun z => by have z1 := f_29; rw [z, hq_34] at z1; cases z1
  have f_42 : M_36 q_15 = some (.inl (gF G, 8, .inr (.inr (.inr (.inr (fun _ => none)))))) := by rw [hM_36, mw_ne _ _ (fun z => by have z1 := f_30; rw [z, hq_34] at z1; cases z1)]; exact f_30
  have ne_43 : q_15 ≠ q_33 := fun z => by have z1 := f_30; rw [z, hq_34] at z1; cases z1
  have f_44 : M_36 q_33 = some (.inr (1, [.null, .int 0, .int 0, .int 0, .int 0, .int 0])) := by rw [hM_36]; exact mw_self _ _ _
  have n0_45 : M q_33 = none := mw_hno hold_31 hq_34 ne_39
  have hold_46 : ∀ x9 e9, x9 ≠ a → M x9 = some e9 → M_36 x9 = some e9 := by rw [hM_36]; exact mw_hup hold_31 hq_34 _
  refine lv_dup hx hb dX3_init_38 rfl ?_
  refine mw_callI (As := []) (rest := [.ref q_33, .int 0, .ref q_15]) hx hb hml hown hl (kX1_init l htr G H.size M_36 (fun q h => hAn q (Nat.le_trans hS.1 h)) q_33 (hAn _ hs_35) f_44) (g_B (n := 0) htb wd29 wd2 wd27 (by decide +kernel) ⟨Nat.le_of_ble_eq_true rfl, Nat.le_of_ble_eq_true rfl⟩) (htb _ wd28) (htb _ wd29) rfl hE hP hS rfl rfl (Nat.le_of_ble_eq_true rfl) dX3_init_39 ⟨Nat.le_of_ble_eq_true rfl, Nat.le_of_ble_eq_true rfl⟩ (fun v9 M9 H locs hpo hP hz hS => ?_) (fun x9 E9 cell9 H9 locs9 hE9 => hE9.elim)
  obtain ⟨rfl, r_47, hr0, hAr_47, hqa, hrr, hxM_48⟩ := hpo
  obtain ⟨M_48, hM_48⟩ : ∃ z9 : mw_M, z9 = M9 := ⟨_, rfl⟩
  rw [← hM_48] at hP hqa hrr hxM_48
  have ne_50 : a ≠ r_47 := fun z => by have z1 := f_38; rw [z, hr0] at z1; cases z1
  have n0_49 : M r_47 = none := mw_hno hold_46 hr0 ne_50
  have ne_52 : a ≠ r_47 := fun z => by have z1 := f_38; rw [z, hr0] at z1; cases z1
  have f_51 : M_48 a = some (.inr (3, [.ref q_1, .int 0, .ref q_15, .null, .int 0, .int 0])) := hxM_48 _ _ ne_39 f_38
  have ne_54 : q_1 ≠ r_47 := fun z => by have z1 := f_40; rw [z, hr0] at z1; cases z1
  have f_53 : M_48 q_1 = some (.inl (gB G, 120, .inr (.inr (.inr (.inr (fun _ => none)))))) := hxM_48 _ _ ne_41 f_40
  have ne_56 : q_15 ≠ r_47 := fun z => by have z1 := f_42; rw [z, hr0] at z1; cases z1
  have f_55 : M_48 q_15 = some (.inl (gF G, 8, .inr (.inr (.inr (.inr (fun _ => none)))))) := hxM_48 _ _ ne_43 f_42
  have ne_58 : q_33 ≠ r_47 := fun z => by have z1 := f_44; rw [z, hr0] at z1; cases z1
  have f_57 := hqa
  have f_59 := hrr
  have hold_60 : ∀ x9 e9, x9 ≠ a → M x9 = some e9 → M_48 x9 = some e9 := fun x9 e9 n9 h9 => hxM_48 x9 e9 (fun z9 => by rw [z9, n0_45] at h9; cases h9) (hold_46 x9 e9 n9 h9)
  refine W.eq (g2 := F0 m 42 ls [.ref q_33, .int 0, .ref q_15]) rfl ?_
  refine mw_aast (r := (RX1, TX1, 6)) hx hb hK hP hS 2 1 f_55 (hAn _ hs_17) rfl f_57 rfl (by unfold vp_in; decide) dX3_init_42 (fun H locs hP hS => ?_)
  rw [show (0 : Int32).toNatClampNeg = 0 from rfl] at hP
  obtain ⟨M_61, hM_61⟩ : ∃ z9 : mw_M, z9 = mw_up M_48 q_15 (.inl (gF G, 8, .inr (.inr (.inr (.inr (va_up (fun _ => none) 0 (some q_33))))))) := ⟨_, rfl⟩
  have hP : mw_P (gD G) gx_cl M_61 H := by rw [hM_61]; exact hP
  have f_62 : M_61 a = some (.inr (3, [.ref q_1, .int 0, .ref q_15, .null, .int 0, .int 0])) := by rw [hM_61, mw_ne _ _ ne_21]; exact f_51
  have f_63 : M_61 q_1 = some (.inl (gB G, 120, .inr (.inr (.inr (.inr (fun _ => none)))))) := by rw [hM_61, mw_ne _ _ ne_23]; exact f_53
  have f_64 : M_61 q_15 = some (.inl (gF G, 8, .inr (.inr (.inr (.inr (va_up (fun _ => none) 0 (some q_33))))))) := by rw [hM_61]; exact mw_self _ _ _
  have f_65 : M_61 q_33 = some (.inr (1, [.ref r_47, .int 0, .int (-1), .int (-1), .int (-1), .int (-1)])) := by rw [hM_61, mw_ne _ _ (Ne.symm ne_43)]; exact f_57
  have f_66 : M_61 r_47 = some (.inl (gI G, 4, .inl (fun _ => 0))) := by rw [hM_61, mw_ne _ _ (Ne.symm ne_56)]; exact f_59
  have hold_67 : ∀ x9 e9, x9 ≠ a → M x9 = some e9 → M_61 x9 = some e9 := fun x9 e9 n9 h9 => by rw [hM_61, mw_ne _ _ (fun z9 => by rw [z9, n0_25] at h9; cases h9)]; exact hold_60 x9 e9 n9 h9
  refine lv_iinc (v := 1) (lv' := [(1, .int 1), (0, .ref a)]) hx hb dX3_init_43 hl (k := 0) rfl (by decide) (by decide) rfl (fun ls hl => ?_)
  refine lv_goto (tgt := 24) hx hb dX3_init_46 (by decide) ?_
  refine lv_iload_n hx hb dX3_init_24 rfl (lv_at hl 0 rfl) ?_
  refine lv_bipush (v := 8) hx hb dX3_init_25 (by decide) ?_
  refine lv_icmp_ge (tgt := 49) hx hb dX3_init_27 (by decide) (fun c_68 => absurd c_68 (by decide)) (fun c_68 => ?_)
  refine lv_aload_n hx hb dX3_init_30 rfl (lv_at hl 1 rfl) ?_
  refine mw_get (D := gD G) (ci := 3) (v := .ref q_15) (C := RX3) (T := TX3) (N := 6) hx hb htb inX3 hown hK hP f_62 rfl 2 (by decide) (htb _ wd58) (fun _ h9 => h9) rfl dX3_init_31 ?_
  refine lv_iload_n hx hb dX3_init_34 rfl (lv_at hl 0 rfl) ?_
  refine mw_new (ci := 1) (fs := [.null, .int 0, .int 0, .int 0, .int 0, .int 0]) (C := RX1) (T := TX1) (N := 6) hx hb htb inX1 tyX1 tyX1_ok hown (htb _ wd24) (htb _ wd26) (htb _ wd2) hK hP hS rfl (fun j hj => by rcases (show j = 0 ∨ j = 1 ∨ j = 2 ∨ j = 3 ∨ j = 4 ∨ j = 5 by omega) with rfl | rfl | rfl | rfl | rfl | rfl <;> rfl) (Nat.le_of_ble_eq_true rfl) (Nat.le_of_ble_eq_true rfl) dX3_init_35 (fun q_69 H hq_70 hs_71 hP hS => ?_)
  obtain ⟨M_72, hM_72⟩ : ∃ z9 : mw_M, z9 = mw_up M_61 q_69 (.inr (1, [.null, .int 0, .int 0, .int 0, .int 0, .int 0])) := ⟨_, rfl⟩
  have hP : mw_P (gD G) gx_cl M_72 H := by rw [hM_72]; exact hP
  have f_74 : M_72 a = some (.inr (3, [.ref q_1, .int 0, .ref q_15, .null, .int 0, .int 0])) := by rw [hM_72, mw_ne _ _ (fun z => by have z1 := f_62; rw [z, hq_70] at z1; cases z1)]; exact f_62
  have ne_75 : a ≠ q_69 := fun z => by have z1 := f_62; rw [z, hq_70] at z1; cases z1
  have f_76 : M_72 q_1 = some (.inl (gB G, 120, .inr (.inr (.inr (.inr (fun _ => none)))))) := by rw [hM_72, mw_ne _ _ (fun z => by have z1 := f_63; rw [z, hq_70] at z1; cases z1)]; exact f_63
  have ne_77 : q_1 ≠ q_69 := fun z => by have z1 := f_63; rw [z, hq_70] at z1; cases z1
  have f_78 : M_72 q_15 = some (.inl (gF G, 8, .inr (.inr (.inr (.inr (va_up (fun _ => none) 0 (some q_33))))))) := by rw [hM_72, mw_ne _ _ (fun z => by have z1 := f_64; rw [z, hq_70] at z1; cases z1)]; exact f_64
  have ne_79 : q_15 ≠ q_69 := fun z => by have z1 := f_64; rw [z, hq_70] at z1; cases z1
  have f_80 : M_72 q_33 = some (.inr (1, [.ref r_47, .int 0, .int (-1), .int (-1), .int (-1), .int (-1)])) := by rw [hM_72, mw_ne _ _ (fun z => by have z1 := f_65; rw [z, hq_70] at z1; cases z1)]; exact f_65
  have ne_81 : q_33 ≠ q_69 := fun z => by have z1 := f_65; rw [z, hq_70] at z1; cases z1
  have f_82 : M_72 r_47 = some (.inl (gI G, 4, .inl (fun _ => 0))) := by rw [hM_72, mw_ne _ _ (fun z => by have z1 := f_66; rw [z, hq_70] at z1; cases z1)]; exact f_66
  have ne_83 : r_47 ≠ q_69 := fun z => by have z1 := f_66; rw [z, hq_70] at z1; cases z1
  have f_84 : M_72 q_69 = some (.inr (1, [.null, .int 0, .int 0, .int 0, .int 0, .int 0])) := by rw [hM_72]; exact mw_self _ _ _
  have n0_85 : M q_69 = none := mw_hno hold_67 hq_70 ne_75
  have hold_86 : ∀ x9 e9, x9 ≠ a → M x9 = some e9 → M_72 x9 = some e9 := by rw [hM_72]; exact mw_hup hold_67 hq_70 _
  refine lv_dup hx hb dX3_init_38 rfl ?_
  refine mw_callI (As := []) (rest := [.ref q_69, .int 1, .ref q_15]) hx hb hml hown hl (kX1_init l htr G H.size M_72 (fun q h => hAn q (Nat.le_trans hS.1 h)) q_69 (hAn _ hs_71) f_84) (g_B (n := 0) htb wd29 wd2 wd27 (by decide +kernel) ⟨Nat.le_of_ble_eq_true rfl, Nat.le_of_ble_eq_true rfl⟩) (htb _ wd28) (htb _ wd29) rfl hE hP hS rfl rfl (Nat.le_of_ble_eq_true rfl) dX3_init_39 ⟨Nat.le_of_ble_eq_true rfl, Nat.le_of_ble_eq_true rfl⟩ (fun v9 M9 H locs hpo hP hz hS => ?_) (fun x9 E9 cell9 H9 locs9 hE9 => hE9.elim)
  obtain ⟨rfl, r_87, hr0, hAr_87, hqa, hrr, hxM_88⟩ := hpo
  obtain ⟨M_88, hM_88⟩ : ∃ z9 : mw_M, z9 = M9 := ⟨_, rfl⟩
  rw [← hM_88] at hP hqa hrr hxM_88
  have ne_90 : a ≠ r_87 := fun z => by have z1 := f_74; rw [z, hr0] at z1; cases z1
  have n0_89 : M r_87 = none := mw_hno hold_86 hr0 ne_90
  have ne_92 : a ≠ r_87 := fun z => by have z1 := f_74; rw [z, hr0] at z1; cases z1
  have f_91 : M_88 a = some (.inr (3, [.ref q_1, .int 0, .ref q_15, .null, .int 0, .int 0])) := hxM_88 _ _ ne_75 f_74
  have ne_94 : q_1 ≠ r_87 := fun z => by have z1 := f_76; rw [z, hr0] at z1; cases z1
  have f_93 : M_88 q_1 = some (.inl (gB G, 120, .inr (.inr (.inr (.inr (fun _ => none)))))) := hxM_88 _ _ ne_77 f_76
  have ne_96 : q_15 ≠ r_87 := fun z => by have z1 := f_78; rw [z, hr0] at z1; cases z1
  have f_95 : M_88 q_15 = some (.inl (gF G, 8, .inr (.inr (.inr (.inr (va_up (fun _ => none) 0 (some q_33))))))) := hxM_88 _ _ ne_79 f_78
  have ne_98 : q_33 ≠ r_87 := fun z => by have z1 := f_80; rw [z, hr0] at z1; cases z1
  have f_97 : M_88 q_33 = some (.inr (1, [.ref r_47, .int 0, .int (-1), .int (-1), .int (-1), .int (-1)])) := hxM_88 _ _ ne_81 f_80
  have ne_100 : r_47 ≠ r_87 := fun z => by have z1 := f_82; rw [z, hr0] at z1; cases z1
  have f_99 : M_88 r_47 = some (.inl (gI G, 4, .inl (fun _ => 0))) := hxM_88 _ _ ne_83 f_82
  have ne_102 : q_69 ≠ r_87 := fun z => by have z1 := f_84; rw [z, hr0] at z1; cases z1
  have f_101 := hqa
  have f_103 := hrr
  have hold_104 : ∀ x9 e9, x9 ≠ a → M x9 = some e9 → M_88 x9 = some e9 := fun x9 e9 n9 h9 => hxM_88 x9 e9 (fun z9 => by rw [z9, n0_85] at h9; cases h9) (hold_86 x9 e9 n9 h9)
  refine W.eq (g2 := F0 m 42 ls [.ref q_69, .int 1, .ref q_15]) rfl ?_
  refine mw_aast (r := (RX1, TX1, 6)) hx hb hK hP hS 2 1 f_95 (hAn _ hs_17) rfl f_101 rfl (by unfold vp_in; decide) dX3_init_42 (fun H locs hP hS => ?_)
  rw [show (1 : Int32).toNatClampNeg = 1 from rfl] at hP
  obtain ⟨M_105, hM_105⟩ : ∃ z9 : mw_M, z9 = mw_up M_88 q_15 (.inl (gF G, 8, .inr (.inr (.inr (.inr (va_up (va_up (fun _ => none) 0 (some q_33)) 1 (some q_69))))))) := ⟨_, rfl⟩
  have hP : mw_P (gD G) gx_cl M_105 H := by rw [hM_105]; exact hP
  have f_106 : M_105 a = some (.inr (3, [.ref q_1, .int 0, .ref q_15, .null, .int 0, .int 0])) := by rw [hM_105, mw_ne _ _ ne_21]; exact f_91
  have f_107 : M_105 q_1 = some (.inl (gB G, 120, .inr (.inr (.inr (.inr (fun _ => none)))))) := by rw [hM_105, mw_ne _ _ ne_23]; exact f_93
  have f_108 : M_105 q_15 = some (.inl (gF G, 8, .inr (.inr (.inr (.inr (va_up (va_up (fun _ => none) 0 (some q_33)) 1 (some q_69))))))) := by rw [hM_105]; exact mw_self _ _ _
  have f_109 : M_105 q_33 = some (.inr (1, [.ref r_47, .int 0, .int (-1), .int (-1), .int (-1), .int (-1)])) := by rw [hM_105, mw_ne _ _ (Ne.symm ne_43)]; exact f_97
  have f_110 : M_105 r_47 = some (.inl (gI G, 4, .inl (fun _ => 0))) := by rw [hM_105, mw_ne _ _ (Ne.symm ne_56)]; exact f_99
  have f_111 : M_105 q_69 = some (.inr (1, [.ref r_87, .int 0, .int (-1), .int (-1), .int (-1), .int (-1)])) := by rw [hM_105, mw_ne _ _ (Ne.symm ne_79)]; exact f_101
  have f_112 : M_105 r_87 = some (.inl (gI G, 4, .inl (fun _ => 0))) := by rw [hM_105, mw_ne _ _ (Ne.symm ne_96)]; exact f_103
  have hold_113 : ∀ x9 e9, x9 ≠ a → M x9 = some e9 → M_105 x9 = some e9 := fun x9 e9 n9 h9 => by rw [hM_105, mw_ne _ _ (fun z9 => by rw [z9, n0_25] at h9; cases h9)]; exact hold_104 x9 e9 n9 h9
  refine lv_iinc (v := 2) (lv' := [(1, .int 2), (0, .ref a)]) hx hb dX3_init_43 hl (k := 0) rfl (by decide) (by decide) rfl (fun ls hl => ?_)
  refine lv_goto (tgt := 24) hx hb dX3_init_46 (by decide) ?_
  refine lv_iload_n hx hb dX3_init_24 rfl (lv_at hl 0 rfl) ?_
  refine lv_bipush (v := 8) hx hb dX3_init_25 (by decide) ?_
  refine lv_icmp_ge (tgt := 49) hx hb dX3_init_27 (by decide) (fun c_114 => absurd c_114 (by decide)) (fun c_114 => ?_)
  refine lv_aload_n hx hb dX3_init_30 rfl (lv_at hl 1 rfl) ?_
  refine mw_get (D := gD G) (ci := 3) (v := .ref q_15) (C := RX3) (T := TX3) (N := 6) hx hb htb inX3 hown hK hP f_106 rfl 2 (by decide) (htb _ wd58) (fun _ h9 => h9) rfl dX3_init_31 ?_
  refine lv_iload_n hx hb dX3_init_34 rfl (lv_at hl 0 rfl) ?_
  refine mw_new (ci := 1) (fs := [.null, .int 0, .int 0, .int 0, .int 0, .int 0]) (C := RX1) (T := TX1) (N := 6) hx hb htb inX1 tyX1 tyX1_ok hown (htb _ wd24) (htb _ wd26) (htb _ wd2) hK hP hS rfl (fun j hj => by rcases (show j = 0 ∨ j = 1 ∨ j = 2 ∨ j = 3 ∨ j = 4 ∨ j = 5 by omega) with rfl | rfl | rfl | rfl | rfl | rfl <;> rfl) (Nat.le_of_ble_eq_true rfl) (Nat.le_of_ble_eq_true rfl) dX3_init_35 (fun q_115 H hq_116 hs_117 hP hS => ?_)
  obtain ⟨M_118, hM_118⟩ : ∃ z9 : mw_M, z9 = mw_up M_105 q_115 (.inr (1, [.null, .int 0, .int 0, .int 0, .int 0, .int 0])) := ⟨_, rfl⟩
  have hP : mw_P (gD G) gx_cl M_118 H := by rw [hM_118]; exact hP
  have f_120 : M_118 a = some (.inr (3, [.ref q_1, .int 0, .ref q_15, .null, .int 0, .int 0])) := by rw [hM_118, mw_ne _ _ (fun z => by have z1 := f_106; rw [z, hq_116] at z1; cases z1)]; exact f_106
  have ne_121 : a ≠ q_115 := fun z => by have z1 := f_106; rw [z, hq_116] at z1; cases z1
  have f_122 : M_118 q_1 = some (.inl (gB G, 120, .inr (.inr (.inr (.inr (fun _ => none)))))) := by rw [hM_118, mw_ne _ _ (fun z => by have z1 := f_107; rw [z, hq_116] at z1; cases z1)]; exact f_107
  have ne_123 : q_1 ≠ q_115 := fun z => by have z1 := f_107; rw [z, hq_116] at z1; cases z1
  have f_124 : M_118 q_15 = some (.inl (gF G, 8, .inr (.inr (.inr (.inr (va_up (va_up (fun _ => none) 0 (some q_33)) 1 (some q_69))))))) := by rw [hM_118, mw_ne _ _ (fun z => by have z1 := f_108; rw [z, hq_116] at z1; cases z1)]; exact f_108
  have ne_125 : q_15 ≠ q_115 := fun z => by have z1 := f_108; rw [z, hq_116] at z1; cases z1
  have f_126 : M_118 q_33 = some (.inr (1, [.ref r_47, .int 0, .int (-1), .int (-1), .int (-1), .int (-1)])) := by rw [hM_118, mw_ne _ _ (fun z => by have z1 := f_109; rw [z, hq_116] at z1; cases z1)]; exact f_109
  have ne_127 : q_33 ≠ q_115 := fun z => by have z1 := f_109; rw [z, hq_116] at z1; cases z1
  have f_128 : M_118 r_47 = some (.inl (gI G, 4, .inl (fun _ => 0))) := by rw [hM_118, mw_ne _ _ (fun z => by have z1 := f_110; rw [z, hq_116] at z1; cases z1)]; exact f_110
  have ne_129 : r_47 ≠ q_115 := fun z => by have z1 := f_110; rw [z, hq_116] at z1; cases z1
  have f_130 : M_118 q_69 = some (.inr (1, [.ref r_87, .int 0, .int (-1), .int (-1), .int (-1), .int (-1)])) := by rw [hM_118, mw_ne _ _ (fun z => by have z1 := f_111; rw [z, hq_116] at z1; cases z1)]; exact f_111
  have ne_131 : q_69 ≠ q_115 := fun z => by have z1 := f_111; rw [z, hq_116] at z1; cases z1
  have f_132 : M_118 r_87 = some (.inl (gI G, 4, .inl (fun _ => 0))) := by rw [hM_118, mw_ne _ _ (fun z => by have z1 := f_112; rw [z, hq_116] at z1; cases z1)]; exact f_112
  have ne_133 : r_87 ≠ q_115 := fun z => by have z1 := f_112; rw [z, hq_116] at z1; cases z1
  have f_134 : M_118 q_115 = some (.inr (1, [.null, .int 0, .int 0, .int 0, .int 0, .int 0])) := by rw [hM_118]; exact mw_self _ _ _
  have n0_135 : M q_115 = none := mw_hno hold_113 hq_116 ne_121
  have hold_136 : ∀ x9 e9, x9 ≠ a → M x9 = some e9 → M_118 x9 = some e9 := by rw [hM_118]; exact mw_hup hold_113 hq_116 _
  refine lv_dup hx hb dX3_init_38 rfl ?_
  refine mw_callI (As := []) (rest := [.ref q_115, .int 2, .ref q_15]) hx hb hml hown hl (kX1_init l htr G H.size M_118 (fun q h => hAn q (Nat.le_trans hS.1 h)) q_115 (hAn _ hs_117) f_134) (g_B (n := 0) htb wd29 wd2 wd27 (by decide +kernel) ⟨Nat.le_of_ble_eq_true rfl, Nat.le_of_ble_eq_true rfl⟩) (htb _ wd28) (htb _ wd29) rfl hE hP hS rfl rfl (Nat.le_of_ble_eq_true rfl) dX3_init_39 ⟨Nat.le_of_ble_eq_true rfl, Nat.le_of_ble_eq_true rfl⟩ (fun v9 M9 H locs hpo hP hz hS => ?_) (fun x9 E9 cell9 H9 locs9 hE9 => hE9.elim)
  obtain ⟨rfl, r_137, hr0, hAr_137, hqa, hrr, hxM_138⟩ := hpo
  obtain ⟨M_138, hM_138⟩ : ∃ z9 : mw_M, z9 = M9 := ⟨_, rfl⟩
  rw [← hM_138] at hP hqa hrr hxM_138
  have ne_140 : a ≠ r_137 := fun z => by have z1 := f_120; rw [z, hr0] at z1; cases z1
  have n0_139 : M r_137 = none := mw_hno hold_136 hr0 ne_140
  have ne_142 : a ≠ r_137 := fun z => by have z1 := f_120; rw [z, hr0] at z1; cases z1
  have f_141 : M_138 a = some (.inr (3, [.ref q_1, .int 0, .ref q_15, .null, .int 0, .int 0])) := hxM_138 _ _ ne_121 f_120
  have ne_144 : q_1 ≠ r_137 := fun z => by have z1 := f_122; rw [z, hr0] at z1; cases z1
  have f_143 : M_138 q_1 = some (.inl (gB G, 120, .inr (.inr (.inr (.inr (fun _ => none)))))) := hxM_138 _ _ ne_123 f_122
  have ne_146 : q_15 ≠ r_137 := fun z => by have z1 := f_124; rw [z, hr0] at z1; cases z1
  have f_145 : M_138 q_15 = some (.inl (gF G, 8, .inr (.inr (.inr (.inr (va_up (va_up (fun _ => none) 0 (some q_33)) 1 (some q_69))))))) := hxM_138 _ _ ne_125 f_124
  have ne_148 : q_33 ≠ r_137 := fun z => by have z1 := f_126; rw [z, hr0] at z1; cases z1
  have f_147 : M_138 q_33 = some (.inr (1, [.ref r_47, .int 0, .int (-1), .int (-1), .int (-1), .int (-1)])) := hxM_138 _ _ ne_127 f_126
  have ne_150 : r_47 ≠ r_137 := fun z => by have z1 := f_128; rw [z, hr0] at z1; cases z1
  have f_149 : M_138 r_47 = some (.inl (gI G, 4, .inl (fun _ => 0))) := hxM_138 _ _ ne_129 f_128
  have ne_152 : q_69 ≠ r_137 := fun z => by have z1 := f_130; rw [z, hr0] at z1; cases z1
  have f_151 : M_138 q_69 = some (.inr (1, [.ref r_87, .int 0, .int (-1), .int (-1), .int (-1), .int (-1)])) := hxM_138 _ _ ne_131 f_130
  have ne_154 : r_87 ≠ r_137 := fun z => by have z1 := f_132; rw [z, hr0] at z1; cases z1
  have f_153 : M_138 r_87 = some (.inl (gI G, 4, .inl (fun _ => 0))) := hxM_138 _ _ ne_133 f_132
  have ne_156 : q_115 ≠ r_137 := fun z => by have z1 := f_134; rw [z, hr0] at z1; cases z1
  have f_155 := hqa
  have f_157 := hrr
  have hold_158 : ∀ x9 e9, x9 ≠ a → M x9 = some e9 → M_138 x9 = some e9 := fun x9 e9 n9 h9 => hxM_138 x9 e9 (fun z9 => by rw [z9, n0_135] at h9; cases h9) (hold_136 x9 e9 n9 h9)
  refine W.eq (g2 := F0 m 42 ls [.ref q_115, .int 2, .ref q_15]) rfl ?_
  refine mw_aast (r := (RX1, TX1, 6)) hx hb hK hP hS 2 1 f_145 (hAn _ hs_17) rfl f_155 rfl (by unfold vp_in; decide) dX3_init_42 (fun H locs hP hS => ?_)
  rw [show (2 : Int32).toNatClampNeg = 2 from rfl] at hP
  obtain ⟨M_159, hM_159⟩ : ∃ z9 : mw_M, z9 = mw_up M_138 q_15 (.inl (gF G, 8, .inr (.inr (.inr (.inr (va_up (va_up (va_up (fun _ => none) 0 (some q_33)) 1 (some q_69)) 2 (some q_115))))))) := ⟨_, rfl⟩
  have hP : mw_P (gD G) gx_cl M_159 H := by rw [hM_159]; exact hP
  have f_160 : M_159 a = some (.inr (3, [.ref q_1, .int 0, .ref q_15, .null, .int 0, .int 0])) := by rw [hM_159, mw_ne _ _ ne_21]; exact f_141
  have f_161 : M_159 q_1 = some (.inl (gB G, 120, .inr (.inr (.inr (.inr (fun _ => none)))))) := by rw [hM_159, mw_ne _ _ ne_23]; exact f_143
  have f_162 : M_159 q_15 = some (.inl (gF G, 8, .inr (.inr (.inr (.inr (va_up (va_up (va_up (fun _ => none) 0 (some q_33)) 1 (some q_69)) 2 (some q_115))))))) := by rw [hM_159]; exact mw_self _ _ _
  have f_163 : M_159 q_33 = some (.inr (1, [.ref r_47, .int 0, .int (-1), .int (-1), .int (-1), .int (-1)])) := by rw [hM_159, mw_ne _ _ (Ne.symm ne_43)]; exact f_147
  have f_164 : M_159 r_47 = some (.inl (gI G, 4, .inl (fun _ => 0))) := by rw [hM_159, mw_ne _ _ (Ne.symm ne_56)]; exact f_149
  have f_165 : M_159 q_69 = some (.inr (1, [.ref r_87, .int 0, .int (-1), .int (-1), .int (-1), .int (-1)])) := by rw [hM_159, mw_ne _ _ (Ne.symm ne_79)]; exact f_151
  have f_166 : M_159 r_87 = some (.inl (gI G, 4, .inl (fun _ => 0))) := by rw [hM_159, mw_ne _ _ (Ne.symm ne_96)]; exact f_153
  have f_167 : M_159 q_115 = some (.inr (1, [.ref r_137, .int 0, .int (-1), .int (-1), .int (-1), .int (-1)])) := by rw [hM_159, mw_ne _ _ (Ne.symm ne_125)]; exact f_155
  have f_168 : M_159 r_137 = some (.inl (gI G, 4, .inl (fun _ => 0))) := by rw [hM_159, mw_ne _ _ (Ne.symm ne_146)]; exact f_157
  have hold_169 : ∀ x9 e9, x9 ≠ a → M x9 = some e9 → M_159 x9 = some e9 := fun x9 e9 n9 h9 => by rw [hM_159, mw_ne _ _ (fun z9 => by rw [z9, n0_25] at h9; cases h9)]; exact hold_158 x9 e9 n9 h9
  refine lv_iinc (v := 3) (lv' := [(1, .int 3), (0, .ref a)]) hx hb dX3_init_43 hl (k := 0) rfl (by decide) (by decide) rfl (fun ls hl => ?_)
  refine lv_goto (tgt := 24) hx hb dX3_init_46 (by decide) ?_
  refine lv_iload_n hx hb dX3_init_24 rfl (lv_at hl 0 rfl) ?_
  refine lv_bipush (v := 8) hx hb dX3_init_25 (by decide) ?_
  refine lv_icmp_ge (tgt := 49) hx hb dX3_init_27 (by decide) (fun c_170 => absurd c_170 (by decide)) (fun c_170 => ?_)
  refine lv_aload_n hx hb dX3_init_30 rfl (lv_at hl 1 rfl) ?_
  refine mw_get (D := gD G) (ci := 3) (v := .ref q_15) (C := RX3) (T := TX3) (N := 6) hx hb htb inX3 hown hK hP f_160 rfl 2 (by decide) (htb _ wd58) (fun _ h9 => h9) rfl dX3_init_31 ?_
  refine lv_iload_n hx hb dX3_init_34 rfl (lv_at hl 0 rfl) ?_
  refine mw_new (ci := 1) (fs := [.null, .int 0, .int 0, .int 0, .int 0, .int 0]) (C := RX1) (T := TX1) (N := 6) hx hb htb inX1 tyX1 tyX1_ok hown (htb _ wd24) (htb _ wd26) (htb _ wd2) hK hP hS rfl (fun j hj => by rcases (show j = 0 ∨ j = 1 ∨ j = 2 ∨ j = 3 ∨ j = 4 ∨ j = 5 by omega) with rfl | rfl | rfl | rfl | rfl | rfl <;> rfl) (Nat.le_of_ble_eq_true rfl) (Nat.le_of_ble_eq_true rfl) dX3_init_35 (fun q_171 H hq_172 hs_173 hP hS => ?_)
  obtain ⟨M_174, hM_174⟩ : ∃ z9 : mw_M, z9 = mw_up M_159 q_171 (.inr (1, [.null, .int 0, .int 0, .int 0, .int 0, .int 0])) := ⟨_, rfl⟩
  have hP : mw_P (gD G) gx_cl M_174 H := by rw [hM_174]; exact hP
  have f_176 : M_174 a = some (.inr (3, [.ref q_1, .int 0, .ref q_15, .null, .int 0, .int 0])) := by rw [hM_174, mw_ne _ _ (fun z => by have z1 := f_160; rw [z, hq_172] at z1; cases z1)]; exact f_160
  have ne_177 : a ≠ q_171 := fun z => by have z1 := f_160; rw [z, hq_172] at z1; cases z1
  have f_178 : M_174 q_1 = some (.inl (gB G, 120, .inr (.inr (.inr (.inr (fun _ => none)))))) := by rw [hM_174, mw_ne _ _ (fun z => by have z1 := f_161; rw [z, hq_172] at z1; cases z1)]; exact f_161
  have ne_179 : q_1 ≠ q_171 := fun z => by have z1 := f_161; rw [z, hq_172] at z1; cases z1
  have f_180 : M_174 q_15 = some (.inl (gF G, 8, .inr (.inr (.inr (.inr (va_up (va_up (va_up (fun _ => none) 0 (some q_33)) 1 (some q_69)) 2 (some q_115))))))) := by rw [hM_174, mw_ne _ _ (fun z => by have z1 := f_162; rw [z, hq_172] at z1; cases z1)]; exact f_162
  have ne_181 : q_15 ≠ q_171 := fun z => by have z1 := f_162; rw [z, hq_172] at z1; cases z1
  have f_182 : M_174 q_33 = some (.inr (1, [.ref r_47, .int 0, .int (-1), .int (-1), .int (-1), .int (-1)])) := by rw [hM_174, mw_ne _ _ (fun z => by have z1 := f_163; rw [z, hq_172] at z1; cases z1)]; exact f_163
  have ne_183 : q_33 ≠ q_171 := fun z => by have z1 := f_163; rw [z, hq_172] at z1; cases z1
  have f_184 : M_174 r_47 = some (.inl (gI G, 4, .inl (fun _ => 0))) := by rw [hM_174, mw_ne _ _ (fun z => by have z1 := f_164; rw [z, hq_172] at z1; cases z1)]; exact f_164
  have ne_185 : r_47 ≠ q_171 := fun z => by have z1 := f_164; rw [z, hq_172] at z1; cases z1
  have f_186 : M_174 q_69 = some (.inr (1, [.ref r_87, .int 0, .int (-1), .int (-1), .int (-1), .int (-1)])) := by rw [hM_174, mw_ne _ _ (fun z => by have z1 := f_165; rw [z, hq_172] at z1; cases z1)]; exact f_165
  have ne_187 : q_69 ≠ q_171 := fun z => by have z1 := f_165; rw [z, hq_172] at z1; cases z1
  have f_188 : M_174 r_87 = some (.inl (gI G, 4, .inl (fun _ => 0))) := by rw [hM_174, mw_ne _ _ (fun z => by have z1 := f_166; rw [z, hq_172] at z1; cases z1)]; exact f_166
  have ne_189 : r_87 ≠ q_171 := fun z => by have z1 := f_166; rw [z, hq_172] at z1; cases z1
  have f_190 : M_174 q_115 = some (.inr (1, [.ref r_137, .int 0, .int (-1), .int (-1), .int (-1), .int (-1)])) := by rw [hM_174, mw_ne _ _ (fun z => by have z1 := f_167; rw [z, hq_172] at z1; cases z1)]; exact f_167
  have ne_191 : q_115 ≠ q_171 := fun z => by have z1 := f_167; rw [z, hq_172] at z1; cases z1
  have f_192 : M_174 r_137 = some (.inl (gI G, 4, .inl (fun _ => 0))) := by rw [hM_174, mw_ne _ _ (fun z => by have z1 := f_168; rw [z, hq_172] at z1; cases z1)]; exact f_168
  have ne_193 : r_137 ≠ q_171 := fun z => by have z1 := f_168; rw [z, hq_172] at z1; cases z1
  have f_194 : M_174 q_171 = some (.inr (1, [.null, .int 0, .int 0, .int 0, .int 0, .int 0])) := by rw [hM_174]; exact mw_self _ _ _
  have n0_195 : M q_171 = none := mw_hno hold_169 hq_172 ne_177
  have hold_196 : ∀ x9 e9, x9 ≠ a → M x9 = some e9 → M_174 x9 = some e9 := by rw [hM_174]; exact mw_hup hold_169 hq_172 _
  refine lv_dup hx hb dX3_init_38 rfl ?_
  refine mw_callI (As := []) (rest := [.ref q_171, .int 3, .ref q_15]) hx hb hml hown hl (kX1_init l htr G H.size M_174 (fun q h => hAn q (Nat.le_trans hS.1 h)) q_171 (hAn _ hs_173) f_194) (g_B (n := 0) htb wd29 wd2 wd27 (by decide +kernel) ⟨Nat.le_of_ble_eq_true rfl, Nat.le_of_ble_eq_true rfl⟩) (htb _ wd28) (htb _ wd29) rfl hE hP hS rfl rfl (Nat.le_of_ble_eq_true rfl) dX3_init_39 ⟨Nat.le_of_ble_eq_true rfl, Nat.le_of_ble_eq_true rfl⟩ (fun v9 M9 H locs hpo hP hz hS => ?_) (fun x9 E9 cell9 H9 locs9 hE9 => hE9.elim)
  obtain ⟨rfl, r_197, hr0, hAr_197, hqa, hrr, hxM_198⟩ := hpo
  obtain ⟨M_198, hM_198⟩ : ∃ z9 : mw_M, z9 = M9 := ⟨_, rfl⟩
  rw [← hM_198] at hP hqa hrr hxM_198
  have ne_200 : a ≠ r_197 := fun z => by have z1 := f_176; rw [z, hr0] at z1; cases z1
  have n0_199 : M r_197 = none := mw_hno hold_196 hr0 ne_200
  have ne_202 : a ≠ r_197 := fun z => by have z1 := f_176; rw [z, hr0] at z1; cases z1
  have f_201 : M_198 a = some (.inr (3, [.ref q_1, .int 0, .ref q_15, .null, .int 0, .int 0])) := hxM_198 _ _ ne_177 f_176
  have ne_204 : q_1 ≠ r_197 := fun z => by have z1 := f_178; rw [z, hr0] at z1; cases z1
  have f_203 : M_198 q_1 = some (.inl (gB G, 120, .inr (.inr (.inr (.inr (fun _ => none)))))) := hxM_198 _ _ ne_179 f_178
  have ne_206 : q_15 ≠ r_197 := fun z => by have z1 := f_180; rw [z, hr0] at z1; cases z1
  have f_205 : M_198 q_15 = some (.inl (gF G, 8, .inr (.inr (.inr (.inr (va_up (va_up (va_up (fun _ => none) 0 (some q_33)) 1 (some q_69)) 2 (some q_115))))))) := hxM_198 _ _ ne_181 f_180
  have ne_208 : q_33 ≠ r_197 := fun z => by have z1 := f_182; rw [z, hr0] at z1; cases z1
  have f_207 : M_198 q_33 = some (.inr (1, [.ref r_47, .int 0, .int (-1), .int (-1), .int (-1), .int (-1)])) := hxM_198 _ _ ne_183 f_182
  have ne_210 : r_47 ≠ r_197 := fun z => by have z1 := f_184; rw [z, hr0] at z1; cases z1
  have f_209 : M_198 r_47 = some (.inl (gI G, 4, .inl (fun _ => 0))) := hxM_198 _ _ ne_185 f_184
  have ne_212 : q_69 ≠ r_197 := fun z => by have z1 := f_186; rw [z, hr0] at z1; cases z1
  have f_211 : M_198 q_69 = some (.inr (1, [.ref r_87, .int 0, .int (-1), .int (-1), .int (-1), .int (-1)])) := hxM_198 _ _ ne_187 f_186
  have ne_214 : r_87 ≠ r_197 := fun z => by have z1 := f_188; rw [z, hr0] at z1; cases z1
  have f_213 : M_198 r_87 = some (.inl (gI G, 4, .inl (fun _ => 0))) := hxM_198 _ _ ne_189 f_188
  have ne_216 : q_115 ≠ r_197 := fun z => by have z1 := f_190; rw [z, hr0] at z1; cases z1
  have f_215 : M_198 q_115 = some (.inr (1, [.ref r_137, .int 0, .int (-1), .int (-1), .int (-1), .int (-1)])) := hxM_198 _ _ ne_191 f_190
  have ne_218 : r_137 ≠ r_197 := fun z => by have z1 := f_192; rw [z, hr0] at z1; cases z1
  have f_217 : M_198 r_137 = some (.inl (gI G, 4, .inl (fun _ => 0))) := hxM_198 _ _ ne_193 f_192
  have ne_220 : q_171 ≠ r_197 := fun z => by have z1 := f_194; rw [z, hr0] at z1; cases z1
  have f_219 := hqa
  have f_221 := hrr
  have hold_222 : ∀ x9 e9, x9 ≠ a → M x9 = some e9 → M_198 x9 = some e9 := fun x9 e9 n9 h9 => hxM_198 x9 e9 (fun z9 => by rw [z9, n0_195] at h9; cases h9) (hold_196 x9 e9 n9 h9)
  refine W.eq (g2 := F0 m 42 ls [.ref q_171, .int 3, .ref q_15]) rfl ?_
  refine mw_aast (r := (RX1, TX1, 6)) hx hb hK hP hS 2 1 f_205 (hAn _ hs_17) rfl f_219 rfl (by unfold vp_in; decide) dX3_init_42 (fun H locs hP hS => ?_)
  rw [show (3 : Int32).toNatClampNeg = 3 from rfl] at hP
  obtain ⟨M_223, hM_223⟩ : ∃ z9 : mw_M, z9 = mw_up M_198 q_15 (.inl (gF G, 8, .inr (.inr (.inr (.inr (va_up (va_up (va_up (va_up (fun _ => none) 0 (some q_33)) 1 (some q_69)) 2 (some q_115)) 3 (some q_171))))))) := ⟨_, rfl⟩
  have hP : mw_P (gD G) gx_cl M_223 H := by rw [hM_223]; exact hP
  have f_224 : M_223 a = some (.inr (3, [.ref q_1, .int 0, .ref q_15, .null, .int 0, .int 0])) := by rw [hM_223, mw_ne _ _ ne_21]; exact f_201
  have f_225 : M_223 q_1 = some (.inl (gB G, 120, .inr (.inr (.inr (.inr (fun _ => none)))))) := by rw [hM_223, mw_ne _ _ ne_23]; exact f_203
  have f_226 : M_223 q_15 = some (.inl (gF G, 8, .inr (.inr (.inr (.inr (va_up (va_up (va_up (va_up (fun _ => none) 0 (some q_33)) 1 (some q_69)) 2 (some q_115)) 3 (some q_171))))))) := by rw [hM_223]; exact mw_self _ _ _
  have f_227 : M_223 q_33 = some (.inr (1, [.ref r_47, .int 0, .int (-1), .int (-1), .int (-1), .int (-1)])) := by rw [hM_223, mw_ne _ _ (Ne.symm ne_43)]; exact f_207
  have f_228 : M_223 r_47 = some (.inl (gI G, 4, .inl (fun _ => 0))) := by rw [hM_223, mw_ne _ _ (Ne.symm ne_56)]; exact f_209
  have f_229 : M_223 q_69 = some (.inr (1, [.ref r_87, .int 0, .int (-1), .int (-1), .int (-1), .int (-1)])) := by rw [hM_223, mw_ne _ _ (Ne.symm ne_79)]; exact f_211
  have f_230 : M_223 r_87 = some (.inl (gI G, 4, .inl (fun _ => 0))) := by rw [hM_223, mw_ne _ _ (Ne.symm ne_96)]; exact f_213
  have f_231 : M_223 q_115 = some (.inr (1, [.ref r_137, .int 0, .int (-1), .int (-1), .int (-1), .int (-1)])) := by rw [hM_223, mw_ne _ _ (Ne.symm ne_125)]; exact f_215
  have f_232 : M_223 r_137 = some (.inl (gI G, 4, .inl (fun _ => 0))) := by rw [hM_223, mw_ne _ _ (Ne.symm ne_146)]; exact f_217
  have f_233 : M_223 q_171 = some (.inr (1, [.ref r_197, .int 0, .int (-1), .int (-1), .int (-1), .int (-1)])) := by rw [hM_223, mw_ne _ _ (Ne.symm ne_181)]; exact f_219
  have f_234 : M_223 r_197 = some (.inl (gI G, 4, .inl (fun _ => 0))) := by rw [hM_223, mw_ne _ _ (Ne.symm ne_206)]; exact f_221
  have hold_235 : ∀ x9 e9, x9 ≠ a → M x9 = some e9 → M_223 x9 = some e9 := fun x9 e9 n9 h9 => by rw [hM_223, mw_ne _ _ (fun z9 => by rw [z9, n0_25] at h9; cases h9)]; exact hold_222 x9 e9 n9 h9
  refine lv_iinc (v := 4) (lv' := [(1, .int 4), (0, .ref a)]) hx hb dX3_init_43 hl (k := 0) rfl (by decide) (by decide) rfl (fun ls hl => ?_)
  refine lv_goto (tgt := 24) hx hb dX3_init_46 (by decide) ?_
  refine lv_iload_n hx hb dX3_init_24 rfl (lv_at hl 0 rfl) ?_
  refine lv_bipush (v := 8) hx hb dX3_init_25 (by decide) ?_
  refine lv_icmp_ge (tgt := 49) hx hb dX3_init_27 (by decide) (fun c_236 => absurd c_236 (by decide)) (fun c_236 => ?_)
  refine lv_aload_n hx hb dX3_init_30 rfl (lv_at hl 1 rfl) ?_
  refine mw_get (D := gD G) (ci := 3) (v := .ref q_15) (C := RX3) (T := TX3) (N := 6) hx hb htb inX3 hown hK hP f_224 rfl 2 (by decide) (htb _ wd58) (fun _ h9 => h9) rfl dX3_init_31 ?_
  refine lv_iload_n hx hb dX3_init_34 rfl (lv_at hl 0 rfl) ?_
  refine mw_new (ci := 1) (fs := [.null, .int 0, .int 0, .int 0, .int 0, .int 0]) (C := RX1) (T := TX1) (N := 6) hx hb htb inX1 tyX1 tyX1_ok hown (htb _ wd24) (htb _ wd26) (htb _ wd2) hK hP hS rfl (fun j hj => by rcases (show j = 0 ∨ j = 1 ∨ j = 2 ∨ j = 3 ∨ j = 4 ∨ j = 5 by omega) with rfl | rfl | rfl | rfl | rfl | rfl <;> rfl) (Nat.le_of_ble_eq_true rfl) (Nat.le_of_ble_eq_true rfl) dX3_init_35 (fun q_237 H hq_238 hs_239 hP hS => ?_)
  obtain ⟨M_240, hM_240⟩ : ∃ z9 : mw_M, z9 = mw_up M_223 q_237 (.inr (1, [.null, .int 0, .int 0, .int 0, .int 0, .int 0])) := ⟨_, rfl⟩
  have hP : mw_P (gD G) gx_cl M_240 H := by rw [hM_240]; exact hP
  have f_242 : M_240 a = some (.inr (3, [.ref q_1, .int 0, .ref q_15, .null, .int 0, .int 0])) := by rw [hM_240, mw_ne _ _ (fun z => by have z1 := f_224; rw [z, hq_238] at z1; cases z1)]; exact f_224
  have ne_243 : a ≠ q_237 := fun z => by have z1 := f_224; rw [z, hq_238] at z1; cases z1
  have f_244 : M_240 q_1 = some (.inl (gB G, 120, .inr (.inr (.inr (.inr (fun _ => none)))))) := by rw [hM_240, mw_ne _ _ (fun z => by have z1 := f_225; rw [z, hq_238] at z1; cases z1)]; exact f_225
  have ne_245 : q_1 ≠ q_237 := fun z => by have z1 := f_225; rw [z, hq_238] at z1; cases z1
  have f_246 : M_240 q_15 = some (.inl (gF G, 8, .inr (.inr (.inr (.inr (va_up (va_up (va_up (va_up (fun _ => none) 0 (some q_33)) 1 (some q_69)) 2 (some q_115)) 3 (some q_171))))))) := by rw [hM_240, mw_ne _ _ (fun z => by have z1 := f_226; rw [z, hq_238] at z1; cases z1)]; exact f_226
  have ne_247 : q_15 ≠ q_237 := fun z => by have z1 := f_226; rw [z, hq_238] at z1; cases z1
  have f_248 : M_240 q_33 = some (.inr (1, [.ref r_47, .int 0, .int (-1), .int (-1), .int (-1), .int (-1)])) := by rw [hM_240, mw_ne _ _ (fun z => by have z1 := f_227; rw [z, hq_238] at z1; cases z1)]; exact f_227
  have ne_249 : q_33 ≠ q_237 := fun z => by have z1 := f_227; rw [z, hq_238] at z1; cases z1
  have f_250 : M_240 r_47 = some (.inl (gI G, 4, .inl (fun _ => 0))) := by rw [hM_240, mw_ne _ _ (fun z => by have z1 := f_228; rw [z, hq_238] at z1; cases z1)]; exact f_228
  have ne_251 : r_47 ≠ q_237 := fun z => by have z1 := f_228; rw [z, hq_238] at z1; cases z1
  have f_252 : M_240 q_69 = some (.inr (1, [.ref r_87, .int 0, .int (-1), .int (-1), .int (-1), .int (-1)])) := by rw [hM_240, mw_ne _ _ (fun z => by have z1 := f_229; rw [z, hq_238] at z1; cases z1)]; exact f_229
  have ne_253 : q_69 ≠ q_237 := fun z => by have z1 := f_229; rw [z, hq_238] at z1; cases z1
  have f_254 : M_240 r_87 = some (.inl (gI G, 4, .inl (fun _ => 0))) := by rw [hM_240, mw_ne _ _ (fun z => by have z1 := f_230; rw [z, hq_238] at z1; cases z1)]; exact f_230
  have ne_255 : r_87 ≠ q_237 := fun z => by have z1 := f_230; rw [z, hq_238] at z1; cases z1
  have f_256 : M_240 q_115 = some (.inr (1, [.ref r_137, .int 0, .int (-1), .int (-1), .int (-1), .int (-1)])) := by rw [hM_240, mw_ne _ _ (fun z => by have z1 := f_231; rw [z, hq_238] at z1; cases z1)]; exact f_231
  have ne_257 : q_115 ≠ q_237 := fun z => by have z1 := f_231; rw [z, hq_238] at z1; cases z1
  have f_258 : M_240 r_137 = some (.inl (gI G, 4, .inl (fun _ => 0))) := by rw [hM_240, mw_ne _ _ (fun z => by have z1 := f_232; rw [z, hq_238] at z1; cases z1)]; exact f_232
  have ne_259 : r_137 ≠ q_237 := fun z => by have z1 := f_232; rw [z, hq_238] at z1; cases z1
  have f_260 : M_240 q_171 = some (.inr (1, [.ref r_197, .int 0, .int (-1), .int (-1), .int (-1), .int (-1)])) := by rw [hM_240, mw_ne _ _ (fun z => by have z1 := f_233; rw [z, hq_238] at z1; cases z1)]; exact f_233
  have ne_261 : q_171 ≠ q_237 := fun z => by have z1 := f_233; rw [z, hq_238] at z1; cases z1
  have f_262 : M_240 r_197 = some (.inl (gI G, 4, .inl (fun _ => 0))) := by rw [hM_240, mw_ne _ _ (fun z => by have z1 := f_234; rw [z, hq_238] at z1; cases z1)]; exact f_234
  have ne_263 : r_197 ≠ q_237 := fun z => by have z1 := f_234; rw [z, hq_238] at z1; cases z1
  have f_264 : M_240 q_237 = some (.inr (1, [.null, .int 0, .int 0, .int 0, .int 0, .int 0])) := by rw [hM_240]; exact mw_self _ _ _
  have n0_265 : M q_237 = none := mw_hno hold_235 hq_238 ne_243
  have hold_266 : ∀ x9 e9, x9 ≠ a → M x9 = some e9 → M_240 x9 = some e9 := by rw [hM_240]; exact mw_hup hold_235 hq_238 _
  refine lv_dup hx hb dX3_init_38 rfl ?_
  refine mw_callI (As := []) (rest := [.ref q_237, .int 4, .ref q_15]) hx hb hml hown hl (kX1_init l htr G H.size M_240 (fun q h => hAn q (Nat.le_trans hS.1 h)) q_237 (hAn _ hs_239) f_264) (g_B (n := 0) htb wd29 wd2 wd27 (by decide +kernel) ⟨Nat.le_of_ble_eq_true rfl, Nat.le_of_ble_eq_true rfl⟩) (htb _ wd28) (htb _ wd29) rfl hE hP hS rfl rfl (Nat.le_of_ble_eq_true rfl) dX3_init_39 ⟨Nat.le_of_ble_eq_true rfl, Nat.le_of_ble_eq_true rfl⟩ (fun v9 M9 H locs hpo hP hz hS => ?_) (fun x9 E9 cell9 H9 locs9 hE9 => hE9.elim)
  obtain ⟨rfl, r_267, hr0, hAr_267, hqa, hrr, hxM_268⟩ := hpo
  obtain ⟨M_268, hM_268⟩ : ∃ z9 : mw_M, z9 = M9 := ⟨_, rfl⟩
  rw [← hM_268] at hP hqa hrr hxM_268
  have ne_270 : a ≠ r_267 := fun z => by have z1 := f_242; rw [z, hr0] at z1; cases z1
  have n0_269 : M r_267 = none := mw_hno hold_266 hr0 ne_270
  have ne_272 : a ≠ r_267 := fun z => by have z1 := f_242; rw [z, hr0] at z1; cases z1
  have f_271 : M_268 a = some (.inr (3, [.ref q_1, .int 0, .ref q_15, .null, .int 0, .int 0])) := hxM_268 _ _ ne_243 f_242
  have ne_274 : q_1 ≠ r_267 := fun z => by have z1 := f_244; rw [z, hr0] at z1; cases z1
  have f_273 : M_268 q_1 = some (.inl (gB G, 120, .inr (.inr (.inr (.inr (fun _ => none)))))) := hxM_268 _ _ ne_245 f_244
  have ne_276 : q_15 ≠ r_267 := fun z => by have z1 := f_246; rw [z, hr0] at z1; cases z1
  have f_275 : M_268 q_15 = some (.inl (gF G, 8, .inr (.inr (.inr (.inr (va_up (va_up (va_up (va_up (fun _ => none) 0 (some q_33)) 1 (some q_69)) 2 (some q_115)) 3 (some q_171))))))) := hxM_268 _ _ ne_247 f_246
  have ne_278 : q_33 ≠ r_267 := fun z => by have z1 := f_248; rw [z, hr0] at z1; cases z1
  have f_277 : M_268 q_33 = some (.inr (1, [.ref r_47, .int 0, .int (-1), .int (-1), .int (-1), .int (-1)])) := hxM_268 _ _ ne_249 f_248
  have ne_280 : r_47 ≠ r_267 := fun z => by have z1 := f_250; rw [z, hr0] at z1; cases z1
  have f_279 : M_268 r_47 = some (.inl (gI G, 4, .inl (fun _ => 0))) := hxM_268 _ _ ne_251 f_250
  have ne_282 : q_69 ≠ r_267 := fun z => by have z1 := f_252; rw [z, hr0] at z1; cases z1
  have f_281 : M_268 q_69 = some (.inr (1, [.ref r_87, .int 0, .int (-1), .int (-1), .int (-1), .int (-1)])) := hxM_268 _ _ ne_253 f_252
  have ne_284 : r_87 ≠ r_267 := fun z => by have z1 := f_254; rw [z, hr0] at z1; cases z1
  have f_283 : M_268 r_87 = some (.inl (gI G, 4, .inl (fun _ => 0))) := hxM_268 _ _ ne_255 f_254
  have ne_286 : q_115 ≠ r_267 := fun z => by have z1 := f_256; rw [z, hr0] at z1; cases z1
  have f_285 : M_268 q_115 = some (.inr (1, [.ref r_137, .int 0, .int (-1), .int (-1), .int (-1), .int (-1)])) := hxM_268 _ _ ne_257 f_256
  have ne_288 : r_137 ≠ r_267 := fun z => by have z1 := f_258; rw [z, hr0] at z1; cases z1
  have f_287 : M_268 r_137 = some (.inl (gI G, 4, .inl (fun _ => 0))) := hxM_268 _ _ ne_259 f_258
  have ne_290 : q_171 ≠ r_267 := fun z => by have z1 := f_260; rw [z, hr0] at z1; cases z1
  have f_289 : M_268 q_171 = some (.inr (1, [.ref r_197, .int 0, .int (-1), .int (-1), .int (-1), .int (-1)])) := hxM_268 _ _ ne_261 f_260
  have ne_292 : r_197 ≠ r_267 := fun z => by have z1 := f_262; rw [z, hr0] at z1; cases z1
  have f_291 : M_268 r_197 = some (.inl (gI G, 4, .inl (fun _ => 0))) := hxM_268 _ _ ne_263 f_262
  have ne_294 : q_237 ≠ r_267 := fun z => by have z1 := f_264; rw [z, hr0] at z1; cases z1
  have f_293 := hqa
  have f_295 := hrr
  have hold_296 : ∀ x9 e9, x9 ≠ a → M x9 = some e9 → M_268 x9 = some e9 := fun x9 e9 n9 h9 => hxM_268 x9 e9 (fun z9 => by rw [z9, n0_265] at h9; cases h9) (hold_266 x9 e9 n9 h9)
  refine W.eq (g2 := F0 m 42 ls [.ref q_237, .int 4, .ref q_15]) rfl ?_
  refine mw_aast (r := (RX1, TX1, 6)) hx hb hK hP hS 2 1 f_275 (hAn _ hs_17) rfl f_293 rfl (by unfold vp_in; decide) dX3_init_42 (fun H locs hP hS => ?_)
  rw [show (4 : Int32).toNatClampNeg = 4 from rfl] at hP
  obtain ⟨M_297, hM_297⟩ : ∃ z9 : mw_M, z9 = mw_up M_268 q_15 (.inl (gF G, 8, .inr (.inr (.inr (.inr (va_up (va_up (va_up (va_up (va_up (fun _ => none) 0 (some q_33)) 1 (some q_69)) 2 (some q_115)) 3 (some q_171)) 4 (some q_237))))))) := ⟨_, rfl⟩
  have hP : mw_P (gD G) gx_cl M_297 H := by rw [hM_297]; exact hP
  have f_298 : M_297 a = some (.inr (3, [.ref q_1, .int 0, .ref q_15, .null, .int 0, .int 0])) := by rw [hM_297, mw_ne _ _ ne_21]; exact f_271
  have f_299 : M_297 q_1 = some (.inl (gB G, 120, .inr (.inr (.inr (.inr (fun _ => none)))))) := by rw [hM_297, mw_ne _ _ ne_23]; exact f_273
  have f_300 : M_297 q_15 = some (.inl (gF G, 8, .inr (.inr (.inr (.inr (va_up (va_up (va_up (va_up (va_up (fun _ => none) 0 (some q_33)) 1 (some q_69)) 2 (some q_115)) 3 (some q_171)) 4 (some q_237))))))) := by rw [hM_297]; exact mw_self _ _ _
  have f_301 : M_297 q_33 = some (.inr (1, [.ref r_47, .int 0, .int (-1), .int (-1), .int (-1), .int (-1)])) := by rw [hM_297, mw_ne _ _ (Ne.symm ne_43)]; exact f_277
  have f_302 : M_297 r_47 = some (.inl (gI G, 4, .inl (fun _ => 0))) := by rw [hM_297, mw_ne _ _ (Ne.symm ne_56)]; exact f_279
  have f_303 : M_297 q_69 = some (.inr (1, [.ref r_87, .int 0, .int (-1), .int (-1), .int (-1), .int (-1)])) := by rw [hM_297, mw_ne _ _ (Ne.symm ne_79)]; exact f_281
  have f_304 : M_297 r_87 = some (.inl (gI G, 4, .inl (fun _ => 0))) := by rw [hM_297, mw_ne _ _ (Ne.symm ne_96)]; exact f_283
  have f_305 : M_297 q_115 = some (.inr (1, [.ref r_137, .int 0, .int (-1), .int (-1), .int (-1), .int (-1)])) := by rw [hM_297, mw_ne _ _ (Ne.symm ne_125)]; exact f_285
  have f_306 : M_297 r_137 = some (.inl (gI G, 4, .inl (fun _ => 0))) := by rw [hM_297, mw_ne _ _ (Ne.symm ne_146)]; exact f_287
  have f_307 : M_297 q_171 = some (.inr (1, [.ref r_197, .int 0, .int (-1), .int (-1), .int (-1), .int (-1)])) := by rw [hM_297, mw_ne _ _ (Ne.symm ne_181)]; exact f_289
  have f_308 : M_297 r_197 = some (.inl (gI G, 4, .inl (fun _ => 0))) := by rw [hM_297, mw_ne _ _ (Ne.symm ne_206)]; exact f_291
  have f_309 : M_297 q_237 = some (.inr (1, [.ref r_267, .int 0, .int (-1), .int (-1), .int (-1), .int (-1)])) := by rw [hM_297, mw_ne _ _ (Ne.symm ne_247)]; exact f_293
  have f_310 : M_297 r_267 = some (.inl (gI G, 4, .inl (fun _ => 0))) := by rw [hM_297, mw_ne _ _ (Ne.symm ne_276)]; exact f_295
  have hold_311 : ∀ x9 e9, x9 ≠ a → M x9 = some e9 → M_297 x9 = some e9 := fun x9 e9 n9 h9 => by rw [hM_297, mw_ne _ _ (fun z9 => by rw [z9, n0_25] at h9; cases h9)]; exact hold_296 x9 e9 n9 h9
  refine lv_iinc (v := 5) (lv' := [(1, .int 5), (0, .ref a)]) hx hb dX3_init_43 hl (k := 0) rfl (by decide) (by decide) rfl (fun ls hl => ?_)
  refine lv_goto (tgt := 24) hx hb dX3_init_46 (by decide) ?_
  refine lv_iload_n hx hb dX3_init_24 rfl (lv_at hl 0 rfl) ?_
  refine lv_bipush (v := 8) hx hb dX3_init_25 (by decide) ?_
  refine lv_icmp_ge (tgt := 49) hx hb dX3_init_27 (by decide) (fun c_312 => absurd c_312 (by decide)) (fun c_312 => ?_)
  refine lv_aload_n hx hb dX3_init_30 rfl (lv_at hl 1 rfl) ?_
  refine mw_get (D := gD G) (ci := 3) (v := .ref q_15) (C := RX3) (T := TX3) (N := 6) hx hb htb inX3 hown hK hP f_298 rfl 2 (by decide) (htb _ wd58) (fun _ h9 => h9) rfl dX3_init_31 ?_
  refine lv_iload_n hx hb dX3_init_34 rfl (lv_at hl 0 rfl) ?_
  refine mw_new (ci := 1) (fs := [.null, .int 0, .int 0, .int 0, .int 0, .int 0]) (C := RX1) (T := TX1) (N := 6) hx hb htb inX1 tyX1 tyX1_ok hown (htb _ wd24) (htb _ wd26) (htb _ wd2) hK hP hS rfl (fun j hj => by rcases (show j = 0 ∨ j = 1 ∨ j = 2 ∨ j = 3 ∨ j = 4 ∨ j = 5 by omega) with rfl | rfl | rfl | rfl | rfl | rfl <;> rfl) (Nat.le_of_ble_eq_true rfl) (Nat.le_of_ble_eq_true rfl) dX3_init_35 (fun q_313 H hq_314 hs_315 hP hS => ?_)
  obtain ⟨M_316, hM_316⟩ : ∃ z9 : mw_M, z9 = mw_up M_297 q_313 (.inr (1, [.null, .int 0, .int 0, .int 0, .int 0, .int 0])) := ⟨_, rfl⟩
  have hP : mw_P (gD G) gx_cl M_316 H := by rw [hM_316]; exact hP
  have f_318 : M_316 a = some (.inr (3, [.ref q_1, .int 0, .ref q_15, .null, .int 0, .int 0])) := by rw [hM_316, mw_ne _ _ (fun z => by have z1 := f_298; rw [z, hq_314] at z1; cases z1)]; exact f_298
  have ne_319 : a ≠ q_313 := fun z => by have z1 := f_298; rw [z, hq_314] at z1; cases z1
  have f_320 : M_316 q_1 = some (.inl (gB G, 120, .inr (.inr (.inr (.inr (fun _ => none)))))) := by rw [hM_316, mw_ne _ _ (fun z => by have z1 := f_299; rw [z, hq_314] at z1; cases z1)]; exact f_299
  have ne_321 : q_1 ≠ q_313 := fun z => by have z1 := f_299; rw [z, hq_314] at z1; cases z1
  have f_322 : M_316 q_15 = some (.inl (gF G, 8, .inr (.inr (.inr (.inr (va_up (va_up (va_up (va_up (va_up (fun _ => none) 0 (some q_33)) 1 (some q_69)) 2 (some q_115)) 3 (some q_171)) 4 (some q_237))))))) := by rw [hM_316, mw_ne _ _ (fun z => by have z1 := f_300; rw [z, hq_314] at z1; cases z1)]; exact f_300
  have ne_323 : q_15 ≠ q_313 := fun z => by have z1 := f_300; rw [z, hq_314] at z1; cases z1
  have f_324 : M_316 q_33 = some (.inr (1, [.ref r_47, .int 0, .int (-1), .int (-1), .int (-1), .int (-1)])) := by rw [hM_316, mw_ne _ _ (fun z => by have z1 := f_301; rw [z, hq_314] at z1; cases z1)]; exact f_301
  have ne_325 : q_33 ≠ q_313 := fun z => by have z1 := f_301; rw [z, hq_314] at z1; cases z1
  have f_326 : M_316 r_47 = some (.inl (gI G, 4, .inl (fun _ => 0))) := by rw [hM_316, mw_ne _ _ (fun z => by have z1 := f_302; rw [z, hq_314] at z1; cases z1)]; exact f_302
  have ne_327 : r_47 ≠ q_313 := fun z => by have z1 := f_302; rw [z, hq_314] at z1; cases z1
  have f_328 : M_316 q_69 = some (.inr (1, [.ref r_87, .int 0, .int (-1), .int (-1), .int (-1), .int (-1)])) := by rw [hM_316, mw_ne _ _ (fun z => by have z1 := f_303; rw [z, hq_314] at z1; cases z1)]; exact f_303
  have ne_329 : q_69 ≠ q_313 := fun z => by have z1 := f_303; rw [z, hq_314] at z1; cases z1
  have f_330 : M_316 r_87 = some (.inl (gI G, 4, .inl (fun _ => 0))) := by rw [hM_316, mw_ne _ _ (fun z => by have z1 := f_304; rw [z, hq_314] at z1; cases z1)]; exact f_304
  have ne_331 : r_87 ≠ q_313 := fun z => by have z1 := f_304; rw [z, hq_314] at z1; cases z1
  have f_332 : M_316 q_115 = some (.inr (1, [.ref r_137, .int 0, .int (-1), .int (-1), .int (-1), .int (-1)])) := by rw [hM_316, mw_ne _ _ (fun z => by have z1 := f_305; rw [z, hq_314] at z1; cases z1)]; exact f_305
  have ne_333 : q_115 ≠ q_313 := fun z => by have z1 := f_305; rw [z, hq_314] at z1; cases z1
  have f_334 : M_316 r_137 = some (.inl (gI G, 4, .inl (fun _ => 0))) := by rw [hM_316, mw_ne _ _ (fun z => by have z1 := f_306; rw [z, hq_314] at z1; cases z1)]; exact f_306
  have ne_335 : r_137 ≠ q_313 := fun z => by have z1 := f_306; rw [z, hq_314] at z1; cases z1
  have f_336 : M_316 q_171 = some (.inr (1, [.ref r_197, .int 0, .int (-1), .int (-1), .int (-1), .int (-1)])) := by rw [hM_316, mw_ne _ _ (fun z => by have z1 := f_307; rw [z, hq_314] at z1; cases z1)]; exact f_307
  have ne_337 : q_171 ≠ q_313 := fun z => by have z1 := f_307; rw [z, hq_314] at z1; cases z1
  have f_338 : M_316 r_197 = some (.inl (gI G, 4, .inl (fun _ => 0))) := by rw [hM_316, mw_ne _ _ (fun z => by have z1 := f_308; rw [z, hq_314] at z1; cases z1)]; exact f_308
  have ne_339 : r_197 ≠ q_313 := fun z => by have z1 := f_308; rw [z, hq_314] at z1; cases z1
  have f_340 : M_316 q_237 = some (.inr (1, [.ref r_267, .int 0, .int (-1), .int (-1), .int (-1), .int (-1)])) := by rw [hM_316, mw_ne _ _ (fun z => by have z1 := f_309; rw [z, hq_314] at z1; cases z1)]; exact f_309
  have ne_341 : q_237 ≠ q_313 := fun z => by have z1 := f_309; rw [z, hq_314] at z1; cases z1
  have f_342 : M_316 r_267 = some (.inl (gI G, 4, .inl (fun _ => 0))) := by rw [hM_316, mw_ne _ _ (fun z => by have z1 := f_310; rw [z, hq_314] at z1; cases z1)]; exact f_310
  have ne_343 : r_267 ≠ q_313 := fun z => by have z1 := f_310; rw [z, hq_314] at z1; cases z1
  have f_344 : M_316 q_313 = some (.inr (1, [.null, .int 0, .int 0, .int 0, .int 0, .int 0])) := by rw [hM_316]; exact mw_self _ _ _
  have n0_345 : M q_313 = none := mw_hno hold_311 hq_314 ne_319
  have hold_346 : ∀ x9 e9, x9 ≠ a → M x9 = some e9 → M_316 x9 = some e9 := by rw [hM_316]; exact mw_hup hold_311 hq_314 _
  refine lv_dup hx hb dX3_init_38 rfl ?_
  refine mw_callI (As := []) (rest := [.ref q_313, .int 5, .ref q_15]) hx hb hml hown hl (kX1_init l htr G H.size M_316 (fun q h => hAn q (Nat.le_trans hS.1 h)) q_313 (hAn _ hs_315) f_344) (g_B (n := 0) htb wd29 wd2 wd27 (by decide +kernel) ⟨Nat.le_of_ble_eq_true rfl, Nat.le_of_ble_eq_true rfl⟩) (htb _ wd28) (htb _ wd29) rfl hE hP hS rfl rfl (Nat.le_of_ble_eq_true rfl) dX3_init_39 ⟨Nat.le_of_ble_eq_true rfl, Nat.le_of_ble_eq_true rfl⟩ (fun v9 M9 H locs hpo hP hz hS => ?_) (fun x9 E9 cell9 H9 locs9 hE9 => hE9.elim)
  obtain ⟨rfl, r_347, hr0, hAr_347, hqa, hrr, hxM_348⟩ := hpo
  obtain ⟨M_348, hM_348⟩ : ∃ z9 : mw_M, z9 = M9 := ⟨_, rfl⟩
  rw [← hM_348] at hP hqa hrr hxM_348
  have ne_350 : a ≠ r_347 := fun z => by have z1 := f_318; rw [z, hr0] at z1; cases z1
  have n0_349 : M r_347 = none := mw_hno hold_346 hr0 ne_350
  have ne_352 : a ≠ r_347 := fun z => by have z1 := f_318; rw [z, hr0] at z1; cases z1
  have f_351 : M_348 a = some (.inr (3, [.ref q_1, .int 0, .ref q_15, .null, .int 0, .int 0])) := hxM_348 _ _ ne_319 f_318
  have ne_354 : q_1 ≠ r_347 := fun z => by have z1 := f_320; rw [z, hr0] at z1; cases z1
  have f_353 : M_348 q_1 = some (.inl (gB G, 120, .inr (.inr (.inr (.inr (fun _ => none)))))) := hxM_348 _ _ ne_321 f_320
  have ne_356 : q_15 ≠ r_347 := fun z => by have z1 := f_322; rw [z, hr0] at z1; cases z1
  have f_355 : M_348 q_15 = some (.inl (gF G, 8, .inr (.inr (.inr (.inr (va_up (va_up (va_up (va_up (va_up (fun _ => none) 0 (some q_33)) 1 (some q_69)) 2 (some q_115)) 3 (some q_171)) 4 (some q_237))))))) := hxM_348 _ _ ne_323 f_322
  have ne_358 : q_33 ≠ r_347 := fun z => by have z1 := f_324; rw [z, hr0] at z1; cases z1
  have f_357 : M_348 q_33 = some (.inr (1, [.ref r_47, .int 0, .int (-1), .int (-1), .int (-1), .int (-1)])) := hxM_348 _ _ ne_325 f_324
  have ne_360 : r_47 ≠ r_347 := fun z => by have z1 := f_326; rw [z, hr0] at z1; cases z1
  have f_359 : M_348 r_47 = some (.inl (gI G, 4, .inl (fun _ => 0))) := hxM_348 _ _ ne_327 f_326
  have ne_362 : q_69 ≠ r_347 := fun z => by have z1 := f_328; rw [z, hr0] at z1; cases z1
  have f_361 : M_348 q_69 = some (.inr (1, [.ref r_87, .int 0, .int (-1), .int (-1), .int (-1), .int (-1)])) := hxM_348 _ _ ne_329 f_328
  have ne_364 : r_87 ≠ r_347 := fun z => by have z1 := f_330; rw [z, hr0] at z1; cases z1
  have f_363 : M_348 r_87 = some (.inl (gI G, 4, .inl (fun _ => 0))) := hxM_348 _ _ ne_331 f_330
  have ne_366 : q_115 ≠ r_347 := fun z => by have z1 := f_332; rw [z, hr0] at z1; cases z1
  have f_365 : M_348 q_115 = some (.inr (1, [.ref r_137, .int 0, .int (-1), .int (-1), .int (-1), .int (-1)])) := hxM_348 _ _ ne_333 f_332
  have ne_368 : r_137 ≠ r_347 := fun z => by have z1 := f_334; rw [z, hr0] at z1; cases z1
  have f_367 : M_348 r_137 = some (.inl (gI G, 4, .inl (fun _ => 0))) := hxM_348 _ _ ne_335 f_334
  have ne_370 : q_171 ≠ r_347 := fun z => by have z1 := f_336; rw [z, hr0] at z1; cases z1
  have f_369 : M_348 q_171 = some (.inr (1, [.ref r_197, .int 0, .int (-1), .int (-1), .int (-1), .int (-1)])) := hxM_348 _ _ ne_337 f_336
  have ne_372 : r_197 ≠ r_347 := fun z => by have z1 := f_338; rw [z, hr0] at z1; cases z1
  have f_371 : M_348 r_197 = some (.inl (gI G, 4, .inl (fun _ => 0))) := hxM_348 _ _ ne_339 f_338
  have ne_374 : q_237 ≠ r_347 := fun z => by have z1 := f_340; rw [z, hr0] at z1; cases z1
  have f_373 : M_348 q_237 = some (.inr (1, [.ref r_267, .int 0, .int (-1), .int (-1), .int (-1), .int (-1)])) := hxM_348 _ _ ne_341 f_340
  have ne_376 : r_267 ≠ r_347 := fun z => by have z1 := f_342; rw [z, hr0] at z1; cases z1
  have f_375 : M_348 r_267 = some (.inl (gI G, 4, .inl (fun _ => 0))) := hxM_348 _ _ ne_343 f_342
  have ne_378 : q_313 ≠ r_347 := fun z => by have z1 := f_344; rw [z, hr0] at z1; cases z1
  have f_377 := hqa
  have f_379 := hrr
  have hold_380 : ∀ x9 e9, x9 ≠ a → M x9 = some e9 → M_348 x9 = some e9 := fun x9 e9 n9 h9 => hxM_348 x9 e9 (fun z9 => by rw [z9, n0_345] at h9; cases h9) (hold_346 x9 e9 n9 h9)
  refine W.eq (g2 := F0 m 42 ls [.ref q_313, .int 5, .ref q_15]) rfl ?_
  refine mw_aast (r := (RX1, TX1, 6)) hx hb hK hP hS 2 1 f_355 (hAn _ hs_17) rfl f_377 rfl (by unfold vp_in; decide) dX3_init_42 (fun H locs hP hS => ?_)
  rw [show (5 : Int32).toNatClampNeg = 5 from rfl] at hP
  obtain ⟨M_381, hM_381⟩ : ∃ z9 : mw_M, z9 = mw_up M_348 q_15 (.inl (gF G, 8, .inr (.inr (.inr (.inr (va_up (va_up (va_up (va_up (va_up (va_up (fun _ => none) 0 (some q_33)) 1 (some q_69)) 2 (some q_115)) 3 (some q_171)) 4 (some q_237)) 5 (some q_313))))))) := ⟨_, rfl⟩
  have hP : mw_P (gD G) gx_cl M_381 H := by rw [hM_381]; exact hP
  have f_382 : M_381 a = some (.inr (3, [.ref q_1, .int 0, .ref q_15, .null, .int 0, .int 0])) := by rw [hM_381, mw_ne _ _ ne_21]; exact f_351
  have f_383 : M_381 q_1 = some (.inl (gB G, 120, .inr (.inr (.inr (.inr (fun _ => none)))))) := by rw [hM_381, mw_ne _ _ ne_23]; exact f_353
  have f_384 : M_381 q_15 = some (.inl (gF G, 8, .inr (.inr (.inr (.inr (va_up (va_up (va_up (va_up (va_up (va_up (fun _ => none) 0 (some q_33)) 1 (some q_69)) 2 (some q_115)) 3 (some q_171)) 4 (some q_237)) 5 (some q_313))))))) := by rw [hM_381]; exact mw_self _ _ _
  have f_385 : M_381 q_33 = some (.inr (1, [.ref r_47, .int 0, .int (-1), .int (-1), .int (-1), .int (-1)])) := by rw [hM_381, mw_ne _ _ (Ne.symm ne_43)]; exact f_357
  have f_386 : M_381 r_47 = some (.inl (gI G, 4, .inl (fun _ => 0))) := by rw [hM_381, mw_ne _ _ (Ne.symm ne_56)]; exact f_359
  have f_387 : M_381 q_69 = some (.inr (1, [.ref r_87, .int 0, .int (-1), .int (-1), .int (-1), .int (-1)])) := by rw [hM_381, mw_ne _ _ (Ne.symm ne_79)]; exact f_361
  have f_388 : M_381 r_87 = some (.inl (gI G, 4, .inl (fun _ => 0))) := by rw [hM_381, mw_ne _ _ (Ne.symm ne_96)]; exact f_363
  have f_389 : M_381 q_115 = some (.inr (1, [.ref r_137, .int 0, .int (-1), .int (-1), .int (-1), .int (-1)])) := by rw [hM_381, mw_ne _ _ (Ne.symm ne_125)]; exact f_365
  have f_390 : M_381 r_137 = some (.inl (gI G, 4, .inl (fun _ => 0))) := by rw [hM_381, mw_ne _ _ (Ne.symm ne_146)]; exact f_367
  have f_391 : M_381 q_171 = some (.inr (1, [.ref r_197, .int 0, .int (-1), .int (-1), .int (-1), .int (-1)])) := by rw [hM_381, mw_ne _ _ (Ne.symm ne_181)]; exact f_369
  have f_392 : M_381 r_197 = some (.inl (gI G, 4, .inl (fun _ => 0))) := by rw [hM_381, mw_ne _ _ (Ne.symm ne_206)]; exact f_371
  have f_393 : M_381 q_237 = some (.inr (1, [.ref r_267, .int 0, .int (-1), .int (-1), .int (-1), .int (-1)])) := by rw [hM_381, mw_ne _ _ (Ne.symm ne_247)]; exact f_373
  have f_394 : M_381 r_267 = some (.inl (gI G, 4, .inl (fun _ => 0))) := by rw [hM_381, mw_ne _ _ (Ne.symm ne_276)]; exact f_375
  have f_395 : M_381 q_313 = some (.inr (1, [.ref r_347, .int 0, .int (-1), .int (-1), .int (-1), .int (-1)])) := by rw [hM_381, mw_ne _ _ (Ne.symm ne_323)]; exact f_377
  have f_396 : M_381 r_347 = some (.inl (gI G, 4, .inl (fun _ => 0))) := by rw [hM_381, mw_ne _ _ (Ne.symm ne_356)]; exact f_379
  have hold_397 : ∀ x9 e9, x9 ≠ a → M x9 = some e9 → M_381 x9 = some e9 := fun x9 e9 n9 h9 => by rw [hM_381, mw_ne _ _ (fun z9 => by rw [z9, n0_25] at h9; cases h9)]; exact hold_380 x9 e9 n9 h9
  refine lv_iinc (v := 6) (lv' := [(1, .int 6), (0, .ref a)]) hx hb dX3_init_43 hl (k := 0) rfl (by decide) (by decide) rfl (fun ls hl => ?_)
  refine lv_goto (tgt := 24) hx hb dX3_init_46 (by decide) ?_
  refine lv_iload_n hx hb dX3_init_24 rfl (lv_at hl 0 rfl) ?_
  refine lv_bipush (v := 8) hx hb dX3_init_25 (by decide) ?_
  refine lv_icmp_ge (tgt := 49) hx hb dX3_init_27 (by decide) (fun c_398 => absurd c_398 (by decide)) (fun c_398 => ?_)
  refine lv_aload_n hx hb dX3_init_30 rfl (lv_at hl 1 rfl) ?_
  refine mw_get (D := gD G) (ci := 3) (v := .ref q_15) (C := RX3) (T := TX3) (N := 6) hx hb htb inX3 hown hK hP f_382 rfl 2 (by decide) (htb _ wd58) (fun _ h9 => h9) rfl dX3_init_31 ?_
  refine lv_iload_n hx hb dX3_init_34 rfl (lv_at hl 0 rfl) ?_
  refine mw_new (ci := 1) (fs := [.null, .int 0, .int 0, .int 0, .int 0, .int 0]) (C := RX1) (T := TX1) (N := 6) hx hb htb inX1 tyX1 tyX1_ok hown (htb _ wd24) (htb _ wd26) (htb _ wd2) hK hP hS rfl (fun j hj => by rcases (show j = 0 ∨ j = 1 ∨ j = 2 ∨ j = 3 ∨ j = 4 ∨ j = 5 by omega) with rfl | rfl | rfl | rfl | rfl | rfl <;> rfl) (Nat.le_of_ble_eq_true rfl) (Nat.le_of_ble_eq_true rfl) dX3_init_35 (fun q_399 H hq_400 hs_401 hP hS => ?_)
  obtain ⟨M_402, hM_402⟩ : ∃ z9 : mw_M, z9 = mw_up M_381 q_399 (.inr (1, [.null, .int 0, .int 0, .int 0, .int 0, .int 0])) := ⟨_, rfl⟩
  have hP : mw_P (gD G) gx_cl M_402 H := by rw [hM_402]; exact hP
  have f_404 : M_402 a = some (.inr (3, [.ref q_1, .int 0, .ref q_15, .null, .int 0, .int 0])) := by rw [hM_402, mw_ne _ _ (fun z => by have z1 := f_382; rw [z, hq_400] at z1; cases z1)]; exact f_382
  have ne_405 : a ≠ q_399 := fun z => by have z1 := f_382; rw [z, hq_400] at z1; cases z1
  have f_406 : M_402 q_1 = some (.inl (gB G, 120, .inr (.inr (.inr (.inr (fun _ => none)))))) := by rw [hM_402, mw_ne _ _ (fun z => by have z1 := f_383; rw [z, hq_400] at z1; cases z1)]; exact f_383
  have ne_407 : q_1 ≠ q_399 := fun z => by have z1 := f_383; rw [z, hq_400] at z1; cases z1
  have f_408 : M_402 q_15 = some (.inl (gF G, 8, .inr (.inr (.inr (.inr (va_up (va_up (va_up (va_up (va_up (va_up (fun _ => none) 0 (some q_33)) 1 (some q_69)) 2 (some q_115)) 3 (some q_171)) 4 (some q_237)) 5 (some q_313))))))) := by rw [hM_402, mw_ne _ _ (fun z => by have z1 := f_384; rw [z, hq_400] at z1; cases z1)]; exact f_384
  have ne_409 : q_15 ≠ q_399 := fun z => by have z1 := f_384; rw [z, hq_400] at z1; cases z1
  have f_410 : M_402 q_33 = some (.inr (1, [.ref r_47, .int 0, .int (-1), .int (-1), .int (-1), .int (-1)])) := by rw [hM_402, mw_ne _ _ (fun z => by have z1 := f_385; rw [z, hq_400] at z1; cases z1)]; exact f_385
  have ne_411 : q_33 ≠ q_399 := fun z => by have z1 := f_385; rw [z, hq_400] at z1; cases z1
  have f_412 : M_402 r_47 = some (.inl (gI G, 4, .inl (fun _ => 0))) := by rw [hM_402, mw_ne _ _ (fun z => by have z1 := f_386; rw [z, hq_400] at z1; cases z1)]; exact f_386
  have ne_413 : r_47 ≠ q_399 := fun z => by have z1 := f_386; rw [z, hq_400] at z1; cases z1
  have f_414 : M_402 q_69 = some (.inr (1, [.ref r_87, .int 0, .int (-1), .int (-1), .int (-1), .int (-1)])) := by rw [hM_402, mw_ne _ _ (fun z => by have z1 := f_387; rw [z, hq_400] at z1; cases z1)]; exact f_387
  have ne_415 : q_69 ≠ q_399 := fun z => by have z1 := f_387; rw [z, hq_400] at z1; cases z1
  have f_416 : M_402 r_87 = some (.inl (gI G, 4, .inl (fun _ => 0))) := by rw [hM_402, mw_ne _ _ (fun z => by have z1 := f_388; rw [z, hq_400] at z1; cases z1)]; exact f_388
  have ne_417 : r_87 ≠ q_399 := fun z => by have z1 := f_388; rw [z, hq_400] at z1; cases z1
  have f_418 : M_402 q_115 = some (.inr (1, [.ref r_137, .int 0, .int (-1), .int (-1), .int (-1), .int (-1)])) := by rw [hM_402, mw_ne _ _ (fun z => by have z1 := f_389; rw [z, hq_400] at z1; cases z1)]; exact f_389
  have ne_419 : q_115 ≠ q_399 := fun z => by have z1 := f_389; rw [z, hq_400] at z1; cases z1
  have f_420 : M_402 r_137 = some (.inl (gI G, 4, .inl (fun _ => 0))) := by rw [hM_402, mw_ne _ _ (fun z => by have z1 := f_390; rw [z, hq_400] at z1; cases z1)]; exact f_390
  have ne_421 : r_137 ≠ q_399 := fun z => by have z1 := f_390; rw [z, hq_400] at z1; cases z1
  have f_422 : M_402 q_171 = some (.inr (1, [.ref r_197, .int 0, .int (-1), .int (-1), .int (-1), .int (-1)])) := by rw [hM_402, mw_ne _ _ (fun z => by have z1 := f_391; rw [z, hq_400] at z1; cases z1)]; exact f_391
  have ne_423 : q_171 ≠ q_399 := fun z => by have z1 := f_391; rw [z, hq_400] at z1; cases z1
  have f_424 : M_402 r_197 = some (.inl (gI G, 4, .inl (fun _ => 0))) := by rw [hM_402, mw_ne _ _ (fun z => by have z1 := f_392; rw [z, hq_400] at z1; cases z1)]; exact f_392
  have ne_425 : r_197 ≠ q_399 := fun z => by have z1 := f_392; rw [z, hq_400] at z1; cases z1
  have f_426 : M_402 q_237 = some (.inr (1, [.ref r_267, .int 0, .int (-1), .int (-1), .int (-1), .int (-1)])) := by rw [hM_402, mw_ne _ _ (fun z => by have z1 := f_393; rw [z, hq_400] at z1; cases z1)]; exact f_393
  have ne_427 : q_237 ≠ q_399 := fun z => by have z1 := f_393; rw [z, hq_400] at z1; cases z1
  have f_428 : M_402 r_267 = some (.inl (gI G, 4, .inl (fun _ => 0))) := by rw [hM_402, mw_ne _ _ (fun z => by have z1 := f_394; rw [z, hq_400] at z1; cases z1)]; exact f_394
  have ne_429 : r_267 ≠ q_399 := fun z => by have z1 := f_394; rw [z, hq_400] at z1; cases z1
  have f_430 : M_402 q_313 = some (.inr (1, [.ref r_347, .int 0, .int (-1), .int (-1), .int (-1), .int (-1)])) := by rw [hM_402, mw_ne _ _ (fun z => by have z1 := f_395; rw [z, hq_400] at z1; cases z1)]; exact f_395
  have ne_431 : q_313 ≠ q_399 := fun z => by have z1 := f_395; rw [z, hq_400] at z1; cases z1
  have f_432 : M_402 r_347 = some (.inl (gI G, 4, .inl (fun _ => 0))) := by rw [hM_402, mw_ne _ _ (fun z => by have z1 := f_396; rw [z, hq_400] at z1; cases z1)]; exact f_396
  have ne_433 : r_347 ≠ q_399 := fun z => by have z1 := f_396; rw [z, hq_400] at z1; cases z1
  have f_434 : M_402 q_399 = some (.inr (1, [.null, .int 0, .int 0, .int 0, .int 0, .int 0])) := by rw [hM_402]; exact mw_self _ _ _
  have n0_435 : M q_399 = none := mw_hno hold_397 hq_400 ne_405
  have hold_436 : ∀ x9 e9, x9 ≠ a → M x9 = some e9 → M_402 x9 = some e9 := by rw [hM_402]; exact mw_hup hold_397 hq_400 _
  refine lv_dup hx hb dX3_init_38 rfl ?_
  refine mw_callI (As := []) (rest := [.ref q_399, .int 6, .ref q_15]) hx hb hml hown hl (kX1_init l htr G H.size M_402 (fun q h => hAn q (Nat.le_trans hS.1 h)) q_399 (hAn _ hs_401) f_434) (g_B (n := 0) htb wd29 wd2 wd27 (by decide +kernel) ⟨Nat.le_of_ble_eq_true rfl, Nat.le_of_ble_eq_true rfl⟩) (htb _ wd28) (htb _ wd29) rfl hE hP hS rfl rfl (Nat.le_of_ble_eq_true rfl) dX3_init_39 ⟨Nat.le_of_ble_eq_true rfl, Nat.le_of_ble_eq_true rfl⟩ (fun v9 M9 H locs hpo hP hz hS => ?_) (fun x9 E9 cell9 H9 locs9 hE9 => hE9.elim)
  obtain ⟨rfl, r_437, hr0, hAr_437, hqa, hrr, hxM_438⟩ := hpo
  obtain ⟨M_438, hM_438⟩ : ∃ z9 : mw_M, z9 = M9 := ⟨_, rfl⟩
  rw [← hM_438] at hP hqa hrr hxM_438
  have ne_440 : a ≠ r_437 := fun z => by have z1 := f_404; rw [z, hr0] at z1; cases z1
  have n0_439 : M r_437 = none := mw_hno hold_436 hr0 ne_440
  have ne_442 : a ≠ r_437 := fun z => by have z1 := f_404; rw [z, hr0] at z1; cases z1
  have f_441 : M_438 a = some (.inr (3, [.ref q_1, .int 0, .ref q_15, .null, .int 0, .int 0])) := hxM_438 _ _ ne_405 f_404
  have ne_444 : q_1 ≠ r_437 := fun z => by have z1 := f_406; rw [z, hr0] at z1; cases z1
  have f_443 : M_438 q_1 = some (.inl (gB G, 120, .inr (.inr (.inr (.inr (fun _ => none)))))) := hxM_438 _ _ ne_407 f_406
  have ne_446 : q_15 ≠ r_437 := fun z => by have z1 := f_408; rw [z, hr0] at z1; cases z1
  have f_445 : M_438 q_15 = some (.inl (gF G, 8, .inr (.inr (.inr (.inr (va_up (va_up (va_up (va_up (va_up (va_up (fun _ => none) 0 (some q_33)) 1 (some q_69)) 2 (some q_115)) 3 (some q_171)) 4 (some q_237)) 5 (some q_313))))))) := hxM_438 _ _ ne_409 f_408
  have ne_448 : q_33 ≠ r_437 := fun z => by have z1 := f_410; rw [z, hr0] at z1; cases z1
  have f_447 : M_438 q_33 = some (.inr (1, [.ref r_47, .int 0, .int (-1), .int (-1), .int (-1), .int (-1)])) := hxM_438 _ _ ne_411 f_410
  have ne_450 : r_47 ≠ r_437 := fun z => by have z1 := f_412; rw [z, hr0] at z1; cases z1
  have f_449 : M_438 r_47 = some (.inl (gI G, 4, .inl (fun _ => 0))) := hxM_438 _ _ ne_413 f_412
  have ne_452 : q_69 ≠ r_437 := fun z => by have z1 := f_414; rw [z, hr0] at z1; cases z1
  have f_451 : M_438 q_69 = some (.inr (1, [.ref r_87, .int 0, .int (-1), .int (-1), .int (-1), .int (-1)])) := hxM_438 _ _ ne_415 f_414
  have ne_454 : r_87 ≠ r_437 := fun z => by have z1 := f_416; rw [z, hr0] at z1; cases z1
  have f_453 : M_438 r_87 = some (.inl (gI G, 4, .inl (fun _ => 0))) := hxM_438 _ _ ne_417 f_416
  have ne_456 : q_115 ≠ r_437 := fun z => by have z1 := f_418; rw [z, hr0] at z1; cases z1
  have f_455 : M_438 q_115 = some (.inr (1, [.ref r_137, .int 0, .int (-1), .int (-1), .int (-1), .int (-1)])) := hxM_438 _ _ ne_419 f_418
  have ne_458 : r_137 ≠ r_437 := fun z => by have z1 := f_420; rw [z, hr0] at z1; cases z1
  have f_457 : M_438 r_137 = some (.inl (gI G, 4, .inl (fun _ => 0))) := hxM_438 _ _ ne_421 f_420
  have ne_460 : q_171 ≠ r_437 := fun z => by have z1 := f_422; rw [z, hr0] at z1; cases z1
  have f_459 : M_438 q_171 = some (.inr (1, [.ref r_197, .int 0, .int (-1), .int (-1), .int (-1), .int (-1)])) := hxM_438 _ _ ne_423 f_422
  have ne_462 : r_197 ≠ r_437 := fun z => by have z1 := f_424; rw [z, hr0] at z1; cases z1
  have f_461 : M_438 r_197 = some (.inl (gI G, 4, .inl (fun _ => 0))) := hxM_438 _ _ ne_425 f_424
  have ne_464 : q_237 ≠ r_437 := fun z => by have z1 := f_426; rw [z, hr0] at z1; cases z1
  have f_463 : M_438 q_237 = some (.inr (1, [.ref r_267, .int 0, .int (-1), .int (-1), .int (-1), .int (-1)])) := hxM_438 _ _ ne_427 f_426
  have ne_466 : r_267 ≠ r_437 := fun z => by have z1 := f_428; rw [z, hr0] at z1; cases z1
  have f_465 : M_438 r_267 = some (.inl (gI G, 4, .inl (fun _ => 0))) := hxM_438 _ _ ne_429 f_428
  have ne_468 : q_313 ≠ r_437 := fun z => by have z1 := f_430; rw [z, hr0] at z1; cases z1
  have f_467 : M_438 q_313 = some (.inr (1, [.ref r_347, .int 0, .int (-1), .int (-1), .int (-1), .int (-1)])) := hxM_438 _ _ ne_431 f_430
  have ne_470 : r_347 ≠ r_437 := fun z => by have z1 := f_432; rw [z, hr0] at z1; cases z1
  have f_469 : M_438 r_347 = some (.inl (gI G, 4, .inl (fun _ => 0))) := hxM_438 _ _ ne_433 f_432
  have ne_472 : q_399 ≠ r_437 := fun z => by have z1 := f_434; rw [z, hr0] at z1; cases z1
  have f_471 := hqa
  have f_473 := hrr
  have hold_474 : ∀ x9 e9, x9 ≠ a → M x9 = some e9 → M_438 x9 = some e9 := fun x9 e9 n9 h9 => hxM_438 x9 e9 (fun z9 => by rw [z9, n0_435] at h9; cases h9) (hold_436 x9 e9 n9 h9)
  refine W.eq (g2 := F0 m 42 ls [.ref q_399, .int 6, .ref q_15]) rfl ?_
  refine mw_aast (r := (RX1, TX1, 6)) hx hb hK hP hS 2 1 f_445 (hAn _ hs_17) rfl f_471 rfl (by unfold vp_in; decide) dX3_init_42 (fun H locs hP hS => ?_)
  rw [show (6 : Int32).toNatClampNeg = 6 from rfl] at hP
  obtain ⟨M_475, hM_475⟩ : ∃ z9 : mw_M, z9 = mw_up M_438 q_15 (.inl (gF G, 8, .inr (.inr (.inr (.inr (va_up (va_up (va_up (va_up (va_up (va_up (va_up (fun _ => none) 0 (some q_33)) 1 (some q_69)) 2 (some q_115)) 3 (some q_171)) 4 (some q_237)) 5 (some q_313)) 6 (some q_399))))))) := ⟨_, rfl⟩
  have hP : mw_P (gD G) gx_cl M_475 H := by rw [hM_475]; exact hP
  have f_476 : M_475 a = some (.inr (3, [.ref q_1, .int 0, .ref q_15, .null, .int 0, .int 0])) := by rw [hM_475, mw_ne _ _ ne_21]; exact f_441
  have f_477 : M_475 q_1 = some (.inl (gB G, 120, .inr (.inr (.inr (.inr (fun _ => none)))))) := by rw [hM_475, mw_ne _ _ ne_23]; exact f_443
  have f_478 : M_475 q_15 = some (.inl (gF G, 8, .inr (.inr (.inr (.inr (va_up (va_up (va_up (va_up (va_up (va_up (va_up (fun _ => none) 0 (some q_33)) 1 (some q_69)) 2 (some q_115)) 3 (some q_171)) 4 (some q_237)) 5 (some q_313)) 6 (some q_399))))))) := by rw [hM_475]; exact mw_self _ _ _
  have f_479 : M_475 q_33 = some (.inr (1, [.ref r_47, .int 0, .int (-1), .int (-1), .int (-1), .int (-1)])) := by rw [hM_475, mw_ne _ _ (Ne.symm ne_43)]; exact f_447
  have f_480 : M_475 r_47 = some (.inl (gI G, 4, .inl (fun _ => 0))) := by rw [hM_475, mw_ne _ _ (Ne.symm ne_56)]; exact f_449
  have f_481 : M_475 q_69 = some (.inr (1, [.ref r_87, .int 0, .int (-1), .int (-1), .int (-1), .int (-1)])) := by rw [hM_475, mw_ne _ _ (Ne.symm ne_79)]; exact f_451
  have f_482 : M_475 r_87 = some (.inl (gI G, 4, .inl (fun _ => 0))) := by rw [hM_475, mw_ne _ _ (Ne.symm ne_96)]; exact f_453
  have f_483 : M_475 q_115 = some (.inr (1, [.ref r_137, .int 0, .int (-1), .int (-1), .int (-1), .int (-1)])) := by rw [hM_475, mw_ne _ _ (Ne.symm ne_125)]; exact f_455
  have f_484 : M_475 r_137 = some (.inl (gI G, 4, .inl (fun _ => 0))) := by rw [hM_475, mw_ne _ _ (Ne.symm ne_146)]; exact f_457
  have f_485 : M_475 q_171 = some (.inr (1, [.ref r_197, .int 0, .int (-1), .int (-1), .int (-1), .int (-1)])) := by rw [hM_475, mw_ne _ _ (Ne.symm ne_181)]; exact f_459
  have f_486 : M_475 r_197 = some (.inl (gI G, 4, .inl (fun _ => 0))) := by rw [hM_475, mw_ne _ _ (Ne.symm ne_206)]; exact f_461
  have f_487 : M_475 q_237 = some (.inr (1, [.ref r_267, .int 0, .int (-1), .int (-1), .int (-1), .int (-1)])) := by rw [hM_475, mw_ne _ _ (Ne.symm ne_247)]; exact f_463
  have f_488 : M_475 r_267 = some (.inl (gI G, 4, .inl (fun _ => 0))) := by rw [hM_475, mw_ne _ _ (Ne.symm ne_276)]; exact f_465
  have f_489 : M_475 q_313 = some (.inr (1, [.ref r_347, .int 0, .int (-1), .int (-1), .int (-1), .int (-1)])) := by rw [hM_475, mw_ne _ _ (Ne.symm ne_323)]; exact f_467
  have f_490 : M_475 r_347 = some (.inl (gI G, 4, .inl (fun _ => 0))) := by rw [hM_475, mw_ne _ _ (Ne.symm ne_356)]; exact f_469
  have f_491 : M_475 q_399 = some (.inr (1, [.ref r_437, .int 0, .int (-1), .int (-1), .int (-1), .int (-1)])) := by rw [hM_475, mw_ne _ _ (Ne.symm ne_409)]; exact f_471
  have f_492 : M_475 r_437 = some (.inl (gI G, 4, .inl (fun _ => 0))) := by rw [hM_475, mw_ne _ _ (Ne.symm ne_446)]; exact f_473
  have hold_493 : ∀ x9 e9, x9 ≠ a → M x9 = some e9 → M_475 x9 = some e9 := fun x9 e9 n9 h9 => by rw [hM_475, mw_ne _ _ (fun z9 => by rw [z9, n0_25] at h9; cases h9)]; exact hold_474 x9 e9 n9 h9
  refine lv_iinc (v := 7) (lv' := [(1, .int 7), (0, .ref a)]) hx hb dX3_init_43 hl (k := 0) rfl (by decide) (by decide) rfl (fun ls hl => ?_)
  refine lv_goto (tgt := 24) hx hb dX3_init_46 (by decide) ?_
  refine lv_iload_n hx hb dX3_init_24 rfl (lv_at hl 0 rfl) ?_
  refine lv_bipush (v := 8) hx hb dX3_init_25 (by decide) ?_
  refine lv_icmp_ge (tgt := 49) hx hb dX3_init_27 (by decide) (fun c_494 => absurd c_494 (by decide)) (fun c_494 => ?_)
  refine lv_aload_n hx hb dX3_init_30 rfl (lv_at hl 1 rfl) ?_
  refine mw_get (D := gD G) (ci := 3) (v := .ref q_15) (C := RX3) (T := TX3) (N := 6) hx hb htb inX3 hown hK hP f_476 rfl 2 (by decide) (htb _ wd58) (fun _ h9 => h9) rfl dX3_init_31 ?_
  refine lv_iload_n hx hb dX3_init_34 rfl (lv_at hl 0 rfl) ?_
  refine mw_new (ci := 1) (fs := [.null, .int 0, .int 0, .int 0, .int 0, .int 0]) (C := RX1) (T := TX1) (N := 6) hx hb htb inX1 tyX1 tyX1_ok hown (htb _ wd24) (htb _ wd26) (htb _ wd2) hK hP hS rfl (fun j hj => by rcases (show j = 0 ∨ j = 1 ∨ j = 2 ∨ j = 3 ∨ j = 4 ∨ j = 5 by omega) with rfl | rfl | rfl | rfl | rfl | rfl <;> rfl) (Nat.le_of_ble_eq_true rfl) (Nat.le_of_ble_eq_true rfl) dX3_init_35 (fun q_495 H hq_496 hs_497 hP hS => ?_)
  obtain ⟨M_498, hM_498⟩ : ∃ z9 : mw_M, z9 = mw_up M_475 q_495 (.inr (1, [.null, .int 0, .int 0, .int 0, .int 0, .int 0])) := ⟨_, rfl⟩
  have hP : mw_P (gD G) gx_cl M_498 H := by rw [hM_498]; exact hP
  have f_500 : M_498 a = some (.inr (3, [.ref q_1, .int 0, .ref q_15, .null, .int 0, .int 0])) := by rw [hM_498, mw_ne _ _ (fun z => by have z1 := f_476; rw [z, hq_496] at z1; cases z1)]; exact f_476
  have ne_501 : a ≠ q_495 := fun z => by have z1 := f_476; rw [z, hq_496] at z1; cases z1
  have f_502 : M_498 q_1 = some (.inl (gB G, 120, .inr (.inr (.inr (.inr (fun _ => none)))))) := by rw [hM_498, mw_ne _ _ (fun z => by have z1 := f_477; rw [z, hq_496] at z1; cases z1)]; exact f_477
  have ne_503 : q_1 ≠ q_495 := fun z => by have z1 := f_477; rw [z, hq_496] at z1; cases z1
  have f_504 : M_498 q_15 = some (.inl (gF G, 8, .inr (.inr (.inr (.inr (va_up (va_up (va_up (va_up (va_up (va_up (va_up (fun _ => none) 0 (some q_33)) 1 (some q_69)) 2 (some q_115)) 3 (some q_171)) 4 (some q_237)) 5 (some q_313)) 6 (some q_399))))))) := by rw [hM_498, mw_ne _ _ (fun z => by have z1 := f_478; rw [z, hq_496] at z1; cases z1)]; exact f_478
  have ne_505 : q_15 ≠ q_495 := fun z => by have z1 := f_478; rw [z, hq_496] at z1; cases z1
  have f_506 : M_498 q_33 = some (.inr (1, [.ref r_47, .int 0, .int (-1), .int (-1), .int (-1), .int (-1)])) := by rw [hM_498, mw_ne _ _ (fun z => by have z1 := f_479; rw [z, hq_496] at z1; cases z1)]; exact f_479
  have ne_507 : q_33 ≠ q_495 := fun z => by have z1 := f_479; rw [z, hq_496] at z1; cases z1
  have f_508 : M_498 r_47 = some (.inl (gI G, 4, .inl (fun _ => 0))) := by rw [hM_498, mw_ne _ _ (fun z => by have z1 := f_480; rw [z, hq_496] at z1; cases z1)]; exact f_480
  have ne_509 : r_47 ≠ q_495 := fun z => by have z1 := f_480; rw [z, hq_496] at z1; cases z1
  have f_510 : M_498 q_69 = some (.inr (1, [.ref r_87, .int 0, .int (-1), .int (-1), .int (-1), .int (-1)])) := by rw [hM_498, mw_ne _ _ (fun z => by have z1 := f_481; rw [z, hq_496] at z1; cases z1)]; exact f_481
  have ne_511 : q_69 ≠ q_495 := fun z => by have z1 := f_481; rw [z, hq_496] at z1; cases z1
  have f_512 : M_498 r_87 = some (.inl (gI G, 4, .inl (fun _ => 0))) := by rw [hM_498, mw_ne _ _ (fun z => by have z1 := f_482; rw [z, hq_496] at z1; cases z1)]; exact f_482
  have ne_513 : r_87 ≠ q_495 := fun z => by have z1 := f_482; rw [z, hq_496] at z1; cases z1
  have f_514 : M_498 q_115 = some (.inr (1, [.ref r_137, .int 0, .int (-1), .int (-1), .int (-1), .int (-1)])) := by rw [hM_498, mw_ne _ _ (fun z => by have z1 := f_483; rw [z, hq_496] at z1; cases z1)]; exact f_483
  have ne_515 : q_115 ≠ q_495 := fun z => by have z1 := f_483; rw [z, hq_496] at z1; cases z1
  have f_516 : M_498 r_137 = some (.inl (gI G, 4, .inl (fun _ => 0))) := by rw [hM_498, mw_ne _ _ (fun z => by have z1 := f_484; rw [z, hq_496] at z1; cases z1)]; exact f_484
  have ne_517 : r_137 ≠ q_495 := fun z => by have z1 := f_484; rw [z, hq_496] at z1; cases z1
  have f_518 : M_498 q_171 = some (.inr (1, [.ref r_197, .int 0, .int (-1), .int (-1), .int (-1), .int (-1)])) := by rw [hM_498, mw_ne _ _ (fun z => by have z1 := f_485; rw [z, hq_496] at z1; cases z1)]; exact f_485
  have ne_519 : q_171 ≠ q_495 := fun z => by have z1 := f_485; rw [z, hq_496] at z1; cases z1
  have f_520 : M_498 r_197 = some (.inl (gI G, 4, .inl (fun _ => 0))) := by rw [hM_498, mw_ne _ _ (fun z => by have z1 := f_486; rw [z, hq_496] at z1; cases z1)]; exact f_486
  have ne_521 : r_197 ≠ q_495 := fun z => by have z1 := f_486; rw [z, hq_496] at z1; cases z1
  have f_522 : M_498 q_237 = some (.inr (1, [.ref r_267, .int 0, .int (-1), .int (-1), .int (-1), .int (-1)])) := by rw [hM_498, mw_ne _ _ (fun z => by have z1 := f_487; rw [z, hq_496] at z1; cases z1)]; exact f_487
  have ne_523 : q_237 ≠ q_495 := fun z => by have z1 := f_487; rw [z, hq_496] at z1; cases z1
  have f_524 : M_498 r_267 = some (.inl (gI G, 4, .inl (fun _ => 0))) := by rw [hM_498, mw_ne _ _ (fun z => by have z1 := f_488; rw [z, hq_496] at z1; cases z1)]; exact f_488
  have ne_525 : r_267 ≠ q_495 := fun z => by have z1 := f_488; rw [z, hq_496] at z1; cases z1
  have f_526 : M_498 q_313 = some (.inr (1, [.ref r_347, .int 0, .int (-1), .int (-1), .int (-1), .int (-1)])) := by rw [hM_498, mw_ne _ _ (fun z => by have z1 := f_489; rw [z, hq_496] at z1; cases z1)]; exact f_489
  have ne_527 : q_313 ≠ q_495 := fun z => by have z1 := f_489; rw [z, hq_496] at z1; cases z1
  have f_528 : M_498 r_347 = some (.inl (gI G, 4, .inl (fun _ => 0))) := by rw [hM_498, mw_ne _ _ (fun z => by have z1 := f_490; rw [z, hq_496] at z1; cases z1)]; exact f_490
  have ne_529 : r_347 ≠ q_495 := fun z => by have z1 := f_490; rw [z, hq_496] at z1; cases z1
  have f_530 : M_498 q_399 = some (.inr (1, [.ref r_437, .int 0, .int (-1), .int (-1), .int (-1), .int (-1)])) := by rw [hM_498, mw_ne _ _ (fun z => by have z1 := f_491; rw [z, hq_496] at z1; cases z1)]; exact f_491
  have ne_531 : q_399 ≠ q_495 := fun z => by have z1 := f_491; rw [z, hq_496] at z1; cases z1
  have f_532 : M_498 r_437 = some (.inl (gI G, 4, .inl (fun _ => 0))) := by rw [hM_498, mw_ne _ _ (fun z => by have z1 := f_492; rw [z, hq_496] at z1; cases z1)]; exact f_492
  have ne_533 : r_437 ≠ q_495 := fun z => by have z1 := f_492; rw [z, hq_496] at z1; cases z1
  have f_534 : M_498 q_495 = some (.inr (1, [.null, .int 0, .int 0, .int 0, .int 0, .int 0])) := by rw [hM_498]; exact mw_self _ _ _
  have n0_535 : M q_495 = none := mw_hno hold_493 hq_496 ne_501
  have hold_536 : ∀ x9 e9, x9 ≠ a → M x9 = some e9 → M_498 x9 = some e9 := by rw [hM_498]; exact mw_hup hold_493 hq_496 _
  refine lv_dup hx hb dX3_init_38 rfl ?_
  refine mw_callI (As := []) (rest := [.ref q_495, .int 7, .ref q_15]) hx hb hml hown hl (kX1_init l htr G H.size M_498 (fun q h => hAn q (Nat.le_trans hS.1 h)) q_495 (hAn _ hs_497) f_534) (g_B (n := 0) htb wd29 wd2 wd27 (by decide +kernel) ⟨Nat.le_of_ble_eq_true rfl, Nat.le_of_ble_eq_true rfl⟩) (htb _ wd28) (htb _ wd29) rfl hE hP hS rfl rfl (Nat.le_of_ble_eq_true rfl) dX3_init_39 ⟨Nat.le_of_ble_eq_true rfl, Nat.le_of_ble_eq_true rfl⟩ (fun v9 M9 H locs hpo hP hz hS => ?_) (fun x9 E9 cell9 H9 locs9 hE9 => hE9.elim)
  obtain ⟨rfl, r_537, hr0, hAr_537, hqa, hrr, hxM_538⟩ := hpo
  obtain ⟨M_538, hM_538⟩ : ∃ z9 : mw_M, z9 = M9 := ⟨_, rfl⟩
  rw [← hM_538] at hP hqa hrr hxM_538
  have ne_540 : a ≠ r_537 := fun z => by have z1 := f_500; rw [z, hr0] at z1; cases z1
  have n0_539 : M r_537 = none := mw_hno hold_536 hr0 ne_540
  have ne_542 : a ≠ r_537 := fun z => by have z1 := f_500; rw [z, hr0] at z1; cases z1
  have f_541 : M_538 a = some (.inr (3, [.ref q_1, .int 0, .ref q_15, .null, .int 0, .int 0])) := hxM_538 _ _ ne_501 f_500
  have ne_544 : q_1 ≠ r_537 := fun z => by have z1 := f_502; rw [z, hr0] at z1; cases z1
  have f_543 : M_538 q_1 = some (.inl (gB G, 120, .inr (.inr (.inr (.inr (fun _ => none)))))) := hxM_538 _ _ ne_503 f_502
  have ne_546 : q_15 ≠ r_537 := fun z => by have z1 := f_504; rw [z, hr0] at z1; cases z1
  have f_545 : M_538 q_15 = some (.inl (gF G, 8, .inr (.inr (.inr (.inr (va_up (va_up (va_up (va_up (va_up (va_up (va_up (fun _ => none) 0 (some q_33)) 1 (some q_69)) 2 (some q_115)) 3 (some q_171)) 4 (some q_237)) 5 (some q_313)) 6 (some q_399))))))) := hxM_538 _ _ ne_505 f_504
  have ne_548 : q_33 ≠ r_537 := fun z => by have z1 := f_506; rw [z, hr0] at z1; cases z1
  have f_547 : M_538 q_33 = some (.inr (1, [.ref r_47, .int 0, .int (-1), .int (-1), .int (-1), .int (-1)])) := hxM_538 _ _ ne_507 f_506
  have ne_550 : r_47 ≠ r_537 := fun z => by have z1 := f_508; rw [z, hr0] at z1; cases z1
  have f_549 : M_538 r_47 = some (.inl (gI G, 4, .inl (fun _ => 0))) := hxM_538 _ _ ne_509 f_508
  have ne_552 : q_69 ≠ r_537 := fun z => by have z1 := f_510; rw [z, hr0] at z1; cases z1
  have f_551 : M_538 q_69 = some (.inr (1, [.ref r_87, .int 0, .int (-1), .int (-1), .int (-1), .int (-1)])) := hxM_538 _ _ ne_511 f_510
  have ne_554 : r_87 ≠ r_537 := fun z => by have z1 := f_512; rw [z, hr0] at z1; cases z1
  have f_553 : M_538 r_87 = some (.inl (gI G, 4, .inl (fun _ => 0))) := hxM_538 _ _ ne_513 f_512
  have ne_556 : q_115 ≠ r_537 := fun z => by have z1 := f_514; rw [z, hr0] at z1; cases z1
  have f_555 : M_538 q_115 = some (.inr (1, [.ref r_137, .int 0, .int (-1), .int (-1), .int (-1), .int (-1)])) := hxM_538 _ _ ne_515 f_514
  have ne_558 : r_137 ≠ r_537 := fun z => by have z1 := f_516; rw [z, hr0] at z1; cases z1
  have f_557 : M_538 r_137 = some (.inl (gI G, 4, .inl (fun _ => 0))) := hxM_538 _ _ ne_517 f_516
  have ne_560 : q_171 ≠ r_537 := fun z => by have z1 := f_518; rw [z, hr0] at z1; cases z1
  have f_559 : M_538 q_171 = some (.inr (1, [.ref r_197, .int 0, .int (-1), .int (-1), .int (-1), .int (-1)])) := hxM_538 _ _ ne_519 f_518
  have ne_562 : r_197 ≠ r_537 := fun z => by have z1 := f_520; rw [z, hr0] at z1; cases z1
  have f_561 : M_538 r_197 = some (.inl (gI G, 4, .inl (fun _ => 0))) := hxM_538 _ _ ne_521 f_520
  have ne_564 : q_237 ≠ r_537 := fun z => by have z1 := f_522; rw [z, hr0] at z1; cases z1
  have f_563 : M_538 q_237 = some (.inr (1, [.ref r_267, .int 0, .int (-1), .int (-1), .int (-1), .int (-1)])) := hxM_538 _ _ ne_523 f_522
  have ne_566 : r_267 ≠ r_537 := fun z => by have z1 := f_524; rw [z, hr0] at z1; cases z1
  have f_565 : M_538 r_267 = some (.inl (gI G, 4, .inl (fun _ => 0))) := hxM_538 _ _ ne_525 f_524
  have ne_568 : q_313 ≠ r_537 := fun z => by have z1 := f_526; rw [z, hr0] at z1; cases z1
  have f_567 : M_538 q_313 = some (.inr (1, [.ref r_347, .int 0, .int (-1), .int (-1), .int (-1), .int (-1)])) := hxM_538 _ _ ne_527 f_526
  have ne_570 : r_347 ≠ r_537 := fun z => by have z1 := f_528; rw [z, hr0] at z1; cases z1
  have f_569 : M_538 r_347 = some (.inl (gI G, 4, .inl (fun _ => 0))) := hxM_538 _ _ ne_529 f_528
  have ne_572 : q_399 ≠ r_537 := fun z => by have z1 := f_530; rw [z, hr0] at z1; cases z1
  have f_571 : M_538 q_399 = some (.inr (1, [.ref r_437, .int 0, .int (-1), .int (-1), .int (-1), .int (-1)])) := hxM_538 _ _ ne_531 f_530
  have ne_574 : r_437 ≠ r_537 := fun z => by have z1 := f_532; rw [z, hr0] at z1; cases z1
  have f_573 : M_538 r_437 = some (.inl (gI G, 4, .inl (fun _ => 0))) := hxM_538 _ _ ne_533 f_532
  have ne_576 : q_495 ≠ r_537 := fun z => by have z1 := f_534; rw [z, hr0] at z1; cases z1
  have f_575 := hqa
  have f_577 := hrr
  have hold_578 : ∀ x9 e9, x9 ≠ a → M x9 = some e9 → M_538 x9 = some e9 := fun x9 e9 n9 h9 => hxM_538 x9 e9 (fun z9 => by rw [z9, n0_535] at h9; cases h9) (hold_536 x9 e9 n9 h9)
  refine W.eq (g2 := F0 m 42 ls [.ref q_495, .int 7, .ref q_15]) rfl ?_
  refine mw_aast (r := (RX1, TX1, 6)) hx hb hK hP hS 2 1 f_545 (hAn _ hs_17) rfl f_575 rfl (by unfold vp_in; decide) dX3_init_42 (fun H locs hP hS => ?_)
  rw [show (7 : Int32).toNatClampNeg = 7 from rfl] at hP
  obtain ⟨M_579, hM_579⟩ : ∃ z9 : mw_M, z9 = mw_up M_538 q_15 (.inl (gF G, 8, .inr (.inr (.inr (.inr (va_up (va_up (va_up (va_up (va_up (va_up (va_up (va_up (fun _ => none) 0 (some q_33)) 1 (some q_69)) 2 (some q_115)) 3 (some q_171)) 4 (some q_237)) 5 (some q_313)) 6 (some q_399)) 7 (some q_495))))))) := ⟨_, rfl⟩
  have hP : mw_P (gD G) gx_cl M_579 H := by rw [hM_579]; exact hP
  have f_580 : M_579 a = some (.inr (3, [.ref q_1, .int 0, .ref q_15, .null, .int 0, .int 0])) := by rw [hM_579, mw_ne _ _ ne_21]; exact f_541
  have f_581 : M_579 q_1 = some (.inl (gB G, 120, .inr (.inr (.inr (.inr (fun _ => none)))))) := by rw [hM_579, mw_ne _ _ ne_23]; exact f_543
  have f_582 : M_579 q_15 = some (.inl (gF G, 8, .inr (.inr (.inr (.inr (va_up (va_up (va_up (va_up (va_up (va_up (va_up (va_up (fun _ => none) 0 (some q_33)) 1 (some q_69)) 2 (some q_115)) 3 (some q_171)) 4 (some q_237)) 5 (some q_313)) 6 (some q_399)) 7 (some q_495))))))) := by rw [hM_579]; exact mw_self _ _ _
  have f_583 : M_579 q_33 = some (.inr (1, [.ref r_47, .int 0, .int (-1), .int (-1), .int (-1), .int (-1)])) := by rw [hM_579, mw_ne _ _ (Ne.symm ne_43)]; exact f_547
  have f_584 : M_579 r_47 = some (.inl (gI G, 4, .inl (fun _ => 0))) := by rw [hM_579, mw_ne _ _ (Ne.symm ne_56)]; exact f_549
  have f_585 : M_579 q_69 = some (.inr (1, [.ref r_87, .int 0, .int (-1), .int (-1), .int (-1), .int (-1)])) := by rw [hM_579, mw_ne _ _ (Ne.symm ne_79)]; exact f_551
  have f_586 : M_579 r_87 = some (.inl (gI G, 4, .inl (fun _ => 0))) := by rw [hM_579, mw_ne _ _ (Ne.symm ne_96)]; exact f_553
  have f_587 : M_579 q_115 = some (.inr (1, [.ref r_137, .int 0, .int (-1), .int (-1), .int (-1), .int (-1)])) := by rw [hM_579, mw_ne _ _ (Ne.symm ne_125)]; exact f_555
  have f_588 : M_579 r_137 = some (.inl (gI G, 4, .inl (fun _ => 0))) := by rw [hM_579, mw_ne _ _ (Ne.symm ne_146)]; exact f_557
  have f_589 : M_579 q_171 = some (.inr (1, [.ref r_197, .int 0, .int (-1), .int (-1), .int (-1), .int (-1)])) := by rw [hM_579, mw_ne _ _ (Ne.symm ne_181)]; exact f_559
  have f_590 : M_579 r_197 = some (.inl (gI G, 4, .inl (fun _ => 0))) := by rw [hM_579, mw_ne _ _ (Ne.symm ne_206)]; exact f_561
  have f_591 : M_579 q_237 = some (.inr (1, [.ref r_267, .int 0, .int (-1), .int (-1), .int (-1), .int (-1)])) := by rw [hM_579, mw_ne _ _ (Ne.symm ne_247)]; exact f_563
  have f_592 : M_579 r_267 = some (.inl (gI G, 4, .inl (fun _ => 0))) := by rw [hM_579, mw_ne _ _ (Ne.symm ne_276)]; exact f_565
  have f_593 : M_579 q_313 = some (.inr (1, [.ref r_347, .int 0, .int (-1), .int (-1), .int (-1), .int (-1)])) := by rw [hM_579, mw_ne _ _ (Ne.symm ne_323)]; exact f_567
  have f_594 : M_579 r_347 = some (.inl (gI G, 4, .inl (fun _ => 0))) := by rw [hM_579, mw_ne _ _ (Ne.symm ne_356)]; exact f_569
  have f_595 : M_579 q_399 = some (.inr (1, [.ref r_437, .int 0, .int (-1), .int (-1), .int (-1), .int (-1)])) := by rw [hM_579, mw_ne _ _ (Ne.symm ne_409)]; exact f_571
  have f_596 : M_579 r_437 = some (.inl (gI G, 4, .inl (fun _ => 0))) := by rw [hM_579, mw_ne _ _ (Ne.symm ne_446)]; exact f_573
  have f_597 : M_579 q_495 = some (.inr (1, [.ref r_537, .int 0, .int (-1), .int (-1), .int (-1), .int (-1)])) := by rw [hM_579, mw_ne _ _ (Ne.symm ne_505)]; exact f_575
  have f_598 : M_579 r_537 = some (.inl (gI G, 4, .inl (fun _ => 0))) := by rw [hM_579, mw_ne _ _ (Ne.symm ne_546)]; exact f_577
  have hold_599 : ∀ x9 e9, x9 ≠ a → M x9 = some e9 → M_579 x9 = some e9 := fun x9 e9 n9 h9 => by rw [hM_579, mw_ne _ _ (fun z9 => by rw [z9, n0_25] at h9; cases h9)]; exact hold_578 x9 e9 n9 h9
  refine lv_iinc (v := 8) (lv' := [(1, .int 8), (0, .ref a)]) hx hb dX3_init_43 hl (k := 0) rfl (by decide) (by decide) rfl (fun ls hl => ?_)
  refine lv_goto (tgt := 24) hx hb dX3_init_46 (by decide) ?_
  refine lv_iload_n hx hb dX3_init_24 rfl (lv_at hl 0 rfl) ?_
  refine lv_bipush (v := 8) hx hb dX3_init_25 (by decide) ?_
  refine lv_icmp_ge (tgt := 49) hx hb dX3_init_27 (by decide) (fun c_600 => ?_) (fun c_600 => absurd (by decide) c_600)
  refine lv_aload_n hx hb dX3_init_49 rfl (lv_at hl 1 rfl) ?_
  refine lv_bipush (v := 63) hx hb dX3_init_50 (by decide) ?_
  refine mw_newi (N := 63) hx hb (htb _ wd55) hK hP hS 0 rfl (by decide) (by decide) (by decide) (Nat.le_of_ble_eq_true rfl) (Nat.le_of_ble_eq_true rfl) dX3_init_52 (fun q_601 H hq_602 hs_603 hP hS => ?_)
  obtain ⟨M_604, hM_604⟩ : ∃ z9 : mw_M, z9 = mw_up M_579 q_601 (.inl (gI G, 63, .inl (fun _ => 0))) := ⟨_, rfl⟩
  have hP : mw_P (gD G) gx_cl M_604 H := by rw [hM_604]; exact hP
  have f_606 : M_604 a = some (.inr (3, [.ref q_1, .int 0, .ref q_15, .null, .int 0, .int 0])) := by rw [hM_604, mw_ne _ _ (fun z => by have z1 := f_580; rw [z, hq_602] at z1; cases z1)]; exact f_580
  have ne_607 : a ≠ q_601 := fun z => by have z1 := f_580; rw [z, hq_602] at z1; cases z1
  have f_608 : M_604 q_1 = some (.inl (gB G, 120, .inr (.inr (.inr (.inr (fun _ => none)))))) := by rw [hM_604, mw_ne _ _ (fun z => by have z1 := f_581; rw [z, hq_602] at z1; cases z1)]; exact f_581
  have ne_609 : q_1 ≠ q_601 := fun z => by have z1 := f_581; rw [z, hq_602] at z1; cases z1
  have f_610 : M_604 q_15 = some (.inl (gF G, 8, .inr (.inr (.inr (.inr (va_up (va_up (va_up (va_up (va_up (va_up (va_up (va_up (fun _ => none) 0 (some q_33)) 1 (some q_69)) 2 (some q_115)) 3 (some q_171)) 4 (some q_237)) 5 (some q_313)) 6 (some q_399)) 7 (some q_495))))))) := by rw [hM_604, mw_ne _ _ (fun z => by have z1 := f_582; rw [z, hq_602] at z1; cases z1)]; exact f_582
  have ne_611 : q_15 ≠ q_601 := fun z => by have z1 := f_582; rw [z, hq_602] at z1; cases z1
  have f_612 : M_604 q_33 = some (.inr (1, [.ref r_47, .int 0, .int (-1), .int (-1), .int (-1), .int (-1)])) := by rw [hM_604, mw_ne _ _ (fun z => by have z1 := f_583; rw [z, hq_602] at z1; cases z1)]; exact f_583
  have ne_613 : q_33 ≠ q_601 := fun z => by have z1 := f_583; rw [z, hq_602] at z1; cases z1
  have f_614 : M_604 r_47 = some (.inl (gI G, 4, .inl (fun _ => 0))) := by rw [hM_604, mw_ne _ _ (fun z => by have z1 := f_584; rw [z, hq_602] at z1; cases z1)]; exact f_584
  have ne_615 : r_47 ≠ q_601 := fun z => by have z1 := f_584; rw [z, hq_602] at z1; cases z1
  have f_616 : M_604 q_69 = some (.inr (1, [.ref r_87, .int 0, .int (-1), .int (-1), .int (-1), .int (-1)])) := by rw [hM_604, mw_ne _ _ (fun z => by have z1 := f_585; rw [z, hq_602] at z1; cases z1)]; exact f_585
  have ne_617 : q_69 ≠ q_601 := fun z => by have z1 := f_585; rw [z, hq_602] at z1; cases z1
  have f_618 : M_604 r_87 = some (.inl (gI G, 4, .inl (fun _ => 0))) := by rw [hM_604, mw_ne _ _ (fun z => by have z1 := f_586; rw [z, hq_602] at z1; cases z1)]; exact f_586
  have ne_619 : r_87 ≠ q_601 := fun z => by have z1 := f_586; rw [z, hq_602] at z1; cases z1
  have f_620 : M_604 q_115 = some (.inr (1, [.ref r_137, .int 0, .int (-1), .int (-1), .int (-1), .int (-1)])) := by rw [hM_604, mw_ne _ _ (fun z => by have z1 := f_587; rw [z, hq_602] at z1; cases z1)]; exact f_587
  have ne_621 : q_115 ≠ q_601 := fun z => by have z1 := f_587; rw [z, hq_602] at z1; cases z1
  have f_622 : M_604 r_137 = some (.inl (gI G, 4, .inl (fun _ => 0))) := by rw [hM_604, mw_ne _ _ (fun z => by have z1 := f_588; rw [z, hq_602] at z1; cases z1)]; exact f_588
  have ne_623 : r_137 ≠ q_601 := fun z => by have z1 := f_588; rw [z, hq_602] at z1; cases z1
  have f_624 : M_604 q_171 = some (.inr (1, [.ref r_197, .int 0, .int (-1), .int (-1), .int (-1), .int (-1)])) := by rw [hM_604, mw_ne _ _ (fun z => by have z1 := f_589; rw [z, hq_602] at z1; cases z1)]; exact f_589
  have ne_625 : q_171 ≠ q_601 := fun z => by have z1 := f_589; rw [z, hq_602] at z1; cases z1
  have f_626 : M_604 r_197 = some (.inl (gI G, 4, .inl (fun _ => 0))) := by rw [hM_604, mw_ne _ _ (fun z => by have z1 := f_590; rw [z, hq_602] at z1; cases z1)]; exact f_590
  have ne_627 : r_197 ≠ q_601 := fun z => by have z1 := f_590; rw [z, hq_602] at z1; cases z1
  have f_628 : M_604 q_237 = some (.inr (1, [.ref r_267, .int 0, .int (-1), .int (-1), .int (-1), .int (-1)])) := by rw [hM_604, mw_ne _ _ (fun z => by have z1 := f_591; rw [z, hq_602] at z1; cases z1)]; exact f_591
  have ne_629 : q_237 ≠ q_601 := fun z => by have z1 := f_591; rw [z, hq_602] at z1; cases z1
  have f_630 : M_604 r_267 = some (.inl (gI G, 4, .inl (fun _ => 0))) := by rw [hM_604, mw_ne _ _ (fun z => by have z1 := f_592; rw [z, hq_602] at z1; cases z1)]; exact f_592
  have ne_631 : r_267 ≠ q_601 := fun z => by have z1 := f_592; rw [z, hq_602] at z1; cases z1
  have f_632 : M_604 q_313 = some (.inr (1, [.ref r_347, .int 0, .int (-1), .int (-1), .int (-1), .int (-1)])) := by rw [hM_604, mw_ne _ _ (fun z => by have z1 := f_593; rw [z, hq_602] at z1; cases z1)]; exact f_593
  have ne_633 : q_313 ≠ q_601 := fun z => by have z1 := f_593; rw [z, hq_602] at z1; cases z1
  have f_634 : M_604 r_347 = some (.inl (gI G, 4, .inl (fun _ => 0))) := by rw [hM_604, mw_ne _ _ (fun z => by have z1 := f_594; rw [z, hq_602] at z1; cases z1)]; exact f_594
  have ne_635 : r_347 ≠ q_601 := fun z => by have z1 := f_594; rw [z, hq_602] at z1; cases z1
  have f_636 : M_604 q_399 = some (.inr (1, [.ref r_437, .int 0, .int (-1), .int (-1), .int (-1), .int (-1)])) := by rw [hM_604, mw_ne _ _ (fun z => by have z1 := f_595; rw [z, hq_602] at z1; cases z1)]; exact f_595
  have ne_637 : q_399 ≠ q_601 := fun z => by have z1 := f_595; rw [z, hq_602] at z1; cases z1
  have f_638 : M_604 r_437 = some (.inl (gI G, 4, .inl (fun _ => 0))) := by rw [hM_604, mw_ne _ _ (fun z => by have z1 := f_596; rw [z, hq_602] at z1; cases z1)]; exact f_596
  have ne_639 : r_437 ≠ q_601 := fun z => by have z1 := f_596; rw [z, hq_602] at z1; cases z1
  have f_640 : M_604 q_495 = some (.inr (1, [.ref r_537, .int 0, .int (-1), .int (-1), .int (-1), .int (-1)])) := by rw [hM_604, mw_ne _ _ (fun z => by have z1 := f_597; rw [z, hq_602] at z1; cases z1)]; exact f_597
  have ne_641 : q_495 ≠ q_601 := fun z => by have z1 := f_597; rw [z, hq_602] at z1; cases z1
  have f_642 : M_604 r_537 = some (.inl (gI G, 4, .inl (fun _ => 0))) := by rw [hM_604, mw_ne _ _ (fun z => by have z1 := f_598; rw [z, hq_602] at z1; cases z1)]; exact f_598
  have ne_643 : r_537 ≠ q_601 := fun z => by have z1 := f_598; rw [z, hq_602] at z1; cases z1
  have f_644 : M_604 q_601 = some (.inl (gI G, 63, .inl (fun _ => 0))) := by rw [hM_604]; exact mw_self _ _ _
  have n0_645 : M q_601 = none := mw_hno hold_599 hq_602 ne_607
  have hold_646 : ∀ x9 e9, x9 ≠ a → M x9 = some e9 → M_604 x9 = some e9 := by rw [hM_604]; exact mw_hup hold_599 hq_602 _
  refine mw_putF (D := gD G) (ci := 3) (v := .ref q_601) (ty := .array (.int)) (C := RX3) (T := TX3) (N := 6) hx hb htb inX3 tyX3 tyX3_ok nmX3 hown hK hP hS f_606 hAa rfl 3 (by decide) (htb _ wd59) (fun _ h9 => h9) rfl hin rfl (by decide +kernel) rfl rfl (Nat.le_of_ble_eq_true rfl) dX3_init_54 (fun H locs hP hS => ?_)
  obtain ⟨M_647, hM_647⟩ : ∃ z9 : mw_M, z9 = mw_up M_604 a (.inr (3, [.ref q_1, .int 0, .ref q_15, .ref q_601, .int 0, .int 0])) := ⟨_, rfl⟩
  have hP : mw_P (gD G) gx_cl M_647 H := by rw [hM_647]; exact hP
  have f_648 : M_647 a = some (.inr (3, [.ref q_1, .int 0, .ref q_15, .ref q_601, .int 0, .int 0])) := by rw [hM_647]; exact mw_self _ _ _
  have f_649 : M_647 q_1 = some (.inl (gB G, 120, .inr (.inr (.inr (.inr (fun _ => none)))))) := by rw [hM_647, mw_ne _ _ (Ne.symm ne_7)]; exact f_608
  have f_650 : M_647 q_15 = some (.inl (gF G, 8, .inr (.inr (.inr (.inr (va_up (va_up (va_up (va_up (va_up (va_up (va_up (va_up (fun _ => none) 0 (some q_33)) 1 (some q_69)) 2 (some q_115)) 3 (some q_171)) 4 (some q_237)) 5 (some q_313)) 6 (some q_399)) 7 (some q_495))))))) := by rw [hM_647, mw_ne _ _ (Ne.symm ne_21)]; exact f_610
  have f_651 : M_647 q_33 = some (.inr (1, [.ref r_47, .int 0, .int (-1), .int (-1), .int (-1), .int (-1)])) := by rw [hM_647, mw_ne _ _ (Ne.symm ne_39)]; exact f_612
  have f_652 : M_647 r_47 = some (.inl (gI G, 4, .inl (fun _ => 0))) := by rw [hM_647, mw_ne _ _ (Ne.symm ne_52)]; exact f_614
  have f_653 : M_647 q_69 = some (.inr (1, [.ref r_87, .int 0, .int (-1), .int (-1), .int (-1), .int (-1)])) := by rw [hM_647, mw_ne _ _ (Ne.symm ne_75)]; exact f_616
  have f_654 : M_647 r_87 = some (.inl (gI G, 4, .inl (fun _ => 0))) := by rw [hM_647, mw_ne _ _ (Ne.symm ne_92)]; exact f_618
  have f_655 : M_647 q_115 = some (.inr (1, [.ref r_137, .int 0, .int (-1), .int (-1), .int (-1), .int (-1)])) := by rw [hM_647, mw_ne _ _ (Ne.symm ne_121)]; exact f_620
  have f_656 : M_647 r_137 = some (.inl (gI G, 4, .inl (fun _ => 0))) := by rw [hM_647, mw_ne _ _ (Ne.symm ne_142)]; exact f_622
  have f_657 : M_647 q_171 = some (.inr (1, [.ref r_197, .int 0, .int (-1), .int (-1), .int (-1), .int (-1)])) := by rw [hM_647, mw_ne _ _ (Ne.symm ne_177)]; exact f_624
  have f_658 : M_647 r_197 = some (.inl (gI G, 4, .inl (fun _ => 0))) := by rw [hM_647, mw_ne _ _ (Ne.symm ne_202)]; exact f_626
  have f_659 : M_647 q_237 = some (.inr (1, [.ref r_267, .int 0, .int (-1), .int (-1), .int (-1), .int (-1)])) := by rw [hM_647, mw_ne _ _ (Ne.symm ne_243)]; exact f_628
  have f_660 : M_647 r_267 = some (.inl (gI G, 4, .inl (fun _ => 0))) := by rw [hM_647, mw_ne _ _ (Ne.symm ne_272)]; exact f_630
  have f_661 : M_647 q_313 = some (.inr (1, [.ref r_347, .int 0, .int (-1), .int (-1), .int (-1), .int (-1)])) := by rw [hM_647, mw_ne _ _ (Ne.symm ne_319)]; exact f_632
  have f_662 : M_647 r_347 = some (.inl (gI G, 4, .inl (fun _ => 0))) := by rw [hM_647, mw_ne _ _ (Ne.symm ne_352)]; exact f_634
  have f_663 : M_647 q_399 = some (.inr (1, [.ref r_437, .int 0, .int (-1), .int (-1), .int (-1), .int (-1)])) := by rw [hM_647, mw_ne _ _ (Ne.symm ne_405)]; exact f_636
  have f_664 : M_647 r_437 = some (.inl (gI G, 4, .inl (fun _ => 0))) := by rw [hM_647, mw_ne _ _ (Ne.symm ne_442)]; exact f_638
  have f_665 : M_647 q_495 = some (.inr (1, [.ref r_537, .int 0, .int (-1), .int (-1), .int (-1), .int (-1)])) := by rw [hM_647, mw_ne _ _ (Ne.symm ne_501)]; exact f_640
  have f_666 : M_647 r_537 = some (.inl (gI G, 4, .inl (fun _ => 0))) := by rw [hM_647, mw_ne _ _ (Ne.symm ne_542)]; exact f_642
  have f_667 : M_647 q_601 = some (.inl (gI G, 63, .inl (fun _ => 0))) := by rw [hM_647, mw_ne _ _ (Ne.symm ne_607)]; exact f_644
  have hold_668 : ∀ x9 e9, x9 ≠ a → M x9 = some e9 → M_647 x9 = some e9 := fun x9 e9 n9 h9 => by rw [hM_647, mw_ne _ _ n9]; exact hold_646 x9 e9 n9 h9
  have hmu : ∀ (X : Nat → Prop) x, fs_mu ((a, q_1, q_15, q_601, (fun k => [q_33, q_69, q_115, q_171, q_237, q_313, q_399, q_495].getD k 0), (fun k => [r_47, r_87, r_137, r_197, r_267, r_347, r_437, r_537].getD k 0), X) : fs_A) x → (x = a ∨ M x = none) ∧ gA G x := by
    intro X x hx9
    rcases hx9 with rfl | rfl | rfl | rfl | ⟨k, hk, h⟩
    · exact ⟨Or.inl rfl, hAa⟩
    · exact ⟨Or.inr n0_9, (hAn _ hs_3)⟩
    · exact ⟨Or.inr n0_25, (hAn _ hs_17)⟩
    · exact ⟨Or.inr n0_645, (hAn _ hs_603)⟩
    · rcases (show k = 0 ∨ k = 1 ∨ k = 2 ∨ k = 3 ∨ k = 4 ∨ k = 5 ∨ k = 6 ∨ k = 7 by omega) with rfl | rfl | rfl | rfl | rfl | rfl | rfl | rfl
      · rcases h with rfl | rfl
        · exact ⟨Or.inr n0_45, (hAn _ hs_35)⟩
        · exact ⟨Or.inr n0_49, hAr_47⟩
      · rcases h with rfl | rfl
        · exact ⟨Or.inr n0_85, (hAn _ hs_71)⟩
        · exact ⟨Or.inr n0_89, hAr_87⟩
      · rcases h with rfl | rfl
        · exact ⟨Or.inr n0_135, (hAn _ hs_117)⟩
        · exact ⟨Or.inr n0_139, hAr_137⟩
      · rcases h with rfl | rfl
        · exact ⟨Or.inr n0_195, (hAn _ hs_173)⟩
        · exact ⟨Or.inr n0_199, hAr_197⟩
      · rcases h with rfl | rfl
        · exact ⟨Or.inr n0_265, (hAn _ hs_239)⟩
        · exact ⟨Or.inr n0_269, hAr_267⟩
      · rcases h with rfl | rfl
        · exact ⟨Or.inr n0_345, (hAn _ hs_315)⟩
        · exact ⟨Or.inr n0_349, hAr_347⟩
      · rcases h with rfl | rfl
        · exact ⟨Or.inr n0_435, (hAn _ hs_401)⟩
        · exact ⟨Or.inr n0_439, hAr_437⟩
      · rcases h with rfl | rfl
        · exact ⟨Or.inr n0_535, (hAn _ hs_497)⟩
        · exact ⟨Or.inr n0_539, hAr_537⟩
  have hR9 : ∀ X : Nat → Prop, (∀ x, fs_mu ((a, q_1, q_15, q_601, (fun k => [q_33, q_69, q_115, q_171, q_237, q_313, q_399, q_495].getD k 0), (fun k => [r_47, r_87, r_137, r_197, r_267, r_347, r_437, r_537].getD k 0), X) : fs_A) x → X x) → fs_R G (a, q_1, q_15, q_601, (fun k => [q_33, q_69, q_115, q_171, q_237, q_313, q_399, q_495].getD k 0), (fun k => [r_47, r_87, r_137, r_197, r_267, r_347, r_437, r_537].getD k 0), X) M_647 fs_S0 := by
    intro X hX
    refine ⟨fun _ => none, _, fun _ => 0, f_648, f_649, f_650, f_667, fun j hj => rfl, fun i hi => absurd hi (Nat.not_lt_zero i), fun k hk => ?_, fs_S0_ok, hX, fun x hx => (hmu X x hx).2, fun i j hi hj e9 => ?_, fun i j hi hj e9 => ?_⟩
    · rcases (show k = 0 ∨ k = 1 ∨ k = 2 ∨ k = 3 ∨ k = 4 ∨ k = 5 ∨ k = 6 ∨ k = 7 by omega) with rfl | rfl | rfl | rfl | rfl | rfl | rfl | rfl
      · exact ⟨rfl, _, f_651, f_652, fun j hj => absurd hj (Nat.not_lt_zero j)⟩
      · exact ⟨rfl, _, f_653, f_654, fun j hj => absurd hj (Nat.not_lt_zero j)⟩
      · exact ⟨rfl, _, f_655, f_656, fun j hj => absurd hj (Nat.not_lt_zero j)⟩
      · exact ⟨rfl, _, f_657, f_658, fun j hj => absurd hj (Nat.not_lt_zero j)⟩
      · exact ⟨rfl, _, f_659, f_660, fun j hj => absurd hj (Nat.not_lt_zero j)⟩
      · exact ⟨rfl, _, f_661, f_662, fun j hj => absurd hj (Nat.not_lt_zero j)⟩
      · exact ⟨rfl, _, f_663, f_664, fun j hj => absurd hj (Nat.not_lt_zero j)⟩
      · exact ⟨rfl, _, f_665, f_666, fun j hj => absurd hj (Nat.not_lt_zero j)⟩
    · rcases (show i = 0 ∨ i = 1 ∨ i = 2 ∨ i = 3 ∨ i = 4 ∨ i = 5 ∨ i = 6 ∨ i = 7 by omega) with rfl | rfl | rfl | rfl | rfl | rfl | rfl | rfl
      · rcases (show j = 0 ∨ j = 1 ∨ j = 2 ∨ j = 3 ∨ j = 4 ∨ j = 5 ∨ j = 6 ∨ j = 7 by omega) with rfl | rfl | rfl | rfl | rfl | rfl | rfl | rfl
        · rfl
        · exact absurd e9 ne_81
        · exact absurd e9 ne_127
        · exact absurd e9 ne_183
        · exact absurd e9 ne_249
        · exact absurd e9 ne_325
        · exact absurd e9 ne_411
        · exact absurd e9 ne_507
      · rcases (show j = 0 ∨ j = 1 ∨ j = 2 ∨ j = 3 ∨ j = 4 ∨ j = 5 ∨ j = 6 ∨ j = 7 by omega) with rfl | rfl | rfl | rfl | rfl | rfl | rfl | rfl
        · exact absurd e9 (Ne.symm ne_81)
        · rfl
        · exact absurd e9 ne_131
        · exact absurd e9 ne_187
        · exact absurd e9 ne_253
        · exact absurd e9 ne_329
        · exact absurd e9 ne_415
        · exact absurd e9 ne_511
      · rcases (show j = 0 ∨ j = 1 ∨ j = 2 ∨ j = 3 ∨ j = 4 ∨ j = 5 ∨ j = 6 ∨ j = 7 by omega) with rfl | rfl | rfl | rfl | rfl | rfl | rfl | rfl
        · exact absurd e9 (Ne.symm ne_127)
        · exact absurd e9 (Ne.symm ne_131)
        · rfl
        · exact absurd e9 ne_191
        · exact absurd e9 ne_257
        · exact absurd e9 ne_333
        · exact absurd e9 ne_419
        · exact absurd e9 ne_515
      · rcases (show j = 0 ∨ j = 1 ∨ j = 2 ∨ j = 3 ∨ j = 4 ∨ j = 5 ∨ j = 6 ∨ j = 7 by omega) with rfl | rfl | rfl | rfl | rfl | rfl | rfl | rfl
        · exact absurd e9 (Ne.symm ne_183)
        · exact absurd e9 (Ne.symm ne_187)
        · exact absurd e9 (Ne.symm ne_191)
        · rfl
        · exact absurd e9 ne_261
        · exact absurd e9 ne_337
        · exact absurd e9 ne_423
        · exact absurd e9 ne_519
      · rcases (show j = 0 ∨ j = 1 ∨ j = 2 ∨ j = 3 ∨ j = 4 ∨ j = 5 ∨ j = 6 ∨ j = 7 by omega) with rfl | rfl | rfl | rfl | rfl | rfl | rfl | rfl
        · exact absurd e9 (Ne.symm ne_249)
        · exact absurd e9 (Ne.symm ne_253)
        · exact absurd e9 (Ne.symm ne_257)
        · exact absurd e9 (Ne.symm ne_261)
        · rfl
        · exact absurd e9 ne_341
        · exact absurd e9 ne_427
        · exact absurd e9 ne_523
      · rcases (show j = 0 ∨ j = 1 ∨ j = 2 ∨ j = 3 ∨ j = 4 ∨ j = 5 ∨ j = 6 ∨ j = 7 by omega) with rfl | rfl | rfl | rfl | rfl | rfl | rfl | rfl
        · exact absurd e9 (Ne.symm ne_325)
        · exact absurd e9 (Ne.symm ne_329)
        · exact absurd e9 (Ne.symm ne_333)
        · exact absurd e9 (Ne.symm ne_337)
        · exact absurd e9 (Ne.symm ne_341)
        · rfl
        · exact absurd e9 ne_431
        · exact absurd e9 ne_527
      · rcases (show j = 0 ∨ j = 1 ∨ j = 2 ∨ j = 3 ∨ j = 4 ∨ j = 5 ∨ j = 6 ∨ j = 7 by omega) with rfl | rfl | rfl | rfl | rfl | rfl | rfl | rfl
        · exact absurd e9 (Ne.symm ne_411)
        · exact absurd e9 (Ne.symm ne_415)
        · exact absurd e9 (Ne.symm ne_419)
        · exact absurd e9 (Ne.symm ne_423)
        · exact absurd e9 (Ne.symm ne_427)
        · exact absurd e9 (Ne.symm ne_431)
        · rfl
        · exact absurd e9 ne_531
      · rcases (show j = 0 ∨ j = 1 ∨ j = 2 ∨ j = 3 ∨ j = 4 ∨ j = 5 ∨ j = 6 ∨ j = 7 by omega) with rfl | rfl | rfl | rfl | rfl | rfl | rfl | rfl
        · exact absurd e9 (Ne.symm ne_507)
        · exact absurd e9 (Ne.symm ne_511)
        · exact absurd e9 (Ne.symm ne_515)
        · exact absurd e9 (Ne.symm ne_519)
        · exact absurd e9 (Ne.symm ne_523)
        · exact absurd e9 (Ne.symm ne_527)
        · exact absurd e9 (Ne.symm ne_531)
        · rfl
    · rcases (show i = 0 ∨ i = 1 ∨ i = 2 ∨ i = 3 ∨ i = 4 ∨ i = 5 ∨ i = 6 ∨ i = 7 by omega) with rfl | rfl | rfl | rfl | rfl | rfl | rfl | rfl
      · rcases (show j = 0 ∨ j = 1 ∨ j = 2 ∨ j = 3 ∨ j = 4 ∨ j = 5 ∨ j = 6 ∨ j = 7 by omega) with rfl | rfl | rfl | rfl | rfl | rfl | rfl | rfl
        · rfl
        · exact absurd e9 ne_100
        · exact absurd e9 ne_150
        · exact absurd e9 ne_210
        · exact absurd e9 ne_280
        · exact absurd e9 ne_360
        · exact absurd e9 ne_450
        · exact absurd e9 ne_550
      · rcases (show j = 0 ∨ j = 1 ∨ j = 2 ∨ j = 3 ∨ j = 4 ∨ j = 5 ∨ j = 6 ∨ j = 7 by omega) with rfl | rfl | rfl | rfl | rfl | rfl | rfl | rfl
        · exact absurd e9 (Ne.symm ne_100)
        · rfl
        · exact absurd e9 ne_154
        · exact absurd e9 ne_214
        · exact absurd e9 ne_284
        · exact absurd e9 ne_364
        · exact absurd e9 ne_454
        · exact absurd e9 ne_554
      · rcases (show j = 0 ∨ j = 1 ∨ j = 2 ∨ j = 3 ∨ j = 4 ∨ j = 5 ∨ j = 6 ∨ j = 7 by omega) with rfl | rfl | rfl | rfl | rfl | rfl | rfl | rfl
        · exact absurd e9 (Ne.symm ne_150)
        · exact absurd e9 (Ne.symm ne_154)
        · rfl
        · exact absurd e9 ne_218
        · exact absurd e9 ne_288
        · exact absurd e9 ne_368
        · exact absurd e9 ne_458
        · exact absurd e9 ne_558
      · rcases (show j = 0 ∨ j = 1 ∨ j = 2 ∨ j = 3 ∨ j = 4 ∨ j = 5 ∨ j = 6 ∨ j = 7 by omega) with rfl | rfl | rfl | rfl | rfl | rfl | rfl | rfl
        · exact absurd e9 (Ne.symm ne_210)
        · exact absurd e9 (Ne.symm ne_214)
        · exact absurd e9 (Ne.symm ne_218)
        · rfl
        · exact absurd e9 ne_292
        · exact absurd e9 ne_372
        · exact absurd e9 ne_462
        · exact absurd e9 ne_562
      · rcases (show j = 0 ∨ j = 1 ∨ j = 2 ∨ j = 3 ∨ j = 4 ∨ j = 5 ∨ j = 6 ∨ j = 7 by omega) with rfl | rfl | rfl | rfl | rfl | rfl | rfl | rfl
        · exact absurd e9 (Ne.symm ne_280)
        · exact absurd e9 (Ne.symm ne_284)
        · exact absurd e9 (Ne.symm ne_288)
        · exact absurd e9 (Ne.symm ne_292)
        · rfl
        · exact absurd e9 ne_376
        · exact absurd e9 ne_466
        · exact absurd e9 ne_566
      · rcases (show j = 0 ∨ j = 1 ∨ j = 2 ∨ j = 3 ∨ j = 4 ∨ j = 5 ∨ j = 6 ∨ j = 7 by omega) with rfl | rfl | rfl | rfl | rfl | rfl | rfl | rfl
        · exact absurd e9 (Ne.symm ne_360)
        · exact absurd e9 (Ne.symm ne_364)
        · exact absurd e9 (Ne.symm ne_368)
        · exact absurd e9 (Ne.symm ne_372)
        · exact absurd e9 (Ne.symm ne_376)
        · rfl
        · exact absurd e9 ne_470
        · exact absurd e9 ne_570
      · rcases (show j = 0 ∨ j = 1 ∨ j = 2 ∨ j = 3 ∨ j = 4 ∨ j = 5 ∨ j = 6 ∨ j = 7 by omega) with rfl | rfl | rfl | rfl | rfl | rfl | rfl | rfl
        · exact absurd e9 (Ne.symm ne_450)
        · exact absurd e9 (Ne.symm ne_454)
        · exact absurd e9 (Ne.symm ne_458)
        · exact absurd e9 (Ne.symm ne_462)
        · exact absurd e9 (Ne.symm ne_466)
        · exact absurd e9 (Ne.symm ne_470)
        · rfl
        · exact absurd e9 ne_574
      · rcases (show j = 0 ∨ j = 1 ∨ j = 2 ∨ j = 3 ∨ j = 4 ∨ j = 5 ∨ j = 6 ∨ j = 7 by omega) with rfl | rfl | rfl | rfl | rfl | rfl | rfl | rfl
        · exact absurd e9 (Ne.symm ne_550)
        · exact absurd e9 (Ne.symm ne_554)
        · exact absurd e9 (Ne.symm ne_558)
        · exact absurd e9 (Ne.symm ne_562)
        · exact absurd e9 (Ne.symm ne_566)
        · exact absurd e9 (Ne.symm ne_570)
        · exact absurd e9 (Ne.symm ne_574)
        · rfl
  exact mx_vret (M' := M_647) hx hb hr hlocks hP hS ⟨rfl, q_1, q_15, q_601, _, _, hR9, fun x hx => (hmu (fun _ => True) x hx).1, hold_668⟩ dX3_init_57 (Nat.le_of_ble_eq_true rfl) (Nat.le_of_ble_eq_true rfl)
