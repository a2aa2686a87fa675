/-! printed by wip/whole/spec*.py -/
theorem md_ab0 : md_ab 0 (fun _ => 0) (fun _ _ => 0) fs_S0 :=
  ⟨Nat.zero_le _, Nat.zero_le _, fun i hi => absurd hi (Nat.not_lt_zero i), fun i hi => absurd hi (Nat.succ_ne_zero i), fun j hj => rfl, fun i hi => ⟨rfl, rfl⟩, fun k hk => ⟨rfl, Nat.zero_le _, fun j hj => absurd hj (Nat.not_lt_zero j), (if_pos rfl).symm, fun q => absurd rfl q⟩⟩
-- FormulaShapesModel()
set_option maxHeartbeats 4000000 in
set_option maxRecDepth 100000 in
theorem kX4_init (l : Launch) (htr : l.stackTraces = false) (G : gx_G) (sz : Nat) (M : mw_M) (hA : ∀ q : Nat, sz ≤ q → gA G q) (a : Nat) (hAa : gA G a) (ha : M a = some (.inr (4, [.int 0, .null, .int 0, .int 0, .int 0, .null, .null, .null, .null, .null, .null, .null, .int 0, .null, .null, .null, .null, .null, .null, .null, .int 0]))) : g_Met l G yX4_init (.code yX4_init cX4_init 1 none) ({ frames := 1, cells := 16, slots := 46000, locals := 80 } : Room) sz M [.ref a] (fun v M9 => v = none ∧ ∃ A : Nat → Nat, md_R G a A M9 0 0 fs_S0 ∧ (∀ j, j < 15 → M (A j) = none) ∧ ∀ x e, x ≠ a → M x = some e → M9 x = some e) (fun _ => False) := by
  refine MetE.ofW (cc := cX4_init) (maxL := 1) (ret := none) (by decide) rfl ?_
  intro p e s m args below meth c s₁ B hml hv
  obtain ⟨rfl, hsz, hP, hE⟩ := hv
  have hx := B.exec
  have hb := B.bytes
  have hr := B.returns
  have hts := atoms_spec (ws := _ :: lw_big) B.pre
  have htb : ∀ w ∈ lw_big, w.before _ s = true := fun w h => hts w (List.mem_cons_of_mem _ h)
  have hno := B.noHandlers (hts _ List.mem_cons_self)
  have hown : s.vm.findClass RX4 = some m.cls := findClass_of_methodNamed B.named
  have hlocks := B.notSynchronized
  have hin : meth.name = "<init>" := (name_of_methodNamed B.named B.method).1
  have hK := hE.1
  subst hsz
  have hAn : ∀ q : Nat, s.heap.size ≤ q → gA G q := hA
  have hS : va_S (gA G) s.heap s.heap [] := va_S.rf
  have hl := lv_entry ([.ref a]) (n := 1) (Nat.le_of_ble_eq_true rfl)
  rw [lg_entry_eq]
  generalize (lg_sl ([.ref a]) ++ List.replicate (1 - (lg_sl ([.ref a])).length) Slot.unset).toArray = ls at hl ⊢
  have hl : lv_has ls 1 [(0, .ref a)] := hl
  have hold : ∀ x9 e9, x9 ≠ a → M x9 = some e9 → M x9 = some e9 := fun _ _ _ h => h
  refine lv_aload_n hx hb dX4_init_0 rfl (lv_at hl 0 rfl) ?_
  refine W.objInit hx hb hown (htb _ wd523) (htb _ wd20) (htb _ wd21) rfl (by rw [hml]; exact hl.1) rfl dX4_init_1 (Nat.le_of_ble_eq_true rfl) (Nat.le_of_ble_eq_true rfl) ?_
  refine W.eq (g2 := F0 m 4 ls []) rfl ?_
  refine lv_aload_n hx hb dX4_init_4 rfl (lv_at hl 0 rfl) ?_
  refine lv_bipush (v := 63) hx hb dX4_init_5 (by decide) ?_
  refine mw_newi (N := 63) hx hb (htb _ wd55) hK hP hS 0 rfl (by decide) (by decide) (by decide) (Nat.le_of_ble_eq_true rfl) (Nat.le_of_ble_eq_true rfl) dX4_init_7 (fun q_1 H hq_2 hs_3 hP hS => ?_)
  obtain ⟨M_4, hM_4⟩ : ∃ z9 : mw_M, z9 = mw_up M q_1 (.inl (gI G, 63, .inl (fun _ => 0))) := ⟨_, rfl⟩
  have hP : mw_P (gD G) gx_cl M_4 H := by rw [hM_4]; exact hP
  have f_6 : M_4 a = some (.inr (4, [.int 0, .null, .int 0, .int 0, .int 0, .null, .null, .null, .null, .null, .null, .null, .int 0, .null, .null, .null, .null, .null, .null, .null, .int 0])) := by rw [hM_4, mw_ne _ _ (fun z => by have z1 := ha; rw [z, hq_2] at z1; cases z1)]; exact ha
  have ne_7 : a ≠ q_1 := fun z => by have z1 := ha; rw [z, hq_2] at z1; cases z1
  have f_8 : M_4 q_1 = some (.inl (gI G, 63, .inl (fun _ => 0))) := by rw [hM_4]; exact mw_self _ _ _
  have n0_9 : M q_1 = none := mw_hno hold hq_2 ne_7
  have hold_10 : ∀ x9 e9, x9 ≠ a → M x9 = some e9 → M_4 x9 = some e9 := by rw [hM_4]; exact mw_hup hold hq_2 _
  refine mw_putF (D := gD G) (ci := 4) (v := .ref q_1) (ty := .array (.int)) (C := RX4) (T := TX4) (N := 21) hx hb htb inX4 tyX4 tyX4_ok nmX4 hown hK hP hS f_6 hAa rfl 1 (by decide) (htb _ wd525) (fun _ h9 => h9) rfl hin rfl (by decide +kernel) rfl rfl (Nat.le_of_ble_eq_true rfl) dX4_init_9 (fun H locs hP hS => ?_)
  obtain ⟨M_11, hM_11⟩ : ∃ z9 : mw_M, z9 = mw_up M_4 a (.inr (4, [.int 0, .ref q_1, .int 0, .int 0, .int 0, .null, .null, .null, .null, .null, .null, .null, .int 0, .null, .null, .null, .null, .null, .null, .null, .int 0])) := ⟨_, rfl⟩
  have hP : mw_P (gD G) gx_cl M_11 H := by rw [hM_11]; exact hP
  have f_12 : M_11 a = some (.inr (4, [.int 0, .ref q_1, .int 0, .int 0, .int 0, .null, .null, .null, .null, .null, .null, .null, .int 0, .null, .null, .null, .null, .null, .null, .null, .int 0])) := by rw [hM_11]; exact mw_self _ _ _
  have f_13 : M_11 q_1 = some (.inl (gI G, 63, .inl (fun _ => 0))) := by rw [hM_11, mw_ne _ _ (Ne.symm ne_7)]; exact f_8
  have hold_14 : ∀ x9 e9, x9 ≠ a → M x9 = some e9 → M_11 x9 = some e9 := fun x9 e9 n9 h9 => by rw [hM_11, mw_ne _ _ n9]; exact hold_10 x9 e9 n9 h9
  refine lv_aload_n hx hb dX4_init_12 rfl (lv_at hl 0 rfl) ?_
  refine lv_bipush (v := 120) hx hb dX4_init_13 (by decide) ?_
  refine mw_newi (N := 120) hx hb (htb _ wd55) hK hP hS 0 rfl (by decide) (by decide) (by decide) (Nat.le_of_ble_eq_true rfl) (Nat.le_of_ble_eq_true rfl) dX4_init_15 (fun q_15 H hq_16 hs_17 hP hS => ?_)
  obtain ⟨M_18, hM_18⟩ : ∃ z9 : mw_M, z9 = mw_up M_11 q_15 (.inl (gI G, 120, .inl (fun _ => 0))) := ⟨_, rfl⟩
  have hP : mw_P (gD G) gx_cl M_18 H := by rw [hM_18]; exact hP
  have f_20 : M_18 a = some (.inr (4, [.int 0, .ref q_1, .int 0, .int 0, .int 0, .null, .null, .null, .null, .null, .null, .null, .int 0, .null, .null, .null, .null, .null, .null, .null, .int 0])) := by rw [hM_18, mw_ne _ _ (fun z => by have z1 := f_12; rw [z, hq_16] at z1; cases z1)]; exact f_12
  have ne_21 : a ≠ q_15 := fun z => by have z1 := f_12; rw [z, hq_16] at z1; cases z1
  have f_22 : M_18 q_1 = some (.inl (gI G, 63, .inl (fun _ => 0))) := by rw [hM_18, mw_ne _ _ (fun z => by have z1 := f_13; rw [z, hq_16] at z1; cases z1)]; exact f_13
  have ne_23 : q_1 ≠ q_15 := fun z => by have z1 := f_13; rw [z, hq_16] at z1; cases z1
  have f_24 : M_18 q_15 = some (.inl (gI G, 120, .inl (fun _ => 0))) := by rw [hM_18]; exact mw_self _ _ _
  have n0_25 : M q_15 = none := mw_hno hold_14 hq_16 ne_21
  have hold_26 : ∀ x9 e9, x9 ≠ a → M x9 = some e9 → M_18 x9 = some e9 := by rw [hM_18]; exact mw_hup hold_14 hq_16 _
  refine mw_putF (D := gD G) (ci := 4) (v := .ref q_15) (ty := .array (.int)) (C := RX4) (T := TX4) (N := 21) hx hb htb inX4 tyX4 tyX4_ok nmX4 hown hK hP hS f_20 hAa rfl 5 (by decide) (htb _ wd529) (fun _ h9 => h9) rfl hin rfl (by decide +kernel) rfl rfl (Nat.le_of_ble_eq_true rfl) dX4_init_17 (fun H locs hP hS => ?_)
  obtain ⟨M_27, hM_27⟩ : ∃ z9 : mw_M, z9 = mw_up M_18 a (.inr (4, [.int 0, .ref q_1, .int 0, .int 0, .int 0, .ref q_15, .null, .null, .null, .null, .null, .null, .int 0, .null, .null, .null, .null, .null, .null, .null, .int 0])) := ⟨_, rfl⟩
  have hP : mw_P (gD G) gx_cl M_27 H := by rw [hM_27]; exact hP
  have f_28 : M_27 a = some (.inr (4, [.int 0, .ref q_1, .int 0, .int 0, .int 0, .ref q_15, .null, .null, .null, .null, .null, .null, .int 0, .null, .null, .null, .null, .null, .null, .null, .int 0])) := by rw [hM_27]; exact mw_self _ _ _
  have f_29 : M_27 q_1 = some (.inl (gI G, 63, .inl (fun _ => 0))) := by rw [hM_27, mw_ne _ _ (Ne.symm ne_7)]; exact f_22
  have f_30 : M_27 q_15 = some (.inl (gI G, 120, .inl (fun _ => 0))) := by rw [hM_27, mw_ne _ _ (Ne.symm ne_21)]; exact f_24
  have hold_31 : ∀ x9 e9, x9 ≠ a → M x9 = some e9 → M_27 x9 = some e9 := fun x9 e9 n9 h9 => by rw [hM_27, mw_ne _ _ n9]; exact hold_26 x9 e9 n9 h9
  refine lv_aload_n hx hb dX4_init_20 rfl (lv_at hl 0 rfl) ?_
  refine lv_bipush (v := 120) hx hb dX4_init_21 (by decide) ?_
  refine mw_newi (N := 120) hx hb (htb _ wd55) hK hP hS 0 rfl (by decide) (by decide) (by decide) (Nat.le_of_ble_eq_true rfl) (Nat.le_of_ble_eq_true rfl) dX4_init_23 (fun q_32 H hq_33 hs_34 hP hS => ?_)
  obtain ⟨M_35, hM_35⟩ : ∃ z9 : mw_M, z9 = mw_up M_27 q_32 (.inl (gI G, 120, .inl (fun _ => 0))) := ⟨_, rfl⟩
  have hP : mw_P (gD G) gx_cl M_35 H := by rw [hM_35]; exact hP
  have f_37 : M_35 a = some (.inr (4, [.int 0, .ref q_1, .int 0, .int 0, .int 0, .ref q_15, .null, .null, .null, .null, .null, .null, .int 0, .null, .null, .null, .null, .null, .null, .null, .int 0])) := by rw [hM_35, mw_ne _ _ (fun z => by have z1 := f_28; rw [z, hq_33] at z1; cases z1)]; exact f_28
  have ne_38 : a ≠ q_32 := fun z => by have z1 := f_28; rw [z, hq_33] at z1; cases z1
  have f_39 : M_35 q_1 = some (.inl (gI G, 63, .inl (fun _ => 0))) := by rw [hM_35, mw_ne _ _ (fun z => by have z1 := f_29; rw [z, hq_33] at z1; cases z1)]; exact f_29
  have ne_40 : q_1 ≠ q_32 := fun z => by have z1 := f_29; rw [z, hq_33] at z1; cases z1
  have f_41 : M_35 q_15 = some (.inl (gI G, 120, .inl (fun _ => 0))) := by rw [hM_35, mw_ne _ _ (fun z => by have z1 := f_30; rw [z, hq_33] at z1; cases z1)]; exact f_30
  have ne_42 : q_15 ≠ q_32 := fun z => by have z1 := f_30; rw [z, hq_33] at z1; cases z1
  have f_43 : M_35 q_32 = some (.inl (gI G, 120, .inl (fun _ => 0))) := by rw [hM_35]; exact mw_self _ _ _
  have n0_44 : M q_32 = none := mw_hno hold_31 hq_33 ne_38
  have hold_45 : ∀ x9 e9, x9 ≠ a → M x9 = some e9 → M_35 x9 = some e9 := by rw [hM_35]; exact mw_hup hold_31 hq_33 _
  refine mw_putF (D := gD G) (ci := 4) (v := .ref q_32) (ty := .array (.int)) (C := RX4) (T := TX4) (N := 21) hx hb htb inX4 tyX4 tyX4_ok nmX4 hown hK hP hS f_37 hAa rfl 6 (by decide) (htb _ wd530) (fun _ h9 => h9) rfl hin rfl (by decide +kernel) rfl rfl (Nat.le_of_ble_eq_true rfl) dX4_init_25 (fun H locs hP hS => ?_)
  obtain ⟨M_46, hM_46⟩ : ∃ z9 : mw_M, z9 = mw_up M_35 a (.inr (4, [.int 0, .ref q_1, .int 0, .int 0, .int 0, .ref q_15, .ref q_32, .null, .null, .null, .null, .null, .int 0, .null, .null, .null, .null, .null, .null, .null, .int 0])) := ⟨_, rfl⟩
  have hP : mw_P (gD G) gx_cl M_46 H := by rw [hM_46]; exact hP
  have f_47 : M_46 a = some (.inr (4, [.int 0, .ref q_1, .int 0, .int 0, .int 0, .ref q_15, .ref q_32, .null, .null, .null, .null, .null, .int 0, .null, .null, .null, .null, .null, .null, .null, .int 0])) := by rw [hM_46]; exact mw_self _ _ _
  have f_48 : M_46 q_1 = some (.inl (gI G, 63, .inl (fun _ => 0))) := by rw [hM_46, mw_ne _ _ (Ne.symm ne_7)]; exact f_39
  have f_49 : M_46 q_15 = some (.inl (gI G, 120, .inl (fun _ => 0))) := by rw [hM_46, mw_ne _ _ (Ne.symm ne_21)]; exact f_41
  have f_50 : M_46 q_32 = some (.inl (gI G, 120, .inl (fun _ => 0))) := by rw [hM_46, mw_ne _ _ (Ne.symm ne_38)]; exact f_43
  have hold_51 : ∀ x9 e9, x9 ≠ a → M x9 = some e9 → M_46 x9 = some e9 := fun x9 e9 n9 h9 => by rw [hM_46, mw_ne _ _ n9]; exact hold_45 x9 e9 n9 h9
  refine lv_aload_n hx hb dX4_init_28 rfl (lv_at hl 0 rfl) ?_
  refine lv_bipush (v := 120) hx hb dX4_init_29 (by decide) ?_
  refine mw_newi (N := 120) hx hb (htb _ wd55) hK hP hS 0 rfl (by decide) (by decide) (by decide) (Nat.le_of_ble_eq_true rfl) (Nat.le_of_ble_eq_true rfl) dX4_init_31 (fun q_52 H hq_53 hs_54 hP hS => ?_)
  obtain ⟨M_55, hM_55⟩ : ∃ z9 : mw_M, z9 = mw_up M_46 q_52 (.inl (gI G, 120, .inl (fun _ => 0))) := ⟨_, rfl⟩
  have hP : mw_P (gD G) gx_cl M_55 H := by rw [hM_55]; exact hP
  have f_57 : M_55 a = some (.inr (4, [.int 0, .ref q_1, .int 0, .int 0, .int 0, .ref q_15, .ref q_32, .null, .null, .null, .null, .null, .int 0, .null, .null, .null, .null, .null, .null, .null, .int 0])) := by rw [hM_55, mw_ne _ _ (fun z => by have z1 := f_47; rw [z, hq_53] at z1; cases z1)]; exact f_47
  have ne_58 : a ≠ q_52 := fun z => by have z1 := f_47; rw [z, hq_53] at z1; cases z1
  have f_59 : M_55 q_1 = some (.inl (gI G, 63, .inl (fun _ => 0))) := by rw [hM_55, mw_ne _ _ (fun z => by have z1 := f_48; rw [z, hq_53] at z1; cases z1)]; exact f_48
  have ne_60 : q_1 ≠ q_52 := fun z => by have z1 := f_48; rw [z, hq_53] at z1; cases z1
  have f_61 : M_55 q_15 = some (.inl (gI G, 120, .inl (fun _ => 0))) := by rw [hM_55, mw_ne _ _ (fun z => by have z1 := f_49; rw [z, hq_53] at z1; cases z1)]; exact f_49
  have ne_62 : q_15 ≠ q_52 := fun z => by have z1 := f_49; rw [z, hq_53] at z1; cases z1
  have f_63 : M_55 q_32 = some (.inl (gI G, 120, .inl (fun _ => 0))) := by rw [hM_55, mw_ne _ _ (fun z => by have z1 := f_50; rw [z, hq_53] at z1; cases z1)]; exact f_50
  have ne_64 : q_32 ≠ q_52 := fun z => by have z1 := f_50; rw [z, hq_53] at z1; cases z1
  have f_65 : M_55 q_52 = some (.inl (gI G, 120, .inl (fun _ => 0))) := by rw [hM_55]; exact mw_self _ _ _
  have n0_66 : M q_52 = none := mw_hno hold_51 hq_53 ne_58
  have hold_67 : ∀ x9 e9, x9 ≠ a → M x9 = some e9 → M_55 x9 = some e9 := by rw [hM_55]; exact mw_hup hold_51 hq_53 _
  refine mw_putF (D := gD G) (ci := 4) (v := .ref q_52) (ty := .array (.int)) (C := RX4) (T := TX4) (N := 21) hx hb htb inX4 tyX4 tyX4_ok nmX4 hown hK hP hS f_57 hAa rfl 7 (by decide) (htb _ wd531) (fun _ h9 => h9) rfl hin rfl (by decide +kernel) rfl rfl (Nat.le_of_ble_eq_true rfl) dX4_init_33 (fun H locs hP hS => ?_)
  obtain ⟨M_68, hM_68⟩ : ∃ z9 : mw_M, z9 = mw_up M_55 a (.inr (4, [.int 0, .ref q_1, .int 0, .int 0, .int 0, .ref q_15, .ref q_32, .ref q_52, .null, .null, .null, .null, .int 0, .null, .null, .null, .null, .null, .null, .null, .int 0])) := ⟨_, rfl⟩
  have hP : mw_P (gD G) gx_cl M_68 H := by rw [hM_68]; exact hP
  have f_69 : M_68 a = some (.inr (4, [.int 0, .ref q_1, .int 0, .int 0, .int 0, .ref q_15, .ref q_32, .ref q_52, .null, .null, .null, .null, .int 0, .null, .null, .null, .null, .null, .null, .null, .int 0])) := by rw [hM_68]; exact mw_self _ _ _
  have f_70 : M_68 q_1 = some (.inl (gI G, 63, .inl (fun _ => 0))) := by rw [hM_68, mw_ne _ _ (Ne.symm ne_7)]; exact f_59
  have f_71 : M_68 q_15 = some (.inl (gI G, 120, .inl (fun _ => 0))) := by rw [hM_68, mw_ne _ _ (Ne.symm ne_21)]; exact f_61
  have f_72 : M_68 q_32 = some (.inl (gI G, 120, .inl (fun _ => 0))) := by rw [hM_68, mw_ne _ _ (Ne.symm ne_38)]; exact f_63
  have f_73 : M_68 q_52 = some (.inl (gI G, 120, .inl (fun _ => 0))) := by rw [hM_68, mw_ne _ _ (Ne.symm ne_58)]; exact f_65
  have hold_74 : ∀ x9 e9, x9 ≠ a → M x9 = some e9 → M_68 x9 = some e9 := fun x9 e9 n9 h9 => by rw [hM_68, mw_ne _ _ n9]; exact hold_67 x9 e9 n9 h9
  refine lv_aload_n hx hb dX4_init_36 rfl (lv_at hl 0 rfl) ?_
  refine lv_bipush (v := 120) hx hb dX4_init_37 (by decide) ?_
  refine mw_newi (N := 120) hx hb (htb _ wd55) hK hP hS 0 rfl (by decide) (by decide) (by decide) (Nat.le_of_ble_eq_true rfl) (Nat.le_of_ble_eq_true rfl) dX4_init_39 (fun q_75 H hq_76 hs_77 hP hS => ?_)
  obtain ⟨M_78, hM_78⟩ : ∃ z9 : mw_M, z9 = mw_up M_68 q_75 (.inl (gI G, 120, .inl (fun _ => 0))) := ⟨_, rfl⟩
  have hP : mw_P (gD G) gx_cl M_78 H := by rw [hM_78]; exact hP
  have f_80 : M_78 a = some (.inr (4, [.int 0, .ref q_1, .int 0, .int 0, .int 0, .ref q_15, .ref q_32, .ref q_52, .null, .null, .null, .null, .int 0, .null, .null, .null, .null, .null, .null, .null, .int 0])) := by rw [hM_78, mw_ne _ _ (fun z => by have z1 := f_69; rw [z, hq_76] at z1; cases z1)]; exact f_69
  have ne_81 : a ≠ q_75 := fun z => by have z1 := f_69; rw [z, hq_76] at z1; cases z1
  have f_82 : M_78 q_1 = some (.inl (gI G, 63, .inl (fun _ => 0))) := by rw [hM_78, mw_ne _ _ (fun z => by have z1 := f_70; rw [z, hq_76] at z1; cases z1)]; exact f_70
  have ne_83 : q_1 ≠ q_75 := fun z => by have z1 := f_70; rw [z, hq_76] at z1; cases z1
  have f_84 : M_78 q_15 = some (.inl (gI G, 120, .inl (fun _ => 0))) := by rw [hM_78, mw_ne _ _ (fun z => by have z1 := f_71; rw [z, hq_76] at z1; cases z1)]; exact f_71
  have ne_85 : q_15 ≠ q_75 := fun z => by have z1 := f_71; rw [z, hq_76] at z1; cases z1
  have f_86 : M_78 q_32 = some (.inl (gI G, 120, .inl (fun _ => 0))) := by rw [hM_78, mw_ne _ _ (fun z => by have z1 := f_72; rw [z, hq_76] at z1; cases z1)]; exact f_72
  have ne_87 : q_32 ≠ q_75 := fun z => by have z1 := f_72; rw [z, hq_76] at z1; cases z1
  have f_88 : M_78 q_52 = some (.inl (gI G, 120, .inl (fun _ => 0))) := by rw [hM_78, mw_ne _ _ (fun z => by have z1 := f_73; rw [z, hq_76] at z1; cases z1)]; exact f_73
  have ne_89 : q_52 ≠ q_75 := fun z => by have z1 := f_73; rw [z, hq_76] at z1; cases z1
  have f_90 : M_78 q_75 = some (.inl (gI G, 120, .inl (fun _ => 0))) := by rw [hM_78]; exact mw_self _ _ _
  have n0_91 : M q_75 = none := mw_hno hold_74 hq_76 ne_81
  have hold_92 : ∀ x9 e9, x9 ≠ a → M x9 = some e9 → M_78 x9 = some e9 := by rw [hM_78]; exact mw_hup hold_74 hq_76 _
  refine mw_putF (D := gD G) (ci := 4) (v := .ref q_75) (ty := .array (.int)) (C := RX4) (T := TX4) (N := 21) hx hb htb inX4 tyX4 tyX4_ok nmX4 hown hK hP hS f_80 hAa rfl 8 (by decide) (htb _ wd532) (fun _ h9 => h9) rfl hin rfl (by decide +kernel) rfl rfl (Nat.le_of_ble_eq_true rfl) dX4_init_41 (fun H locs hP hS => ?_)
  obtain ⟨M_93, hM_93⟩ : ∃ z9 : mw_M, z9 = mw_up M_78 a (.inr (4, [.int 0, .ref q_1, .int 0, .int 0, .int 0, .ref q_15, .ref q_32, .ref q_52, .ref q_75, .null, .null, .null, .int 0, .null, .null, .null, .null, .null, .null, .null, .int 0])) := ⟨_, rfl⟩
  have hP : mw_P (gD G) gx_cl M_93 H := by rw [hM_93]; exact hP
  have f_94 : M_93 a = some (.inr (4, [.int 0, .ref q_1, .int 0, .int 0, .int 0, .ref q_15, .ref q_32, .ref q_52, .ref q_75, .null, .null, .null, .int 0, .null, .null, .null, .null, .null, .null, .null, .int 0])) := by rw [hM_93]; exact mw_self _ _ _
  have f_95 : M_93 q_1 = some (.inl (gI G, 63, .inl (fun _ => 0))) := by rw [hM_93, mw_ne _ _ (Ne.symm ne_7)]; exact f_82
  have f_96 : M_93 q_15 = some (.inl (gI G, 120, .inl (fun _ => 0))) := by rw [hM_93, mw_ne _ _ (Ne.symm ne_21)]; exact f_84
  have f_97 : M_93 q_32 = some (.inl (gI G, 120, .inl (fun _ => 0))) := by rw [hM_93, mw_ne _ _ (Ne.symm ne_38)]; exact f_86
  have f_98 : M_93 q_52 = some (.inl (gI G, 120, .inl (fun _ => 0))) := by rw [hM_93, mw_ne _ _ (Ne.symm ne_58)]; exact f_88
  have f_99 : M_93 q_75 = some (.inl (gI G, 120, .inl (fun _ => 0))) := by rw [hM_93, mw_ne _ _ (Ne.symm ne_81)]; exact f_90
  have hold_100 : ∀ x9 e9, x9 ≠ a → M x9 = some e9 → M_93 x9 = some e9 := fun x9 e9 n9 h9 => by rw [hM_93, mw_ne _ _ n9]; exact hold_92 x9 e9 n9 h9
  refine lv_aload_n hx hb dX4_init_44 rfl (lv_at hl 0 rfl) ?_
  refine lv_bipush (v := 120) hx hb dX4_init_45 (by decide) ?_
  refine mw_newi (N := 120) hx hb (htb _ wd55) hK hP hS 0 rfl (by decide) (by decide) (by decide) (Nat.le_of_ble_eq_true rfl) (Nat.le_of_ble_eq_true rfl) dX4_init_47 (fun q_101 H hq_102 hs_103 hP hS => ?_)
  obtain ⟨M_104, hM_104⟩ : ∃ z9 : mw_M, z9 = mw_up M_93 q_101 (.inl (gI G, 120, .inl (fun _ => 0))) := ⟨_, rfl⟩
  have hP : mw_P (gD G) gx_cl M_104 H := by rw [hM_104]; exact hP
  have f_106 : M_104 a = some (.inr (4, [.int 0, .ref q_1, .int 0, .int 0, .int 0, .ref q_15, .ref q_32, .ref q_52, .ref q_75, .null, .null, .null, .int 0, .null, .null, .null, .null, .null, .null, .null, .int 0])) := by rw [hM_104, mw_ne _ _ (fun z => by have z1 := f_94; rw [z, hq_102] at z1; cases z1)]; exact f_94
  have ne_107 : a ≠ q_101 := fun z => by have z1 := f_94; rw [z, hq_102] at z1; cases z1
  have f_108 : M_104 q_1 = some (.inl (gI G, 63, .inl (fun _ => 0))) := by rw [hM_104, mw_ne _ _ (fun z => by have z1 := f_95; rw [z, hq_102] at z1; cases z1)]; exact f_95
  have ne_109 : q_1 ≠ q_101 := fun z => by have z1 := f_95; rw [z, hq_102] at z1; cases z1
  have f_110 : M_104 q_15 = some (.inl (gI G, 120, .inl (fun _ => 0))) := by rw [hM_104, mw_ne _ _ (fun z => by have z1 := f_96; rw [z, hq_102] at z1; cases z1)]; exact f_96
  have ne_111 : q_15 ≠ q_101 := fun z => by have z1 := f_96; rw [z, hq_102] at z1; cases z1
  have f_112 : M_104 q_32 = some (.inl (gI G, 120, .inl (fun _ => 0))) := by rw [hM_104, mw_ne _ _ (fun z => by have z1 := f_97; rw [z, hq_102] at z1; cases z1)]; exact f_97
  have ne_113 : q_32 ≠ q_101 := fun z => by have z1 := f_97; rw [z, hq_102] at z1; cases z1
  have f_114 : M_104 q_52 = some (.inl (gI G, 120, .inl (fun _ => 0))) := by rw [hM_104, mw_ne _ _ (fun z => by have z1 := f_98; rw [z, hq_102] at z1; cases z1)]; exact f_98
  have ne_115 : q_52 ≠ q_101 := fun z => by have z1 := f_98; rw [z, hq_102] at z1; cases z1
  have f_116 : M_104 q_75 = some (.inl (gI G, 120, .inl (fun _ => 0))) := by rw [hM_104, mw_ne _ _ (fun z => by have z1 := f_99; rw [z, hq_102] at z1; cases z1)]; exact f_99
  have ne_117 : q_75 ≠ q_101 := fun z => by have z1 := f_99; rw [z, hq_102] at z1; cases z1
  have f_118 : M_104 q_101 = some (.inl (gI G, 120, .inl (fun _ => 0))) := by rw [hM_104]; exact mw_self _ _ _
  have n0_119 : M q_101 = none := mw_hno hold_100 hq_102 ne_107
  have hold_120 : ∀ x9 e9, x9 ≠ a → M x9 = some e9 → M_104 x9 = some e9 := by rw [hM_104]; exact mw_hup hold_100 hq_102 _
  refine mw_putF (D := gD G) (ci := 4) (v := .ref q_101) (ty := .array (.int)) (C := RX4) (T := TX4) (N := 21) hx hb htb inX4 tyX4 tyX4_ok nmX4 hown hK hP hS f_106 hAa rfl 9 (by decide) (htb _ wd533) (fun _ h9 => h9) rfl hin rfl (by decide +kernel) rfl rfl (Nat.le_of_ble_eq_true rfl) dX4_init_49 (fun H locs hP hS => ?_)
  obtain ⟨M_121, hM_121⟩ : ∃ z9 : mw_M, z9 = mw_up M_104 a (.inr (4, [.int 0, .ref q_1, .int 0, .int 0, .int 0, .ref q_15, .ref q_32, .ref q_52, .ref q_75, .ref q_101, .null, .null, .int 0, .null, .null, .null, .null, .null, .null, .null, .int 0])) := ⟨_, rfl⟩
  have hP : mw_P (gD G) gx_cl M_121 H := by rw [hM_121]; exact hP
  have f_122 : M_121 a = some (.inr (4, [.int 0, .ref q_1, .int 0, .int 0, .int 0, .ref q_15, .ref q_32, .ref q_52, .ref q_75, .ref q_101, .null, .null, .int 0, .null, .null, .null, .null, .null, .null, .null, .int 0])) := by rw [hM_121]; exact mw_self _ _ _
  have f_123 : M_121 q_1 = some (.inl (gI G, 63, .inl (fun _ => 0))) := by rw [hM_121, mw_ne _ _ (Ne.symm ne_7)]; exact f_108
  have f_124 : M_121 q_15 = some (.inl (gI G, 120, .inl (fun _ => 0))) := by rw [hM_121, mw_ne _ _ (Ne.symm ne_21)]; exact f_110
  have f_125 : M_121 q_32 = some (.inl (gI G, 120, .inl (fun _ => 0))) := by rw [hM_121, mw_ne _ _ (Ne.symm ne_38)]; exact f_112
  have f_126 : M_121 q_52 = some (.inl (gI G, 120, .inl (fun _ => 0))) := by rw [hM_121, mw_ne _ _ (Ne.symm ne_58)]; exact f_114
  have f_127 : M_121 q_75 = some (.inl (gI G, 120, .inl (fun _ => 0))) := by rw [hM_121, mw_ne _ _ (Ne.symm ne_81)]; exact f_116
  have f_128 : M_121 q_101 = some (.inl (gI G, 120, .inl (fun _ => 0))) := by rw [hM_121, mw_ne _ _ (Ne.symm ne_107)]; exact f_118
  have hold_129 : ∀ x9 e9, x9 ≠ a → M x9 = some e9 → M_121 x9 = some e9 := fun x9 e9 n9 h9 => by rw [hM_121, mw_ne _ _ n9]; exact hold_120 x9 e9 n9 h9
  refine lv_aload_n hx hb dX4_init_52 rfl (lv_at hl 0 rfl) ?_
  refine lv_bipush (v := 120) hx hb dX4_init_53 (by decide) ?_
  refine mw_newi (N := 120) hx hb (htb _ wd55) hK hP hS 0 rfl (by decide) (by decide) (by decide) (Nat.le_of_ble_eq_true rfl) (Nat.le_of_ble_eq_true rfl) dX4_init_55 (fun q_130 H hq_131 hs_132 hP hS => ?_)
  obtain ⟨M_133, hM_133⟩ : ∃ z9 : mw_M, z9 = mw_up M_121 q_130 (.inl (gI G, 120, .inl (fun _ => 0))) := ⟨_, rfl⟩
  have hP : mw_P (gD G) gx_cl M_133 H := by rw [hM_133]; exact hP
  have f_135 : M_133 a = some (.inr (4, [.int 0, .ref q_1, .int 0, .int 0, .int 0, .ref q_15, .ref q_32, .ref q_52, .ref q_75, .ref q_101, .null, .null, .int 0, .null, .null, .null, .null, .null, .null, .null, .int 0])) := by rw [hM_133, mw_ne _ _ (fun z => by have z1 := f_122; rw [z, hq_131] at z1; cases z1)]; exact f_122
  have ne_136 : a ≠ q_130 := fun z => by have z1 := f_122; rw [z, hq_131] at z1; cases z1
  have f_137 : M_133 q_1 = some (.inl (gI G, 63, .inl (fun _ => 0))) := by rw [hM_133, mw_ne _ _ (fun z => by have z1 := f_123; rw [z, hq_131] at z1; cases z1)]; exact f_123
  have ne_138 : q_1 ≠ q_130 := fun z => by have z1 := f_123; rw [z, hq_131] at z1; cases z1
  have f_139 : M_133 q_15 = some (.inl (gI G, 120, .inl (fun _ => 0))) := by rw [hM_133, mw_ne _ _ (fun z => by have z1 := f_124; rw [z, hq_131] at z1; cases z1)]; exact f_124
  have ne_140 : q_15 ≠ q_130 := fun z => by have z1 := f_124; rw [z, hq_131] at z1; cases z1
  have f_141 : M_133 q_32 = some (.inl (gI G, 120, .inl (fun _ => 0))) := by rw [hM_133, mw_ne _ _ (fun z => by have z1 := f_125; rw [z, hq_131] at z1; cases z1)]; exact f_125
  have ne_142 : q_32 ≠ q_130 := fun z => by have z1 := f_125; rw [z, hq_131] at z1; cases z1
  have f_143 : M_133 q_52 = some (.inl (gI G, 120, .inl (fun _ => 0))) := by rw [hM_133, mw_ne _ _ (fun z => by have z1 := f_126; rw [z, hq_131] at z1; cases z1)]; exact f_126
  have ne_144 : q_52 ≠ q_130 := fun z => by have z1 := f_126; rw [z, hq_131] at z1; cases z1
  have f_145 : M_133 q_75 = some (.inl (gI G, 120, .inl (fun _ => 0))) := by rw [hM_133, mw_ne _ _ (fun z => by have z1 := f_127; rw [z, hq_131] at z1; cases z1)]; exact f_127
  have ne_146 : q_75 ≠ q_130 := fun z => by have z1 := f_127; rw [z, hq_131] at z1; cases z1
  have f_147 : M_133 q_101 = some (.inl (gI G, 120, .inl (fun _ => 0))) := by rw [hM_133, mw_ne _ _ (fun z => by have z1 := f_128; rw [z, hq_131] at z1; cases z1)]; exact f_128
  have ne_148 : q_101 ≠ q_130 := fun z => by have z1 := f_128; rw [z, hq_131] at z1; cases z1
  have f_149 : M_133 q_130 = some (.inl (gI G, 120, .inl (fun _ => 0))) := by rw [hM_133]; exact mw_self _ _ _
  have n0_150 : M q_130 = none := mw_hno hold_129 hq_131 ne_136
  have hold_151 : ∀ x9 e9, x9 ≠ a → M x9 = some e9 → M_133 x9 = some e9 := by rw [hM_133]; exact mw_hup hold_129 hq_131 _
  refine mw_putF (D := gD G) (ci := 4) (v := .ref q_130) (ty := .array (.int)) (C := RX4) (T := TX4) (N := 21) hx hb htb inX4 tyX4 tyX4_ok nmX4 hown hK hP hS f_135 hAa rfl 10 (by decide) (htb _ wd534) (fun _ h9 => h9) rfl hin rfl (by decide +kernel) rfl rfl (Nat.le_of_ble_eq_true rfl) dX4_init_57 (fun H locs hP hS => ?_)
  obtain ⟨M_152, hM_152⟩ : ∃ z9 : mw_M, z9 = mw_up M_133 a (.inr (4, [.int 0, .ref q_1, .int 0, .int 0, .int 0, .ref q_15, .ref q_32, .ref q_52, .ref q_75, .ref q_101, .ref q_130, .null, .int 0, .null, .null, .null, .null, .null, .null, .null, .int 0])) := ⟨_, rfl⟩
  have hP : mw_P (gD G) gx_cl M_152 H := by rw [hM_152]; exact hP
  have f_153 : M_152 a = some (.inr (4, [.int 0, .ref q_1, .int 0, .int 0, .int 0, .ref q_15, .ref q_32, .ref q_52, .ref q_75, .ref q_101, .ref q_130, .null, .int 0, .null, .null, .null, .null, .null, .null, .null, .int 0])) := by rw [hM_152]; exact mw_self _ _ _
  have f_154 : M_152 q_1 = some (.inl (gI G, 63, .inl (fun _ => 0))) := by rw [hM_152, mw_ne _ _ (Ne.symm ne_7)]; exact f_137
  have f_155 : M_152 q_15 = some (.inl (gI G, 120, .inl (fun _ => 0))) := by rw [hM_152, mw_ne _ _ (Ne.symm ne_21)]; exact f_139
  have f_156 : M_152 q_32 = some (.inl (gI G, 120, .inl (fun _ => 0))) := by rw [hM_152, mw_ne _ _ (Ne.symm ne_38)]; exact f_141
  have f_157 : M_152 q_52 = some (.inl (gI G, 120, .inl (fun _ => 0))) := by rw [hM_152, mw_ne _ _ (Ne.symm ne_58)]; exact f_143
  have f_158 : M_152 q_75 = some (.inl (gI G, 120, .inl (fun _ => 0))) := by rw [hM_152, mw_ne _ _ (Ne.symm ne_81)]; exact f_145
  have f_159 : M_152 q_101 = some (.inl (gI G, 120, .inl (fun _ => 0))) := by rw [hM_152, mw_ne _ _ (Ne.symm ne_107)]; exact f_147
  have f_160 : M_152 q_130 = some (.inl (gI G, 120, .inl (fun _ => 0))) := by rw [hM_152, mw_ne _ _ (Ne.symm ne_136)]; exact f_149
  have hold_161 : ∀ x9 e9, x9 ≠ a → M x9 = some e9 → M_152 x9 = some e9 := fun x9 e9 n9 h9 => by rw [hM_152, mw_ne _ _ n9]; exact hold_151 x9 e9 n9 h9
  refine lv_aload_n hx hb dX4_init_60 rfl (lv_at hl 0 rfl) ?_
  refine lv_bipush (v := 120) hx hb dX4_init_61 (by decide) ?_
  refine mw_newi (N := 120) hx hb (htb _ wd55) hK hP hS 0 rfl (by decide) (by decide) (by decide) (Nat.le_of_ble_eq_true rfl) (Nat.le_of_ble_eq_true rfl) dX4_init_63 (fun q_162 H hq_163 hs_164 hP hS => ?_)
  obtain ⟨M_165, hM_165⟩ : ∃ z9 : mw_M, z9 = mw_up M_152 q_162 (.inl (gI G, 120, .inl (fun _ => 0))) := ⟨_, rfl⟩
  have hP : mw_P (gD G) gx_cl M_165 H := by rw [hM_165]; exact hP
  have f_167 : M_165 a = some (.inr (4, [.int 0, .ref q_1, .int 0, .int 0, .int 0, .ref q_15, .ref q_32, .ref q_52, .ref q_75, .ref q_101, .ref q_130, .null, .int 0, .null, .null, .null, .null, .null, .null, .null, .int 0])) := by rw [hM_165, mw_ne _ _ (fun z => by have z1 := f_153; rw [z, hq_163] at z1; cases z1)]; exact f_153
  have ne_168 : a ≠ q_162 := fun z => by have z1 := f_153; rw [z, hq_163] at z1; cases z1
  have f_169 : M_165 q_1 = some (.inl (gI G, 63, .inl (fun _ => 0))) := by rw [hM_165, mw_ne _ _ (fun z => by have z1 := f_154; rw [z, hq_163] at z1; cases z1)]; exact f_154
  have ne_170 : q_1 ≠ q_162 := fun z => by have z1 := f_154; rw [z, hq_163] at z1; cases z1
  have f_171 : M_165 q_15 = some (.inl (gI G, 120, .inl (fun _ => 0))) := by rw [hM_165, mw_ne _ _ (fun z => by have z1 := f_155; rw [z, hq_163] at z1; cases z1)]; exact f_155
  have ne_172 : q_15 ≠ q_162 := fun z => by have z1 := f_155; rw [z, hq_163] at z1; cases z1
  have f_173 : M_165 q_32 = some (.inl (gI G, 120, .inl (fun _ => 0))) := by rw [hM_165, mw_ne _ _ (fun z => by have z1 := f_156; rw [z, hq_163] at z1; cases z1)]; exact f_156
  have ne_174 : q_32 ≠ q_162 := fun z => by have z1 := f_156; rw [z, hq_163] at z1; cases z1
  have f_175 : M_165 q_52 = some (.inl (gI G, 120, .inl (fun _ => 0))) := by rw [hM_165, mw_ne _ _ (fun z => by have z1 := f_157; rw [z, hq_163] at z1; cases z1)]; exact f_157
  have ne_176 : q_52 ≠ q_162 := fun z => by have z1 := f_157; rw [z, hq_163] at z1; cases z1
  have f_177 : M_165 q_75 = some (.inl (gI G, 120, .inl (fun _ => 0))) := by rw [hM_165, mw_ne _ _ (fun z => by have z1 := f_158; rw [z, hq_163] at z1; cases z1)]; exact f_158
  have ne_178 : q_75 ≠ q_162 := fun z => by have z1 := f_158; rw [z, hq_163] at z1; cases z1
  have f_179 : M_165 q_101 = some (.inl (gI G, 120, .inl (fun _ => 0))) := by rw [hM_165, mw_ne _ _ (fun z => by have z1 := f_159; rw [z, hq_163] at z1; cases z1)]; exact f_159
  have ne_180 : q_101 ≠ q_162 := fun z => by have z1 := f_159; rw [z, hq_163] at z1; cases z1
  have f_181 : M_165 q_130 = some (.inl (gI G, 120, .inl (fun _ => 0))) := by rw [hM_165, mw_ne _ _ (fun z => by have z1 := f_160; rw [z, hq_163] at z1; cases z1)]; exact f_160
  have ne_182 : q_130 ≠ q_162 := fun z => by have z1 := f_160; rw [z, hq_163] at z1; cases z1
  have f_183 : M_165 q_162 = some (.inl (gI G, 120, .inl (fun _ => 0))) := by rw [hM_165]; exact mw_self _ _ _
  have n0_184 : M q_162 = none := mw_hno hold_161 hq_163 ne_168
  have hold_185 : ∀ x9 e9, x9 ≠ a → M x9 = some e9 → M_165 x9 = some e9 := by rw [hM_165]; exact mw_hup hold_161 hq_163 _
  refine mw_putF (D := gD G) (ci := 4) (v := .ref q_162) (ty := .array (.int)) (C := RX4) (T := TX4) (N := 21) hx hb htb inX4 tyX4 tyX4_ok nmX4 hown hK hP hS f_167 hAa rfl 11 (by decide) (htb _ wd535) (fun _ h9 => h9) rfl hin rfl (by decide +kernel) rfl rfl (Nat.le_of_ble_eq_true rfl) dX4_init_65 (fun H locs hP hS => ?_)
  obtain ⟨M_186, hM_186⟩ : ∃ z9 : mw_M, z9 = mw_up M_165 a (.inr (4, [.int 0, .ref q_1, .int 0, .int 0, .int 0, .ref q_15, .ref q_32, .ref q_52, .ref q_75, .ref q_101, .ref q_130, .ref q_162, .int 0, .null, .null, .null, .null, .null, .null, .null, .int 0])) := ⟨_, rfl⟩
  have hP : mw_P (gD G) gx_cl M_186 H := by rw [hM_186]; exact hP
  have f_187 : M_186 a = some (.inr (4, [.int 0, .ref q_1, .int 0, .int 0, .int 0, .ref q_15, .ref q_32, .ref q_52, .ref q_75, .ref q_101, .ref q_130, .ref q_162, .int 0, .null, .null, .null, .null, .null, .null, .null, .int 0])) := by rw [hM_186]; exact mw_self _ _ _
  have f_188 : M_186 q_1 = some (.inl (gI G, 63, .inl (fun _ => 0))) := by rw [hM_186, mw_ne _ _ (Ne.symm ne_7)]; exact f_169
  have f_189 : M_186 q_15 = some (.inl (gI G, 120, .inl (fun _ => 0))) := by rw [hM_186, mw_ne _ _ (Ne.symm ne_21)]; exact f_171
  have f_190 : M_186 q_32 = some (.inl (gI G, 120, .inl (fun _ => 0))) := by rw [hM_186, mw_ne _ _ (Ne.symm ne_38)]; exact f_173
  have f_191 : M_186 q_52 = some (.inl (gI G, 120, .inl (fun _ => 0))) := by rw [hM_186, mw_ne _ _ (Ne.symm ne_58)]; exact f_175
  have f_192 : M_186 q_75 = some (.inl (gI G, 120, .inl (fun _ => 0))) := by rw [hM_186, mw_ne _ _ (Ne.symm ne_81)]; exact f_177
  have f_193 : M_186 q_101 = some (.inl (gI G, 120, .inl (fun _ => 0))) := by rw [hM_186, mw_ne _ _ (Ne.symm ne_107)]; exact f_179
  have f_194 : M_186 q_130 = some (.inl (gI G, 120, .inl (fun _ => 0))) := by rw [hM_186, mw_ne _ _ (Ne.symm ne_136)]; exact f_181
  have f_195 : M_186 q_162 = some (.inl (gI G, 120, .inl (fun _ => 0))) := by rw [hM_186, mw_ne _ _ (Ne.symm ne_168)]; exact f_183
  have hold_196 : ∀ x9 e9, x9 ≠ a → M x9 = some e9 → M_186 x9 = some e9 := fun x9 e9 n9 h9 => by rw [hM_186, mw_ne _ _ n9]; exact hold_185 x9 e9 n9 h9
  refine lv_aload_n hx hb dX4_init_68 rfl (lv_at hl 0 rfl) ?_
  refine lv_sipush (v := 14800) hx hb dX4_init_69 (by decide) ?_
  refine mw_newi (N := 14800) hx hb (htb _ wd55) hK hP hS 0 rfl (by decide) (by decide) (by decide) (Nat.le_of_ble_eq_true rfl) (Nat.le_of_ble_eq_true rfl) dX4_init_72 (fun q_197 H hq_198 hs_199 hP hS => ?_)
  obtain ⟨M_200, hM_200⟩ : ∃ z9 : mw_M, z9 = mw_up M_186 q_197 (.inl (gI G, 14800, .inl (fun _ => 0))) := ⟨_, rfl⟩
  have hP : mw_P (gD G) gx_cl M_200 H := by rw [hM_200]; exact hP
  have f_202 : M_200 a = some (.inr (4, [.int 0, .ref q_1, .int 0, .int 0, .int 0, .ref q_15, .ref q_32, .ref q_52, .ref q_75, .ref q_101, .ref q_130, .ref q_162, .int 0, .null, .null, .null, .null, .null, .null, .null, .int 0])) := by rw [hM_200, mw_ne _ _ (fun z => by have z1 := f_187; rw [z, hq_198] at z1; cases z1)]; exact f_187
  have ne_203 : a ≠ q_197 := fun z => by have z1 := f_187; rw [z, hq_198] at z1; cases z1
  have f_204 : M_200 q_1 = some (.inl (gI G, 63, .inl (fun _ => 0))) := by rw [hM_200, mw_ne _ _ (fun z => by have z1 := f_188; rw [z, hq_198] at z1; cases z1)]; exact f_188
  have ne_205 : q_1 ≠ q_197 := fun z => by have z1 := f_188; rw [z, hq_198] at z1; cases z1
  have f_206 : M_200 q_15 = some (.inl (gI G, 120, .inl (fun _ => 0))) := by rw [hM_200, mw_ne _ _ (fun z => by have z1 := f_189; rw [z, hq_198] at z1; cases z1)]; exact f_189
  have ne_207 : q_15 ≠ q_197 := fun z => by have z1 := f_189; rw [z, hq_198] at z1; cases z1
  have f_208 : M_200 q_32 = some (.inl (gI G, 120, .inl (fun _ => 0))) := by rw [hM_200, mw_ne _ _ (fun z => by have z1 := f_190; rw [z, hq_198] at z1; cases z1)]; exact f_190
  have ne_209 : q_32 ≠ q_197 := fun z => by have z1 := f_190; rw [z, hq_198] at z1; cases z1
  have f_210 : M_200 q_52 = some (.inl (gI G, 120, .inl (fun _ => 0))) := by rw [hM_200, mw_ne _ _ (fun z => by have z1 := f_191; rw [z, hq_198] at z1; cases z1)]; exact f_191
  have ne_211 : q_52 ≠ q_197 := fun z => by have z1 := f_191; rw [z, hq_198] at z1; cases z1
  have f_212 : M_200 q_75 = some (.inl (gI G, 120, .inl (fun _ => 0))) := by rw [hM_200, mw_ne _ _ (fun z => by have z1 := f_192; rw [z, hq_198] at z1; cases z1)]; exact f_192
  have ne_213 : q_75 ≠ q_197 := fun z => by have z1 := f_192; rw [z, hq_198] at z1; cases z1
  have f_214 : M_200 q_101 = some (.inl (gI G, 120, .inl (fun _ => 0))) := by rw [hM_200, mw_ne _ _ (fun z => by have z1 := f_193; rw [z, hq_198] at z1; cases z1)]; exact f_193
  have ne_215 : q_101 ≠ q_197 := fun z => by have z1 := f_193; rw [z, hq_198] at z1; cases z1
  have f_216 : M_200 q_130 = some (.inl (gI G, 120, .inl (fun _ => 0))) := by rw [hM_200, mw_ne _ _ (fun z => by have z1 := f_194; rw [z, hq_198] at z1; cases z1)]; exact f_194
  have ne_217 : q_130 ≠ q_197 := fun z => by have z1 := f_194; rw [z, hq_198] at z1; cases z1
  have f_218 : M_200 q_162 = some (.inl (gI G, 120, .inl (fun _ => 0))) := by rw [hM_200, mw_ne _ _ (fun z => by have z1 := f_195; rw [z, hq_198] at z1; cases z1)]; exact f_195
  have ne_219 : q_162 ≠ q_197 := fun z => by have z1 := f_195; rw [z, hq_198] at z1; cases z1
  have f_220 : M_200 q_197 = some (.inl (gI G, 14800, .inl (fun _ => 0))) := by rw [hM_200]; exact mw_self _ _ _
  have n0_221 : M q_197 = none := mw_hno hold_196 hq_198 ne_203
  have hold_222 : ∀ x9 e9, x9 ≠ a → M x9 = some e9 → M_200 x9 = some e9 := by rw [hM_200]; exact mw_hup hold_196 hq_198 _
  refine mw_putF (D := gD G) (ci := 4) (v := .ref q_197) (ty := .array (.int)) (C := RX4) (T := TX4) (N := 21) hx hb htb inX4 tyX4 tyX4_ok nmX4 hown hK hP hS f_202 hAa rfl 13 (by decide) (htb _ wd537) (fun _ h9 => h9) rfl hin rfl (by decide +kernel) rfl rfl (Nat.le_of_ble_eq_true rfl) dX4_init_74 (fun H locs hP hS => ?_)
  obtain ⟨M_223, hM_223⟩ : ∃ z9 : mw_M, z9 = mw_up M_200 a (.inr (4, [.int 0, .ref q_1, .int 0, .int 0, .int 0, .ref q_15, .ref q_32, .ref q_52, .ref q_75, .ref q_101, .ref q_130, .ref q_162, .int 0, .ref q_197, .null, .null, .null, .null, .null, .null, .int 0])) := ⟨_, rfl⟩
  have hP : mw_P (gD G) gx_cl M_223 H := by rw [hM_223]; exact hP
  have f_224 : M_223 a = some (.inr (4, [.int 0, .ref q_1, .int 0, .int 0, .int 0, .ref q_15, .ref q_32, .ref q_52, .ref q_75, .ref q_101, .ref q_130, .ref q_162, .int 0, .ref q_197, .null, .null, .null, .null, .null, .null, .int 0])) := by rw [hM_223]; exact mw_self _ _ _
  have f_225 : M_223 q_1 = some (.inl (gI G, 63, .inl (fun _ => 0))) := by rw [hM_223, mw_ne _ _ (Ne.symm ne_7)]; exact f_204
  have f_226 : M_223 q_15 = some (.inl (gI G, 120, .inl (fun _ => 0))) := by rw [hM_223, mw_ne _ _ (Ne.symm ne_21)]; exact f_206
  have f_227 : M_223 q_32 = some (.inl (gI G, 120, .inl (fun _ => 0))) := by rw [hM_223, mw_ne _ _ (Ne.symm ne_38)]; exact f_208
  have f_228 : M_223 q_52 = some (.inl (gI G, 120, .inl (fun _ => 0))) := by rw [hM_223, mw_ne _ _ (Ne.symm ne_58)]; exact f_210
  have f_229 : M_223 q_75 = some (.inl (gI G, 120, .inl (fun _ => 0))) := by rw [hM_223, mw_ne _ _ (Ne.symm ne_81)]; exact f_212
  have f_230 : M_223 q_101 = some (.inl (gI G, 120, .inl (fun _ => 0))) := by rw [hM_223, mw_ne _ _ (Ne.symm ne_107)]; exact f_214
  have f_231 : M_223 q_130 = some (.inl (gI G, 120, .inl (fun _ => 0))) := by rw [hM_223, mw_ne _ _ (Ne.symm ne_136)]; exact f_216
  have f_232 : M_223 q_162 = some (.inl (gI G, 120, .inl (fun _ => 0))) := by rw [hM_223, mw_ne _ _ (Ne.symm ne_168)]; exact f_218
  have f_233 : M_223 q_197 = some (.inl (gI G, 14800, .inl (fun _ => 0))) := by rw [hM_223, mw_ne _ _ (Ne.symm ne_203)]; exact f_220
  have hold_234 : ∀ x9 e9, x9 ≠ a → M x9 = some e9 → M_223 x9 = some e9 := fun x9 e9 n9 h9 => by rw [hM_223, mw_ne _ _ n9]; exact hold_222 x9 e9 n9 h9
  refine lv_aload_n hx hb dX4_init_77 rfl (lv_at hl 0 rfl) ?_
  refine lv_sipush (v := 14800) hx hb dX4_init_78 (by decide) ?_
  refine mw_newi (N := 14800) hx hb (htb _ wd55) hK hP hS 0 rfl (by decide) (by decide) (by decide) (Nat.le_of_ble_eq_true rfl) (Nat.le_of_ble_eq_true rfl) dX4_init_81 (fun q_235 H hq_236 hs_237 hP hS => ?_)
  obtain ⟨M_238, hM_238⟩ : ∃ z9 : mw_M, z9 = mw_up M_223 q_235 (.inl (gI G, 14800, .inl (fun _ => 0))) := ⟨_, rfl⟩
  have hP : mw_P (gD G) gx_cl M_238 H := by rw [hM_238]; exact hP
  have f_240 : M_238 a = some (.inr (4, [.int 0, .ref q_1, .int 0, .int 0, .int 0, .ref q_15, .ref q_32, .ref q_52, .ref q_75, .ref q_101, .ref q_130, .ref q_162, .int 0, .ref q_197, .null, .null, .null, .null, .null, .null, .int 0])) := by rw [hM_238, mw_ne _ _ (fun z => by have z1 := f_224; rw [z, hq_236] at z1; cases z1)]; exact f_224
  have ne_241 : a ≠ q_235 := fun z => by have z1 := f_224; rw [z, hq_236] at z1; cases z1
  have f_242 : M_238 q_1 = some (.inl (gI G, 63, .inl (fun _ => 0))) := by rw [hM_238, mw_ne _ _ (fun z => by have z1 := f_225; rw [z, hq_236] at z1; cases z1)]; exact f_225
  have ne_243 : q_1 ≠ q_235 := fun z => by have z1 := f_225; rw [z, hq_236] at z1; cases z1
  have f_244 : M_238 q_15 = some (.inl (gI G, 120, .inl (fun _ => 0))) := by rw [hM_238, mw_ne _ _ (fun z => by have z1 := f_226; rw [z, hq_236] at z1; cases z1)]; exact f_226
  have ne_245 : q_15 ≠ q_235 := fun z => by have z1 := f_226; rw [z, hq_236] at z1; cases z1
  have f_246 : M_238 q_32 = some (.inl (gI G, 120, .inl (fun _ => 0))) := by rw [hM_238, mw_ne _ _ (fun z => by have z1 := f_227; rw [z, hq_236] at z1; cases z1)]; exact f_227
  have ne_247 : q_32 ≠ q_235 := fun z => by have z1 := f_227; rw [z, hq_236] at z1; cases z1
  have f_248 : M_238 q_52 = some (.inl (gI G, 120, .inl (fun _ => 0))) := by rw [hM_238, mw_ne _ _ (fun z => by have z1 := f_228; rw [z, hq_236] at z1; cases z1)]; exact f_228
  have ne_249 : q_52 ≠ q_235 := fun z => by have z1 := f_228; rw [z, hq_236] at z1; cases z1
  have f_250 : M_238 q_75 = some (.inl (gI G, 120, .inl (fun _ => 0))) := by rw [hM_238, mw_ne _ _ (fun z => by have z1 := f_229; rw [z, hq_236] at z1; cases z1)]; exact f_229
  have ne_251 : q_75 ≠ q_235 := fun z => by have z1 := f_229; rw [z, hq_236] at z1; cases z1
  have f_252 : M_238 q_101 = some (.inl (gI G, 120, .inl (fun _ => 0))) := by rw [hM_238, mw_ne _ _ (fun z => by have z1 := f_230; rw [z, hq_236] at z1; cases z1)]; exact f_230
  have ne_253 : q_101 ≠ q_235 := fun z => by have z1 := f_230; rw [z, hq_236] at z1; cases z1
  have f_254 : M_238 q_130 = some (.inl (gI G, 120, .inl (fun _ => 0))) := by rw [hM_238, mw_ne _ _ (fun z => by have z1 := f_231; rw [z, hq_236] at z1; cases z1)]; exact f_231
  have ne_255 : q_130 ≠ q_235 := fun z => by have z1 := f_231; rw [z, hq_236] at z1; cases z1
  have f_256 : M_238 q_162 = some (.inl (gI G, 120, .inl (fun _ => 0))) := by rw [hM_238, mw_ne _ _ (fun z => by have z1 := f_232; rw [z, hq_236] at z1; cases z1)]; exact f_232
  have ne_257 : q_162 ≠ q_235 := fun z => by have z1 := f_232; rw [z, hq_236] at z1; cases z1
  have f_258 : M_238 q_197 = some (.inl (gI G, 14800, .inl (fun _ => 0))) := by rw [hM_238, mw_ne _ _ (fun z => by have z1 := f_233; rw [z, hq_236] at z1; cases z1)]; exact f_233
  have ne_259 : q_197 ≠ q_235 := fun z => by have z1 := f_233; rw [z, hq_236] at z1; cases z1
  have f_260 : M_238 q_235 = some (.inl (gI G, 14800, .inl (fun _ => 0))) := by rw [hM_238]; exact mw_self _ _ _
  have n0_261 : M q_235 = none := mw_hno hold_234 hq_236 ne_241
  have hold_262 : ∀ x9 e9, x9 ≠ a → M x9 = some e9 → M_238 x9 = some e9 := by rw [hM_238]; exact mw_hup hold_234 hq_236 _
  refine mw_putF (D := gD G) (ci := 4) (v := .ref q_235) (ty := .array (.int)) (C := RX4) (T := TX4) (N := 21) hx hb htb inX4 tyX4 tyX4_ok nmX4 hown hK hP hS f_240 hAa rfl 14 (by decide) (htb _ wd538) (fun _ h9 => h9) rfl hin rfl (by decide +kernel) rfl rfl (Nat.le_of_ble_eq_true rfl) dX4_init_83 (fun H locs hP hS => ?_)
  obtain ⟨M_263, hM_263⟩ : ∃ z9 : mw_M, z9 = mw_up M_238 a (.inr (4, [.int 0, .ref q_1, .int 0, .int 0, .int 0, .ref q_15, .ref q_32, .ref q_52, .ref q_75, .ref q_101, .ref q_130, .ref q_162, .int 0, .ref q_197, .ref q_235, .null, .null, .null, .null, .null, .int 0])) := ⟨_, rfl⟩
  have hP : mw_P (gD G) gx_cl M_263 H := by rw [hM_263]; exact hP
  have f_264 : M_263 a = some (.inr (4, [.int 0, .ref q_1, .int 0, .int 0, .int 0, .ref q_15, .ref q_32, .ref q_52, .ref q_75, .ref q_101, .ref q_130, .ref q_162, .int 0, .ref q_197, .ref q_235, .null, .null, .null, .null, .null, .int 0])) := by rw [hM_263]; exact mw_self _ _ _
  have f_265 : M_263 q_1 = some (.inl (gI G, 63, .inl (fun _ => 0))) := by rw [hM_263, mw_ne _ _ (Ne.symm ne_7)]; exact f_242
  have f_266 : M_263 q_15 = some (.inl (gI G, 120, .inl (fun _ => 0))) := by rw [hM_263, mw_ne _ _ (Ne.symm ne_21)]; exact f_244
  have f_267 : M_263 q_32 = some (.inl (gI G, 120, .inl (fun _ => 0))) := by rw [hM_263, mw_ne _ _ (Ne.symm ne_38)]; exact f_246
  have f_268 : M_263 q_52 = some (.inl (gI G, 120, .inl (fun _ => 0))) := by rw [hM_263, mw_ne _ _ (Ne.symm ne_58)]; exact f_248
  have f_269 : M_263 q_75 = some (.inl (gI G, 120, .inl (fun _ => 0))) := by rw [hM_263, mw_ne _ _ (Ne.symm ne_81)]; exact f_250
  have f_270 : M_263 q_101 = some (.inl (gI G, 120, .inl (fun _ => 0))) := by rw [hM_263, mw_ne _ _ (Ne.symm ne_107)]; exact f_252
  have f_271 : M_263 q_130 = some (.inl (gI G, 120, .inl (fun _ => 0))) := by rw [hM_263, mw_ne _ _ (Ne.symm ne_136)]; exact f_254
  have f_272 : M_263 q_162 = some (.inl (gI G, 120, .inl (fun _ => 0))) := by rw [hM_263, mw_ne _ _ (Ne.symm ne_168)]; exact f_256
  have f_273 : M_263 q_197 = some (.inl (gI G, 14800, .inl (fun _ => 0))) := by rw [hM_263, mw_ne _ _ (Ne.symm ne_203)]; exact f_258
  have f_274 : M_263 q_235 = some (.inl (gI G, 14800, .inl (fun _ => 0))) := by rw [hM_263, mw_ne _ _ (Ne.symm ne_241)]; exact f_260
  have hold_275 : ∀ x9 e9, x9 ≠ a → M x9 = some e9 → M_263 x9 = some e9 := fun x9 e9 n9 h9 => by rw [hM_263, mw_ne _ _ n9]; exact hold_262 x9 e9 n9 h9
  refine lv_aload_n hx hb dX4_init_86 rfl (lv_at hl 0 rfl) ?_
  refine lv_sipush (v := 14800) hx hb dX4_init_87 (by decide) ?_
  refine mw_newi (N := 14800) hx hb (htb _ wd55) hK hP hS 0 rfl (by decide) (by decide) (by decide) (Nat.le_of_ble_eq_true rfl) (Nat.le_of_ble_eq_true rfl) dX4_init_90 (fun q_276 H hq_277 hs_278 hP hS => ?_)
  obtain ⟨M_279, hM_279⟩ : ∃ z9 : mw_M, z9 = mw_up M_263 q_276 (.inl (gI G, 14800, .inl (fun _ => 0))) := ⟨_, rfl⟩
  have hP : mw_P (gD G) gx_cl M_279 H := by rw [hM_279]; exact hP
  have f_281 : M_279 a = some (.inr (4, [.int 0, .ref q_1, .int 0, .int 0, .int 0, .ref q_15, .ref q_32, .ref q_52, .ref q_75, .ref q_101, .ref q_130, .ref q_162, .int 0, .ref q_197, .ref q_235, .null, .null, .null, .null, .null, .int 0])) := by rw [hM_279, mw_ne _ _ (fun z => by have z1 := f_264; rw [z, hq_277] at z1; cases z1)]; exact f_264
  have ne_282 : a ≠ q_276 := fun z => by have z1 := f_264; rw [z, hq_277] at z1; cases z1
  have f_283 : M_279 q_1 = some (.inl (gI G, 63, .inl (fun _ => 0))) := by rw [hM_279, mw_ne _ _ (fun z => by have z1 := f_265; rw [z, hq_277] at z1; cases z1)]; exact f_265
  have ne_284 : q_1 ≠ q_276 := fun z => by have z1 := f_265; rw [z, hq_277] at z1; cases z1
  have f_285 : M_279 q_15 = some (.inl (gI G, 120, .inl (fun _ => 0))) := by rw [hM_279, mw_ne _ _ (fun z => by have z1 := f_266; rw [z, hq_277] at z1; cases z1)]; exact f_266
  have ne_286 : q_15 ≠ q_276 := fun z => by have z1 := f_266; rw [z, hq_277] at z1; cases z1
  have f_287 : M_279 q_32 = some (.inl (gI G, 120, .inl (fun _ => 0))) := by rw [hM_279, mw_ne _ _ (fun z => by have z1 := f_267; rw [z, hq_277] at z1; cases z1)]; exact f_267
  have ne_288 : q_32 ≠ q_276 := fun z => by have z1 := f_267; rw [z, hq_277] at z1; cases z1
  have f_289 : M_279 q_52 = some (.inl (gI G, 120, .inl (fun _ => 0))) := by rw [hM_279, mw_ne _ _ (fun z => by have z1 := f_268; rw [z, hq_277] at z1; cases z1)]; exact f_268
  have ne_290 : q_52 ≠ q_276 := fun z => by have z1 := f_268; rw [z, hq_277] at z1; cases z1
  have f_291 : M_279 q_75 = some (.inl (gI G, 120, .inl (fun _ => 0))) := by rw [hM_279, mw_ne _ _ (fun z => by have z1 := f_269; rw [z, hq_277] at z1; cases z1)]; exact f_269
  have ne_292 : q_75 ≠ q_276 := fun z => by have z1 := f_269; rw [z, hq_277] at z1; cases z1
  have f_293 : M_279 q_101 = some (.inl (gI G, 120, .inl (fun _ => 0))) := by rw [hM_279, mw_ne _ _ (fun z => by have z1 := f_270; rw [z, hq_277] at z1; cases z1)]; exact f_270
  have ne_294 : q_101 ≠ q_276 := fun z => by have z1 := f_270; rw [z, hq_277] at z1; cases z1
  have f_295 : M_279 q_130 = some (.inl (gI G, 120, .inl (fun _ => 0))) := by rw [hM_279, mw_ne _ _ (fun z => by have z1 := f_271; rw [z, hq_277] at z1; cases z1)]; exact f_271
  have ne_296 : q_130 ≠ q_276 := fun z => by have z1 := f_271; rw [z, hq_277] at z1; cases z1
  have f_297 : M_279 q_162 = some (.inl (gI G, 120, .inl (fun _ => 0))) := by rw [hM_279, mw_ne _ _ (fun z => by have z1 := f_272; rw [z, hq_277] at z1; cases z1)]; exact f_272
  have ne_298 : q_162 ≠ q_276 := fun z => by have z1 := f_272; rw [z, hq_277] at z1; cases z1
  have f_299 : M_279 q_197 = some (.inl (gI G, 14800, .inl (fun _ => 0))) := by rw [hM_279, mw_ne _ _ (fun z => by have z1 := f_273; rw [z, hq_277] at z1; cases z1)]; exact f_273
  have ne_300 : q_197 ≠ q_276 := fun z => by have z1 := f_273; rw [z, hq_277] at z1; cases z1
  have f_301 : M_279 q_235 = some (.inl (gI G, 14800, .inl (fun _ => 0))) := by rw [hM_279, mw_ne _ _ (fun z => by have z1 := f_274; rw [z, hq_277] at z1; cases z1)]; exact f_274
  have ne_302 : q_235 ≠ q_276 := fun z => by have z1 := f_274; rw [z, hq_277] at z1; cases z1
  have f_303 : M_279 q_276 = some (.inl (gI G, 14800, .inl (fun _ => 0))) := by rw [hM_279]; exact mw_self _ _ _
  have n0_304 : M q_276 = none := mw_hno hold_275 hq_277 ne_282
  have hold_305 : ∀ x9 e9, x9 ≠ a → M x9 = some e9 → M_279 x9 = some e9 := by rw [hM_279]; exact mw_hup hold_275 hq_277 _
  refine mw_putF (D := gD G) (ci := 4) (v := .ref q_276) (ty := .array (.int)) (C := RX4) (T := TX4) (N := 21) hx hb htb inX4 tyX4 tyX4_ok nmX4 hown hK hP hS f_281 hAa rfl 15 (by decide) (htb _ wd539) (fun _ h9 => h9) rfl hin rfl (by decide +kernel) rfl rfl (Nat.le_of_ble_eq_true rfl) dX4_init_92 (fun H locs hP hS => ?_)
  obtain ⟨M_306, hM_306⟩ : ∃ z9 : mw_M, z9 = mw_up M_279 a (.inr (4, [.int 0, .ref q_1, .int 0, .int 0, .int 0, .ref q_15, .ref q_32, .ref q_52, .ref q_75, .ref q_101, .ref q_130, .ref q_162, .int 0, .ref q_197, .ref q_235, .ref q_276, .null, .null, .null, .null, .int 0])) := ⟨_, rfl⟩
  have hP : mw_P (gD G) gx_cl M_306 H := by rw [hM_306]; exact hP
  have f_307 : M_306 a = some (.inr (4, [.int 0, .ref q_1, .int 0, .int 0, .int 0, .ref q_15, .ref q_32, .ref q_52, .ref q_75, .ref q_101, .ref q_130, .ref q_162, .int 0, .ref q_197, .ref q_235, .ref q_276, .null, .null, .null, .null, .int 0])) := by rw [hM_306]; exact mw_self _ _ _
  have f_308 : M_306 q_1 = some (.inl (gI G, 63, .inl (fun _ => 0))) := by rw [hM_306, mw_ne _ _ (Ne.symm ne_7)]; exact f_283
  have f_309 : M_306 q_15 = some (.inl (gI G, 120, .inl (fun _ => 0))) := by rw [hM_306, mw_ne _ _ (Ne.symm ne_21)]; exact f_285
  have f_310 : M_306 q_32 = some (.inl (gI G, 120, .inl (fun _ => 0))) := by rw [hM_306, mw_ne _ _ (Ne.symm ne_38)]; exact f_287
  have f_311 : M_306 q_52 = some (.inl (gI G, 120, .inl (fun _ => 0))) := by rw [hM_306, mw_ne _ _ (Ne.symm ne_58)]; exact f_289
  have f_312 : M_306 q_75 = some (.inl (gI G, 120, .inl (fun _ => 0))) := by rw [hM_306, mw_ne _ _ (Ne.symm ne_81)]; exact f_291
  have f_313 : M_306 q_101 = some (.inl (gI G, 120, .inl (fun _ => 0))) := by rw [hM_306, mw_ne _ _ (Ne.symm ne_107)]; exact f_293
  have f_314 : M_306 q_130 = some (.inl (gI G, 120, .inl (fun _ => 0))) := by rw [hM_306, mw_ne _ _ (Ne.symm ne_136)]; exact f_295
  have f_315 : M_306 q_162 = some (.inl (gI G, 120, .inl (fun _ => 0))) := by rw [hM_306, mw_ne _ _ (Ne.symm ne_168)]; exact f_297
  have f_316 : M_306 q_197 = some (.inl (gI G, 14800, .inl (fun _ => 0))) := by rw [hM_306, mw_ne _ _ (Ne.symm ne_203)]; exact f_299
  have f_317 : M_306 q_235 = some (.inl (gI G, 14800, .inl (fun _ => 0))) := by rw [hM_306, mw_ne _ _ (Ne.symm ne_241)]; exact f_301
  have f_318 : M_306 q_276 = some (.inl (gI G, 14800, .inl (fun _ => 0))) := by rw [hM_306, mw_ne _ _ (Ne.symm ne_282)]; exact f_303
  have hold_319 : ∀ x9 e9, x9 ≠ a → M x9 = some e9 → M_306 x9 = some e9 := fun x9 e9 n9 h9 => by rw [hM_306, mw_ne _ _ n9]; exact hold_305 x9 e9 n9 h9
  refine lv_aload_n hx hb dX4_init_95 rfl (lv_at hl 0 rfl) ?_
  refine lv_bipush (v := 8) hx hb dX4_init_96 (by decide) ?_
  refine mw_newi (N := 8) hx hb (htb _ wd55) hK hP hS 0 rfl (by decide) (by decide) (by decide) (Nat.le_of_ble_eq_true rfl) (Nat.le_of_ble_eq_true rfl) dX4_init_98 (fun q_320 H hq_321 hs_322 hP hS => ?_)
  obtain ⟨M_323, hM_323⟩ : ∃ z9 : mw_M, z9 = mw_up M_306 q_320 (.inl (gI G, 8, .inl (fun _ => 0))) := ⟨_, rfl⟩
  have hP : mw_P (gD G) gx_cl M_323 H := by rw [hM_323]; exact hP
  have f_325 : M_323 a = some (.inr (4, [.int 0, .ref q_1, .int 0, .int 0, .int 0, .ref q_15, .ref q_32, .ref q_52, .ref q_75, .ref q_101, .ref q_130, .ref q_162, .int 0, .ref q_197, .ref q_235, .ref q_276, .null, .null, .null, .null, .int 0])) := by rw [hM_323, mw_ne _ _ (fun z => by have z1 := f_307; rw [z, hq_321] at z1; cases z1)]; exact f_307
  have ne_326 : a ≠ q_320 := fun z => by have z1 := f_307; rw [z, hq_321] at z1; cases z1
  have f_327 : M_323 q_1 = some (.inl (gI G, 63, .inl (fun _ => 0))) := by rw [hM_323, mw_ne _ _ (fun z => by have z1 := f_308; rw [z, hq_321] at z1; cases z1)]; exact f_308
  have ne_328 : q_1 ≠ q_320 := fun z => by have z1 := f_308; rw [z, hq_321] at z1; cases z1
  have f_329 : M_323 q_15 = some (.inl (gI G, 120, .inl (fun _ => 0))) := by rw [hM_323, mw_ne _ _ (fun z => by have z1 := f_309; rw [z, hq_321] at z1; cases z1)]; exact f_309
  have ne_330 : q_15 ≠ q_320 := fun z => by have z1 := f_309; rw [z, hq_321] at z1; cases z1
  have f_331 : M_323 q_32 = some (.inl (gI G, 120, .inl (fun _ => 0))) := by rw [hM_323, mw_ne _ _ (fun z => by have z1 := f_310; rw [z, hq_321] at z1; cases z1)]; exact f_310
  have ne_332 : q_32 ≠ q_320 := fun z => by have z1 := f_310; rw [z, hq_321] at z1; cases z1
  have f_333 : M_323 q_52 = some (.inl (gI G, 120, .inl (fun _ => 0))) := by rw [hM_323, mw_ne _ _ (fun z => by have z1 := f_311; rw [z, hq_321] at z1; cases z1)]; exact f_311
  have ne_334 : q_52 ≠ q_320 := fun z => by have z1 := f_311; rw [z, hq_321] at z1; cases z1
  have f_335 : M_323 q_75 = some (.inl (gI G, 120, .inl (fun _ => 0))) := by rw [hM_323, mw_ne _ _ (fun z => by have z1 := f_312; rw [z, hq_321] at z1; cases z1)]; exact f_312
  have ne_336 : q_75 ≠ q_320 := fun z => by have z1 := f_312; rw [z, hq_321] at z1; cases z1
  have f_337 : M_323 q_101 = some (.inl (gI G, 120, .inl (fun _ => 0))) := by rw [hM_323, mw_ne _ _ (fun z => by have z1 := f_313; rw [z, hq_321] at z1; cases z1)]; exact f_313
  have ne_338 : q_101 ≠ q_320 := fun z => by have z1 := f_313; rw [z, hq_321] at z1; cases z1
  have f_339 : M_323 q_130 = some (.inl (gI G, 120, .inl (fun _ => 0))) := by rw [hM_323, mw_ne _ _ (fun z => by have z1 := f_314; rw [z, hq_321] at z1; cases z1)]; exact f_314
  have ne_340 : q_130 ≠ q_320 := fun z => by have z1 := f_314; rw [z, hq_321] at z1; cases z1
  have f_341 : M_323 q_162 = some (.inl (gI G, 120, .inl (fun _ => 0))) := by rw [hM_323, mw_ne _ _ (fun z => by have z1 := f_315; rw [z, hq_321] at z1; cases z1)]; exact f_315
  have ne_342 : q_162 ≠ q_320 := fun z => by have z1 := f_315; rw [z, hq_321] at z1; cases z1
  have f_343 : M_323 q_197 = some (.inl (gI G, 14800, .inl (fun _ => 0))) := by rw [hM_323, mw_ne _ _ (fun z => by have z1 := f_316; rw [z, hq_321] at z1; cases z1)]; exact f_316
  have ne_344 : q_197 ≠ q_320 := fun z => by have z1 := f_316; rw [z, hq_321] at z1; cases z1
  have f_345 : M_323 q_235 = some (.inl (gI G, 14800, .inl (fun _ => 0))) := by rw [hM_323, mw_ne _ _ (fun z => by have z1 := f_317; rw [z, hq_321] at z1; cases z1)]; exact f_317
  have ne_346 : q_235 ≠ q_320 := fun z => by have z1 := f_317; rw [z, hq_321] at z1; cases z1
  have f_347 : M_323 q_276 = some (.inl (gI G, 14800, .inl (fun _ => 0))) := by rw [hM_323, mw_ne _ _ (fun z => by have z1 := f_318; rw [z, hq_321] at z1; cases z1)]; exact f_318
  have ne_348 : q_276 ≠ q_320 := fun z => by have z1 := f_318; rw [z, hq_321] at z1; cases z1
  have f_349 : M_323 q_320 = some (.inl (gI G, 8, .inl (fun _ => 0))) := by rw [hM_323]; exact mw_self _ _ _
  have n0_350 : M q_320 = none := mw_hno hold_319 hq_321 ne_326
  have hold_351 : ∀ x9 e9, x9 ≠ a → M x9 = some e9 → M_323 x9 = some e9 := by rw [hM_323]; exact mw_hup hold_319 hq_321 _
  refine mw_putF (D := gD G) (ci := 4) (v := .ref q_320) (ty := .array (.int)) (C := RX4) (T := TX4) (N := 21) hx hb htb inX4 tyX4 tyX4_ok nmX4 hown hK hP hS f_325 hAa rfl 16 (by decide) (htb _ wd540) (fun _ h9 => h9) rfl hin rfl (by decide +kernel) rfl rfl (Nat.le_of_ble_eq_true rfl) dX4_init_100 (fun H locs hP hS => ?_)
  obtain ⟨M_352, hM_352⟩ : ∃ z9 : mw_M, z9 = mw_up M_323 a (.inr (4, [.int 0, .ref q_1, .int 0, .int 0, .int 0, .ref q_15, .ref q_32, .ref q_52, .ref q_75, .ref q_101, .ref q_130, .ref q_162, .int 0, .ref q_197, .ref q_235, .ref q_276, .ref q_320, .null, .null, .null, .int 0])) := ⟨_, rfl⟩
  have hP : mw_P (gD G) gx_cl M_352 H := by rw [hM_352]; exact hP
  have f_353 : M_352 a = some (.inr (4, [.int 0, .ref q_1, .int 0, .int 0, .int 0, .ref q_15, .ref q_32, .ref q_52, .ref q_75, .ref q_101, .ref q_130, .ref q_162, .int 0, .ref q_197, .ref q_235, .ref q_276, .ref q_320, .null, .null, .null, .int 0])) := by rw [hM_352]; exact mw_self _ _ _
  have f_354 : M_352 q_1 = some (.inl (gI G, 63, .inl (fun _ => 0))) := by rw [hM_352, mw_ne _ _ (Ne.symm ne_7)]; exact f_327
  have f_355 : M_352 q_15 = some (.inl (gI G, 120, .inl (fun _ => 0))) := by rw [hM_352, mw_ne _ _ (Ne.symm ne_21)]; exact f_329
  have f_356 : M_352 q_32 = some (.inl (gI G, 120, .inl (fun _ => 0))) := by rw [hM_352, mw_ne _ _ (Ne.symm ne_38)]; exact f_331
  have f_357 : M_352 q_52 = some (.inl (gI G, 120, .inl (fun _ => 0))) := by rw [hM_352, mw_ne _ _ (Ne.symm ne_58)]; exact f_333
  have f_358 : M_352 q_75 = some (.inl (gI G, 120, .inl (fun _ => 0))) := by rw [hM_352, mw_ne _ _ (Ne.symm ne_81)]; exact f_335
  have f_359 : M_352 q_101 = some (.inl (gI G, 120, .inl (fun _ => 0))) := by rw [hM_352, mw_ne _ _ (Ne.symm ne_107)]; exact f_337
  have f_360 : M_352 q_130 = some (.inl (gI G, 120, .inl (fun _ => 0))) := by rw [hM_352, mw_ne _ _ (Ne.symm ne_136)]; exact f_339
  have f_361 : M_352 q_162 = some (.inl (gI G, 120, .inl (fun _ => 0))) := by rw [hM_352, mw_ne _ _ (Ne.symm ne_168)]; exact f_341
  have f_362 : M_352 q_197 = some (.inl (gI G, 14800, .inl (fun _ => 0))) := by rw [hM_352, mw_ne _ _ (Ne.symm ne_203)]; exact f_343
  have f_363 : M_352 q_235 = some (.inl (gI G, 14800, .inl (fun _ => 0))) := by rw [hM_352, mw_ne _ _ (Ne.symm ne_241)]; exact f_345
  have f_364 : M_352 q_276 = some (.inl (gI G, 14800, .inl (fun _ => 0))) := by rw [hM_352, mw_ne _ _ (Ne.symm ne_282)]; exact f_347
  have f_365 : M_352 q_320 = some (.inl (gI G, 8, .inl (fun _ => 0))) := by rw [hM_352, mw_ne _ _ (Ne.symm ne_326)]; exact f_349
  have hold_366 : ∀ x9 e9, x9 ≠ a → M x9 = some e9 → M_352 x9 = some e9 := fun x9 e9 n9 h9 => by rw [hM_352, mw_ne _ _ n9]; exact hold_351 x9 e9 n9 h9
  refine lv_aload_n hx hb dX4_init_103 rfl (lv_at hl 0 rfl) ?_
  refine lv_bipush (v := 32) hx hb dX4_init_104 (by decide) ?_
  refine mw_newi (N := 32) hx hb (htb _ wd55) hK hP hS 0 rfl (by decide) (by decide) (by decide) (Nat.le_of_ble_eq_true rfl) (Nat.le_of_ble_eq_true rfl) dX4_init_106 (fun q_367 H hq_368 hs_369 hP hS => ?_)
  obtain ⟨M_370, hM_370⟩ : ∃ z9 : mw_M, z9 = mw_up M_352 q_367 (.inl (gI G, 32, .inl (fun _ => 0))) := ⟨_, rfl⟩
  have hP : mw_P (gD G) gx_cl M_370 H := by rw [hM_370]; exact hP
  have f_372 : M_370 a = some (.inr (4, [.int 0, .ref q_1, .int 0, .int 0, .int 0, .ref q_15, .ref q_32, .ref q_52, .ref q_75, .ref q_101, .ref q_130, .ref q_162, .int 0, .ref q_197, .ref q_235, .ref q_276, .ref q_320, .null, .null, .null, .int 0])) := by rw [hM_370, mw_ne _ _ (fun z => by have z1 := f_353; rw [z, hq_368] at z1; cases z1)]; exact f_353
  have ne_373 : a ≠ q_367 := fun z => by have z1 := f_353; rw [z, hq_368] at z1; cases z1
  have f_374 : M_370 q_1 = some (.inl (gI G, 63, .inl (fun _ => 0))) := by rw [hM_370, mw_ne _ _ (fun z => by have z1 := f_354; rw [z, hq_368] at z1; cases z1)]; exact f_354
  have ne_375 : q_1 ≠ q_367 := fun z => by have z1 := f_354; rw [z, hq_368] at z1; cases z1
  have f_376 : M_370 q_15 = some (.inl (gI G, 120, .inl (fun _ => 0))) := by rw [hM_370, mw_ne _ _ (fun z => by have z1 := f_355; rw [z, hq_368] at z1; cases z1)]; exact f_355
  have ne_377 : q_15 ≠ q_367 := fun z => by have z1 := f_355; rw [z, hq_368] at z1; cases z1
  have f_378 : M_370 q_32 = some (.inl (gI G, 120, .inl (fun _ => 0))) := by rw [hM_370, mw_ne _ _ (fun z => by have z1 := f_356; rw [z, hq_368] at z1; cases z1)]; exact f_356
  have ne_379 : q_32 ≠ q_367 := fun z => by have z1 := f_356; rw [z, hq_368] at z1; cases z1
  have f_380 : M_370 q_52 = some (.inl (gI G, 120, .inl (fun _ => 0))) := by rw [hM_370, mw_ne _ _ (fun z => by have z1 := f_357; rw [z, hq_368] at z1; cases z1)]; exact f_357
  have ne_381 : q_52 ≠ q_367 := fun z => by have z1 := f_357; rw [z, hq_368] at z1; cases z1
  have f_382 : M_370 q_75 = some (.inl (gI G, 120, .inl (fun _ => 0))) := by rw [hM_370, mw_ne _ _ (fun z => by have z1 := f_358; rw [z, hq_368] at z1; cases z1)]; exact f_358
  have ne_383 : q_75 ≠ q_367 := fun z => by have z1 := f_358; rw [z, hq_368] at z1; cases z1
  have f_384 : M_370 q_101 = some (.inl (gI G, 120, .inl (fun _ => 0))) := by rw [hM_370, mw_ne _ _ (fun z => by have z1 := f_359; rw [z, hq_368] at z1; cases z1)]; exact f_359
  have ne_385 : q_101 ≠ q_367 := fun z => by have z1 := f_359; rw [z, hq_368] at z1; cases z1
  have f_386 : M_370 q_130 = some (.inl (gI G, 120, .inl (fun _ => 0))) := by rw [hM_370, mw_ne _ _ (fun z => by have z1 := f_360; rw [z, hq_368] at z1; cases z1)]; exact f_360
  have ne_387 : q_130 ≠ q_367 := fun z => by have z1 := f_360; rw [z, hq_368] at z1; cases z1
  have f_388 : M_370 q_162 = some (.inl (gI G, 120, .inl (fun _ => 0))) := by rw [hM_370, mw_ne _ _ (fun z => by have z1 := f_361; rw [z, hq_368] at z1; cases z1)]; exact f_361
  have ne_389 : q_162 ≠ q_367 := fun z => by have z1 := f_361; rw [z, hq_368] at z1; cases z1
  have f_390 : M_370 q_197 = some (.inl (gI G, 14800, .inl (fun _ => 0))) := by rw [hM_370, mw_ne _ _ (fun z => by have z1 := f_362; rw [z, hq_368] at z1; cases z1)]; exact f_362
  have ne_391 : q_197 ≠ q_367 := fun z => by have z1 := f_362; rw [z, hq_368] at z1; cases z1
  have f_392 : M_370 q_235 = some (.inl (gI G, 14800, .inl (fun _ => 0))) := by rw [hM_370, mw_ne _ _ (fun z => by have z1 := f_363; rw [z, hq_368] at z1; cases z1)]; exact f_363
  have ne_393 : q_235 ≠ q_367 := fun z => by have z1 := f_363; rw [z, hq_368] at z1; cases z1
  have f_394 : M_370 q_276 = some (.inl (gI G, 14800, .inl (fun _ => 0))) := by rw [hM_370, mw_ne _ _ (fun z => by have z1 := f_364; rw [z, hq_368] at z1; cases z1)]; exact f_364
  have ne_395 : q_276 ≠ q_367 := fun z => by have z1 := f_364; rw [z, hq_368] at z1; cases z1
  have f_396 : M_370 q_320 = some (.inl (gI G, 8, .inl (fun _ => 0))) := by rw [hM_370, mw_ne _ _ (fun z => by have z1 := f_365; rw [z, hq_368] at z1; cases z1)]; exact f_365
  have ne_397 : q_320 ≠ q_367 := fun z => by have z1 := f_365; rw [z, hq_368] at z1; cases z1
  have f_398 : M_370 q_367 = some (.inl (gI G, 32, .inl (fun _ => 0))) := by rw [hM_370]; exact mw_self _ _ _
  have n0_399 : M q_367 = none := mw_hno hold_366 hq_368 ne_373
  have hold_400 : ∀ x9 e9, x9 ≠ a → M x9 = some e9 → M_370 x9 = some e9 := by rw [hM_370]; exact mw_hup hold_366 hq_368 _
  refine mw_putF (D := gD G) (ci := 4) (v := .ref q_367) (ty := .array (.int)) (C := RX4) (T := TX4) (N := 21) hx hb htb inX4 tyX4 tyX4_ok nmX4 hown hK hP hS f_372 hAa rfl 17 (by decide) (htb _ wd541) (fun _ h9 => h9) rfl hin rfl (by decide +kernel) rfl rfl (Nat.le_of_ble_eq_true rfl) dX4_init_108 (fun H locs hP hS => ?_)
  obtain ⟨M_401, hM_401⟩ : ∃ z9 : mw_M, z9 = mw_up M_370 a (.inr (4, [.int 0, .ref q_1, .int 0, .int 0, .int 0, .ref q_15, .ref q_32, .ref q_52, .ref q_75, .ref q_101, .ref q_130, .ref q_162, .int 0, .ref q_197, .ref q_235, .ref q_276, .ref q_320, .ref q_367, .null, .null, .int 0])) := ⟨_, rfl⟩
  have hP : mw_P (gD G) gx_cl M_401 H := by rw [hM_401]; exact hP
  have f_402 : M_401 a = some (.inr (4, [.int 0, .ref q_1, .int 0, .int 0, .int 0, .ref q_15, .ref q_32, .ref q_52, .ref q_75, .ref q_101, .ref q_130, .ref q_162, .int 0, .ref q_197, .ref q_235, .ref q_276, .ref q_320, .ref q_367, .null, .null, .int 0])) := by rw [hM_401]; exact mw_self _ _ _
  have f_403 : M_401 q_1 = some (.inl (gI G, 63, .inl (fun _ => 0))) := by rw [hM_401, mw_ne _ _ (Ne.symm ne_7)]; exact f_374
  have f_404 : M_401 q_15 = some (.inl (gI G, 120, .inl (fun _ => 0))) := by rw [hM_401, mw_ne _ _ (Ne.symm ne_21)]; exact f_376
  have f_405 : M_401 q_32 = some (.inl (gI G, 120, .inl (fun _ => 0))) := by rw [hM_401, mw_ne _ _ (Ne.symm ne_38)]; exact f_378
  have f_406 : M_401 q_52 = some (.inl (gI G, 120, .inl (fun _ => 0))) := by rw [hM_401, mw_ne _ _ (Ne.symm ne_58)]; exact f_380
  have f_407 : M_401 q_75 = some (.inl (gI G, 120, .inl (fun _ => 0))) := by rw [hM_401, mw_ne _ _ (Ne.symm ne_81)]; exact f_382
  have f_408 : M_401 q_101 = some (.inl (gI G, 120, .inl (fun _ => 0))) := by rw [hM_401, mw_ne _ _ (Ne.symm ne_107)]; exact f_384
  have f_409 : M_401 q_130 = some (.inl (gI G, 120, .inl (fun _ => 0))) := by rw [hM_401, mw_ne _ _ (Ne.symm ne_136)]; exact f_386
  have f_410 : M_401 q_162 = some (.inl (gI G, 120, .inl (fun _ => 0))) := by rw [hM_401, mw_ne _ _ (Ne.symm ne_168)]; exact f_388
  have f_411 : M_401 q_197 = some (.inl (gI G, 14800, .inl (fun _ => 0))) := by rw [hM_401, mw_ne _ _ (Ne.symm ne_203)]; exact f_390
  have f_412 : M_401 q_235 = some (.inl (gI G, 14800, .inl (fun _ => 0))) := by rw [hM_401, mw_ne _ _ (Ne.symm ne_241)]; exact f_392
  have f_413 : M_401 q_276 = some (.inl (gI G, 14800, .inl (fun _ => 0))) := by rw [hM_401, mw_ne _ _ (Ne.symm ne_282)]; exact f_394
  have f_414 : M_401 q_320 = some (.inl (gI G, 8, .inl (fun _ => 0))) := by rw [hM_401, mw_ne _ _ (Ne.symm ne_326)]; exact f_396
  have f_415 : M_401 q_367 = some (.inl (gI G, 32, .inl (fun _ => 0))) := by rw [hM_401, mw_ne _ _ (Ne.symm ne_373)]; exact f_398
  have hold_416 : ∀ x9 e9, x9 ≠ a → M x9 = some e9 → M_401 x9 = some e9 := fun x9 e9 n9 h9 => by rw [hM_401, mw_ne _ _ n9]; exact hold_400 x9 e9 n9 h9
  refine lv_aload_n hx hb dX4_init_111 rfl (lv_at hl 0 rfl) ?_
  refine lv_bipush (v := 8) hx hb dX4_init_112 (by decide) ?_
  refine mw_newz (N := 8) hx hb (htb _ wd588) hK hP hS 4 rfl (by decide) (by decide) (by decide) (Nat.le_of_ble_eq_true rfl) (Nat.le_of_ble_eq_true rfl) dX4_init_114 (fun q_417 H hq_418 hs_419 hP hS => ?_)
  obtain ⟨M_420, hM_420⟩ : ∃ z9 : mw_M, z9 = mw_up M_401 q_417 (.inl (gZ G, 8, .inl (fun _ => 0))) := ⟨_, rfl⟩
  have hP : mw_P (gD G) gx_cl M_420 H := by rw [hM_420]; exact hP
  have f_422 : M_420 a = some (.inr (4, [.int 0, .ref q_1, .int 0, .int 0, .int 0, .ref q_15, .ref q_32, .ref q_52, .ref q_75, .ref q_101, .ref q_130, .ref q_162, .int 0, .ref q_197, .ref q_235, .ref q_276, .ref q_320, .ref q_367, .null, .null, .int 0])) := by rw [hM_420, mw_ne _ _ (fun z => by have z1 := f_402; rw [z, hq_418] at z1; cases z1)]; exact f_402
  have ne_423 : a ≠ q_417 := fun z => by have z1 := f_402; rw [z, hq_418] at z1; cases z1
  have f_424 : M_420 q_1 = some (.inl (gI G, 63, .inl (fun _ => 0))) := by rw [hM_420, mw_ne _ _ (fun z => by have z1 := f_403; rw [z, hq_418] at z1; cases z1)]; exact f_403
  have ne_425 : q_1 ≠ q_417 := fun z => by have z1 := f_403; rw [z, hq_418] at z1; cases z1
  have f_426 : M_420 q_15 = some (.inl (gI G, 120, .inl (fun _ => 0))) := by rw [hM_420, mw_ne _ _ (fun z => by have z1 := f_404; rw [z, hq_418] at z1; cases z1)]; exact f_404
  have ne_427 : q_15 ≠ q_417 := fun z => by have z1 := f_404; rw [z, hq_418] at z1; cases z1
  have f_428 : M_420 q_32 = some (.inl (gI G, 120, .inl (fun _ => 0))) := by rw [hM_420, mw_ne _ _ (fun z => by have z1 := f_405; rw [z, hq_418] at z1; cases z1)]; exact f_405
  have ne_429 : q_32 ≠ q_417 := fun z => by have z1 := f_405; rw [z, hq_418] at z1; cases z1
  have f_430 : M_420 q_52 = some (.inl (gI G, 120, .inl (fun _ => 0))) := by rw [hM_420, mw_ne _ _ (fun z => by have z1 := f_406; rw [z, hq_418] at z1; cases z1)]; exact f_406
  have ne_431 : q_52 ≠ q_417 := fun z => by have z1 := f_406; rw [z, hq_418] at z1; cases z1
  have f_432 : M_420 q_75 = some (.inl (gI G, 120, .inl (fun _ => 0))) := by rw [hM_420, mw_ne _ _ (fun z => by have z1 := f_407; rw [z, hq_418] at z1; cases z1)]; exact f_407
  have ne_433 : q_75 ≠ q_417 := fun z => by have z1 := f_407; rw [z, hq_418] at z1; cases z1
  have f_434 : M_420 q_101 = some (.inl (gI G, 120, .inl (fun _ => 0))) := by rw [hM_420, mw_ne _ _ (fun z => by have z1 := f_408; rw [z, hq_418] at z1; cases z1)]; exact f_408
  have ne_435 : q_101 ≠ q_417 := fun z => by have z1 := f_408; rw [z, hq_418] at z1; cases z1
  have f_436 : M_420 q_130 = some (.inl (gI G, 120, .inl (fun _ => 0))) := by rw [hM_420, mw_ne _ _ (fun z => by have z1 := f_409; rw [z, hq_418] at z1; cases z1)]; exact f_409
  have ne_437 : q_130 ≠ q_417 := fun z => by have z1 := f_409; rw [z, hq_418] at z1; cases z1
  have f_438 : M_420 q_162 = some (.inl (gI G, 120, .inl (fun _ => 0))) := by rw [hM_420, mw_ne _ _ (fun z => by have z1 := f_410; rw [z, hq_418] at z1; cases z1)]; exact f_410
  have ne_439 : q_162 ≠ q_417 := fun z => by have z1 := f_410; rw [z, hq_418] at z1; cases z1
  have f_440 : M_420 q_197 = some (.inl (gI G, 14800, .inl (fun _ => 0))) := by rw [hM_420, mw_ne _ _ (fun z => by have z1 := f_411; rw [z, hq_418] at z1; cases z1)]; exact f_411
  have ne_441 : q_197 ≠ q_417 := fun z => by have z1 := f_411; rw [z, hq_418] at z1; cases z1
  have f_442 : M_420 q_235 = some (.inl (gI G, 14800, .inl (fun _ => 0))) := by rw [hM_420, mw_ne _ _ (fun z => by have z1 := f_412; rw [z, hq_418] at z1; cases z1)]; exact f_412
  have ne_443 : q_235 ≠ q_417 := fun z => by have z1 := f_412; rw [z, hq_418] at z1; cases z1
  have f_444 : M_420 q_276 = some (.inl (gI G, 14800, .inl (fun _ => 0))) := by rw [hM_420, mw_ne _ _ (fun z => by have z1 := f_413; rw [z, hq_418] at z1; cases z1)]; exact f_413
  have ne_445 : q_276 ≠ q_417 := fun z => by have z1 := f_413; rw [z, hq_418] at z1; cases z1
  have f_446 : M_420 q_320 = some (.inl (gI G, 8, .inl (fun _ => 0))) := by rw [hM_420, mw_ne _ _ (fun z => by have z1 := f_414; rw [z, hq_418] at z1; cases z1)]; exact f_414
  have ne_447 : q_320 ≠ q_417 := fun z => by have z1 := f_414; rw [z, hq_418] at z1; cases z1
  have f_448 : M_420 q_367 = some (.inl (gI G, 32, .inl (fun _ => 0))) := by rw [hM_420, mw_ne _ _ (fun z => by have z1 := f_415; rw [z, hq_418] at z1; cases z1)]; exact f_415
  have ne_449 : q_367 ≠ q_417 := fun z => by have z1 := f_415; rw [z, hq_418] at z1; cases z1
  have f_450 : M_420 q_417 = some (.inl (gZ G, 8, .inl (fun _ => 0))) := by rw [hM_420]; exact mw_self _ _ _
  have n0_451 : M q_417 = none := mw_hno hold_416 hq_418 ne_423
  have hold_452 : ∀ x9 e9, x9 ≠ a → M x9 = some e9 → M_420 x9 = some e9 := by rw [hM_420]; exact mw_hup hold_416 hq_418 _
  refine mw_putF (D := gD G) (ci := 4) (v := .ref q_417) (ty := .array (.boolean)) (C := RX4) (T := TX4) (N := 21) hx hb htb inX4 tyX4 tyX4_ok nmX4 hown hK hP hS f_422 hAa rfl 18 (by decide) (htb _ wd542) (fun _ h9 => h9) rfl hin rfl (by decide +kernel) rfl rfl (Nat.le_of_ble_eq_true rfl) dX4_init_116 (fun H locs hP hS => ?_)
  obtain ⟨M_453, hM_453⟩ : ∃ z9 : mw_M, z9 = mw_up M_420 a (.inr (4, [.int 0, .ref q_1, .int 0, .int 0, .int 0, .ref q_15, .ref q_32, .ref q_52, .ref q_75, .ref q_101, .ref q_130, .ref q_162, .int 0, .ref q_197, .ref q_235, .ref q_276, .ref q_320, .ref q_367, .ref q_417, .null, .int 0])) := ⟨_, rfl⟩
  have hP : mw_P (gD G) gx_cl M_453 H := by rw [hM_453]; exact hP
  have f_454 : M_453 a = some (.inr (4, [.int 0, .ref q_1, .int 0, .int 0, .int 0, .ref q_15, .ref q_32, .ref q_52, .ref q_75, .ref q_101, .ref q_130, .ref q_162, .int 0, .ref q_197, .ref q_235, .ref q_276, .ref q_320, .ref q_367, .ref q_417, .null, .int 0])) := by rw [hM_453]; exact mw_self _ _ _
  have f_455 : M_453 q_1 = some (.inl (gI G, 63, .inl (fun _ => 0))) := by rw [hM_453, mw_ne _ _ (Ne.symm ne_7)]; exact f_424
  have f_456 : M_453 q_15 = some (.inl (gI G, 120, .inl (fun _ => 0))) := by rw [hM_453, mw_ne _ _ (Ne.symm ne_21)]; exact f_426
  have f_457 : M_453 q_32 = some (.inl (gI G, 120, .inl (fun _ => 0))) := by rw [hM_453, mw_ne _ _ (Ne.symm ne_38)]; exact f_428
  have f_458 : M_453 q_52 = some (.inl (gI G, 120, .inl (fun _ => 0))) := by rw [hM_453, mw_ne _ _ (Ne.symm ne_58)]; exact f_430
  have f_459 : M_453 q_75 = some (.inl (gI G, 120, .inl (fun _ => 0))) := by rw [hM_453, mw_ne _ _ (Ne.symm ne_81)]; exact f_432
  have f_460 : M_453 q_101 = some (.inl (gI G, 120, .inl (fun _ => 0))) := by rw [hM_453, mw_ne _ _ (Ne.symm ne_107)]; exact f_434
  have f_461 : M_453 q_130 = some (.inl (gI G, 120, .inl (fun _ => 0))) := by rw [hM_453, mw_ne _ _ (Ne.symm ne_136)]; exact f_436
  have f_462 : M_453 q_162 = some (.inl (gI G, 120, .inl (fun _ => 0))) := by rw [hM_453, mw_ne _ _ (Ne.symm ne_168)]; exact f_438
  have f_463 : M_453 q_197 = some (.inl (gI G, 14800, .inl (fun _ => 0))) := by rw [hM_453, mw_ne _ _ (Ne.symm ne_203)]; exact f_440
  have f_464 : M_453 q_235 = some (.inl (gI G, 14800, .inl (fun _ => 0))) := by rw [hM_453, mw_ne _ _ (Ne.symm ne_241)]; exact f_442
  have f_465 : M_453 q_276 = some (.inl (gI G, 14800, .inl (fun _ => 0))) := by rw [hM_453, mw_ne _ _ (Ne.symm ne_282)]; exact f_444
  have f_466 : M_453 q_320 = some (.inl (gI G, 8, .inl (fun _ => 0))) := by rw [hM_453, mw_ne _ _ (Ne.symm ne_326)]; exact f_446
  have f_467 : M_453 q_367 = some (.inl (gI G, 32, .inl (fun _ => 0))) := by rw [hM_453, mw_ne _ _ (Ne.symm ne_373)]; exact f_448
  have f_468 : M_453 q_417 = some (.inl (gZ G, 8, .inl (fun _ => 0))) := by rw [hM_453, mw_ne _ _ (Ne.symm ne_423)]; exact f_450
  have hold_469 : ∀ x9 e9, x9 ≠ a → M x9 = some e9 → M_453 x9 = some e9 := fun x9 e9 n9 h9 => by rw [hM_453, mw_ne _ _ n9]; exact hold_452 x9 e9 n9 h9
  refine lv_aload_n hx hb dX4_init_119 rfl (lv_at hl 0 rfl) ?_
  refine lv_bipush (v := 32) hx hb dX4_init_120 (by decide) ?_
  refine mw_newi (N := 32) hx hb (htb _ wd55) hK hP hS 0 rfl (by decide) (by decide) (by decide) (Nat.le_of_ble_eq_true rfl) (Nat.le_of_ble_eq_true rfl) dX4_init_122 (fun q_470 H hq_471 hs_472 hP hS => ?_)
  obtain ⟨M_473, hM_473⟩ : ∃ z9 : mw_M, z9 = mw_up M_453 q_470 (.inl (gI G, 32, .inl (fun _ => 0))) := ⟨_, rfl⟩
  have hP : mw_P (gD G) gx_cl M_473 H := by rw [hM_473]; exact hP
  have f_475 : M_473 a = some (.inr (4, [.int 0, .ref q_1, .int 0, .int 0, .int 0, .ref q_15, .ref q_32, .ref q_52, .ref q_75, .ref q_101, .ref q_130, .ref q_162, .int 0, .ref q_197, .ref q_235, .ref q_276, .ref q_320, .ref q_367, .ref q_417, .null, .int 0])) := by rw [hM_473, mw_ne _ _ (fun z => by have z1 := f_454; rw [z, hq_471] at z1; cases z1)]; exact f_454
  have ne_476 : a ≠ q_470 := fun z => by have z1 := f_454; rw [z, hq_471] at z1; cases z1
  have f_477 : M_473 q_1 = some (.inl (gI G, 63, .inl (fun _ => 0))) := by rw [hM_473, mw_ne _ _ (fun z => by have z1 := f_455; rw [z, hq_471] at z1; cases z1)]; exact f_455
  have ne_478 : q_1 ≠ q_470 := fun z => by have z1 := f_455; rw [z, hq_471] at z1; cases z1
  have f_479 : M_473 q_15 = some (.inl (gI G, 120, .inl (fun _ => 0))) := by rw [hM_473, mw_ne _ _ (fun z => by have z1 := f_456; rw [z, hq_471] at z1; cases z1)]; exact f_456
  have ne_480 : q_15 ≠ q_470 := fun z => by have z1 := f_456; rw [z, hq_471] at z1; cases z1
  have f_481 : M_473 q_32 = some (.inl (gI G, 120, .inl (fun _ => 0))) := by rw [hM_473, mw_ne _ _ (fun z => by have z1 := f_457; rw [z, hq_471] at z1; cases z1)]; exact f_457
  have ne_482 : q_32 ≠ q_470 := fun z => by have z1 := f_457; rw [z, hq_471] at z1; cases z1
  have f_483 : M_473 q_52 = some (.inl (gI G, 120, .inl (fun _ => 0))) := by rw [hM_473, mw_ne _ _ (fun z => by have z1 := f_458; rw [z, hq_471] at z1; cases z1)]; exact f_458
  have ne_484 : q_52 ≠ q_470 := fun z => by have z1 := f_458; rw [z, hq_471] at z1; cases z1
  have f_485 : M_473 q_75 = some (.inl (gI G, 120, .inl (fun _ => 0))) := by rw [hM_473, mw_ne _ _ (fun z => by have z1 := f_459; rw [z, hq_471] at z1; cases z1)]; exact f_459
  have ne_486 : q_75 ≠ q_470 := fun z => by have z1 := f_459; rw [z, hq_471] at z1; cases z1
  have f_487 : M_473 q_101 = some (.inl (gI G, 120, .inl (fun _ => 0))) := by rw [hM_473, mw_ne _ _ (fun z => by have z1 := f_460; rw [z, hq_471] at z1; cases z1)]; exact f_460
  have ne_488 : q_101 ≠ q_470 := fun z => by have z1 := f_460; rw [z, hq_471] at z1; cases z1
  have f_489 : M_473 q_130 = some (.inl (gI G, 120, .inl (fun _ => 0))) := by rw [hM_473, mw_ne _ _ (fun z => by have z1 := f_461; rw [z, hq_471] at z1; cases z1)]; exact f_461
  have ne_490 : q_130 ≠ q_470 := fun z => by have z1 := f_461; rw [z, hq_471] at z1; cases z1
  have f_491 : M_473 q_162 = some (.inl (gI G, 120, .inl (fun _ => 0))) := by rw [hM_473, mw_ne _ _ (fun z => by have z1 := f_462; rw [z, hq_471] at z1; cases z1)]; exact f_462
  have ne_492 : q_162 ≠ q_470 := fun z => by have z1 := f_462; rw [z, hq_471] at z1; cases z1
  have f_493 : M_473 q_197 = some (.inl (gI G, 14800, .inl (fun _ => 0))) := by rw [hM_473, mw_ne _ _ (fun z => by have z1 := f_463; rw [z, hq_471] at z1; cases z1)]; exact f_463
  have ne_494 : q_197 ≠ q_470 := fun z => by have z1 := f_463; rw [z, hq_471] at z1; cases z1
  have f_495 : M_473 q_235 = some (.inl (gI G, 14800, .inl (fun _ => 0))) := by rw [hM_473, mw_ne _ _ (fun z => by have z1 := f_464; rw [z, hq_471] at z1; cases z1)]; exact f_464
  have ne_496 : q_235 ≠ q_470 := fun z => by have z1 := f_464; rw [z, hq_471] at z1; cases z1
  have f_497 : M_473 q_276 = some (.inl (gI G, 14800, .inl (fun _ => 0))) := by rw [hM_473, mw_ne _ _ (fun z => by have z1 := f_465; rw [z, hq_471] at z1; cases z1)]; exact f_465
  have ne_498 : q_276 ≠ q_470 := fun z => by have z1 := f_465; rw [z, hq_471] at z1; cases z1
  have f_499 : M_473 q_320 = some (.inl (gI G, 8, .inl (fun _ => 0))) := by rw [hM_473, mw_ne _ _ (fun z => by have z1 := f_466; rw [z, hq_471] at z1; cases z1)]; exact f_466
  have ne_500 : q_320 ≠ q_470 := fun z => by have z1 := f_466; rw [z, hq_471] at z1; cases z1
  have f_501 : M_473 q_367 = some (.inl (gI G, 32, .inl (fun _ => 0))) := by rw [hM_473, mw_ne _ _ (fun z => by have z1 := f_467; rw [z, hq_471] at z1; cases z1)]; exact f_467
  have ne_502 : q_367 ≠ q_470 := fun z => by have z1 := f_467; rw [z, hq_471] at z1; cases z1
  have f_503 : M_473 q_417 = some (.inl (gZ G, 8, .inl (fun _ => 0))) := by rw [hM_473, mw_ne _ _ (fun z => by have z1 := f_468; rw [z, hq_471] at z1; cases z1)]; exact f_468
  have ne_504 : q_417 ≠ q_470 := fun z => by have z1 := f_468; rw [z, hq_471] at z1; cases z1
  have f_505 : M_473 q_470 = some (.inl (gI G, 32, .inl (fun _ => 0))) := by rw [hM_473]; exact mw_self _ _ _
  have n0_506 : M q_470 = none := mw_hno hold_469 hq_471 ne_476
  have hold_507 : ∀ x9 e9, x9 ≠ a → M x9 = some e9 → M_473 x9 = some e9 := by rw [hM_473]; exact mw_hup hold_469 hq_471 _
  refine mw_putF (D := gD G) (ci := 4) (v := .ref q_470) (ty := .array (.int)) (C := RX4) (T := TX4) (N := 21) hx hb htb inX4 tyX4 tyX4_ok nmX4 hown hK hP hS f_475 hAa rfl 19 (by decide) (htb _ wd543) (fun _ h9 => h9) rfl hin rfl (by decide +kernel) rfl rfl (Nat.le_of_ble_eq_true rfl) dX4_init_124 (fun H locs hP hS => ?_)
  obtain ⟨M_508, hM_508⟩ : ∃ z9 : mw_M, z9 = mw_up M_473 a (.inr (4, [.int 0, .ref q_1, .int 0, .int 0, .int 0, .ref q_15, .ref q_32, .ref q_52, .ref q_75, .ref q_101, .ref q_130, .ref q_162, .int 0, .ref q_197, .ref q_235, .ref q_276, .ref q_320, .ref q_367, .ref q_417, .ref q_470, .int 0])) := ⟨_, rfl⟩
  have hP : mw_P (gD G) gx_cl M_508 H := by rw [hM_508]; exact hP
  have f_509 : M_508 a = some (.inr (4, [.int 0, .ref q_1, .int 0, .int 0, .int 0, .ref q_15, .ref q_32, .ref q_52, .ref q_75, .ref q_101, .ref q_130, .ref q_162, .int 0, .ref q_197, .ref q_235, .ref q_276, .ref q_320, .ref q_367, .ref q_417, .ref q_470, .int 0])) := by rw [hM_508]; exact mw_self _ _ _
  have f_510 : M_508 q_1 = some (.inl (gI G, 63, .inl (fun _ => 0))) := by rw [hM_508, mw_ne _ _ (Ne.symm ne_7)]; exact f_477
  have f_511 : M_508 q_15 = some (.inl (gI G, 120, .inl (fun _ => 0))) := by rw [hM_508, mw_ne _ _ (Ne.symm ne_21)]; exact f_479
  have f_512 : M_508 q_32 = some (.inl (gI G, 120, .inl (fun _ => 0))) := by rw [hM_508, mw_ne _ _ (Ne.symm ne_38)]; exact f_481
  have f_513 : M_508 q_52 = some (.inl (gI G, 120, .inl (fun _ => 0))) := by rw [hM_508, mw_ne _ _ (Ne.symm ne_58)]; exact f_483
  have f_514 : M_508 q_75 = some (.inl (gI G, 120, .inl (fun _ => 0))) := by rw [hM_508, mw_ne _ _ (Ne.symm ne_81)]; exact f_485
  have f_515 : M_508 q_101 = some (.inl (gI G, 120, .inl (fun _ => 0))) := by rw [hM_508, mw_ne _ _ (Ne.symm ne_107)]; exact f_487
  have f_516 : M_508 q_130 = some (.inl (gI G, 120, .inl (fun _ => 0))) := by rw [hM_508, mw_ne _ _ (Ne.symm ne_136)]; exact f_489
  have f_517 : M_508 q_162 = some (.inl (gI G, 120, .inl (fun _ => 0))) := by rw [hM_508, mw_ne _ _ (Ne.symm ne_168)]; exact f_491
  have f_518 : M_508 q_197 = some (.inl (gI G, 14800, .inl (fun _ => 0))) := by rw [hM_508, mw_ne _ _ (Ne.symm ne_203)]; exact f_493
  have f_519 : M_508 q_235 = some (.inl (gI G, 14800, .inl (fun _ => 0))) := by rw [hM_508, mw_ne _ _ (Ne.symm ne_241)]; exact f_495
  have f_520 : M_508 q_276 = some (.inl (gI G, 14800, .inl (fun _ => 0))) := by rw [hM_508, mw_ne _ _ (Ne.symm ne_282)]; exact f_497
  have f_521 : M_508 q_320 = some (.inl (gI G, 8, .inl (fun _ => 0))) := by rw [hM_508, mw_ne _ _ (Ne.symm ne_326)]; exact f_499
  have f_522 : M_508 q_367 = some (.inl (gI G, 32, .inl (fun _ => 0))) := by rw [hM_508, mw_ne _ _ (Ne.symm ne_373)]; exact f_501
  have f_523 : M_508 q_417 = some (.inl (gZ G, 8, .inl (fun _ => 0))) := by rw [hM_508, mw_ne _ _ (Ne.symm ne_423)]; exact f_503
  have f_524 : M_508 q_470 = some (.inl (gI G, 32, .inl (fun _ => 0))) := by rw [hM_508, mw_ne _ _ (Ne.symm ne_476)]; exact f_505
  have hold_525 : ∀ x9 e9, x9 ≠ a → M x9 = some e9 → M_508 x9 = some e9 := fun x9 e9 n9 h9 => by rw [hM_508, mw_ne _ _ n9]; exact hold_507 x9 e9 n9 h9
  refine lv_aload_n hx hb dX4_init_127 rfl (lv_at hl 0 rfl) ?_
  refine lv_iconst (v := 0) hx hb dX4_init_128 (by decide) ?_
  refine mw_put (D := gD G) (ci := 4) (v := .int 0) (ty := .int) (C := RX4) (T := TX4) (N := 21) hx hb htb inX4 tyX4 tyX4_ok nmX4 hown hK hP hS f_509 hAa rfl 4 (by decide) (htb _ wd528) (fun _ h9 => h9) rfl (by decide +kernel) rfl rfl (Nat.le_of_ble_eq_true rfl) dX4_init_129 (fun H locs hP hS => ?_)
  obtain ⟨M_526, hM_526⟩ : ∃ z9 : mw_M, z9 = mw_up M_508 a (.inr (4, [.int 0, .ref q_1, .int 0, .int 0, .int 0, .ref q_15, .ref q_32, .ref q_52, .ref q_75, .ref q_101, .ref q_130, .ref q_162, .int 0, .ref q_197, .ref q_235, .ref q_276, .ref q_320, .ref q_367, .ref q_417, .ref q_470, .int 0])) := ⟨_, rfl⟩
  have hP : mw_P (gD G) gx_cl M_526 H := by rw [hM_526]; exact hP
  have f_527 : M_526 a = some (.inr (4, [.int 0, .ref q_1, .int 0, .int 0, .int 0, .ref q_15, .ref q_32, .ref q_52, .ref q_75, .ref q_101, .ref q_130, .ref q_162, .int 0, .ref q_197, .ref q_235, .ref q_276, .ref q_320, .ref q_367, .ref q_417, .ref q_470, .int 0])) := by rw [hM_526]; exact mw_self _ _ _
  have f_528 : M_526 q_1 = some (.inl (gI G, 63, .inl (fun _ => 0))) := by rw [hM_526, mw_ne _ _ (Ne.symm ne_7)]; exact f_510
  have f_529 : M_526 q_15 = some (.inl (gI G, 120, .inl (fun _ => 0))) := by rw [hM_526, mw_ne _ _ (Ne.symm ne_21)]; exact f_511
  have f_530 : M_526 q_32 = some (.inl (gI G, 120, .inl (fun _ => 0))) := by rw [hM_526, mw_ne _ _ (Ne.symm ne_38)]; exact f_512
  have f_531 : M_526 q_52 = some (.inl (gI G, 120, .inl (fun _ => 0))) := by rw [hM_526, mw_ne _ _ (Ne.symm ne_58)]; exact f_513
  have f_532 : M_526 q_75 = some (.inl (gI G, 120, .inl (fun _ => 0))) := by rw [hM_526, mw_ne _ _ (Ne.symm ne_81)]; exact f_514
  have f_533 : M_526 q_101 = some (.inl (gI G, 120, .inl (fun _ => 0))) := by rw [hM_526, mw_ne _ _ (Ne.symm ne_107)]; exact f_515
  have f_534 : M_526 q_130 = some (.inl (gI G, 120, .inl (fun _ => 0))) := by rw [hM_526, mw_ne _ _ (Ne.symm ne_136)]; exact f_516
  have f_535 : M_526 q_162 = some (.inl (gI G, 120, .inl (fun _ => 0))) := by rw [hM_526, mw_ne _ _ (Ne.symm ne_168)]; exact f_517
  have f_536 : M_526 q_197 = some (.inl (gI G, 14800, .inl (fun _ => 0))) := by rw [hM_526, mw_ne _ _ (Ne.symm ne_203)]; exact f_518
  have f_537 : M_526 q_235 = some (.inl (gI G, 14800, .inl (fun _ => 0))) := by rw [hM_526, mw_ne _ _ (Ne.symm ne_241)]; exact f_519
  have f_538 : M_526 q_276 = some (.inl (gI G, 14800, .inl (fun _ => 0))) := by rw [hM_526, mw_ne _ _ (Ne.symm ne_282)]; exact f_520
  have f_539 : M_526 q_320 = some (.inl (gI G, 8, .inl (fun _ => 0))) := by rw [hM_526, mw_ne _ _ (Ne.symm ne_326)]; exact f_521
  have f_540 : M_526 q_367 = some (.inl (gI G, 32, .inl (fun _ => 0))) := by rw [hM_526, mw_ne _ _ (Ne.symm ne_373)]; exact f_522
  have f_541 : M_526 q_417 = some (.inl (gZ G, 8, .inl (fun _ => 0))) := by rw [hM_526, mw_ne _ _ (Ne.symm ne_423)]; exact f_523
  have f_542 : M_526 q_470 = some (.inl (gI G, 32, .inl (fun _ => 0))) := by rw [hM_526, mw_ne _ _ (Ne.symm ne_476)]; exact f_524
  have hold_543 : ∀ x9 e9, x9 ≠ a → M x9 = some e9 → M_526 x9 = some e9 := fun x9 e9 n9 h9 => by rw [hM_526, mw_ne _ _ n9]; exact hold_525 x9 e9 n9 h9
  have hT : md_at G a (fun j => [q_1, q_15, q_32, q_52, q_75, q_101, q_130, q_162, q_197, q_235, q_276, q_320, q_367, q_417, q_470].getD j 0) M_526 0 0 0 0 0 0 (fun _ _ => 0) := by
    refine ⟨f_527, fun j hj => ?_, fun i j hi hj e9 => ?_, hAa, fun j hj => ?_⟩
    · rcases (show j = 0 ∨ j = 1 ∨ j = 2 ∨ j = 3 ∨ j = 4 ∨ j = 5 ∨ j = 6 ∨ j = 7 ∨ j = 8 ∨ j = 9 ∨ j = 10 ∨ j = 11 ∨ j = 12 ∨ j = 13 ∨ j = 14 by omega) with rfl | rfl | rfl | rfl | rfl | rfl | rfl | rfl | rfl | rfl | rfl | rfl | rfl | rfl | rfl
      · exact f_528
      · exact f_529
      · exact f_530
      · exact f_531
      · exact f_532
      · exact f_533
      · exact f_534
      · exact f_535
      · exact f_536
      · exact f_537
      · exact f_538
      · exact f_539
      · exact f_540
      · exact f_541
      · exact f_542
    · rcases (show i = 0 ∨ i = 1 ∨ i = 2 ∨ i = 3 ∨ i = 4 ∨ i = 5 ∨ i = 6 ∨ i = 7 ∨ i = 8 ∨ i = 9 ∨ i = 10 ∨ i = 11 ∨ i = 12 ∨ i = 13 ∨ i = 14 by omega) with rfl | rfl | rfl | rfl | rfl | rfl | rfl | rfl | rfl | rfl | rfl | rfl | rfl | rfl | rfl
      · rcases (show j = 0 ∨ j = 1 ∨ j = 2 ∨ j = 3 ∨ j = 4 ∨ j = 5 ∨ j = 6 ∨ j = 7 ∨ j = 8 ∨ j = 9 ∨ j = 10 ∨ j = 11 ∨ j = 12 ∨ j = 13 ∨ j = 14 by omega) with rfl | rfl | rfl | rfl | rfl | rfl | rfl | rfl | rfl | rfl | rfl | rfl | rfl | rfl | rfl
        · rfl
        · exact absurd e9 ne_23
        · exact absurd e9 ne_40
        · exact absurd e9 ne_60
        · exact absurd e9 ne_83
        · exact absurd e9 ne_109
        · exact absurd e9 ne_138
        · exact absurd e9 ne_170
        · exact absurd e9 ne_205
        · exact absurd e9 ne_243
        · exact absurd e9 ne_284
        · exact absurd e9 ne_328
        · exact absurd e9 ne_375
        · exact absurd e9 ne_425
        · exact absurd e9 ne_478
      · rcases (show j = 0 ∨ j = 1 ∨ j = 2 ∨ j = 3 ∨ j = 4 ∨ j = 5 ∨ j = 6 ∨ j = 7 ∨ j = 8 ∨ j = 9 ∨ j = 10 ∨ j = 11 ∨ j = 12 ∨ j = 13 ∨ j = 14 by omega) with rfl | rfl | rfl | rfl | rfl | rfl | rfl | rfl | rfl | rfl | rfl | rfl | rfl | rfl | rfl
        · exact absurd e9 (Ne.symm ne_23)
        · rfl
        · exact absurd e9 ne_42
        · exact absurd e9 ne_62
        · exact absurd e9 ne_85
        · exact absurd e9 ne_111
        · exact absurd e9 ne_140
        · exact absurd e9 ne_172
        · exact absurd e9 ne_207
        · exact absurd e9 ne_245
        · exact absurd e9 ne_286
        · exact absurd e9 ne_330
        · exact absurd e9 ne_377
        · exact absurd e9 ne_427
        · exact absurd e9 ne_480
      · rcases (show j = 0 ∨ j = 1 ∨ j = 2 ∨ j = 3 ∨ j = 4 ∨ j = 5 ∨ j = 6 ∨ j = 7 ∨ j = 8 ∨ j = 9 ∨ j = 10 ∨ j = 11 ∨ j = 12 ∨ j = 13 ∨ j = 14 by omega) with rfl | rfl | rfl | rfl | rfl | rfl | rfl | rfl | rfl | rfl | rfl | rfl | rfl | rfl | rfl
        · exact absurd e9 (Ne.symm ne_40)
        · exact absurd e9 (Ne.symm ne_42)
        · rfl
        · exact absurd e9 ne_64
        · exact absurd e9 ne_87
        · exact absurd e9 ne_113
        · exact absurd e9 ne_142
        · exact absurd e9 ne_174
        · exact absurd e9 ne_209
        · exact absurd e9 ne_247
        · exact absurd e9 ne_288
        · exact absurd e9 ne_332
        · exact absurd e9 ne_379
        · exact absurd e9 ne_429
        · exact absurd e9 ne_482
      · rcases (show j = 0 ∨ j = 1 ∨ j = 2 ∨ j = 3 ∨ j = 4 ∨ j = 5 ∨ j = 6 ∨ j = 7 ∨ j = 8 ∨ j = 9 ∨ j = 10 ∨ j = 11 ∨ j = 12 ∨ j = 13 ∨ j = 14 by omega) with rfl | rfl | rfl | rfl | rfl | rfl | rfl | rfl | rfl | rfl | rfl | rfl | rfl | rfl | rfl
        · exact absurd e9 (Ne.symm ne_60)
        · exact absurd e9 (Ne.symm ne_62)
        · exact absurd e9 (Ne.symm ne_64)
        · rfl
        · exact absurd e9 ne_89
        · exact absurd e9 ne_115
        · exact absurd e9 ne_144
        · exact absurd e9 ne_176
        · exact absurd e9 ne_211
        · exact absurd e9 ne_249
        · exact absurd e9 ne_290
        · exact absurd e9 ne_334
        · exact absurd e9 ne_381
        · exact absurd e9 ne_431
        · exact absurd e9 ne_484
      · rcases (show j = 0 ∨ j = 1 ∨ j = 2 ∨ j = 3 ∨ j = 4 ∨ j = 5 ∨ j = 6 ∨ j = 7 ∨ j = 8 ∨ j = 9 ∨ j = 10 ∨ j = 11 ∨ j = 12 ∨ j = 13 ∨ j = 14 by omega) with rfl | rfl | rfl | rfl | rfl | rfl | rfl | rfl | rfl | rfl | rfl | rfl | rfl | rfl | rfl
        · exact absurd e9 (Ne.symm ne_83)
        · exact absurd e9 (Ne.symm ne_85)
        · exact absurd e9 (Ne.symm ne_87)
        · exact absurd e9 (Ne.symm ne_89)
        · rfl
        · exact absurd e9 ne_117
        · exact absurd e9 ne_146
        · exact absurd e9 ne_178
        · exact absurd e9 ne_213
        · exact absurd e9 ne_251
        · exact absurd e9 ne_292
        · exact absurd e9 ne_336
        · exact absurd e9 ne_383
        · exact absurd e9 ne_433
        · exact absurd e9 ne_486
      · rcases (show j = 0 ∨ j = 1 ∨ j = 2 ∨ j = 3 ∨ j = 4 ∨ j = 5 ∨ j = 6 ∨ j = 7 ∨ j = 8 ∨ j = 9 ∨ j = 10 ∨ j = 11 ∨ j = 12 ∨ j = 13 ∨ j = 14 by omega) with rfl | rfl | rfl | rfl | rfl | rfl | rfl | rfl | rfl | rfl | rfl | rfl | rfl | rfl | rfl
        · exact absurd e9 (Ne.symm ne_109)
        · exact absurd e9 (Ne.symm ne_111)
        · exact absurd e9 (Ne.symm ne_113)
        · exact absurd e9 (Ne.symm ne_115)
        · exact absurd e9 (Ne.symm ne_117)
        · rfl
        · exact absurd e9 ne_148
        · exact absurd e9 ne_180
        · exact absurd e9 ne_215
        · exact absurd e9 ne_253
        · exact absurd e9 ne_294
        · exact absurd e9 ne_338
        · exact absurd e9 ne_385
        · exact absurd e9 ne_435
        · exact absurd e9 ne_488
      · rcases (show j = 0 ∨ j = 1 ∨ j = 2 ∨ j = 3 ∨ j = 4 ∨ j = 5 ∨ j = 6 ∨ j = 7 ∨ j = 8 ∨ j = 9 ∨ j = 10 ∨ j = 11 ∨ j = 12 ∨ j = 13 ∨ j = 14 by omega) with rfl | rfl | rfl | rfl | rfl | rfl | rfl | rfl | rfl | rfl | rfl | rfl | rfl | rfl | rfl
        · exact absurd e9 (Ne.symm ne_138)
        · exact absurd e9 (Ne.symm ne_140)
        · exact absurd e9 (Ne.symm ne_142)
        · exact absurd e9 (Ne.symm ne_144)
        · exact absurd e9 (Ne.symm ne_146)
        · exact absurd e9 (Ne.symm ne_148)
        · rfl
        · exact absurd e9 ne_182
        · exact absurd e9 ne_217
        · exact absurd e9 ne_255
        · exact absurd e9 ne_296
        · exact absurd e9 ne_340
        · exact absurd e9 ne_387
        · exact absurd e9 ne_437
        · exact absurd e9 ne_490
      · rcases (show j = 0 ∨ j = 1 ∨ j = 2 ∨ j = 3 ∨ j = 4 ∨ j = 5 ∨ j = 6 ∨ j = 7 ∨ j = 8 ∨ j = 9 ∨ j = 10 ∨ j = 11 ∨ j = 12 ∨ j = 13 ∨ j = 14 by omega) with rfl | rfl | rfl | rfl | rfl | rfl | rfl | rfl | rfl | rfl | rfl | rfl | rfl | rfl | rfl
        · exact absurd e9 (Ne.symm ne_170)
        · exact absurd e9 (Ne.symm ne_172)
        · exact absurd e9 (Ne.symm ne_174)
        · exact absurd e9 (Ne.symm ne_176)
        · exact absurd e9 (Ne.symm ne_178)
        · exact absurd e9 (Ne.symm ne_180)
        · exact absurd e9 (Ne.symm ne_182)
        · rfl
        · exact absurd e9 ne_219
        · exact absurd e9 ne_257
        · exact absurd e9 ne_298
        · exact absurd e9 ne_342
        · exact absurd e9 ne_389
        · exact absurd e9 ne_439
        · exact absurd e9 ne_492
      · rcases (show j = 0 ∨ j = 1 ∨ j = 2 ∨ j = 3 ∨ j = 4 ∨ j = 5 ∨ j = 6 ∨ j = 7 ∨ j = 8 ∨ j = 9 ∨ j = 10 ∨ j = 11 ∨ j = 12 ∨ j = 13 ∨ j = 14 by omega) with rfl | rfl | rfl | rfl | rfl | rfl | rfl | rfl | rfl | rfl | rfl | rfl | rfl | rfl | rfl
        · exact absurd e9 (Ne.symm ne_205)
        · exact absurd e9 (Ne.symm ne_207)
        · exact absurd e9 (Ne.symm ne_209)
        · exact absurd e9 (Ne.symm ne_211)
        · exact absurd e9 (Ne.symm ne_213)
        · exact absurd e9 (Ne.symm ne_215)
        · exact absurd e9 (Ne.symm ne_217)
        · exact absurd e9 (Ne.symm ne_219)
        · rfl
        · exact absurd e9 ne_259
        · exact absurd e9 ne_300
        · exact absurd e9 ne_344
        · exact absurd e9 ne_391
        · exact absurd e9 ne_441
        · exact absurd e9 ne_494
      · rcases (show j = 0 ∨ j = 1 ∨ j = 2 ∨ j = 3 ∨ j = 4 ∨ j = 5 ∨ j = 6 ∨ j = 7 ∨ j = 8 ∨ j = 9 ∨ j = 10 ∨ j = 11 ∨ j = 12 ∨ j = 13 ∨ j = 14 by omega) with rfl | rfl | rfl | rfl | rfl | rfl | rfl | rfl | rfl | rfl | rfl | rfl | rfl | rfl | rfl
        · exact absurd e9 (Ne.symm ne_243)
        · exact absurd e9 (Ne.symm ne_245)
        · exact absurd e9 (Ne.symm ne_247)
        · exact absurd e9 (Ne.symm ne_249)
        · exact absurd e9 (Ne.symm ne_251)
        · exact absurd e9 (Ne.symm ne_253)
        · exact absurd e9 (Ne.symm ne_255)
        · exact absurd e9 (Ne.symm ne_257)
        · exact absurd e9 (Ne.symm ne_259)
        · rfl
        · exact absurd e9 ne_302
        · exact absurd e9 ne_346
        · exact absurd e9 ne_393
        · exact absurd e9 ne_443
        · exact absurd e9 ne_496
      · rcases (show j = 0 ∨ j = 1 ∨ j = 2 ∨ j = 3 ∨ j = 4 ∨ j = 5 ∨ j = 6 ∨ j = 7 ∨ j = 8 ∨ j = 9 ∨ j = 10 ∨ j = 11 ∨ j = 12 ∨ j = 13 ∨ j = 14 by omega) with rfl | rfl | rfl | rfl | rfl | rfl | rfl | rfl | rfl | rfl | rfl | rfl | rfl | rfl | rfl
        · exact absurd e9 (Ne.symm ne_284)
        · exact absurd e9 (Ne.symm ne_286)
        · exact absurd e9 (Ne.symm ne_288)
        · exact absurd e9 (Ne.symm ne_290)
        · exact absurd e9 (Ne.symm ne_292)
        · exact absurd e9 (Ne.symm ne_294)
        · exact absurd e9 (Ne.symm ne_296)
        · exact absurd e9 (Ne.symm ne_298)
        · exact absurd e9 (Ne.symm ne_300)
        · exact absurd e9 (Ne.symm ne_302)
        · rfl
        · exact absurd e9 ne_348
        · exact absurd e9 ne_395
        · exact absurd e9 ne_445
        · exact absurd e9 ne_498
      · rcases (show j = 0 ∨ j = 1 ∨ j = 2 ∨ j = 3 ∨ j = 4 ∨ j = 5 ∨ j = 6 ∨ j = 7 ∨ j = 8 ∨ j = 9 ∨ j = 10 ∨ j = 11 ∨ j = 12 ∨ j = 13 ∨ j = 14 by omega) with rfl | rfl | rfl | rfl | rfl | rfl | rfl | rfl | rfl | rfl | rfl | rfl | rfl | rfl | rfl
        · exact absurd e9 (Ne.symm ne_328)
        · exact absurd e9 (Ne.symm ne_330)
        · exact absurd e9 (Ne.symm ne_332)
        · exact absurd e9 (Ne.symm ne_334)
        · exact absurd e9 (Ne.symm ne_336)
        · exact absurd e9 (Ne.symm ne_338)
        · exact absurd e9 (Ne.symm ne_340)
        · exact absurd e9 (Ne.symm ne_342)
        · exact absurd e9 (Ne.symm ne_344)
        · exact absurd e9 (Ne.symm ne_346)
        · exact absurd e9 (Ne.symm ne_348)
        · rfl
        · exact absurd e9 ne_397
        · exact absurd e9 ne_447
        · exact absurd e9 ne_500
      · rcases (show j = 0 ∨ j = 1 ∨ j = 2 ∨ j = 3 ∨ j = 4 ∨ j = 5 ∨ j = 6 ∨ j = 7 ∨ j = 8 ∨ j = 9 ∨ j = 10 ∨ j = 11 ∨ j = 12 ∨ j = 13 ∨ j = 14 by omega) with rfl | rfl | rfl | rfl | rfl | rfl | rfl | rfl | rfl | rfl | rfl | rfl | rfl | rfl | rfl
        · exact absurd e9 (Ne.symm ne_375)
        · exact absurd e9 (Ne.symm ne_377)
        · exact absurd e9 (Ne.symm ne_379)
        · exact absurd e9 (Ne.symm ne_381)
        · exact absurd e9 (Ne.symm ne_383)
        · exact absurd e9 (Ne.symm ne_385)
        · exact absurd e9 (Ne.symm ne_387)
        · exact absurd e9 (Ne.symm ne_389)
        · exact absurd e9 (Ne.symm ne_391)
        · exact absurd e9 (Ne.symm ne_393)
        · exact absurd e9 (Ne.symm ne_395)
        · exact absurd e9 (Ne.symm ne_397)
        · rfl
        · exact absurd e9 ne_449
        · exact absurd e9 ne_502
      · rcases (show j = 0 ∨ j = 1 ∨ j = 2 ∨ j = 3 ∨ j = 4 ∨ j = 5 ∨ j = 6 ∨ j = 7 ∨ j = 8 ∨ j = 9 ∨ j = 10 ∨ j = 11 ∨ j = 12 ∨ j = 13 ∨ j = 14 by omega) with rfl | rfl | rfl | rfl | rfl | rfl | rfl | rfl | rfl | rfl | rfl | rfl | rfl | rfl | rfl
        · exact absurd e9 (Ne.symm ne_425)
        · exact absurd e9 (Ne.symm ne_427)
        · exact absurd e9 (Ne.symm ne_429)
        · exact absurd e9 (Ne.symm ne_431)
        · exact absurd e9 (Ne.symm ne_433)
        · exact absurd e9 (Ne.symm ne_435)
        · exact absurd e9 (Ne.symm ne_437)
        · exact absurd e9 (Ne.symm ne_439)
        · exact absurd e9 (Ne.symm ne_441)
        · exact absurd e9 (Ne.symm ne_443)
        · exact absurd e9 (Ne.symm ne_445)
        · exact absurd e9 (Ne.symm ne_447)
        · exact absurd e9 (Ne.symm ne_449)
        · rfl
        · exact absurd e9 ne_504
      · rcases (show j = 0 ∨ j = 1 ∨ j = 2 ∨ j = 3 ∨ j = 4 ∨ j = 5 ∨ j = 6 ∨ j = 7 ∨ j = 8 ∨ j = 9 ∨ j = 10 ∨ j = 11 ∨ j = 12 ∨ j = 13 ∨ j = 14 by omega) with rfl | rfl | rfl | rfl | rfl | rfl | rfl | rfl | rfl | rfl | rfl | rfl | rfl | rfl | rfl
        · exact absurd e9 (Ne.symm ne_478)
        · exact absurd e9 (Ne.symm ne_480)
        · exact absurd e9 (Ne.symm ne_482)
        · exact absurd e9 (Ne.symm ne_484)
        · exact absurd e9 (Ne.symm ne_486)
        · exact absurd e9 (Ne.symm ne_488)
        · exact absurd e9 (Ne.symm ne_490)
        · exact absurd e9 (Ne.symm ne_492)
        · exact absurd e9 (Ne.symm ne_494)
        · exact absurd e9 (Ne.symm ne_496)
        · exact absurd e9 (Ne.symm ne_498)
        · exact absurd e9 (Ne.symm ne_500)
        · exact absurd e9 (Ne.symm ne_502)
        · exact absurd e9 (Ne.symm ne_504)
        · rfl
    · rcases (show j = 0 ∨ j = 1 ∨ j = 2 ∨ j = 3 ∨ j = 4 ∨ j = 5 ∨ j = 6 ∨ j = 7 ∨ j = 8 ∨ j = 9 ∨ j = 10 ∨ j = 11 ∨ j = 12 ∨ j = 13 ∨ j = 14 by omega) with rfl | rfl | rfl | rfl | rfl | rfl | rfl | rfl | rfl | rfl | rfl | rfl | rfl | rfl | rfl
      · exact (hAn _ hs_3)
      · exact (hAn _ hs_17)
      · exact (hAn _ hs_34)
      · exact (hAn _ hs_54)
      · exact (hAn _ hs_77)
      · exact (hAn _ hs_103)
      · exact (hAn _ hs_132)
      · exact (hAn _ hs_164)
      · exact (hAn _ hs_199)
      · exact (hAn _ hs_237)
      · exact (hAn _ hs_278)
      · exact (hAn _ hs_322)
      · exact (hAn _ hs_369)
      · exact (hAn _ hs_419)
      · exact (hAn _ hs_472)
  have hN0 : ∀ j, j < 15 → M ((fun j => [q_1, q_15, q_32, q_52, q_75, q_101, q_130, q_162, q_197, q_235, q_276, q_320, q_367, q_417, q_470].getD j 0) j) = none := by
    intro j hj
    rcases (show j = 0 ∨ j = 1 ∨ j = 2 ∨ j = 3 ∨ j = 4 ∨ j = 5 ∨ j = 6 ∨ j = 7 ∨ j = 8 ∨ j = 9 ∨ j = 10 ∨ j = 11 ∨ j = 12 ∨ j = 13 ∨ j = 14 by omega) with rfl | rfl | rfl | rfl | rfl | rfl | rfl | rfl | rfl | rfl | rfl | rfl | rfl | rfl | rfl
    · exact n0_9
    · exact n0_25
    · exact n0_44
    · exact n0_66
    · exact n0_91
    · exact n0_119
    · exact n0_150
    · exact n0_184
    · exact n0_221
    · exact n0_261
    · exact n0_304
    · exact n0_350
    · exact n0_399
    · exact n0_451
    · exact n0_506
  exact mx_vret (M' := M_526) hx hb hr hlocks hP hS ⟨rfl, (fun j => [q_1, q_15, q_32, q_52, q_75, q_101, q_130, q_162, q_197, q_235, q_276, q_320, q_367, q_417, q_470].getD j 0), ⟨0, fun _ => 0, fun _ _ => 0, hT, md_ab0⟩, hN0, hold_543⟩ dX4_init_132 (Nat.le_of_ble_eq_true rfl) (Nat.le_of_ble_eq_true rfl)
