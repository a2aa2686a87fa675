/-! printed by wip/whole/spec*.py -/
-- Pile()
set_option maxHeartbeats 4000000 in
set_option maxRecDepth 100000 in
theorem kX2_init (l : Launch) (htr : l.stackTraces = false) (G : gx_G) (sz : Nat) (M : mw_M) (hA : ∀ q : Nat, sz ≤ q → gA G q) (a n : Nat) (hn : n ≤ 123) (hAa : gA G a) (ha : M a = some (.inr (2, [.null, .int 0, .int 0, .int 0]))) : g_Met l G yX2_init (.code yX2_init cX2_init 2 none) ({ frames := 1, cells := 1, slots := 369, locals := 60 } : Room) sz M [.ref a, .int (nI n)] (fun v M9 => v = none ∧ ∃ pl, fs_pi G M9 a pl (n * 3) ([], 0, 0) ∧ M pl = none ∧ (∀ x e, x ≠ a → M x = some e → M9 x = some e) ∧ gA G pl) (fun _ => False) := by
  refine MetE.ofW (cc := cX2_init) (maxL := 2) (ret := none) (by decide) rfl ?_
  intro p e s m args below meth c s₁ B hml hv
  obtain ⟨rfl, hsz, hP, hE⟩ := hv
  have hx := B.exec
  have hb := B.bytes
  have hr := B.returns
  have hts := atoms_spec (ws := _ :: lw_big) B.pre
  have htb : ∀ w ∈ lw_big, w.before _ s = true := fun w h => hts w (List.mem_cons_of_mem _ h)
  have hno := B.noHandlers (hts _ List.mem_cons_self)
  have hown : s.vm.findClass RX2 = some m.cls := findClass_of_methodNamed B.named
  have hlocks := B.notSynchronized
  have hin : meth.name = "<init>" := (name_of_methodNamed B.named B.method).1
  have hK := hE.1
  subst hsz
  have hAn : ∀ q : Nat, s.heap.size ≤ q → gA G q := hA
  have hS : va_S (gA G) s.heap s.heap [] := va_S.rf
  have hl := lv_entry ([.ref a, .int (nI n)]) (n := 2) (Nat.le_of_ble_eq_true rfl)
  rw [lg_entry_eq]
  generalize (lg_sl ([.ref a, .int (nI n)]) ++ List.replicate (2 - (lg_sl ([.ref a, .int (nI n)])).length) Slot.unset).toArray = ls at hl ⊢
  have hl : lv_has ls 2 [(0, .ref a), (1, .int (nI n))] := hl
  refine lv_aload_n hx hb dX2_init_0 rfl (lv_at hl 0 rfl) ?_
  refine W.objInit hx hb hown (htb _ wd341) (htb _ wd20) (htb _ wd21) rfl (by rw [hml]; exact hl.1) rfl dX2_init_1 (Nat.le_of_ble_eq_true rfl) (Nat.le_of_ble_eq_true rfl) ?_
  refine W.eq (g2 := F0 m 4 ls []) rfl ?_
  refine lv_aload_n hx hb dX2_init_4 rfl (lv_at hl 0 rfl) ?_
  refine lv_iload_n hx hb dX2_init_5 rfl (lv_at hl 1 rfl) ?_
  refine lv_iconst (v := 3) hx hb dX2_init_6 (by decide) ?_
  refine lv_imul hx hb dX2_init_7 ?_
  refine mw_newi (N := (n * 3)) hx hb (htb _ wd55) hK hP hS 0 rfl (by rw [show nI n * 3 = nI (n * 3) from pk_mul n 3]; exact nI_pos (by omega)) (by rw [show nI n * 3 = nI (n * 3) from pk_mul n 3]; exact nI_clamp (by omega)) (by omega) (Nat.le_of_ble_eq_true rfl) (show 0 + n * 3 ≤ 369 by omega) dX2_init_8 (fun q_1 H hq_2 hs_3 hP hS => ?_)
  refine W.widen (k := 1) (n := 369) (Nat.le_of_ble_eq_true rfl) (show 0 + n * 3 ≤ 369 by omega) ?_
  obtain ⟨M_4, hM_4⟩ : ∃ z9 : mw_M, z9 = mw_up M q_1 (.inl (gI G, (n * 3), .inl (fun _ => 0))) := ⟨_, rfl⟩
  have hP : mw_P (gD G) gx_cl M_4 H := by rw [hM_4]; exact hP
  have n_5 : M q_1 = none := mw_ext.no (mw_ext.rf M) hq_2
  have f_6 : M_4 a = some (.inr (2, [.null, .int 0, .int 0, .int 0])) := by rw [hM_4, mw_ne _ _ (fun z => by have z1 := ha; rw [z, hq_2] at z1; cases z1)]; exact ha
  have ne_7 : a ≠ q_1 := fun z => by have z1 := ha; rw [z, hq_2] at z1; cases z1
  have f_8 : M_4 q_1 = some (.inl (gI G, (n * 3), .inl (fun _ => 0))) := by rw [hM_4]; exact mw_self _ _ _
  have x_9 : mw_ext M M_4 := by rw [hM_4]; exact mw_ext.up (mw_ext.rf M) n_5 _
  refine mw_putF (D := gD G) (ci := 2) (v := .ref q_1) (ty := .array (.int)) (C := RX2) (T := TX2) (N := 4) hx hb htb inX2 tyX2 tyX2_ok nmX2 hown hK hP hS f_6 hAa rfl 0 (by decide) (htb _ wd342) (fun _ h9 => h9) rfl hin rfl (by decide +kernel) rfl rfl (Nat.le_of_ble_eq_true rfl) dX2_init_10 (fun H locs hP hS => ?_)
  obtain ⟨M_10, hM_10⟩ : ∃ z9 : mw_M, z9 = mw_up M_4 a (.inr (2, [.ref q_1, .int 0, .int 0, .int 0])) := ⟨_, rfl⟩
  have hP : mw_P (gD G) gx_cl M_10 H := by rw [hM_10]; exact hP
  have f_11 : M_10 a = some (.inr (2, [.ref q_1, .int 0, .int 0, .int 0])) := by rw [hM_10]; exact mw_self _ _ _
  have f_12 : M_10 q_1 = some (.inl (gI G, (n * 3), .inl (fun _ => 0))) := by rw [hM_10, mw_ne _ _ (Ne.symm ne_7)]; exact f_8
  exact mx_vret (M' := M_10) hx hb hr hlocks hP hS ⟨rfl, q_1, ⟨_, f_11, f_12, fun j hj => absurd hj (Nat.not_lt_zero j), fun j hj => rfl⟩, hq_2, fun x9 e9 n9 h9 => by rw [hM_10, mw_ne _ _ n9, hM_4, mw_ne _ _ (fun z9 => by rw [z9, hq_2] at h9; cases h9)]; exact h9, hAn _ hs_3⟩ dX2_init_13 (Nat.le_of_ble_eq_true rfl) (Nat.le_of_ble_eq_true rfl)
-- Pile.put
set_option maxHeartbeats 4000000 in
set_option maxRecDepth 100000 in
theorem kX2_put (l : Launch) (htr : l.stackTraces = false) (G : gx_G) (sz : Nat) (M : mw_M) (a pl n : Nat) (u : fs_Pi) (hpi : fs_pi G M a pl n u) (hAa : gA G a) (hAp : gA G pl) (hn : n ≤ 369) (hroom : u.1.length + 3 ≤ n) (x : Int32) (q : Nat) (w h d : Int32) (bp : Nat) (rw rh : Int32) (hq : M q = some (.inr (0, [.int w, .int h, .int d, .ref bp, .int rw, .int rh]))) (hqp : q ≠ pl) (hqa : q ≠ a) : g_Met l G yX2_put (.code yX2_put cX2_put 3 none) ({ frames := 1, cells := 0, slots := 0, locals := 60 } : Room) sz M [.ref a, .int x, .ref q] (fun v M9 => v = none ∧ fs_pi G M9 a pl n (fs_pw u x w h d) ∧ ∀ x9 e9, x9 ≠ a → x9 ≠ pl → M x9 = some e9 → M9 x9 = some e9) (fun _ => False) := by
  refine MetE.ofW (cc := cX2_put) (maxL := 3) (ret := none) (by decide) rfl ?_
  intro p e s m args below meth c s₁ B hml hv
  obtain ⟨rfl, hsz, hP, hE⟩ := hv
  have hx := B.exec
  have hb := B.bytes
  have hr := B.returns
  have hts := atoms_spec (ws := _ :: lw_big) B.pre
  have htb : ∀ w ∈ lw_big, w.before _ s = true := fun w h => hts w (List.mem_cons_of_mem _ h)
  have hno := B.noHandlers (hts _ List.mem_cons_self)
  have hown : s.vm.findClass RX2 = some m.cls := findClass_of_methodNamed B.named
  have hlocks := B.notSynchronized
  have hK := hE.1
  subst hsz
  have hS : va_S (gA G) s.heap s.heap [] := va_S.rf
  have hl := lv_entry ([.ref a, .int x, .ref q]) (n := 3) (Nat.le_of_ble_eq_true rfl)
  rw [lg_entry_eq]
  generalize (lg_sl ([.ref a, .int x, .ref q]) ++ List.replicate (3 - (lg_sl ([.ref a, .int x, .ref q])).length) Slot.unset).toArray = ls at hl ⊢
  have hl : lv_has ls 3 [(0, .ref a), (1, .int x), (2, .ref q)] := hl
  obtain ⟨g, h1, h2, h3, h4⟩ := id hpi
  have e_2 : nI u.1.length + 2 = nI (u.1.length + 2) := nI_add _ 2
  have hne : pl ≠ a := fun z9 => by rw [z9, h1] at h2; simp at h2
  have hK11 : nI u.1.length + 3 ≤ nI n := by rw [show nI u.1.length + 3 = nI (u.1.length + 3) from nI_add _ 3]; exact nI_le (by omega) (by omega)
  refine lv_aload_n hx hb dX2_put_0 rfl (lv_at hl 0 rfl) ?_
  refine mw_get (D := gD G) (ci := 2) (v := .int (nI u.1.length)) (C := RX2) (T := TX2) (N := 4) hx hb htb inX2 hown hK hP h1 rfl 1 (by decide) (htb _ wd343) (fun _ h9 => h9) rfl dX2_put_1 ?_
  refine lv_iconst (v := 3) hx hb dX2_put_4 (by decide) ?_
  refine lv_iadd hx hb dX2_put_5 ?_
  refine lv_aload_n hx hb dX2_put_6 rfl (lv_at hl 0 rfl) ?_
  refine mw_get (D := gD G) (ci := 2) (v := .ref pl) (C := RX2) (T := TX2) (N := 4) hx hb htb inX2 hown hK hP h1 rfl 0 (by decide) (htb _ wd342) (fun _ h9 => h9) rfl dX2_put_7 ?_
  refine mw_alen (v := (nI n)) hx hb hK hP 0 h2 rfl rfl dX2_put_10 ?_
  refine lv_icmp_le (tgt := 15) hx hb dX2_put_11 (by decide) (fun c_1 => ?_) (fun c_1 => absurd hK11 c_1)
  refine lv_aload_n hx hb dX2_put_15 rfl (lv_at hl 0 rfl) ?_
  refine lv_aload_n hx hb dX2_put_16 rfl (lv_at hl 0 rfl) ?_
  refine mw_get (D := gD G) (ci := 2) (v := .int (nI u.1.length)) (C := RX2) (T := TX2) (N := 4) hx hb htb inX2 hown hK hP h1 rfl 1 (by decide) (htb _ wd343) (fun _ h9 => h9) rfl dX2_put_17 ?_
  refine lv_if_ne (tgt := 30) hx hb dX2_put_20 (by decide) (fun c_2 => ?_) (fun c_2 => ?_)
  · refine lv_aload_n hx hb dX2_put_30 rfl (lv_at hl 0 rfl) ?_
    refine mw_get (D := gD G) (ci := 2) (v := .int u.2.2) (C := RX2) (T := TX2) (N := 4) hx hb htb inX2 hown hK hP h1 rfl 3 (by decide) (htb _ wd345) (fun _ h9 => h9) rfl dX2_put_31 ?_
    refine lv_aload_n hx hb dX2_put_34 rfl (lv_at hl 2 rfl) ?_
    refine mw_get (D := gD G) (ci := 0) (v := .int w) (C := RX0) (T := TX0) (N := 6) hx hb htb inX0 hown hK hP hq rfl 0 (by decide) (htb _ wd226) (fun _ h9 => h9) rfl dX2_put_35 ?_
    refine va_mmax hx hb (hml.trans hl.1.symm) hown (htb _ wd363) (htb _ wd364) (htb _ wd13) (htb _ wd365) (Nat.le_of_ble_eq_true rfl) (Nat.le_of_ble_eq_true rfl) (Nat.le_of_ble_eq_true rfl) (Nat.le_of_ble_eq_true rfl) dX2_put_38 ?_
    refine W.eq (g2 := F0 m 41 ls [.int (fMx u.2.2 w), .ref a]) rfl ?_
    refine mw_put (D := gD G) (ci := 2) (v := .int (fMx u.2.2 w)) (ty := .int) (C := RX2) (T := TX2) (N := 4) hx hb htb inX2 tyX2 tyX2_ok nmX2 hown hK hP hS h1 hAa rfl 3 (by decide) (htb _ wd345) (fun _ h9 => h9) rfl (by decide +kernel) rfl rfl (Nat.le_of_ble_eq_true rfl) dX2_put_41 (fun H locs hP hS => ?_)
    obtain ⟨M_3, hM_3⟩ : ∃ z9 : mw_M, z9 = mw_up M a (.inr (2, [.ref pl, .int (nI u.1.length), .int u.2.1, .int (fMx u.2.2 w)])) := ⟨_, rfl⟩
    have hP : mw_P (gD G) gx_cl M_3 H := by rw [hM_3]; exact hP
    have f_4 : M_3 a = some (.inr (2, [.ref pl, .int (nI u.1.length), .int u.2.1, .int (fMx u.2.2 w)])) := by rw [hM_3]; exact mw_self _ _ _
    have f_5 : M_3 pl = some (.inl (gI G, n, .inl g)) := by rw [hM_3, mw_ne _ _ hne]; exact h2
    have f_6 : M_3 q = some (.inr (0, [.int w, .int h, .int d, .ref bp, .int rw, .int rh])) := by rw [hM_3, mw_ne _ _ hqa]; exact hq
    refine lv_aload_n hx hb dX2_put_44 rfl (lv_at hl 0 rfl) ?_
    refine mw_get (D := gD G) (ci := 2) (v := .ref pl) (C := RX2) (T := TX2) (N := 4) hx hb htb inX2 hown hK hP f_4 rfl 0 (by decide) (htb _ wd342) (fun _ h9 => h9) rfl dX2_put_45 ?_
    refine lv_aload_n hx hb dX2_put_48 rfl (lv_at hl 0 rfl) ?_
    refine mw_get (D := gD G) (ci := 2) (v := .int (nI u.1.length)) (C := RX2) (T := TX2) (N := 4) hx hb htb inX2 hown hK hP f_4 rfl 1 (by decide) (htb _ wd343) (fun _ h9 => h9) rfl dX2_put_49 ?_
    refine lv_iload_n hx hb dX2_put_52 rfl (lv_at hl 1 rfl) ?_
    refine mw_iast hx hb hK hP hS 0 f_5 hAp rfl (vp_in_nI (show u.1.length < n by omega) (by omega)) dX2_put_53 (fun H locs hP hS => ?_)
    rw [nI_clamp (show u.1.length < 2 ^ 31 by omega)] at hP
    obtain ⟨M_7, hM_7⟩ : ∃ z9 : mw_M, z9 = mw_up M_3 pl (.inl (gI G, n, .inl (upd g u.1.length x))) := ⟨_, rfl⟩
    have hP : mw_P (gD G) gx_cl M_7 H := by rw [hM_7]; exact hP
    have f_8 : M_7 a = some (.inr (2, [.ref pl, .int (nI u.1.length), .int u.2.1, .int (fMx u.2.2 w)])) := by rw [hM_7, mw_ne _ _ (Ne.symm hne)]; exact f_4
    have f_9 : M_7 pl = some (.inl (gI G, n, .inl (upd g u.1.length x))) := by rw [hM_7]; exact mw_self _ _ _
    have f_10 : M_7 q = some (.inr (0, [.int w, .int h, .int d, .ref bp, .int rw, .int rh])) := by rw [hM_7, mw_ne _ _ hqp]; exact f_6
    refine lv_aload_n hx hb dX2_put_54 rfl (lv_at hl 0 rfl) ?_
    refine mw_get (D := gD G) (ci := 2) (v := .ref pl) (C := RX2) (T := TX2) (N := 4) hx hb htb inX2 hown hK hP f_8 rfl 0 (by decide) (htb _ wd342) (fun _ h9 => h9) rfl dX2_put_55 ?_
    refine lv_aload_n hx hb dX2_put_58 rfl (lv_at hl 0 rfl) ?_
    refine mw_get (D := gD G) (ci := 2) (v := .int (nI u.1.length)) (C := RX2) (T := TX2) (N := 4) hx hb htb inX2 hown hK hP f_8 rfl 1 (by decide) (htb _ wd343) (fun _ h9 => h9) rfl dX2_put_59 ?_
    refine lv_iconst (v := 2) hx hb dX2_put_62 (by decide) ?_
    refine lv_iadd hx hb dX2_put_63 ?_
    refine lv_aload_n hx hb dX2_put_64 rfl (lv_at hl 0 rfl) ?_
    refine mw_get (D := gD G) (ci := 2) (v := .int u.2.1) (C := RX2) (T := TX2) (N := 4) hx hb htb inX2 hown hK hP f_8 rfl 2 (by decide) (htb _ wd344) (fun _ h9 => h9) rfl dX2_put_65 ?_
    refine lv_aload_n hx hb dX2_put_68 rfl (lv_at hl 2 rfl) ?_
    refine mw_get (D := gD G) (ci := 0) (v := .int d) (C := RX0) (T := TX0) (N := 6) hx hb htb inX0 hown hK hP f_10 rfl 2 (by decide) (htb _ wd232) (fun _ h9 => h9) rfl dX2_put_69 ?_
    refine lv_iadd hx hb dX2_put_72 ?_
    refine mw_iast hx hb hK hP hS 0 f_9 hAp rfl (by rw [e_2]; exact vp_in_nI (show u.1.length + 2 < n by omega) (by omega)) dX2_put_73 (fun H locs hP hS => ?_)
    rw [e_2, nI_clamp (show u.1.length + 2 < 2 ^ 31 by omega)] at hP
    obtain ⟨M_11, hM_11⟩ : ∃ z9 : mw_M, z9 = mw_up M_7 pl (.inl (gI G, n, .inl (upd (upd g u.1.length x) (u.1.length + 2) (u.2.1 + d)))) := ⟨_, rfl⟩
    have hP : mw_P (gD G) gx_cl M_11 H := by rw [hM_11]; exact hP
    have f_12 : M_11 a = some (.inr (2, [.ref pl, .int (nI u.1.length), .int u.2.1, .int (fMx u.2.2 w)])) := by rw [hM_11, mw_ne _ _ (Ne.symm hne)]; exact f_8
    have f_13 : M_11 pl = some (.inl (gI G, n, .inl (upd (upd g u.1.length x) (u.1.length + 2) (u.2.1 + d)))) := by rw [hM_11]; exact mw_self _ _ _
    have f_14 : M_11 q = some (.inr (0, [.int w, .int h, .int d, .ref bp, .int rw, .int rh])) := by rw [hM_11, mw_ne _ _ hqp]; exact f_10
    refine lv_aload_n hx hb dX2_put_74 rfl (lv_at hl 0 rfl) ?_
    refine lv_dup hx hb dX2_put_75 rfl ?_
    refine mw_get (D := gD G) (ci := 2) (v := .int (nI u.1.length)) (C := RX2) (T := TX2) (N := 4) hx hb htb inX2 hown hK hP f_12 rfl 1 (by decide) (htb _ wd343) (fun _ h9 => h9) rfl dX2_put_76 ?_
    refine lv_iconst (v := 3) hx hb dX2_put_79 (by decide) ?_
    refine lv_iadd hx hb dX2_put_80 ?_
    refine mw_put (D := gD G) (ci := 2) (v := .int ((nI u.1.length) + 3)) (ty := .int) (C := RX2) (T := TX2) (N := 4) hx hb htb inX2 tyX2 tyX2_ok nmX2 hown hK hP hS f_12 hAa rfl 1 (by decide) (htb _ wd343) (fun _ h9 => h9) rfl (by decide +kernel) rfl rfl (Nat.le_of_ble_eq_true rfl) dX2_put_81 (fun H locs hP hS => ?_)
    obtain ⟨M_15, hM_15⟩ : ∃ z9 : mw_M, z9 = mw_up M_11 a (.inr (2, [.ref pl, .int ((nI u.1.length) + 3), .int u.2.1, .int (fMx u.2.2 w)])) := ⟨_, rfl⟩
    have hP : mw_P (gD G) gx_cl M_15 H := by rw [hM_15]; exact hP
    have f_16 : M_15 a = some (.inr (2, [.ref pl, .int ((nI u.1.length) + 3), .int u.2.1, .int (fMx u.2.2 w)])) := by rw [hM_15]; exact mw_self _ _ _
    have f_17 : M_15 pl = some (.inl (gI G, n, .inl (upd (upd g u.1.length x) (u.1.length + 2) (u.2.1 + d)))) := by rw [hM_15, mw_ne _ _ hne]; exact f_13
    have f_18 : M_15 q = some (.inr (0, [.int w, .int h, .int d, .ref bp, .int rw, .int rh])) := by rw [hM_15, mw_ne _ _ hqa]; exact f_14
    refine lv_aload_n hx hb dX2_put_84 rfl (lv_at hl 0 rfl) ?_
    refine lv_dup hx hb dX2_put_85 rfl ?_
    refine mw_get (D := gD G) (ci := 2) (v := .int u.2.1) (C := RX2) (T := TX2) (N := 4) hx hb htb inX2 hown hK hP f_16 rfl 2 (by decide) (htb _ wd344) (fun _ h9 => h9) rfl dX2_put_86 ?_
    refine lv_aload_n hx hb dX2_put_89 rfl (lv_at hl 2 rfl) ?_
    refine mw_get (D := gD G) (ci := 0) (v := .int h) (C := RX0) (T := TX0) (N := 6) hx hb htb inX0 hown hK hP f_18 rfl 1 (by decide) (htb _ wd229) (fun _ h9 => h9) rfl dX2_put_90 ?_
    refine lv_aload_n hx hb dX2_put_93 rfl (lv_at hl 2 rfl) ?_
    refine mw_get (D := gD G) (ci := 0) (v := .int d) (C := RX0) (T := TX0) (N := 6) hx hb htb inX0 hown hK hP f_18 rfl 2 (by decide) (htb _ wd232) (fun _ h9 => h9) rfl dX2_put_94 ?_
    refine lv_iadd hx hb dX2_put_97 ?_
    refine lv_iadd hx hb dX2_put_98 ?_
    refine mw_put (D := gD G) (ci := 2) (v := .int (u.2.1 + (h + d))) (ty := .int) (C := RX2) (T := TX2) (N := 4) hx hb htb inX2 tyX2 tyX2_ok nmX2 hown hK hP hS f_16 hAa rfl 2 (by decide) (htb _ wd344) (fun _ h9 => h9) rfl (by decide +kernel) rfl rfl (Nat.le_of_ble_eq_true rfl) dX2_put_99 (fun H locs hP hS => ?_)
    obtain ⟨M_19, hM_19⟩ : ∃ z9 : mw_M, z9 = mw_up M_15 a (.inr (2, [.ref pl, .int ((nI u.1.length) + 3), .int (u.2.1 + (h + d)), .int (fMx u.2.2 w)])) := ⟨_, rfl⟩
    have hP : mw_P (gD G) gx_cl M_19 H := by rw [hM_19]; exact hP
    have f_20 : M_19 a = some (.inr (2, [.ref pl, .int ((nI u.1.length) + 3), .int (u.2.1 + (h + d)), .int (fMx u.2.2 w)])) := by rw [hM_19]; exact mw_self _ _ _
    have f_21 : M_19 pl = some (.inl (gI G, n, .inl (upd (upd g u.1.length x) (u.1.length + 2) (u.2.1 + d)))) := by rw [hM_19, mw_ne _ _ hne]; exact f_17
    have f_22 : M_19 q = some (.inr (0, [.int w, .int h, .int d, .ref bp, .int rw, .int rh])) := by rw [hM_19, mw_ne _ _ hqa]; exact f_18
    have hW9 : (fMx u.2.2 w) = if nI u.1.length = 0 then w else fMx u.2.2 w := by rw [if_neg c_2]
    exact mx_vret (M' := M_19) hx hb hr hlocks hP hS ⟨rfl, fs_pi.put (by rw [f_20, ← hW9]) f_21 h3 h4, fun x9 e9 n1 n2 h9 => by rw [hM_19, mw_ne _ _ n1, hM_15, mw_ne _ _ n1, hM_11, mw_ne _ _ n2, hM_7, mw_ne _ _ n2, hM_3, mw_ne _ _ n1]; exact h9⟩ dX2_put_102 (Nat.le_of_ble_eq_true rfl) (Nat.le_of_ble_eq_true rfl)
  · refine lv_aload_n hx hb dX2_put_23 rfl (lv_at hl 2 rfl) ?_
    refine mw_get (D := gD G) (ci := 0) (v := .int w) (C := RX0) (T := TX0) (N := 6) hx hb htb inX0 hown hK hP hq rfl 0 (by decide) (htb _ wd226) (fun _ h9 => h9) rfl dX2_put_24 ?_
    refine lv_goto (tgt := 41) hx hb dX2_put_27 (by decide) ?_
    refine mw_put (D := gD G) (ci := 2) (v := .int w) (ty := .int) (C := RX2) (T := TX2) (N := 4) hx hb htb inX2 tyX2 tyX2_ok nmX2 hown hK hP hS h1 hAa rfl 3 (by decide) (htb _ wd345) (fun _ h9 => h9) rfl (by decide +kernel) rfl rfl (Nat.le_of_ble_eq_true rfl) dX2_put_41 (fun H locs hP hS => ?_)
    obtain ⟨M_23, hM_23⟩ : ∃ z9 : mw_M, z9 = mw_up M a (.inr (2, [.ref pl, .int (nI u.1.length), .int u.2.1, .int w])) := ⟨_, rfl⟩
    have hP : mw_P (gD G) gx_cl M_23 H := by rw [hM_23]; exact hP
    have f_24 : M_23 a = some (.inr (2, [.ref pl, .int (nI u.1.length), .int u.2.1, .int w])) := by rw [hM_23]; exact mw_self _ _ _
    have f_25 : M_23 pl = some (.inl (gI G, n, .inl g)) := by rw [hM_23, mw_ne _ _ hne]; exact h2
    have f_26 : M_23 q = some (.inr (0, [.int w, .int h, .int d, .ref bp, .int rw, .int rh])) := by rw [hM_23, mw_ne _ _ hqa]; exact hq
    refine lv_aload_n hx hb dX2_put_44 rfl (lv_at hl 0 rfl) ?_
    refine mw_get (D := gD G) (ci := 2) (v := .ref pl) (C := RX2) (T := TX2) (N := 4) hx hb htb inX2 hown hK hP f_24 rfl 0 (by decide) (htb _ wd342) (fun _ h9 => h9) rfl dX2_put_45 ?_
    refine lv_aload_n hx hb dX2_put_48 rfl (lv_at hl 0 rfl) ?_
    refine mw_get (D := gD G) (ci := 2) (v := .int (nI u.1.length)) (C := RX2) (T := TX2) (N := 4) hx hb htb inX2 hown hK hP f_24 rfl 1 (by decide) (htb _ wd343) (fun _ h9 => h9) rfl dX2_put_49 ?_
    refine lv_iload_n hx hb dX2_put_52 rfl (lv_at hl 1 rfl) ?_
    refine mw_iast hx hb hK hP hS 0 f_25 hAp rfl (vp_in_nI (show u.1.length < n by omega) (by omega)) dX2_put_53 (fun H locs hP hS => ?_)
    rw [nI_clamp (show u.1.length < 2 ^ 31 by omega)] at hP
    obtain ⟨M_27, hM_27⟩ : ∃ z9 : mw_M, z9 = mw_up M_23 pl (.inl (gI G, n, .inl (upd g u.1.length x))) := ⟨_, rfl⟩
    have hP : mw_P (gD G) gx_cl M_27 H := by rw [hM_27]; exact hP
    have f_28 : M_27 a = some (.inr (2, [.ref pl, .int (nI u.1.length), .int u.2.1, .int w])) := by rw [hM_27, mw_ne _ _ (Ne.symm hne)]; exact f_24
    have f_29 : M_27 pl = some (.inl (gI G, n, .inl (upd g u.1.length x))) := by rw [hM_27]; exact mw_self _ _ _
    have f_30 : M_27 q = some (.inr (0, [.int w, .int h, .int d, .ref bp, .int rw, .int rh])) := by rw [hM_27, mw_ne _ _ hqp]; exact f_26
    refine lv_aload_n hx hb dX2_put_54 rfl (lv_at hl 0 rfl) ?_
    refine mw_get (D := gD G) (ci := 2) (v := .ref pl) (C := RX2) (T := TX2) (N := 4) hx hb htb inX2 hown hK hP f_28 rfl 0 (by decide) (htb _ wd342) (fun _ h9 => h9) rfl dX2_put_55 ?_
    refine lv_aload_n hx hb dX2_put_58 rfl (lv_at hl 0 rfl) ?_
    refine mw_get (D := gD G) (ci := 2) (v := .int (nI u.1.length)) (C := RX2) (T := TX2) (N := 4) hx hb htb inX2 hown hK hP f_28 rfl 1 (by decide) (htb _ wd343) (fun _ h9 => h9) rfl dX2_put_59 ?_
    refine lv_iconst (v := 2) hx hb dX2_put_62 (by decide) ?_
    refine lv_iadd hx hb dX2_put_63 ?_
    refine lv_aload_n hx hb dX2_put_64 rfl (lv_at hl 0 rfl) ?_
    refine mw_get (D := gD G) (ci := 2) (v := .int u.2.1) (C := RX2) (T := TX2) (N := 4) hx hb htb inX2 hown hK hP f_28 rfl 2 (by decide) (htb _ wd344) (fun _ h9 => h9) rfl dX2_put_65 ?_
    refine lv_aload_n hx hb dX2_put_68 rfl (lv_at hl 2 rfl) ?_
    refine mw_get (D := gD G) (ci := 0) (v := .int d) (C := RX0) (T := TX0) (N := 6) hx hb htb inX0 hown hK hP f_30 rfl 2 (by decide) (htb _ wd232) (fun _ h9 => h9) rfl dX2_put_69 ?_
    refine lv_iadd hx hb dX2_put_72 ?_
    refine mw_iast hx hb hK hP hS 0 f_29 hAp rfl (by rw [e_2]; exact vp_in_nI (show u.1.length + 2 < n by omega) (by omega)) dX2_put_73 (fun H locs hP hS => ?_)
    rw [e_2, nI_clamp (show u.1.length + 2 < 2 ^ 31 by omega)] at hP
    obtain ⟨M_31, hM_31⟩ : ∃ z9 : mw_M, z9 = mw_up M_27 pl (.inl (gI G, n, .inl (upd (upd g u.1.length x) (u.1.length + 2) (u.2.1 + d)))) := ⟨_, rfl⟩
    have hP : mw_P (gD G) gx_cl M_31 H := by rw [hM_31]; exact hP
    have f_32 : M_31 a = some (.inr (2, [.ref pl, .int (nI u.1.length), .int u.2.1, .int w])) := by rw [hM_31, mw_ne _ _ (Ne.symm hne)]; exact f_28
    have f_33 : M_31 pl = some (.inl (gI G, n, .inl (upd (upd g u.1.length x) (u.1.length + 2) (u.2.1 + d)))) := by rw [hM_31]; exact mw_self _ _ _
    have f_34 : M_31 q = some (.inr (0, [.int w, .int h, .int d, .ref bp, .int rw, .int rh])) := by rw [hM_31, mw_ne _ _ hqp]; exact f_30
    refine lv_aload_n hx hb dX2_put_74 rfl (lv_at hl 0 rfl) ?_
    refine lv_dup hx hb dX2_put_75 rfl ?_
    refine mw_get (D := gD G) (ci := 2) (v := .int (nI u.1.length)) (C := RX2) (T := TX2) (N := 4) hx hb htb inX2 hown hK hP f_32 rfl 1 (by decide) (htb _ wd343) (fun _ h9 => h9) rfl dX2_put_76 ?_
    refine lv_iconst (v := 3) hx hb dX2_put_79 (by decide) ?_
    refine lv_iadd hx hb dX2_put_80 ?_
    refine mw_put (D := gD G) (ci := 2) (v := .int ((nI u.1.length) + 3)) (ty := .int) (C := RX2) (T := TX2) (N := 4) hx hb htb inX2 tyX2 tyX2_ok nmX2 hown hK hP hS f_32 hAa rfl 1 (by decide) (htb _ wd343) (fun _ h9 => h9) rfl (by decide +kernel) rfl rfl (Nat.le_of_ble_eq_true rfl) dX2_put_81 (fun H locs hP hS => ?_)
    obtain ⟨M_35, hM_35⟩ : ∃ z9 : mw_M, z9 = mw_up M_31 a (.inr (2, [.ref pl, .int ((nI u.1.length) + 3), .int u.2.1, .int w])) := ⟨_, rfl⟩
    have hP : mw_P (gD G) gx_cl M_35 H := by rw [hM_35]; exact hP
    have f_36 : M_35 a = some (.inr (2, [.ref pl, .int ((nI u.1.length) + 3), .int u.2.1, .int w])) := by rw [hM_35]; exact mw_self _ _ _
    have f_37 : M_35 pl = some (.inl (gI G, n, .inl (upd (upd g u.1.length x) (u.1.length + 2) (u.2.1 + d)))) := by rw [hM_35, mw_ne _ _ hne]; exact f_33
    have f_38 : M_35 q = some (.inr (0, [.int w, .int h, .int d, .ref bp, .int rw, .int rh])) := by rw [hM_35, mw_ne _ _ hqa]; exact f_34
    refine lv_aload_n hx hb dX2_put_84 rfl (lv_at hl 0 rfl) ?_
    refine lv_dup hx hb dX2_put_85 rfl ?_
    refine mw_get (D := gD G) (ci := 2) (v := .int u.2.1) (C := RX2) (T := TX2) (N := 4) hx hb htb inX2 hown hK hP f_36 rfl 2 (by decide) (htb _ wd344) (fun _ h9 => h9) rfl dX2_put_86 ?_
    refine lv_aload_n hx hb dX2_put_89 rfl (lv_at hl 2 rfl) ?_
    refine mw_get (D := gD G) (ci := 0) (v := .int h) (C := RX0) (T := TX0) (N := 6) hx hb htb inX0 hown hK hP f_38 rfl 1 (by decide) (htb _ wd229) (fun _ h9 => h9) rfl dX2_put_90 ?_
    refine lv_aload_n hx hb dX2_put_93 rfl (lv_at hl 2 rfl) ?_
    refine mw_get (D := gD G) (ci := 0) (v := .int d) (C := RX0) (T := TX0) (N := 6) hx hb htb inX0 hown hK hP f_38 rfl 2 (by decide) (htb _ wd232) (fun _ h9 => h9) rfl dX2_put_94 ?_
    refine lv_iadd hx hb dX2_put_97 ?_
    refine lv_iadd hx hb dX2_put_98 ?_
    refine mw_put (D := gD G) (ci := 2) (v := .int (u.2.1 + (h + d))) (ty := .int) (C := RX2) (T := TX2) (N := 4) hx hb htb inX2 tyX2 tyX2_ok nmX2 hown hK hP hS f_36 hAa rfl 2 (by decide) (htb _ wd344) (fun _ h9 => h9) rfl (by decide +kernel) rfl rfl (Nat.le_of_ble_eq_true rfl) dX2_put_99 (fun H locs hP hS => ?_)
    obtain ⟨M_39, hM_39⟩ : ∃ z9 : mw_M, z9 = mw_up M_35 a (.inr (2, [.ref pl, .int ((nI u.1.length) + 3), .int (u.2.1 + (h + d)), .int w])) := ⟨_, rfl⟩
    have hP : mw_P (gD G) gx_cl M_39 H := by rw [hM_39]; exact hP
    have f_40 : M_39 a = some (.inr (2, [.ref pl, .int ((nI u.1.length) + 3), .int (u.2.1 + (h + d)), .int w])) := by rw [hM_39]; exact mw_self _ _ _
    have f_41 : M_39 pl = some (.inl (gI G, n, .inl (upd (upd g u.1.length x) (u.1.length + 2) (u.2.1 + d)))) := by rw [hM_39, mw_ne _ _ hne]; exact f_37
    have f_42 : M_39 q = some (.inr (0, [.int w, .int h, .int d, .ref bp, .int rw, .int rh])) := by rw [hM_39, mw_ne _ _ hqa]; exact f_38
    have hW9 : w = if nI u.1.length = 0 then w else fMx u.2.2 w := by rw [if_pos c_2]
    exact mx_vret (M' := M_39) hx hb hr hlocks hP hS ⟨rfl, fs_pi.put (by rw [f_40, ← hW9]) f_41 h3 h4, fun x9 e9 n1 n2 h9 => by rw [hM_39, mw_ne _ _ n1, hM_35, mw_ne _ _ n1, hM_31, mw_ne _ _ n2, hM_27, mw_ne _ _ n2, hM_23, mw_ne _ _ n1]; exact h9⟩ dX2_put_102 (Nat.le_of_ble_eq_true rfl) (Nat.le_of_ble_eq_true rfl)
-- Pile.asBox
set_option maxHeartbeats 4000000 in
set_option maxRecDepth 100000 in
theorem kX2_asBox (l : Launch) (htr : l.stackTraces = false) (G : gx_G) (sz : Nat) (M : mw_M) (hA : ∀ q : Nat, sz ≤ q → gA G q) (a pl n : Nat) (u : fs_Pi) (hpi : fs_pi G M a pl n u) : g_Met l G yX2_asBox (.code yX2_asBox cX2_asBox 1 (some (.object "FormulaShapes$Box"))) ({ frames := 3, cells := 1, slots := 6, locals := 160 } : Room) sz M [.ref a] (fun v M9 => ∃ q, v = some (.ref q) ∧ mw_ext M M9 ∧ M q = none ∧ M9 q = some (.inr (0, [.int u.2.2, .int u.2.1, .int 0, .ref pl, .int 0, .int 0]))) (fun _ => False) := by
  refine MetE.ofW (cc := cX2_asBox) (maxL := 1) (ret := (some (.object "FormulaShapes$Box"))) (by decide) rfl ?_
  intro p e s m args below meth c s₁ B hml hv
  obtain ⟨rfl, hsz, hP, hE⟩ := hv
  have hx := B.exec
  have hb := B.bytes
  have hr := B.returns
  have hts := atoms_spec (ws := _ :: lw_big) B.pre
  have htb : ∀ w ∈ lw_big, w.before _ s = true := fun w h => hts w (List.mem_cons_of_mem _ h)
  have hno := B.noHandlers (hts _ List.mem_cons_self)
  have hown : s.vm.findClass RX2 = some m.cls := findClass_of_methodNamed B.named
  have hlocks := B.notSynchronized
  have hK := hE.1
  subst hsz
  have hAn : ∀ q : Nat, s.heap.size ≤ q → gA G q := hA
  have hS : va_S (gA G) s.heap s.heap [] := va_S.rf
  have hl := lv_entry ([.ref a]) (n := 1) (Nat.le_of_ble_eq_true rfl)
  rw [lg_entry_eq]
  generalize (lg_sl ([.ref a]) ++ List.replicate (1 - (lg_sl ([.ref a])).length) Slot.unset).toArray = ls at hl ⊢
  have hl : lv_has ls 1 [(0, .ref a)] := hl
  obtain ⟨g, h1, h2, h3, h4⟩ := id hpi
  refine mw_new (ci := 0) (fs := [.int 0, .int 0, .int 0, .null, .int 0, .int 0]) (C := RX0) (T := TX0) (N := 6) hx hb htb inX0 tyX0 tyX0_ok hown (htb _ wd370) (htb _ wd215) (htb _ wd10) hK hP hS rfl (fun j hj => by rcases (show j = 0 ∨ j = 1 ∨ j = 2 ∨ j = 3 ∨ j = 4 ∨ j = 5 by omega) with rfl | rfl | rfl | rfl | rfl | rfl <;> rfl) (Nat.le_of_ble_eq_true rfl) (Nat.le_of_ble_eq_true rfl) dX2_asBox_0 (fun q_1 H hq_2 hs_3 hP hS => ?_)
  obtain ⟨M_4, hM_4⟩ : ∃ z9 : mw_M, z9 = mw_up M q_1 (.inr (0, [.int 0, .int 0, .int 0, .null, .int 0, .int 0])) := ⟨_, rfl⟩
  have hP : mw_P (gD G) gx_cl M_4 H := by rw [hM_4]; exact hP
  have n_5 : M q_1 = none := mw_ext.no (mw_ext.rf M) hq_2
  have f_6 : M_4 a = some (.inr (2, [.ref pl, .int (nI u.1.length), .int u.2.1, .int u.2.2])) := by rw [hM_4, mw_ne _ _ (fun z => by have z1 := h1; rw [z, hq_2] at z1; cases z1)]; exact h1
  have ne_7 : a ≠ q_1 := fun z => by have z1 := h1; rw [z, hq_2] at z1; cases z1
  have f_8 : M_4 q_1 = some (.inr (0, [.int 0, .int 0, .int 0, .null, .int 0, .int 0])) := by rw [hM_4]; exact mw_self _ _ _
  have x_9 : mw_ext M M_4 := by rw [hM_4]; exact mw_ext.up (mw_ext.rf M) n_5 _
  refine lv_dup hx hb dX2_asBox_3 rfl ?_
  refine lv_aload_n hx hb dX2_asBox_4 rfl (lv_at hl 0 rfl) ?_
  refine mw_get (D := gD G) (ci := 2) (v := .int u.2.2) (C := RX2) (T := TX2) (N := 4) hx hb htb inX2 hown hK hP f_6 rfl 3 (by decide) (htb _ wd345) (fun _ h9 => h9) rfl dX2_asBox_5 ?_
  refine lv_aload_n hx hb dX2_asBox_8 rfl (lv_at hl 0 rfl) ?_
  refine mw_get (D := gD G) (ci := 2) (v := .int u.2.1) (C := RX2) (T := TX2) (N := 4) hx hb htb inX2 hown hK hP f_6 rfl 2 (by decide) (htb _ wd344) (fun _ h9 => h9) rfl dX2_asBox_9 ?_
  refine lv_iconst (v := 0) hx hb dX2_asBox_12 (by decide) ?_
  refine lv_aload_n hx hb dX2_asBox_13 rfl (lv_at hl 0 rfl) ?_
  refine mw_get (D := gD G) (ci := 2) (v := .ref pl) (C := RX2) (T := TX2) (N := 4) hx hb htb inX2 hown hK hP f_6 rfl 0 (by decide) (htb _ wd342) (fun _ h9 => h9) rfl dX2_asBox_14 ?_
  refine mw_callI (As := [.int u.2.2, .int u.2.1, .int 0, .ref pl]) (rest := [.ref q_1]) hx hb hml hown hl (kX0_init_0 l htr G H.size M_4 q_1 (hAn _ hs_3) f_8 u.2.2 u.2.1 0 pl) (g_B (n := 4) htb wd220 wd10 wd371 (by decide +kernel) ⟨Nat.le_of_ble_eq_true rfl, Nat.le_of_ble_eq_true rfl⟩) (htb _ wd219) (htb _ wd220) rfl hE hP hS rfl rfl (Nat.le_of_ble_eq_true rfl) dX2_asBox_17 ⟨Nat.le_of_ble_eq_true rfl, Nat.le_of_ble_eq_true rfl⟩ (fun v9 M9 H locs hpo hP hz hS => ?_) (fun x9 E9 cell9 H9 locs9 hE9 => hE9.elim)
  obtain ⟨rfl, hM9⟩ := hpo
  obtain ⟨M_10, hM_10⟩ : ∃ z9 : mw_M, z9 = mw_up M_4 q_1 (.inr (0, [.int u.2.2, .int u.2.1, .int 0, .ref pl, .int 0, .int 0])) := ⟨_, rfl⟩
  have hP : mw_P (gD G) gx_cl M_10 H := by rw [hM_10, hM9]; exact hP
  have f_11 : M_10 a = some (.inr (2, [.ref pl, .int (nI u.1.length), .int u.2.1, .int u.2.2])) := by rw [hM_10, mw_ne _ _ ne_7]; exact f_6
  have f_12 : M_10 q_1 = some (.inr (0, [.int u.2.2, .int u.2.1, .int 0, .ref pl, .int 0, .int 0])) := by rw [hM_10]; exact mw_self _ _ _
  have x_13 : mw_ext M M_10 := by rw [hM_10]; exact mw_ext.up x_9 n_5 _
  refine W.eq (g2 := F0 m 20 ls [.ref q_1]) rfl ?_
  exact mx_aret (q := q_1) (M' := M_10) hx hb hr (Or.inl ⟨_, rfl⟩) hlocks hP hS ⟨q_1, rfl, x_13, n_5, f_12⟩ dX2_asBox_20 (Nat.le_of_ble_eq_true rfl) (Nat.le_of_ble_eq_true rfl)
