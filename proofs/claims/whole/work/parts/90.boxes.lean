/-! printed by wip/whole/spec*.py -/
-- boxes
set_option maxHeartbeats 4000000 in
set_option maxRecDepth 100000 in
theorem lwc_15 {p : Program} {l : Launch} {e : Env} {s : State} {m : MethodId} {below : List Frame} {meth : Method} {c : Code} {Q : State → Prop} (G : gx_G) (f : fs_A) (o : Nat) (A : Nat → Nat) (ot : Nat) (gn : Nat → Int32) (b L : Nat) (xs : Nat → Int32) (C0 : lw_C l G p s m c b L xs) (J : lw_J G f o A ot) (j : Nat) (hj : 7 * j + 7 ≤ L) (C D : Nat) (hC : C + 30 ≤ 601024) (hD : D + 1000 ≤ 7293034)
    (K : ∀ (M' : mw_M) (S' : fs_S) (H' : Heap) (locs' : List Loc) (ls' : Array Slot), lw_I G f o A ot gn M' S' → mw_P (gD G) gx_cl M' H' → va_S (gA G) s.heap H' locs' → lv_has ls' 7 [(0, .ref b), (1, .ref (f0 f)), (2, .ref o), (3, .ref ot), (4, .int (nI (7 * j)))] → W p l e room_1 s m #[Value.ref b] below meth c H' locs' (C + 30) (D + 1000) Q (F0 m 1383 ls' []))
    {M : mw_M} {S : fs_S} {H : Heap} {locs : List Loc} {ls : Array Slot} (hI : lw_I G f o A ot gn M S) (hP : mw_P (gD G) gx_cl M H) (hS : va_S (gA G) s.heap H locs) (hl : lv_has ls 7 [(0, .ref b), (1, .ref (f0 f)), (2, .ref o), (3, .ref ot), (4, .int (nI (7 * j)))]) : W p l e room_1 s m #[Value.ref b] below meth c H locs C D Q (F0 m 1370 ls []) := by
  obtain ⟨hx, hb, hml, hown, htb, hE, hN, hXs, hbl, hbA, hAn, htr, hL⟩ := C0
  have hK := hE.1
  obtain ⟨g0, hot⟩ := id hI.2.2.1
  obtain ⟨x0, hx0⟩ : ∃ z9, z9 = xs (7 * j) := ⟨_, rfl⟩
  obtain ⟨x1, hx1⟩ : ∃ z9, z9 = xs (7 * j + 1) := ⟨_, rfl⟩
  have e_1 : nI (7 * j) + 1 = nI (7 * j + 1) := nI_add _ 1
  obtain ⟨x2, hx2⟩ : ∃ z9, z9 = xs (7 * j + 2) := ⟨_, rfl⟩
  have e_2 : nI (7 * j) + 2 = nI (7 * j + 2) := nI_add _ 2
  obtain ⟨x3, hx3⟩ : ∃ z9, z9 = xs (7 * j + 3) := ⟨_, rfl⟩
  have e_3 : nI (7 * j) + 3 = nI (7 * j + 3) := nI_add _ 3
  obtain ⟨x4, hx4⟩ : ∃ z9, z9 = xs (7 * j + 4) := ⟨_, rfl⟩
  have e_4 : nI (7 * j) + 4 = nI (7 * j + 4) := nI_add _ 4
  obtain ⟨x5, hx5⟩ : ∃ z9, z9 = xs (7 * j + 5) := ⟨_, rfl⟩
  have e_5 : nI (7 * j) + 5 = nI (7 * j + 5) := nI_add _ 5
  obtain ⟨x6, hx6⟩ : ∃ z9, z9 = xs (7 * j + 6) := ⟨_, rfl⟩
  have e_6 : nI (7 * j) + 6 = nI (7 * j + 6) := nI_add _ 6
  refine lv_aload_n hx hb dL_law_1370 rfl (lv_at hl 1 rfl) ?_
  refine mw_callV (C := RX3) (As := []) (rest := []) hx hb hml hown hl (kX3_boxes l htr G H.size M f S hI.1) (g_B (n := 0) htb wd78 wd1 wd75 (by decide +kernel) ⟨Nat.le_of_ble_eq_true rfl, Nat.le_of_ble_eq_true rfl⟩) (htb _ wd76) (htb _ wd77) hE hP hS (fs_R.this hI.1) rfl rfl rfl (Nat.le_of_ble_eq_true rfl) dL_law_1371 ⟨show C + 0 ≤ 601024 from by omega, show D + 0 ≤ 7293034 from by omega⟩ (fun v9 M9 H locs hpo hP hz hS => ?_) (fun x9 E9 cell9 H9 locs9 hE9 => hE9.elim)
  obtain ⟨rfl, rfl⟩ := hpo
  obtain ⟨th, z, hmR⟩ := hI.2.1
  obtain ⟨np, bg, g9, hT9, -⟩ := id hmR
  refine W.eq (g2 := F0 m 1374 ls [.int (nI (sN S))]) rfl ?_
  refine lv_aload_n hx hb dL_law_1374 rfl (lv_at hl 2 rfl) ?_
  refine mw_callV (C := RX4) (As := []) (rest := [.int (nI (sN S))]) hx hb hml hown hl (kX4_boxes l htr G H.size M o A th z S hmR) (g_B (n := 0) htb wd725 wd3 wd722 (by decide +kernel) ⟨Nat.le_of_ble_eq_true rfl, Nat.le_of_ble_eq_true rfl⟩) (htb _ wd723) (htb _ wd724) hE hP hS hT9.1 rfl rfl rfl (Nat.le_of_ble_eq_true rfl) dL_law_1375 ⟨show C + 0 + 0 ≤ 601024 from by omega, show D + 0 + 0 ≤ 7293034 from by omega⟩ (fun v9 M9 H locs hpo hP hz hS => ?_) (fun x9 E9 cell9 H9 locs9 hE9 => hE9.elim)
  have hmk := hpo
  obtain ⟨rfl, -, -⟩ := hpo
  obtain ⟨M2, hM2⟩ : ∃ z9 : mw_M, z9 = M9 := ⟨_, rfl⟩
  rw [← hM2] at hP hmk
  obtain ⟨hI2, -, -⟩ := lw_w2 (φ := fun _ => True) J hI (fun a e _ _ h => h) (by rw [if_pos rfl]; exact hI.1) ⟨g0, hot, trivial⟩ hmk
  refine W.eq (g2 := F0 m 1378 ls [.int (nI (sN S)), .int (nI (sN S))]) rfl ?_
  refine lv_icmp_eq (tgt := 1383) hx hb dL_law_1378 (by decide) (fun c_1 => ?_) (fun c_1 => absurd rfl c_1)
  refine W.widen (k := C + 30) (n := D + 1000) (show C + 0 + 0 ≤ C + 30 by omega) (show D + 0 + 0 ≤ D + 1000 by omega) ?_
  exact K _ _ _ _ _ hI2 hP hS (lv_sub hl [0, 1, 2, 3, 4] rfl)
