/-! printed by wip/whole/spec*.py -/
-- parameter
set_option maxHeartbeats 4000000 in
set_option maxRecDepth 100000 in
theorem lwc_0 {p : Program} {l : Launch} {e : Env} {s : State} {m : MethodId} {below : List Frame} {meth : Method} {c : Code} {Q : State → Prop} (G : gx_G) (f : fs_A) (o : Nat) (A : Nat → Nat) (ot : Nat) (gn : Nat → Int32) (b L : Nat) (xs : Nat → Int32) (C0 : lw_C l G p s m c b L xs) (J : lw_J G f o A ot) (j : Nat) (hj : 7 * j + 7 ≤ L) (C D : Nat) (hC : C + 30 ≤ 601024) (hD : D + 1000 ≤ 7293034)
    (K : ∀ (M' : mw_M) (S' : fs_S) (H' : Heap) (locs' : List Loc) (ls' : Array Slot), lw_I G f o A ot gn M' S' → mw_P (gD G) gx_cl M' H' → va_S (gA G) s.heap H' locs' → lv_has ls' 7 [(0, .ref b), (1, .ref (f0 f)), (2, .ref o), (3, .ref ot), (4, .int (nI (7 * j)))] → W p l e room_1 s m #[Value.ref b] below meth c H' locs' (C + 30) (D + 1000) Q (F0 m 1383 ls' []))
    {M : mw_M} {S : fs_S} {H : Heap} {locs : List Loc} {ls : Array Slot} (hI : lw_I G f o A ot gn M S) (hP : mw_P (gD G) gx_cl M H) (hS : va_S (gA G) s.heap H locs) (hl : lv_has ls 7 [(0, .ref b), (1, .ref (f0 f)), (2, .ref o), (3, .ref ot), (4, .int (nI (7 * j)))]) : W p l e room_1 s m #[Value.ref b] below meth c H locs C D Q (F0 m 120 ls []) := by
  obtain ⟨hx, hb, hml, hown, htb, hE, hN, hXs, hbl, hbA, hAn, htr, hL⟩ := C0
  have hK := hE.1
  obtain ⟨g0, hot⟩ := id hI.2.2.1
  obtain ⟨x0, hx0⟩ : ∃ z9, z9 = xs (7 * j) := ⟨_, rfl⟩
  obtain ⟨x1, hx1⟩ : ∃ z9, z9 = xs (7 * j + 1) := ⟨_, rfl⟩
  have e_1 : nI (7 * j) + 1 = nI (7 * j + 1) := nI_add _ 1
  obtain ⟨x2, hx2⟩ : ∃ z9, z9 = xs (7 * j + 2) := ⟨_, rfl⟩
  have e_2 : nI (7 * j) + 2 = nI (7 * j + 2) := nI_add _ 2
  obtain ⟨x3, hx3⟩ : ∃ z9, z9 = xs (7 * j + 3) := ⟨_, rfl⟩
  have e_3 : nI (7 * j) + 3 = nI (7 * j + 3) := nI_add _ 3
  obtain ⟨x4, hx4⟩ : ∃ z9, z9 = xs (7 * j + 4) := ⟨_, rfl⟩
  have e_4 : nI (7 * j) + 4 = nI (7 * j + 4) := nI_add _ 4
  obtain ⟨x5, hx5⟩ : ∃ z9, z9 = xs (7 * j + 5) := ⟨_, rfl⟩
  have e_5 : nI (7 * j) + 5 = nI (7 * j + 5) := nI_add _ 5
  obtain ⟨x6, hx6⟩ : ∃ z9, z9 = xs (7 * j + 6) := ⟨_, rfl⟩
  have e_6 : nI (7 * j) + 6 = nI (7 * j + 6) := nI_add _ 6
  refine lv_aload_n hx hb dL_law_120 rfl (lv_at hl 1 rfl) ?_
  refine lv_aload_n hx hb dL_law_121 rfl (lv_at hl 0 rfl) ?_
  refine lv_iload hx hb dL_law_122 (lv_at hl 4 rfl) ?_
  refine lv_iconst (v := 1) hx hb dL_law_124 (by decide) ?_
  refine lv_iadd hx hb dL_law_125 ?_
  refine va_sld hx hb hXs hbl hbA hS (by rw [e_1]; exact vp_in_nI (show 7 * j + 1 < L by omega) (by omega)) dL_law_126 ?_
  refine W.eq (g2 := F0 m 127 ls [.int x1, .ref (f0 f)]) (by rw [e_1, nI_clamp (show 7 * j + 1 < 2 ^ 31 by omega), ← hx1]) ?_
  refine lv_aload_n hx hb dL_law_127 rfl (lv_at hl 0 rfl) ?_
  refine lv_iload hx hb dL_law_128 (lv_at hl 4 rfl) ?_
  refine lv_iconst (v := 2) hx hb dL_law_130 (by decide) ?_
  refine lv_iadd hx hb dL_law_131 ?_
  refine va_sld hx hb hXs hbl hbA hS (by rw [e_2]; exact vp_in_nI (show 7 * j + 2 < L by omega) (by omega)) dL_law_132 ?_
  refine W.eq (g2 := F0 m 133 ls [.int x2, .int x1, .ref (f0 f)]) (by rw [e_2, nI_clamp (show 7 * j + 2 < 2 ^ 31 by omega), ← hx2]) ?_
  refine lv_aload_n hx hb dL_law_133 rfl (lv_at hl 0 rfl) ?_
  refine lv_iload hx hb dL_law_134 (lv_at hl 4 rfl) ?_
  refine lv_iconst (v := 3) hx hb dL_law_136 (by decide) ?_
  refine lv_iadd hx hb dL_law_137 ?_
  refine va_sld hx hb hXs hbl hbA hS (by rw [e_3]; exact vp_in_nI (show 7 * j + 3 < L by omega) (by omega)) dL_law_138 ?_
  refine W.eq (g2 := F0 m 139 ls [.int x3, .int x2, .int x1, .ref (f0 f)]) (by rw [e_3, nI_clamp (show 7 * j + 3 < 2 ^ 31 by omega), ← hx3]) ?_
  refine lv_aload_n hx hb dL_law_139 rfl (lv_at hl 3 rfl) ?_
  refine mw_callN (As := [.ref (f0 f), .int x1, .int x2, .int x3, .ref ot]) (rest := []) hx hb hml hown hl (kL_parameter l htr G H.size M f S hI.1 hI.2.2.2.2 (fun q h => hAn q (Nat.le_trans hS.1 h)) ot g0 hot J.2.1.2.1 J.2.1.1 J.2.1.2.2.2 x1 x2 x3) (g_BW (n := 5) htb wd81 wd0 wd79 (by decide +kernel) ⟨Nat.le_of_ble_eq_true rfl, Nat.le_of_ble_eq_true rfl⟩) (htb _ wd80) hE hN hP hS rfl rfl (Nat.le_of_ble_eq_true rfl) dL_law_140 ⟨show C + 20 ≤ 601024 from by omega, show D + 900 ≤ 7293034 from by omega⟩ (fun v9 M9 H locs hpo hP hz hS => ?_)
  obtain ⟨rfl, ho1, hR1, hk1⟩ := hpo
  obtain ⟨M1, hM1⟩ : ∃ z9 : mw_M, z9 = M9 := ⟨_, rfl⟩
  rw [← hM1] at hP ho1 hR1 hk1
  obtain ⟨th, z, hmR⟩ := lw_w1 J hI hk1
  obtain ⟨np, bg, g9, hT9, -⟩ := id hmR
  refine W.eq (g2 := F0 m 143 ls [.int (nI (ex_par x1 x2 x3))]) rfl ?_
  refine lv_istore (lv' := [(5, .int (nI (ex_par x1 x2 x3))), (0, .ref b), (1, .ref (f0 f)), (2, .ref o), (3, .ref ot), (4, .int (nI (7 * j)))]) hx hb dL_law_143 hl (by decide) rfl (fun ls hl => ?_)
  refine lv_aload_n hx hb dL_law_145 rfl (lv_at hl 3 rfl) ?_
  refine lv_aload_n hx hb dL_law_146 rfl (lv_at hl 1 rfl) ?_
  refine lv_iload hx hb dL_law_147 (lv_at hl 5 rfl) ?_
  refine lv_iconst (v := 1) hx hb dL_law_149 (by decide) ?_
  refine lv_iadd hx hb dL_law_150 ?_
  refine va_sld hx hb hXs hbl hbA hS (by rw [e_1]; exact vp_in_nI (show 7 * j + 1 < L by omega) (by omega)) dL_law_151 ?_
  refine W.eq (g2 := F0 m 152 ls [.int x1, .ref o]) (by rw [e_1, nI_clamp (show 7 * j + 1 < 2 ^ 31 by omega), ← hx1]) ?_
  refine lv_aload_n hx hb dL_law_152 rfl (lv_at hl 1 rfl) ?_
  refine lv_iload hx hb dL_law_153 (lv_at hl 5 rfl) ?_
  refine lv_iconst (v := 2) hx hb dL_law_155 (by decide) ?_
  refine lv_iadd hx hb dL_law_156 ?_
  refine va_sld hx hb hXs hbl hbA hS (by rw [e_2]; exact vp_in_nI (show 7 * j + 2 < L by omega) (by omega)) dL_law_157 ?_
  refine W.eq (g2 := F0 m 158 ls [.int x2, .int x1, .ref o]) (by rw [e_2, nI_clamp (show 7 * j + 2 < 2 ^ 31 by omega), ← hx2]) ?_
  refine lv_aload_n hx hb dL_law_158 rfl (lv_at hl 1 rfl) ?_
  refine lv_iload hx hb dL_law_159 (lv_at hl 5 rfl) ?_
  refine lv_iconst (v := 3) hx hb dL_law_161 (by decide) ?_
  refine lv_iadd hx hb dL_law_162 ?_
  refine va_sld hx hb hXs hbl hbA hS (by rw [e_3]; exact vp_in_nI (show 7 * j + 3 < L by omega) (by omega)) dL_law_163 ?_
  refine W.eq (g2 := F0 m 164 ls [.int x3, .int x2, .int x1, .ref o]) (by rw [e_3, nI_clamp (show 7 * j + 3 < 2 ^ 31 by omega), ← hx3]) ?_
  refine mw_callV (C := RX4) (As := [.int x1, .int x2, .int x3]) (rest := []) hx hb hml hown hl (kX4_parameter l htr G H.size M1 o A th z S hmR hI.1.ok x1 x2 x3) (g_B (n := 3) htb wd596 wd3 wd593 (by decide +kernel) ⟨Nat.le_of_ble_eq_true rfl, Nat.le_of_ble_eq_true rfl⟩) (htb _ wd594) (htb _ wd595) hE hP hS hT9.1 rfl rfl rfl (Nat.le_of_ble_eq_true rfl) dL_law_164 ⟨show C + 20 + 0 ≤ 601024 from by omega, show D + 900 + 0 ≤ 7293034 from by omega⟩ (fun v9 M9 H locs hpo hP hz hS => ?_) (fun x9 E9 cell9 H9 locs9 hE9 => hE9.elim)
  have hmk := hpo
  obtain ⟨rfl, -, -⟩ := hpo
  obtain ⟨M2, hM2⟩ : ∃ z9 : mw_M, z9 = M9 := ⟨_, rfl⟩
  rw [← hM2] at hP hmk
  obtain ⟨hI2, ⟨g2, hot2, hφ⟩, z2, hmR2⟩ := lw_w2 J hI hk1 hR1 ho1 hmk
  obtain ⟨np2, bg2, g92, hT92, -⟩ := id hmR2
  refine W.eq (g2 := F0 m 167 ls [.int (if ex_par x1 x2 x3 = 0 then sP S (fIx x1 * 21 + fIx x2) else 0)]) rfl ?_
  refine lv_istore (lv' := [(6, .int (if ex_par x1 x2 x3 = 0 then sP S (fIx x1 * 21 + fIx x2) else 0)), (5, .int (nI (ex_par x1 x2 x3))), (0, .ref b), (1, .ref (f0 f)), (2, .ref o), (3, .ref ot), (4, .int (nI (7 * j)))]) hx hb dL_law_167 hl (by decide) rfl (fun ls hl => ?_)
  refine lv_aload_n hx hb dL_law_169 rfl (lv_at hl 4 rfl) ?_
  refine mw_callV (C := RX4) (As := []) (rest := []) hx hb hml hown hl (kX4_thrown l htr G H.size M2 o A (nI (ex_par x1 x2 x3)) z2 (if ex_par x1 x2 x3 = 0 then fs_pa S (fIx x1 * 21 + fIx x2) x3 else S) hmR2) (g_B (n := 0) htb wd592 wd3 wd589 (by decide +kernel) ⟨Nat.le_of_ble_eq_true rfl, Nat.le_of_ble_eq_true rfl⟩) (htb _ wd590) (htb _ wd591) hE hP hS hT92.1 rfl rfl rfl (Nat.le_of_ble_eq_true rfl) dL_law_170 ⟨show C + 20 + 0 + 0 ≤ 601024 from by omega, show D + 900 + 0 + 0 ≤ 7293034 from by omega⟩ (fun v9 M9 H locs hpo hP hz hS => ?_) (fun x9 E9 cell9 H9 locs9 hE9 => hE9.elim)
  obtain ⟨rfl, rfl⟩ := hpo
  refine W.eq (g2 := F0 m 173 ls [.int (nI (ex_par x1 x2 x3))]) rfl ?_
  refine lv_iload hx hb dL_law_173 (lv_at hl 1 rfl) ?_
  refine lv_icmp_eq (tgt := 180) hx hb dL_law_175 (by decide) (fun c_1 => ?_) (fun c_1 => absurd rfl c_1)
  refine lv_iload hx hb dL_law_180 (lv_at hl 1 rfl) ?_
  refine lv_if_ne (tgt := 197) hx hb dL_law_182 (by decide) (fun c_2 => ?_) (fun c_2 => ?_)
  · refine lv_goto (tgt := 1383) hx hb dL_law_197 (by decide) ?_
    refine W.widen (k := C + 30) (n := D + 1000) (show C + 20 + 0 + 0 ≤ C + 30 by omega) (show D + 900 + 0 + 0 ≤ D + 1000 by omega) ?_
    exact K _ _ _ _ _ hI2 hP hS (lv_sub hl [2, 3, 4, 5, 6] rfl)
  · refine lv_aload_n hx hb dL_law_185 rfl (lv_at hl 5 rfl) ?_
    refine lv_iconst (v := 0) hx hb dL_law_186 (by decide) ?_
    refine mw_lald hx hb hK hP 3 hot2 rfl (by unfold vp_in; decide) dL_law_187 ?_
    have hex : ex_par x1 x2 x3 = 0 := ex0 (by unfold ex_par; exact le4_ite (by decide) (le4_ite (by decide) (by decide))) c_2
    have hg0 := hφ hex
    refine W.eq (g2 := F0 m 188 ls [.long (sP S (fIx x1 * 21 + fIx x2)).toInt64]) (show F0 m 188 ls [.long (g2 0)] = _ from by rw [hg0]) ?_
    refine lv_iload hx hb dL_law_188 (lv_at hl 0 rfl) ?_
    refine lv_i2l hx hb dL_law_190 rfl ?_
    refine W.eq (g2 := F0 m 191 ls [.long (sP S (fIx x1 * 21 + fIx x2)).toInt64, .long (sP S (fIx x1 * 21 + fIx x2)).toInt64]) (by rw [if_pos hex]) ?_
    refine mw_lcmpE hx hb dL_law_191 ?_
    refine lv_if_eq (tgt := 197) hx hb dL_law_192 (by decide) (fun c_3 => ?_) (fun c_3 => absurd (by decide) c_3)
    refine lv_goto (tgt := 1383) hx hb dL_law_197 (by decide) ?_
    refine W.widen (k := C + 30) (n := D + 1000) (show C + 20 + 0 + 0 ≤ C + 30 by omega) (show D + 900 + 0 + 0 ≤ D + 1000 by omega) ?_
    exact K _ _ _ _ _ hI2 hP hS (lv_sub hl [2, 3, 4, 5, 6] rfl)
-- set
set_option maxHeartbeats 4000000 in
set_option maxRecDepth 100000 in
theorem lwc_1 {p : Program} {l : Launch} {e : Env} {s : State} {m : MethodId} {below : List Frame} {meth : Method} {c : Code} {Q : State → Prop} (G : gx_G) (f : fs_A) (o : Nat) (A : Nat → Nat) (ot : Nat) (gn : Nat → Int32) (b L : Nat) (xs : Nat → Int32) (C0 : lw_C l G p s m c b L xs) (J : lw_J G f o A ot) (j : Nat) (hj : 7 * j + 7 ≤ L) (C D : Nat) (hC : C + 30 ≤ 601024) (hD : D + 1000 ≤ 7293034)
    (K : ∀ (M' : mw_M) (S' : fs_S) (H' : Heap) (locs' : List Loc) (ls' : Array Slot), lw_I G f o A ot gn M' S' → mw_P (gD G) gx_cl M' H' → va_S (gA G) s.heap H' locs' → lv_has ls' 7 [(0, .ref b), (1, .ref (f0 f)), (2, .ref o), (3, .ref ot), (4, .int (nI (7 * j)))] → W p l e room_1 s m #[Value.ref b] below meth c H' locs' (C + 30) (D + 1000) Q (F0 m 1383 ls' []))
    {M : mw_M} {S : fs_S} {H : Heap} {locs : List Loc} {ls : Array Slot} (hI : lw_I G f o A ot gn M S) (hP : mw_P (gD G) gx_cl M H) (hS : va_S (gA G) s.heap H locs) (hl : lv_has ls 7 [(0, .ref b), (1, .ref (f0 f)), (2, .ref o), (3, .ref ot), (4, .int (nI (7 * j)))]) : W p l e room_1 s m #[Value.ref b] below meth c H locs C D Q (F0 m 200 ls []) := by
  obtain ⟨hx, hb, hml, hown, htb, hE, hN, hXs, hbl, hbA, hAn, htr, hL⟩ := C0
  have hK := hE.1
  obtain ⟨g0, hot⟩ := id hI.2.2.1
  obtain ⟨x0, hx0⟩ : ∃ z9, z9 = xs (7 * j) := ⟨_, rfl⟩
  obtain ⟨x1, hx1⟩ : ∃ z9, z9 = xs (7 * j + 1) := ⟨_, rfl⟩
  have e_1 : nI (7 * j) + 1 = nI (7 * j + 1) := nI_add _ 1
  obtain ⟨x2, hx2⟩ : ∃ z9, z9 = xs (7 * j + 2) := ⟨_, rfl⟩
  have e_2 : nI (7 * j) + 2 = nI (7 * j + 2) := nI_add _ 2
  obtain ⟨x3, hx3⟩ : ∃ z9, z9 = xs (7 * j + 3) := ⟨_, rfl⟩
  have e_3 : nI (7 * j) + 3 = nI (7 * j + 3) := nI_add _ 3
  obtain ⟨x4, hx4⟩ : ∃ z9, z9 = xs (7 * j + 4) := ⟨_, rfl⟩
  have e_4 : nI (7 * j) + 4 = nI (7 * j + 4) := nI_add _ 4
  obtain ⟨x5, hx5⟩ : ∃ z9, z9 = xs (7 * j + 5) := ⟨_, rfl⟩
  have e_5 : nI (7 * j) + 5 = nI (7 * j + 5) := nI_add _ 5
  obtain ⟨x6, hx6⟩ : ∃ z9, z9 = xs (7 * j + 6) := ⟨_, rfl⟩
  have e_6 : nI (7 * j) + 6 = nI (7 * j + 6) := nI_add _ 6
  refine lv_aload_n hx hb dL_law_200 rfl (lv_at hl 1 rfl) ?_
  refine lv_aload_n hx hb dL_law_201 rfl (lv_at hl 0 rfl) ?_
  refine lv_iload hx hb dL_law_202 (lv_at hl 4 rfl) ?_
  refine lv_iconst (v := 1) hx hb dL_law_204 (by decide) ?_
  refine lv_iadd hx hb dL_law_205 ?_
  refine va_sld hx hb hXs hbl hbA hS (by rw [e_1]; exact vp_in_nI (show 7 * j + 1 < L by omega) (by omega)) dL_law_206 ?_
  refine W.eq (g2 := F0 m 207 ls [.int x1, .ref (f0 f)]) (by rw [e_1, nI_clamp (show 7 * j + 1 < 2 ^ 31 by omega), ← hx1]) ?_
  refine lv_aload_n hx hb dL_law_207 rfl (lv_at hl 0 rfl) ?_
  refine lv_iload hx hb dL_law_208 (lv_at hl 4 rfl) ?_
  refine lv_iconst (v := 2) hx hb dL_law_210 (by decide) ?_
  refine lv_iadd hx hb dL_law_211 ?_
  refine va_sld hx hb hXs hbl hbA hS (by rw [e_2]; exact vp_in_nI (show 7 * j + 2 < L by omega) (by omega)) dL_law_212 ?_
  refine W.eq (g2 := F0 m 213 ls [.int x2, .int x1, .ref (f0 f)]) (by rw [e_2, nI_clamp (show 7 * j + 2 < 2 ^ 31 by omega), ← hx2]) ?_
  refine lv_aload_n hx hb dL_law_213 rfl (lv_at hl 3 rfl) ?_
  refine mw_callN (As := [.ref (f0 f), .int x1, .int x2, .ref ot]) (rest := []) hx hb hml hown hl (kL_set l htr G H.size M f S hI.1 hI.2.2.2.2 (fun q h => hAn q (Nat.le_trans hS.1 h)) ot g0 hot J.2.1.2.1 J.2.1.1 J.2.1.2.2.2 x1 x2) (g_BW (n := 4) htb wd181 wd0 wd179 (by decide +kernel) ⟨Nat.le_of_ble_eq_true rfl, Nat.le_of_ble_eq_true rfl⟩) (htb _ wd180) hE hN hP hS rfl rfl (Nat.le_of_ble_eq_true rfl) dL_law_214 ⟨show C + 20 ≤ 601024 from by omega, show D + 900 ≤ 7293034 from by omega⟩ (fun v9 M9 H locs hpo hP hz hS => ?_)
  obtain ⟨rfl, ho1, hR1, hk1⟩ := hpo
  obtain ⟨M1, hM1⟩ : ∃ z9 : mw_M, z9 = M9 := ⟨_, rfl⟩
  rw [← hM1] at hP ho1 hR1 hk1
  obtain ⟨th, z, hmR⟩ := lw_w1 J hI hk1
  obtain ⟨np, bg, g9, hT9, -⟩ := id hmR
  refine W.eq (g2 := F0 m 217 ls [.int (nI (ex_set x1 x2))]) rfl ?_
  refine lv_istore (lv' := [(5, .int (nI (ex_set x1 x2))), (0, .ref b), (1, .ref (f0 f)), (2, .ref o), (3, .ref ot), (4, .int (nI (7 * j)))]) hx hb dL_law_217 hl (by decide) rfl (fun ls hl => ?_)
  refine lv_aload_n hx hb dL_law_219 rfl (lv_at hl 3 rfl) ?_
  refine lv_aload_n hx hb dL_law_220 rfl (lv_at hl 1 rfl) ?_
  refine lv_iload hx hb dL_law_221 (lv_at hl 5 rfl) ?_
  refine lv_iconst (v := 1) hx hb dL_law_223 (by decide) ?_
  refine lv_iadd hx hb dL_law_224 ?_
  refine va_sld hx hb hXs hbl hbA hS (by rw [e_1]; exact vp_in_nI (show 7 * j + 1 < L by omega) (by omega)) dL_law_225 ?_
  refine W.eq (g2 := F0 m 226 ls [.int x1, .ref o]) (by rw [e_1, nI_clamp (show 7 * j + 1 < 2 ^ 31 by omega), ← hx1]) ?_
  refine lv_aload_n hx hb dL_law_226 rfl (lv_at hl 1 rfl) ?_
  refine lv_iload hx hb dL_law_227 (lv_at hl 5 rfl) ?_
  refine lv_iconst (v := 2) hx hb dL_law_229 (by decide) ?_
  refine lv_iadd hx hb dL_law_230 ?_
  refine va_sld hx hb hXs hbl hbA hS (by rw [e_2]; exact vp_in_nI (show 7 * j + 2 < L by omega) (by omega)) dL_law_231 ?_
  refine W.eq (g2 := F0 m 232 ls [.int x2, .int x1, .ref o]) (by rw [e_2, nI_clamp (show 7 * j + 2 < 2 ^ 31 by omega), ← hx2]) ?_
  refine mw_callV (C := RX4) (As := [.int x1, .int x2]) (rest := []) hx hb hml hown hl (kX4_set l htr G H.size M1 o A th z S hmR hI.1.ok x1 x2) (g_B (n := 2) htb wd605 wd3 wd602 (by decide +kernel) ⟨Nat.le_of_ble_eq_true rfl, Nat.le_of_ble_eq_true rfl⟩) (htb _ wd603) (htb _ wd604) hE hP hS hT9.1 rfl rfl rfl (Nat.le_of_ble_eq_true rfl) dL_law_232 ⟨show C + 20 + 0 ≤ 601024 from by omega, show D + 900 + 0 ≤ 7293034 from by omega⟩ (fun v9 M9 H locs hpo hP hz hS => ?_) (fun x9 E9 cell9 H9 locs9 hE9 => hE9.elim)
  have hmk := hpo
  obtain ⟨rfl, -, -⟩ := hpo
  obtain ⟨M2, hM2⟩ : ∃ z9 : mw_M, z9 = M9 := ⟨_, rfl⟩
  rw [← hM2] at hP hmk
  obtain ⟨hI2, ⟨g2, hot2, hφ⟩, z2, hmR2⟩ := lw_w2 J hI hk1 hR1 ho1 hmk
  obtain ⟨np2, bg2, g92, hT92, -⟩ := id hmR2
  refine W.eq (g2 := F0 m 235 ls [.int (if ex_set x1 x2 = 0 then (if x1 = 0 then sSp S else sSh S) else 0)]) rfl ?_
  refine lv_istore (lv' := [(6, .int (if ex_set x1 x2 = 0 then (if x1 = 0 then sSp S else sSh S) else 0)), (5, .int (nI (ex_set x1 x2))), (0, .ref b), (1, .ref (f0 f)), (2, .ref o), (3, .ref ot), (4, .int (nI (7 * j)))]) hx hb dL_law_235 hl (by decide) rfl (fun ls hl => ?_)
  refine lv_aload_n hx hb dL_law_237 rfl (lv_at hl 4 rfl) ?_
  refine mw_callV (C := RX4) (As := []) (rest := []) hx hb hml hown hl (kX4_thrown l htr G H.size M2 o A (nI (ex_set x1 x2)) z2 (if ex_set x1 x2 = 0 then if x1 = 0 then fs_sp S x2 else fs_sh S x2 else S) hmR2) (g_B (n := 0) htb wd592 wd3 wd589 (by decide +kernel) ⟨Nat.le_of_ble_eq_true rfl, Nat.le_of_ble_eq_true rfl⟩) (htb _ wd590) (htb _ wd591) hE hP hS hT92.1 rfl rfl rfl (Nat.le_of_ble_eq_true rfl) dL_law_238 ⟨show C + 20 + 0 + 0 ≤ 601024 from by omega, show D + 900 + 0 + 0 ≤ 7293034 from by omega⟩ (fun v9 M9 H locs hpo hP hz hS => ?_) (fun x9 E9 cell9 H9 locs9 hE9 => hE9.elim)
  obtain ⟨rfl, rfl⟩ := hpo
  refine W.eq (g2 := F0 m 241 ls [.int (nI (ex_set x1 x2))]) rfl ?_
  refine lv_iload hx hb dL_law_241 (lv_at hl 1 rfl) ?_
  refine lv_icmp_eq (tgt := 248) hx hb dL_law_243 (by decide) (fun c_1 => ?_) (fun c_1 => absurd rfl c_1)
  refine lv_iload hx hb dL_law_248 (lv_at hl 1 rfl) ?_
  refine lv_if_ne (tgt := 265) hx hb dL_law_250 (by decide) (fun c_2 => ?_) (fun c_2 => ?_)
  · refine lv_goto (tgt := 1383) hx hb dL_law_265 (by decide) ?_
    refine W.widen (k := C + 30) (n := D + 1000) (show C + 20 + 0 + 0 ≤ C + 30 by omega) (show D + 900 + 0 + 0 ≤ D + 1000 by omega) ?_
    exact K _ _ _ _ _ hI2 hP hS (lv_sub hl [2, 3, 4, 5, 6] rfl)
  · refine lv_aload_n hx hb dL_law_253 rfl (lv_at hl 5 rfl) ?_
    refine lv_iconst (v := 0) hx hb dL_law_254 (by decide) ?_
    refine mw_lald hx hb hK hP 3 hot2 rfl (by unfold vp_in; decide) dL_law_255 ?_
    have hex : ex_set x1 x2 = 0 := ex0 (by unfold ex_set; exact le4_ite (by decide) (le4_ite (by decide) (by decide))) c_2
    have hg0 := hφ hex
    refine W.eq (g2 := F0 m 256 ls [.long (if x1 = 0 then sSp S else sSh S).toInt64]) (show F0 m 256 ls [.long (g2 0)] = _ from by rw [hg0]) ?_
    refine lv_iload hx hb dL_law_256 (lv_at hl 0 rfl) ?_
    refine lv_i2l hx hb dL_law_258 rfl ?_
    refine W.eq (g2 := F0 m 259 ls [.long (if x1 = 0 then sSp S else sSh S).toInt64, .long (if x1 = 0 then sSp S else sSh S).toInt64]) (by rw [if_pos hex]) ?_
    refine mw_lcmpE hx hb dL_law_259 ?_
    refine lv_if_eq (tgt := 265) hx hb dL_law_260 (by decide) (fun c_3 => ?_) (fun c_3 => absurd (by decide) c_3)
    refine lv_goto (tgt := 1383) hx hb dL_law_265 (by decide) ?_
    refine W.widen (k := C + 30) (n := D + 1000) (show C + 20 + 0 + 0 ≤ C + 30 by omega) (show D + 900 + 0 + 0 ≤ D + 1000 by omega) ?_
    exact K _ _ _ _ _ hI2 hP hS (lv_sub hl [2, 3, 4, 5, 6] rfl)
-- box
set_option maxHeartbeats 4000000 in
set_option maxRecDepth 100000 in
theorem lwc_2 {p : Program} {l : Launch} {e : Env} {s : State} {m : MethodId} {below : List Frame} {meth : Method} {c : Code} {Q : State → Prop} (G : gx_G) (f : fs_A) (o : Nat) (A : Nat → Nat) (ot : Nat) (gn : Nat → Int32) (b L : Nat) (xs : Nat → Int32) (C0 : lw_C l G p s m c b L xs) (J : lw_J G f o A ot) (j : Nat) (hj : 7 * j + 7 ≤ L) (C D : Nat) (hC : C + 30 ≤ 601024) (hD : D + 1000 ≤ 7293034)
    (K : ∀ (M' : mw_M) (S' : fs_S) (H' : Heap) (locs' : List Loc) (ls' : Array Slot), lw_I G f o A ot gn M' S' → mw_P (gD G) gx_cl M' H' → va_S (gA G) s.heap H' locs' → lv_has ls' 7 [(0, .ref b), (1, .ref (f0 f)), (2, .ref o), (3, .ref ot), (4, .int (nI (7 * j)))] → W p l e room_1 s m #[Value.ref b] below meth c H' locs' (C + 30) (D + 1000) Q (F0 m 1383 ls' []))
    {M : mw_M} {S : fs_S} {H : Heap} {locs : List Loc} {ls : Array Slot} (hI : lw_I G f o A ot gn M S) (hP : mw_P (gD G) gx_cl M H) (hS : va_S (gA G) s.heap H locs) (hl : lv_has ls 7 [(0, .ref b), (1, .ref (f0 f)), (2, .ref o), (3, .ref ot), (4, .int (nI (7 * j)))]) : W p l e room_1 s m #[Value.ref b] below meth c H locs C D Q (F0 m 268 ls []) := by
  obtain ⟨hx, hb, hml, hown, htb, hE, hN, hXs, hbl, hbA, hAn, htr, hL⟩ := C0
  have hK := hE.1
  obtain ⟨g0, hot⟩ := id hI.2.2.1
  obtain ⟨x0, hx0⟩ : ∃ z9, z9 = xs (7 * j) := ⟨_, rfl⟩
  obtain ⟨x1, hx1⟩ : ∃ z9, z9 = xs (7 * j + 1) := ⟨_, rfl⟩
  have e_1 : nI (7 * j) + 1 = nI (7 * j + 1) := nI_add _ 1
  obtain ⟨x2, hx2⟩ : ∃ z9, z9 = xs (7 * j + 2) := ⟨_, rfl⟩
  have e_2 : nI (7 * j) + 2 = nI (7 * j + 2) := nI_add _ 2
  obtain ⟨x3, hx3⟩ : ∃ z9, z9 = xs (7 * j + 3) := ⟨_, rfl⟩
  have e_3 : nI (7 * j) + 3 = nI (7 * j + 3) := nI_add _ 3
  obtain ⟨x4, hx4⟩ : ∃ z9, z9 = xs (7 * j + 4) := ⟨_, rfl⟩
  have e_4 : nI (7 * j) + 4 = nI (7 * j + 4) := nI_add _ 4
  obtain ⟨x5, hx5⟩ : ∃ z9, z9 = xs (7 * j + 5) := ⟨_, rfl⟩
  have e_5 : nI (7 * j) + 5 = nI (7 * j + 5) := nI_add _ 5
  obtain ⟨x6, hx6⟩ : ∃ z9, z9 = xs (7 * j + 6) := ⟨_, rfl⟩
  have e_6 : nI (7 * j) + 6 = nI (7 * j + 6) := nI_add _ 6
  refine lv_aload_n hx hb dL_law_268 rfl (lv_at hl 1 rfl) ?_
  refine lv_aload_n hx hb dL_law_269 rfl (lv_at hl 0 rfl) ?_
  refine lv_iload hx hb dL_law_270 (lv_at hl 4 rfl) ?_
  refine lv_iconst (v := 1) hx hb dL_law_272 (by decide) ?_
  refine lv_iadd hx hb dL_law_273 ?_
  refine va_sld hx hb hXs hbl hbA hS (by rw [e_1]; exact vp_in_nI (show 7 * j + 1 < L by omega) (by omega)) dL_law_274 ?_
  refine W.eq (g2 := F0 m 275 ls [.int x1, .ref (f0 f)]) (by rw [e_1, nI_clamp (show 7 * j + 1 < 2 ^ 31 by omega), ← hx1]) ?_
  refine lv_aload_n hx hb dL_law_275 rfl (lv_at hl 0 rfl) ?_
  refine lv_iload hx hb dL_law_276 (lv_at hl 4 rfl) ?_
  refine lv_iconst (v := 2) hx hb dL_law_278 (by decide) ?_
  refine lv_iadd hx hb dL_law_279 ?_
  refine va_sld hx hb hXs hbl hbA hS (by rw [e_2]; exact vp_in_nI (show 7 * j + 2 < L by omega) (by omega)) dL_law_280 ?_
  refine W.eq (g2 := F0 m 281 ls [.int x2, .int x1, .ref (f0 f)]) (by rw [e_2, nI_clamp (show 7 * j + 2 < 2 ^ 31 by omega), ← hx2]) ?_
  refine lv_aload_n hx hb dL_law_281 rfl (lv_at hl 0 rfl) ?_
  refine lv_iload hx hb dL_law_282 (lv_at hl 4 rfl) ?_
  refine lv_iconst (v := 3) hx hb dL_law_284 (by decide) ?_
  refine lv_iadd hx hb dL_law_285 ?_
  refine va_sld hx hb hXs hbl hbA hS (by rw [e_3]; exact vp_in_nI (show 7 * j + 3 < L by omega) (by omega)) dL_law_286 ?_
  refine W.eq (g2 := F0 m 287 ls [.int x3, .int x2, .int x1, .ref (f0 f)]) (by rw [e_3, nI_clamp (show 7 * j + 3 < 2 ^ 31 by omega), ← hx3]) ?_
  refine lv_aload_n hx hb dL_law_287 rfl (lv_at hl 3 rfl) ?_
  refine mw_callN (As := [.ref (f0 f), .int x1, .int x2, .int x3, .ref ot]) (rest := []) hx hb hml hown hl (kL_box l htr G H.size M f S hI.1 hI.2.2.2.2 (fun q h => hAn q (Nat.le_trans hS.1 h)) ot g0 hot J.2.1.2.1 J.2.1.1 J.2.1.2.2.2 gn hI.2.2.2.1 J.2.2 x1 x2 x3) (g_BW (n := 5) htb wd189 wd0 wd187 (by decide +kernel) ⟨Nat.le_of_ble_eq_true rfl, Nat.le_of_ble_eq_true rfl⟩) (htb _ wd188) hE hN hP hS rfl rfl (Nat.le_of_ble_eq_true rfl) dL_law_288 ⟨show C + 20 ≤ 601024 from by omega, show D + 900 ≤ 7293034 from by omega⟩ (fun v9 M9 H locs hpo hP hz hS => ?_)
  obtain ⟨rfl, ho1, hR1, hk1⟩ := hpo
  obtain ⟨M1, hM1⟩ : ∃ z9 : mw_M, z9 = M9 := ⟨_, rfl⟩
  rw [← hM1] at hP ho1 hR1 hk1
  obtain ⟨th, z, hmR⟩ := lw_w1 J hI hk1
  obtain ⟨np, bg, g9, hT9, -⟩ := id hmR
  refine W.eq (g2 := F0 m 291 ls [.int (nI (ex_box S x1 x2 x3))]) rfl ?_
  refine lv_istore (lv' := [(5, .int (nI (ex_box S x1 x2 x3))), (0, .ref b), (1, .ref (f0 f)), (2, .ref o), (3, .ref ot), (4, .int (nI (7 * j)))]) hx hb dL_law_291 hl (by decide) rfl (fun ls hl => ?_)
  refine lv_aload_n hx hb dL_law_293 rfl (lv_at hl 3 rfl) ?_
  refine lv_aload_n hx hb dL_law_294 rfl (lv_at hl 1 rfl) ?_
  refine lv_iload hx hb dL_law_295 (lv_at hl 5 rfl) ?_
  refine lv_iconst (v := 1) hx hb dL_law_297 (by decide) ?_
  refine lv_iadd hx hb dL_law_298 ?_
  refine va_sld hx hb hXs hbl hbA hS (by rw [e_1]; exact vp_in_nI (show 7 * j + 1 < L by omega) (by omega)) dL_law_299 ?_
  refine W.eq (g2 := F0 m 300 ls [.int x1, .ref o]) (by rw [e_1, nI_clamp (show 7 * j + 1 < 2 ^ 31 by omega), ← hx1]) ?_
  refine lv_aload_n hx hb dL_law_300 rfl (lv_at hl 1 rfl) ?_
  refine lv_iload hx hb dL_law_301 (lv_at hl 5 rfl) ?_
  refine lv_iconst (v := 2) hx hb dL_law_303 (by decide) ?_
  refine lv_iadd hx hb dL_law_304 ?_
  refine va_sld hx hb hXs hbl hbA hS (by rw [e_2]; exact vp_in_nI (show 7 * j + 2 < L by omega) (by omega)) dL_law_305 ?_
  refine W.eq (g2 := F0 m 306 ls [.int x2, .int x1, .ref o]) (by rw [e_2, nI_clamp (show 7 * j + 2 < 2 ^ 31 by omega), ← hx2]) ?_
  refine lv_aload_n hx hb dL_law_306 rfl (lv_at hl 1 rfl) ?_
  refine lv_iload hx hb dL_law_307 (lv_at hl 5 rfl) ?_
  refine lv_iconst (v := 3) hx hb dL_law_309 (by decide) ?_
  refine lv_iadd hx hb dL_law_310 ?_
  refine va_sld hx hb hXs hbl hbA hS (by rw [e_3]; exact vp_in_nI (show 7 * j + 3 < L by omega) (by omega)) dL_law_311 ?_
  refine W.eq (g2 := F0 m 312 ls [.int x3, .int x2, .int x1, .ref o]) (by rw [e_3, nI_clamp (show 7 * j + 3 < 2 ^ 31 by omega), ← hx3]) ?_
  refine mw_callV (C := RX4) (As := [.int x1, .int x2, .int x3]) (rest := []) hx hb hml hown hl (kX4_box l htr G H.size M1 o A th z S hmR hI.1.ok x1 x2 x3) (g_B (n := 3) htb wd609 wd3 wd606 (by decide +kernel) ⟨Nat.le_of_ble_eq_true rfl, Nat.le_of_ble_eq_true rfl⟩) (htb _ wd607) (htb _ wd608) hE hP hS hT9.1 rfl rfl rfl (Nat.le_of_ble_eq_true rfl) dL_law_312 ⟨show C + 20 + 0 ≤ 601024 from by omega, show D + 900 + 0 ≤ 7293034 from by omega⟩ (fun v9 M9 H locs hpo hP hz hS => ?_) (fun x9 E9 cell9 H9 locs9 hE9 => hE9.elim)
  have hmk := hpo
  obtain ⟨rfl, -, -⟩ := hpo
  obtain ⟨M2, hM2⟩ : ∃ z9 : mw_M, z9 = M9 := ⟨_, rfl⟩
  rw [← hM2] at hP hmk
  obtain ⟨hI2, ⟨g2, hot2, hφ⟩, z2, hmR2⟩ := lw_w2 J hI hk1 hR1 ho1 hmk
  obtain ⟨np2, bg2, g92, hT92, -⟩ := id hmR2
  refine W.eq (g2 := F0 m 315 ls [.int (if ex_box S x1 x2 x3 = 0 then nI (sN S) else 0)]) rfl ?_
  refine lv_istore (lv' := [(6, .int (if ex_box S x1 x2 x3 = 0 then nI (sN S) else 0)), (5, .int (nI (ex_box S x1 x2 x3))), (0, .ref b), (1, .ref (f0 f)), (2, .ref o), (3, .ref ot), (4, .int (nI (7 * j)))]) hx hb dL_law_315 hl (by decide) rfl (fun ls hl => ?_)
  refine lv_aload_n hx hb dL_law_317 rfl (lv_at hl 4 rfl) ?_
  refine mw_callV (C := RX4) (As := []) (rest := []) hx hb hml hown hl (kX4_thrown l htr G H.size M2 o A (nI (ex_box S x1 x2 x3)) z2 (if ex_box S x1 x2 x3 = 0 then fs_push S (x1, x2, x3, [], 0, 0) else S) hmR2) (g_B (n := 0) htb wd592 wd3 wd589 (by decide +kernel) ⟨Nat.le_of_ble_eq_true rfl, Nat.le_of_ble_eq_true rfl⟩) (htb _ wd590) (htb _ wd591) hE hP hS hT92.1 rfl rfl rfl (Nat.le_of_ble_eq_true rfl) dL_law_318 ⟨show C + 20 + 0 + 0 ≤ 601024 from by omega, show D + 900 + 0 + 0 ≤ 7293034 from by omega⟩ (fun v9 M9 H locs hpo hP hz hS => ?_) (fun x9 E9 cell9 H9 locs9 hE9 => hE9.elim)
  obtain ⟨rfl, rfl⟩ := hpo
  refine W.eq (g2 := F0 m 321 ls [.int (nI (ex_box S x1 x2 x3))]) rfl ?_
  refine lv_iload hx hb dL_law_321 (lv_at hl 1 rfl) ?_
  refine lv_icmp_eq (tgt := 328) hx hb dL_law_323 (by decide) (fun c_1 => ?_) (fun c_1 => absurd rfl c_1)
  refine lv_iload hx hb dL_law_328 (lv_at hl 1 rfl) ?_
  refine lv_if_ne (tgt := 345) hx hb dL_law_330 (by decide) (fun c_2 => ?_) (fun c_2 => ?_)
  · refine lv_goto (tgt := 1383) hx hb dL_law_345 (by decide) ?_
    refine W.widen (k := C + 30) (n := D + 1000) (show C + 20 + 0 + 0 ≤ C + 30 by omega) (show D + 900 + 0 + 0 ≤ D + 1000 by omega) ?_
    exact K _ _ _ _ _ hI2 hP hS (lv_sub hl [2, 3, 4, 5, 6] rfl)
  · refine lv_aload_n hx hb dL_law_333 rfl (lv_at hl 5 rfl) ?_
    refine lv_iconst (v := 0) hx hb dL_law_334 (by decide) ?_
    refine mw_lald hx hb hK hP 3 hot2 rfl (by unfold vp_in; decide) dL_law_335 ?_
    have hex : ex_box S x1 x2 x3 = 0 := ex0 (by unfold ex_box; exact le4_ite (by decide) (le4_ite (by decide) (by decide))) c_2
    have hg0 := hφ hex
    refine W.eq (g2 := F0 m 336 ls [.long (nI (sN S)).toInt64]) (show F0 m 336 ls [.long (g2 0)] = _ from by rw [hg0]) ?_
    refine lv_iload hx hb dL_law_336 (lv_at hl 0 rfl) ?_
    refine lv_i2l hx hb dL_law_338 rfl ?_
    refine W.eq (g2 := F0 m 339 ls [.long (nI (sN S)).toInt64, .long (nI (sN S)).toInt64]) (by rw [if_pos hex]) ?_
    refine mw_lcmpE hx hb dL_law_339 ?_
    refine lv_if_eq (tgt := 345) hx hb dL_law_340 (by decide) (fun c_3 => ?_) (fun c_3 => absurd (by decide) c_3)
    refine lv_goto (tgt := 1383) hx hb dL_law_345 (by decide) ?_
    refine W.widen (k := C + 30) (n := D + 1000) (show C + 20 + 0 + 0 ≤ C + 30 by omega) (show D + 900 + 0 + 0 ≤ D + 1000 by omega) ?_
    exact K _ _ _ _ _ hI2 hP hS (lv_sub hl [2, 3, 4, 5, 6] rfl)
-- sign
set_option maxHeartbeats 4000000 in
set_option maxRecDepth 100000 in
theorem lwc_3 {p : Program} {l : Launch} {e : Env} {s : State} {m : MethodId} {below : List Frame} {meth : Method} {c : Code} {Q : State → Prop} (G : gx_G) (f : fs_A) (o : Nat) (A : Nat → Nat) (ot : Nat) (gn : Nat → Int32) (b L : Nat) (xs : Nat → Int32) (C0 : lw_C l G p s m c b L xs) (J : lw_J G f o A ot) (j : Nat) (hj : 7 * j + 7 ≤ L) (C D : Nat) (hC : C + 30 ≤ 601024) (hD : D + 1000 ≤ 7293034)
    (K : ∀ (M' : mw_M) (S' : fs_S) (H' : Heap) (locs' : List Loc) (ls' : Array Slot), lw_I G f o A ot gn M' S' → mw_P (gD G) gx_cl M' H' → va_S (gA G) s.heap H' locs' → lv_has ls' 7 [(0, .ref b), (1, .ref (f0 f)), (2, .ref o), (3, .ref ot), (4, .int (nI (7 * j)))] → W p l e room_1 s m #[Value.ref b] below meth c H' locs' (C + 30) (D + 1000) Q (F0 m 1383 ls' []))
    {M : mw_M} {S : fs_S} {H : Heap} {locs : List Loc} {ls : Array Slot} (hI : lw_I G f o A ot gn M S) (hP : mw_P (gD G) gx_cl M H) (hS : va_S (gA G) s.heap H locs) (hl : lv_has ls 7 [(0, .ref b), (1, .ref (f0 f)), (2, .ref o), (3, .ref ot), (4, .int (nI (7 * j)))]) : W p l e room_1 s m #[Value.ref b] below meth c H locs C D Q (F0 m 348 ls []) := by
  obtain ⟨hx, hb, hml, hown, htb, hE, hN, hXs, hbl, hbA, hAn, htr, hL⟩ := C0
  have hK := hE.1
  obtain ⟨g0, hot⟩ := id hI.2.2.1
  obtain ⟨x0, hx0⟩ : ∃ z9, z9 = xs (7 * j) := ⟨_, rfl⟩
  obtain ⟨x1, hx1⟩ : ∃ z9, z9 = xs (7 * j + 1) := ⟨_, rfl⟩
  have e_1 : nI (7 * j) + 1 = nI (7 * j + 1) := nI_add _ 1
  obtain ⟨x2, hx2⟩ : ∃ z9, z9 = xs (7 * j + 2) := ⟨_, rfl⟩
  have e_2 : nI (7 * j) + 2 = nI (7 * j + 2) := nI_add _ 2
  obtain ⟨x3, hx3⟩ : ∃ z9, z9 = xs (7 * j + 3) := ⟨_, rfl⟩
  have e_3 : nI (7 * j) + 3 = nI (7 * j + 3) := nI_add _ 3
  obtain ⟨x4, hx4⟩ : ∃ z9, z9 = xs (7 * j + 4) := ⟨_, rfl⟩
  have e_4 : nI (7 * j) + 4 = nI (7 * j + 4) := nI_add _ 4
  obtain ⟨x5, hx5⟩ : ∃ z9, z9 = xs (7 * j + 5) := ⟨_, rfl⟩
  have e_5 : nI (7 * j) + 5 = nI (7 * j + 5) := nI_add _ 5
  obtain ⟨x6, hx6⟩ : ∃ z9, z9 = xs (7 * j + 6) := ⟨_, rfl⟩
  have e_6 : nI (7 * j) + 6 = nI (7 * j + 6) := nI_add _ 6
  refine lv_aload_n hx hb dL_law_348 rfl (lv_at hl 1 rfl) ?_
  refine lv_aload_n hx hb dL_law_349 rfl (lv_at hl 0 rfl) ?_
  refine lv_iload hx hb dL_law_350 (lv_at hl 4 rfl) ?_
  refine lv_iconst (v := 1) hx hb dL_law_352 (by decide) ?_
  refine lv_iadd hx hb dL_law_353 ?_
  refine va_sld hx hb hXs hbl hbA hS (by rw [e_1]; exact vp_in_nI (show 7 * j + 1 < L by omega) (by omega)) dL_law_354 ?_
  refine W.eq (g2 := F0 m 355 ls [.int x1, .ref (f0 f)]) (by rw [e_1, nI_clamp (show 7 * j + 1 < 2 ^ 31 by omega), ← hx1]) ?_
  refine lv_aload_n hx hb dL_law_355 rfl (lv_at hl 0 rfl) ?_
  refine lv_iload hx hb dL_law_356 (lv_at hl 4 rfl) ?_
  refine lv_iconst (v := 2) hx hb dL_law_358 (by decide) ?_
  refine lv_iadd hx hb dL_law_359 ?_
  refine va_sld hx hb hXs hbl hbA hS (by rw [e_2]; exact vp_in_nI (show 7 * j + 2 < L by omega) (by omega)) dL_law_360 ?_
  refine W.eq (g2 := F0 m 361 ls [.int x2, .int x1, .ref (f0 f)]) (by rw [e_2, nI_clamp (show 7 * j + 2 < 2 ^ 31 by omega), ← hx2]) ?_
  refine lv_aload_n hx hb dL_law_361 rfl (lv_at hl 3 rfl) ?_
  refine mw_callN (As := [.ref (f0 f), .int x1, .int x2, .ref ot]) (rest := []) hx hb hml hown hl (kL_sign l htr G H.size M f S hI.1 hI.2.2.2.2 (fun q h => hAn q (Nat.le_trans hS.1 h)) ot g0 hot J.2.1.2.1 J.2.1.1 J.2.1.2.2.2 x1 x2) (g_BW (n := 4) htb wd259 wd0 wd257 (by decide +kernel) ⟨Nat.le_of_ble_eq_true rfl, Nat.le_of_ble_eq_true rfl⟩) (htb _ wd258) hE hN hP hS rfl rfl (Nat.le_of_ble_eq_true rfl) dL_law_362 ⟨show C + 20 ≤ 601024 from by omega, show D + 900 ≤ 7293034 from by omega⟩ (fun v9 M9 H locs hpo hP hz hS => ?_)
  obtain ⟨rfl, ho1, hR1, hk1⟩ := hpo
  obtain ⟨M1, hM1⟩ : ∃ z9 : mw_M, z9 = M9 := ⟨_, rfl⟩
  rw [← hM1] at hP ho1 hR1 hk1
  obtain ⟨th, z, hmR⟩ := lw_w1 J hI hk1
  obtain ⟨np, bg, g9, hT9, -⟩ := id hmR
  refine W.eq (g2 := F0 m 365 ls [.int (nI (ex_sign S x1 x2))]) rfl ?_
  refine lv_istore (lv' := [(5, .int (nI (ex_sign S x1 x2))), (0, .ref b), (1, .ref (f0 f)), (2, .ref o), (3, .ref ot), (4, .int (nI (7 * j)))]) hx hb dL_law_365 hl (by decide) rfl (fun ls hl => ?_)
  refine lv_aload_n hx hb dL_law_367 rfl (lv_at hl 3 rfl) ?_
  refine lv_aload_n hx hb dL_law_368 rfl (lv_at hl 1 rfl) ?_
  refine lv_iload hx hb dL_law_369 (lv_at hl 5 rfl) ?_
  refine lv_iconst (v := 1) hx hb dL_law_371 (by decide) ?_
  refine lv_iadd hx hb dL_law_372 ?_
  refine va_sld hx hb hXs hbl hbA hS (by rw [e_1]; exact vp_in_nI (show 7 * j + 1 < L by omega) (by omega)) dL_law_373 ?_
  refine W.eq (g2 := F0 m 374 ls [.int x1, .ref o]) (by rw [e_1, nI_clamp (show 7 * j + 1 < 2 ^ 31 by omega), ← hx1]) ?_
  refine lv_aload_n hx hb dL_law_374 rfl (lv_at hl 1 rfl) ?_
  refine lv_iload hx hb dL_law_375 (lv_at hl 5 rfl) ?_
  refine lv_iconst (v := 2) hx hb dL_law_377 (by decide) ?_
  refine lv_iadd hx hb dL_law_378 ?_
  refine va_sld hx hb hXs hbl hbA hS (by rw [e_2]; exact vp_in_nI (show 7 * j + 2 < L by omega) (by omega)) dL_law_379 ?_
  refine W.eq (g2 := F0 m 380 ls [.int x2, .int x1, .ref o]) (by rw [e_2, nI_clamp (show 7 * j + 2 < 2 ^ 31 by omega), ← hx2]) ?_
  refine mw_callV (C := RX4) (As := [.int x1, .int x2]) (rest := []) hx hb hml hown hl (kX4_sign l htr G H.size M1 o A th z S hmR hI.1.ok x1 x2) (g_B (n := 2) htb wd617 wd3 wd614 (by decide +kernel) ⟨Nat.le_of_ble_eq_true rfl, Nat.le_of_ble_eq_true rfl⟩) (htb _ wd615) (htb _ wd616) hE hP hS hT9.1 rfl rfl rfl (Nat.le_of_ble_eq_true rfl) dL_law_380 ⟨show C + 20 + 0 ≤ 601024 from by omega, show D + 900 + 0 ≤ 7293034 from by omega⟩ (fun v9 M9 H locs hpo hP hz hS => ?_) (fun x9 E9 cell9 H9 locs9 hE9 => hE9.elim)
  have hmk := hpo
  obtain ⟨rfl, -, -⟩ := hpo
  obtain ⟨M2, hM2⟩ : ∃ z9 : mw_M, z9 = M9 := ⟨_, rfl⟩
  rw [← hM2] at hP hmk
  obtain ⟨hI2, ⟨g2, hot2, hφ⟩, z2, hmR2⟩ := lw_w2 J hI hk1 hR1 ho1 hmk
  obtain ⟨np2, bg2, g92, hT92, -⟩ := id hmR2
  refine W.eq (g2 := F0 m 383 ls [.int (if ex_sign S x1 x2 = 0 then (nI (sF S (fIx x1)).1.length + 1) else 0)]) rfl ?_
  refine lv_istore (lv' := [(6, .int (if ex_sign S x1 x2 = 0 then (nI (sF S (fIx x1)).1.length + 1) else 0)), (5, .int (nI (ex_sign S x1 x2))), (0, .ref b), (1, .ref (f0 f)), (2, .ref o), (3, .ref ot), (4, .int (nI (7 * j)))]) hx hb dL_law_383 hl (by decide) rfl (fun ls hl => ?_)
  refine lv_aload_n hx hb dL_law_385 rfl (lv_at hl 4 rfl) ?_
  refine mw_callV (C := RX4) (As := []) (rest := []) hx hb hml hown hl (kX4_thrown l htr G H.size M2 o A (nI (ex_sign S x1 x2)) z2 (if ex_sign S x1 x2 = 0 then fs_fa S (fIx x1) ((sF S (fIx x1)).1 ++ [nI (fIx x2)], (sF S (fIx x1)).2) else S) hmR2) (g_B (n := 0) htb wd592 wd3 wd589 (by decide +kernel) ⟨Nat.le_of_ble_eq_true rfl, Nat.le_of_ble_eq_true rfl⟩) (htb _ wd590) (htb _ wd591) hE hP hS hT92.1 rfl rfl rfl (Nat.le_of_ble_eq_true rfl) dL_law_386 ⟨show C + 20 + 0 + 0 ≤ 601024 from by omega, show D + 900 + 0 + 0 ≤ 7293034 from by omega⟩ (fun v9 M9 H locs hpo hP hz hS => ?_) (fun x9 E9 cell9 H9 locs9 hE9 => hE9.elim)
  obtain ⟨rfl, rfl⟩ := hpo
  refine W.eq (g2 := F0 m 389 ls [.int (nI (ex_sign S x1 x2))]) rfl ?_
  refine lv_iload hx hb dL_law_389 (lv_at hl 1 rfl) ?_
  refine lv_icmp_eq (tgt := 396) hx hb dL_law_391 (by decide) (fun c_1 => ?_) (fun c_1 => absurd rfl c_1)
  refine lv_iload hx hb dL_law_396 (lv_at hl 1 rfl) ?_
  refine lv_if_ne (tgt := 413) hx hb dL_law_398 (by decide) (fun c_2 => ?_) (fun c_2 => ?_)
  · refine lv_goto (tgt := 1383) hx hb dL_law_413 (by decide) ?_
    refine W.widen (k := C + 30) (n := D + 1000) (show C + 20 + 0 + 0 ≤ C + 30 by omega) (show D + 900 + 0 + 0 ≤ D + 1000 by omega) ?_
    exact K _ _ _ _ _ hI2 hP hS (lv_sub hl [2, 3, 4, 5, 6] rfl)
  · refine lv_aload_n hx hb dL_law_401 rfl (lv_at hl 5 rfl) ?_
    refine lv_iconst (v := 0) hx hb dL_law_402 (by decide) ?_
    refine mw_lald hx hb hK hP 3 hot2 rfl (by unfold vp_in; decide) dL_law_403 ?_
    have hex : ex_sign S x1 x2 = 0 := ex0 (by unfold ex_sign; exact le4_ite (by decide) (le4_ite (by decide) (by decide))) c_2
    have hg0 := hφ hex
    refine W.eq (g2 := F0 m 404 ls [.long (nI (sF S (fIx x1)).1.length + 1).toInt64]) (show F0 m 404 ls [.long (g2 0)] = _ from by rw [hg0]) ?_
    refine lv_iload hx hb dL_law_404 (lv_at hl 0 rfl) ?_
    refine lv_i2l hx hb dL_law_406 rfl ?_
    refine W.eq (g2 := F0 m 407 ls [.long (nI (sF S (fIx x1)).1.length + 1).toInt64, .long (nI (sF S (fIx x1)).1.length + 1).toInt64]) (by rw [if_pos hex]) ?_
    refine mw_lcmpE hx hb dL_law_407 ?_
    refine lv_if_eq (tgt := 413) hx hb dL_law_408 (by decide) (fun c_3 => ?_) (fun c_3 => absurd (by decide) c_3)
    refine lv_goto (tgt := 1383) hx hb dL_law_413 (by decide) ?_
    refine W.widen (k := C + 30) (n := D + 1000) (show C + 20 + 0 + 0 ≤ C + 30 by omega) (show D + 900 + 0 + 0 ≤ D + 1000 by omega) ?_
    exact K _ _ _ _ _ hI2 hP hS (lv_sub hl [2, 3, 4, 5, 6] rfl)
-- pieces
set_option maxHeartbeats 4000000 in
set_option maxRecDepth 100000 in
theorem lwc_4 {p : Program} {l : Launch} {e : Env} {s : State} {m : MethodId} {below : List Frame} {meth : Method} {c : Code} {Q : State → Prop} (G : gx_G) (f : fs_A) (o : Nat) (A : Nat → Nat) (ot : Nat) (gn : Nat → Int32) (b L : Nat) (xs : Nat → Int32) (C0 : lw_C l G p s m c b L xs) (J : lw_J G f o A ot) (j : Nat) (hj : 7 * j + 7 ≤ L) (C D : Nat) (hC : C + 30 ≤ 601024) (hD : D + 1000 ≤ 7293034)
    (K : ∀ (M' : mw_M) (S' : fs_S) (H' : Heap) (locs' : List Loc) (ls' : Array Slot), lw_I G f o A ot gn M' S' → mw_P (gD G) gx_cl M' H' → va_S (gA G) s.heap H' locs' → lv_has ls' 7 [(0, .ref b), (1, .ref (f0 f)), (2, .ref o), (3, .ref ot), (4, .int (nI (7 * j)))] → W p l e room_1 s m #[Value.ref b] below meth c H' locs' (C + 30) (D + 1000) Q (F0 m 1383 ls' []))
    {M : mw_M} {S : fs_S} {H : Heap} {locs : List Loc} {ls : Array Slot} (hI : lw_I G f o A ot gn M S) (hP : mw_P (gD G) gx_cl M H) (hS : va_S (gA G) s.heap H locs) (hl : lv_has ls 7 [(0, .ref b), (1, .ref (f0 f)), (2, .ref o), (3, .ref ot), (4, .int (nI (7 * j)))]) : W p l e room_1 s m #[Value.ref b] below meth c H locs C D Q (F0 m 416 ls []) := by
  obtain ⟨hx, hb, hml, hown, htb, hE, hN, hXs, hbl, hbA, hAn, htr, hL⟩ := C0
  have hK := hE.1
  obtain ⟨g0, hot⟩ := id hI.2.2.1
  obtain ⟨x0, hx0⟩ : ∃ z9, z9 = xs (7 * j) := ⟨_, rfl⟩
  obtain ⟨x1, hx1⟩ : ∃ z9, z9 = xs (7 * j + 1) := ⟨_, rfl⟩
  have e_1 : nI (7 * j) + 1 = nI (7 * j + 1) := nI_add _ 1
  obtain ⟨x2, hx2⟩ : ∃ z9, z9 = xs (7 * j + 2) := ⟨_, rfl⟩
  have e_2 : nI (7 * j) + 2 = nI (7 * j + 2) := nI_add _ 2
  obtain ⟨x3, hx3⟩ : ∃ z9, z9 = xs (7 * j + 3) := ⟨_, rfl⟩
  have e_3 : nI (7 * j) + 3 = nI (7 * j + 3) := nI_add _ 3
  obtain ⟨x4, hx4⟩ : ∃ z9, z9 = xs (7 * j + 4) := ⟨_, rfl⟩
  have e_4 : nI (7 * j) + 4 = nI (7 * j + 4) := nI_add _ 4
  obtain ⟨x5, hx5⟩ : ∃ z9, z9 = xs (7 * j + 5) := ⟨_, rfl⟩
  have e_5 : nI (7 * j) + 5 = nI (7 * j + 5) := nI_add _ 5
  obtain ⟨x6, hx6⟩ : ∃ z9, z9 = xs (7 * j + 6) := ⟨_, rfl⟩
  have e_6 : nI (7 * j) + 6 = nI (7 * j + 6) := nI_add _ 6
  refine lv_aload_n hx hb dL_law_416 rfl (lv_at hl 1 rfl) ?_
  refine lv_aload_n hx hb dL_law_417 rfl (lv_at hl 0 rfl) ?_
  refine lv_iload hx hb dL_law_418 (lv_at hl 4 rfl) ?_
  refine lv_iconst (v := 1) hx hb dL_law_420 (by decide) ?_
  refine lv_iadd hx hb dL_law_421 ?_
  refine va_sld hx hb hXs hbl hbA hS (by rw [e_1]; exact vp_in_nI (show 7 * j + 1 < L by omega) (by omega)) dL_law_422 ?_
  refine W.eq (g2 := F0 m 423 ls [.int x1, .ref (f0 f)]) (by rw [e_1, nI_clamp (show 7 * j + 1 < 2 ^ 31 by omega), ← hx1]) ?_
  refine lv_aload_n hx hb dL_law_423 rfl (lv_at hl 0 rfl) ?_
  refine lv_iload hx hb dL_law_424 (lv_at hl 4 rfl) ?_
  refine lv_iconst (v := 2) hx hb dL_law_426 (by decide) ?_
  refine lv_iadd hx hb dL_law_427 ?_
  refine va_sld hx hb hXs hbl hbA hS (by rw [e_2]; exact vp_in_nI (show 7 * j + 2 < L by omega) (by omega)) dL_law_428 ?_
  refine W.eq (g2 := F0 m 429 ls [.int x2, .int x1, .ref (f0 f)]) (by rw [e_2, nI_clamp (show 7 * j + 2 < 2 ^ 31 by omega), ← hx2]) ?_
  refine lv_aload_n hx hb dL_law_429 rfl (lv_at hl 0 rfl) ?_
  refine lv_iload hx hb dL_law_430 (lv_at hl 4 rfl) ?_
  refine lv_iconst (v := 3) hx hb dL_law_432 (by decide) ?_
  refine lv_iadd hx hb dL_law_433 ?_
  refine va_sld hx hb hXs hbl hbA hS (by rw [e_3]; exact vp_in_nI (show 7 * j + 3 < L by omega) (by omega)) dL_law_434 ?_
  refine W.eq (g2 := F0 m 435 ls [.int x3, .int x2, .int x1, .ref (f0 f)]) (by rw [e_3, nI_clamp (show 7 * j + 3 < 2 ^ 31 by omega), ← hx3]) ?_
  refine lv_aload_n hx hb dL_law_435 rfl (lv_at hl 0 rfl) ?_
  refine lv_iload hx hb dL_law_436 (lv_at hl 4 rfl) ?_
  refine lv_iconst (v := 4) hx hb dL_law_438 (by decide) ?_
  refine lv_iadd hx hb dL_law_439 ?_
  refine va_sld hx hb hXs hbl hbA hS (by rw [e_4]; exact vp_in_nI (show 7 * j + 4 < L by omega) (by omega)) dL_law_440 ?_
  refine W.eq (g2 := F0 m 441 ls [.int x4, .int x3, .int x2, .int x1, .ref (f0 f)]) (by rw [e_4, nI_clamp (show 7 * j + 4 < 2 ^ 31 by omega), ← hx4]) ?_
  refine lv_aload_n hx hb dL_law_441 rfl (lv_at hl 0 rfl) ?_
  refine lv_iload hx hb dL_law_442 (lv_at hl 4 rfl) ?_
  refine lv_iconst (v := 5) hx hb dL_law_444 (by decide) ?_
  refine lv_iadd hx hb dL_law_445 ?_
  refine va_sld hx hb hXs hbl hbA hS (by rw [e_5]; exact vp_in_nI (show 7 * j + 5 < L by omega) (by omega)) dL_law_446 ?_
  refine W.eq (g2 := F0 m 447 ls [.int x5, .int x4, .int x3, .int x2, .int x1, .ref (f0 f)]) (by rw [e_5, nI_clamp (show 7 * j + 5 < 2 ^ 31 by omega), ← hx5]) ?_
  refine mw_callN (As := [.ref (f0 f), .int x1, .int x2, .int x3, .int x4, .int x5]) (rest := []) hx hb hml hown hl (kL_pieces l htr G H.size M f S hI.1 hI.2.2.2.2 (fun q h => hAn q (Nat.le_trans hS.1 h)) x1 x2 x3 x4 x5) (g_BW (n := 6) htb wd276 wd0 wd274 (by decide +kernel) ⟨Nat.le_of_ble_eq_true rfl, Nat.le_of_ble_eq_true rfl⟩) (htb _ wd275) hE hN hP hS rfl rfl (Nat.le_of_ble_eq_true rfl) dL_law_447 ⟨show C + 20 ≤ 601024 from by omega, show D + 900 ≤ 7293034 from by omega⟩ (fun v9 M9 H locs hpo hP hz hS => ?_)
  obtain ⟨rfl, hR1, hk0⟩ := hpo
  have hk1 : ∀ a e, ¬ fs_mu f a → a ≠ ot → M a = some e → M9 a = some e := fun a e n _ h => hk0 a e n h
  have ho1 := lw_w3 J hI hk0
  obtain ⟨M1, hM1⟩ : ∃ z9 : mw_M, z9 = M9 := ⟨_, rfl⟩
  rw [← hM1] at hP ho1 hR1 hk1
  obtain ⟨th, z, hmR⟩ := lw_w1 J hI hk1
  obtain ⟨np, bg, g9, hT9, -⟩ := id hmR
  refine W.eq (g2 := F0 m 450 ls [.int (nI (ex_pieces S x1 x2 x3 x4 x5))]) rfl ?_
  refine lv_istore (lv' := [(5, .int (nI (ex_pieces S x1 x2 x3 x4 x5))), (0, .ref b), (1, .ref (f0 f)), (2, .ref o), (3, .ref ot), (4, .int (nI (7 * j)))]) hx hb dL_law_450 hl (by decide) rfl (fun ls hl => ?_)
  refine lv_aload_n hx hb dL_law_452 rfl (lv_at hl 3 rfl) ?_
  refine lv_aload_n hx hb dL_law_453 rfl (lv_at hl 1 rfl) ?_
  refine lv_iload hx hb dL_law_454 (lv_at hl 5 rfl) ?_
  refine lv_iconst (v := 1) hx hb dL_law_456 (by decide) ?_
  refine lv_iadd hx hb dL_law_457 ?_
  refine va_sld hx hb hXs hbl hbA hS (by rw [e_1]; exact vp_in_nI (show 7 * j + 1 < L by omega) (by omega)) dL_law_458 ?_
  refine W.eq (g2 := F0 m 459 ls [.int x1, .ref o]) (by rw [e_1, nI_clamp (show 7 * j + 1 < 2 ^ 31 by omega), ← hx1]) ?_
  refine lv_aload_n hx hb dL_law_459 rfl (lv_at hl 1 rfl) ?_
  refine lv_iload hx hb dL_law_460 (lv_at hl 5 rfl) ?_
  refine lv_iconst (v := 2) hx hb dL_law_462 (by decide) ?_
  refine lv_iadd hx hb dL_law_463 ?_
  refine va_sld hx hb hXs hbl hbA hS (by rw [e_2]; exact vp_in_nI (show 7 * j + 2 < L by omega) (by omega)) dL_law_464 ?_
  refine W.eq (g2 := F0 m 465 ls [.int x2, .int x1, .ref o]) (by rw [e_2, nI_clamp (show 7 * j + 2 < 2 ^ 31 by omega), ← hx2]) ?_
  refine lv_aload_n hx hb dL_law_465 rfl (lv_at hl 1 rfl) ?_
  refine lv_iload hx hb dL_law_466 (lv_at hl 5 rfl) ?_
  refine lv_iconst (v := 3) hx hb dL_law_468 (by decide) ?_
  refine lv_iadd hx hb dL_law_469 ?_
  refine va_sld hx hb hXs hbl hbA hS (by rw [e_3]; exact vp_in_nI (show 7 * j + 3 < L by omega) (by omega)) dL_law_470 ?_
  refine W.eq (g2 := F0 m 471 ls [.int x3, .int x2, .int x1, .ref o]) (by rw [e_3, nI_clamp (show 7 * j + 3 < 2 ^ 31 by omega), ← hx3]) ?_
  refine lv_aload_n hx hb dL_law_471 rfl (lv_at hl 1 rfl) ?_
  refine lv_iload hx hb dL_law_472 (lv_at hl 5 rfl) ?_
  refine lv_iconst (v := 4) hx hb dL_law_474 (by decide) ?_
  refine lv_iadd hx hb dL_law_475 ?_
  refine va_sld hx hb hXs hbl hbA hS (by rw [e_4]; exact vp_in_nI (show 7 * j + 4 < L by omega) (by omega)) dL_law_476 ?_
  refine W.eq (g2 := F0 m 477 ls [.int x4, .int x3, .int x2, .int x1, .ref o]) (by rw [e_4, nI_clamp (show 7 * j + 4 < 2 ^ 31 by omega), ← hx4]) ?_
  refine lv_aload_n hx hb dL_law_477 rfl (lv_at hl 1 rfl) ?_
  refine lv_iload hx hb dL_law_478 (lv_at hl 5 rfl) ?_
  refine lv_iconst (v := 5) hx hb dL_law_480 (by decide) ?_
  refine lv_iadd hx hb dL_law_481 ?_
  refine va_sld hx hb hXs hbl hbA hS (by rw [e_5]; exact vp_in_nI (show 7 * j + 5 < L by omega) (by omega)) dL_law_482 ?_
  refine W.eq (g2 := F0 m 483 ls [.int x5, .int x4, .int x3, .int x2, .int x1, .ref o]) (by rw [e_5, nI_clamp (show 7 * j + 5 < 2 ^ 31 by omega), ← hx5]) ?_
  refine mw_callV (C := RX4) (As := [.int x1, .int x2, .int x3, .int x4, .int x5]) (rest := []) hx hb hml hown hl (kX4_pieces l htr G H.size M1 o A th z S hmR hI.1.ok x1 x2 x3 x4 x5) (g_B (n := 5) htb wd628 wd3 wd625 (by decide +kernel) ⟨Nat.le_of_ble_eq_true rfl, Nat.le_of_ble_eq_true rfl⟩) (htb _ wd626) (htb _ wd627) hE hP hS hT9.1 rfl rfl rfl (Nat.le_of_ble_eq_true rfl) dL_law_483 ⟨show C + 20 + 0 ≤ 601024 from by omega, show D + 900 + 0 ≤ 7293034 from by omega⟩ (fun v9 M9 H locs hpo hP hz hS => ?_) (fun x9 E9 cell9 H9 locs9 hE9 => hE9.elim)
  have hmk := hpo
  obtain ⟨rfl, -, -⟩ := hpo
  obtain ⟨M2, hM2⟩ : ∃ z9 : mw_M, z9 = M9 := ⟨_, rfl⟩
  rw [← hM2] at hP hmk
  obtain ⟨hI2, ⟨g2, hot2, hφ⟩, z2, hmR2⟩ := lw_w2 J hI hk1 hR1 ho1 hmk
  obtain ⟨np2, bg2, g92, hT92, -⟩ := id hmR2
  refine W.eq (g2 := F0 m 486 ls []) rfl ?_
  refine lv_aload_n hx hb dL_law_486 rfl (lv_at hl 3 rfl) ?_
  refine mw_callV (C := RX4) (As := []) (rest := []) hx hb hml hown hl (kX4_thrown l htr G H.size M2 o A (nI (ex_pieces S x1 x2 x3 x4 x5)) z2 (if ex_pieces S x1 x2 x3 x4 x5 = 0 then fs_fa S (fIx x1) ((sF S (fIx x1)).1, x2, x3, x4, nI (fIx x5)) else S) hmR2) (g_B (n := 0) htb wd592 wd3 wd589 (by decide +kernel) ⟨Nat.le_of_ble_eq_true rfl, Nat.le_of_ble_eq_true rfl⟩) (htb _ wd590) (htb _ wd591) hE hP hS hT92.1 rfl rfl rfl (Nat.le_of_ble_eq_true rfl) dL_law_487 ⟨show C + 20 + 0 + 0 ≤ 601024 from by omega, show D + 900 + 0 + 0 ≤ 7293034 from by omega⟩ (fun v9 M9 H locs hpo hP hz hS => ?_) (fun x9 E9 cell9 H9 locs9 hE9 => hE9.elim)
  obtain ⟨rfl, rfl⟩ := hpo
  refine W.eq (g2 := F0 m 490 ls [.int (nI (ex_pieces S x1 x2 x3 x4 x5))]) rfl ?_
  refine lv_iload hx hb dL_law_490 (lv_at hl 0 rfl) ?_
  refine lv_icmp_eq (tgt := 497) hx hb dL_law_492 (by decide) (fun c_1 => ?_) (fun c_1 => absurd rfl c_1)
  refine lv_goto (tgt := 1383) hx hb dL_law_497 (by decide) ?_
  refine W.widen (k := C + 30) (n := D + 1000) (show C + 20 + 0 + 0 ≤ C + 30 by omega) (show D + 900 + 0 + 0 ≤ D + 1000 by omega) ?_
  exact K _ _ _ _ _ hI2 hP hS (lv_sub hl [1, 2, 3, 4, 5] rfl)
-- signOf
set_option maxHeartbeats 4000000 in
set_option maxRecDepth 100000 in
theorem lwc_5 {p : Program} {l : Launch} {e : Env} {s : State} {m : MethodId} {below : List Frame} {meth : Method} {c : Code} {Q : State → Prop} (G : gx_G) (f : fs_A) (o : Nat) (A : Nat → Nat) (ot : Nat) (gn : Nat → Int32) (b L : Nat) (xs : Nat → Int32) (C0 : lw_C l G p s m c b L xs) (J : lw_J G f o A ot) (j : Nat) (hj : 7 * j + 7 ≤ L) (C D : Nat) (hC : C + 30 ≤ 601024) (hD : D + 1000 ≤ 7293034)
    (K : ∀ (M' : mw_M) (S' : fs_S) (H' : Heap) (locs' : List Loc) (ls' : Array Slot), lw_I G f o A ot gn M' S' → mw_P (gD G) gx_cl M' H' → va_S (gA G) s.heap H' locs' → lv_has ls' 7 [(0, .ref b), (1, .ref (f0 f)), (2, .ref o), (3, .ref ot), (4, .int (nI (7 * j)))] → W p l e room_1 s m #[Value.ref b] below meth c H' locs' (C + 30) (D + 1000) Q (F0 m 1383 ls' []))
    {M : mw_M} {S : fs_S} {H : Heap} {locs : List Loc} {ls : Array Slot} (hI : lw_I G f o A ot gn M S) (hP : mw_P (gD G) gx_cl M H) (hS : va_S (gA G) s.heap H locs) (hl : lv_has ls 7 [(0, .ref b), (1, .ref (f0 f)), (2, .ref o), (3, .ref ot), (4, .int (nI (7 * j)))]) : W p l e room_1 s m #[Value.ref b] below meth c H locs C D Q (F0 m 500 ls []) := by
  obtain ⟨hx, hb, hml, hown, htb, hE, hN, hXs, hbl, hbA, hAn, htr, hL⟩ := C0
  have hK := hE.1
  obtain ⟨g0, hot⟩ := id hI.2.2.1
  obtain ⟨x0, hx0⟩ : ∃ z9, z9 = xs (7 * j) := ⟨_, rfl⟩
  obtain ⟨x1, hx1⟩ : ∃ z9, z9 = xs (7 * j + 1) := ⟨_, rfl⟩
  have e_1 : nI (7 * j) + 1 = nI (7 * j + 1) := nI_add _ 1
  obtain ⟨x2, hx2⟩ : ∃ z9, z9 = xs (7 * j + 2) := ⟨_, rfl⟩
  have e_2 : nI (7 * j) + 2 = nI (7 * j + 2) := nI_add _ 2
  obtain ⟨x3, hx3⟩ : ∃ z9, z9 = xs (7 * j + 3) := ⟨_, rfl⟩
  have e_3 : nI (7 * j) + 3 = nI (7 * j + 3) := nI_add _ 3
  obtain ⟨x4, hx4⟩ : ∃ z9, z9 = xs (7 * j + 4) := ⟨_, rfl⟩
  have e_4 : nI (7 * j) + 4 = nI (7 * j + 4) := nI_add _ 4
  obtain ⟨x5, hx5⟩ : ∃ z9, z9 = xs (7 * j + 5) := ⟨_, rfl⟩
  have e_5 : nI (7 * j) + 5 = nI (7 * j + 5) := nI_add _ 5
  obtain ⟨x6, hx6⟩ : ∃ z9, z9 = xs (7 * j + 6) := ⟨_, rfl⟩
  have e_6 : nI (7 * j) + 6 = nI (7 * j + 6) := nI_add _ 6
  refine lv_aload_n hx hb dL_law_500 rfl (lv_at hl 1 rfl) ?_
  refine lv_aload_n hx hb dL_law_501 rfl (lv_at hl 0 rfl) ?_
  refine lv_iload hx hb dL_law_502 (lv_at hl 4 rfl) ?_
  refine lv_iconst (v := 1) hx hb dL_law_504 (by decide) ?_
  refine lv_iadd hx hb dL_law_505 ?_
  refine va_sld hx hb hXs hbl hbA hS (by rw [e_1]; exact vp_in_nI (show 7 * j + 1 < L by omega) (by omega)) dL_law_506 ?_
  refine W.eq (g2 := F0 m 507 ls [.int x1, .ref (f0 f)]) (by rw [e_1, nI_clamp (show 7 * j + 1 < 2 ^ 31 by omega), ← hx1]) ?_
  refine lv_aload_n hx hb dL_law_507 rfl (lv_at hl 0 rfl) ?_
  refine lv_iload hx hb dL_law_508 (lv_at hl 4 rfl) ?_
  refine lv_iconst (v := 2) hx hb dL_law_510 (by decide) ?_
  refine lv_iadd hx hb dL_law_511 ?_
  refine va_sld hx hb hXs hbl hbA hS (by rw [e_2]; exact vp_in_nI (show 7 * j + 2 < L by omega) (by omega)) dL_law_512 ?_
  refine W.eq (g2 := F0 m 513 ls [.int x2, .int x1, .ref (f0 f)]) (by rw [e_2, nI_clamp (show 7 * j + 2 < 2 ^ 31 by omega), ← hx2]) ?_
  refine lv_aload_n hx hb dL_law_513 rfl (lv_at hl 3 rfl) ?_
  refine mw_callN (As := [.ref (f0 f), .int x1, .int x2, .ref ot]) (rest := []) hx hb hml hown hl (kL_signOf l htr G H.size M f S hI.1 hI.2.2.2.2 (fun q h => hAn q (Nat.le_trans hS.1 h)) ot g0 hot J.2.1.2.1 J.2.1.1 J.2.1.2.2.2 x1 x2) (g_BW (n := 4) htb wd292 wd0 wd290 (by decide +kernel) ⟨Nat.le_of_ble_eq_true rfl, Nat.le_of_ble_eq_true rfl⟩) (htb _ wd291) hE hN hP hS rfl rfl (Nat.le_of_ble_eq_true rfl) dL_law_514 ⟨show C + 20 ≤ 601024 from by omega, show D + 900 ≤ 7293034 from by omega⟩ (fun v9 M9 H locs hpo hP hz hS => ?_)
  obtain ⟨rfl, ho1, hR1, hk1⟩ := hpo
  obtain ⟨M1, hM1⟩ : ∃ z9 : mw_M, z9 = M9 := ⟨_, rfl⟩
  rw [← hM1] at hP ho1 hR1 hk1
  obtain ⟨th, z, hmR⟩ := lw_w1 J hI hk1
  obtain ⟨np, bg, g9, hT9, -⟩ := id hmR
  refine W.eq (g2 := F0 m 517 ls [.int (nI (ex_signOf S x1 x2))]) rfl ?_
  refine lv_istore (lv' := [(5, .int (nI (ex_signOf S x1 x2))), (0, .ref b), (1, .ref (f0 f)), (2, .ref o), (3, .ref ot), (4, .int (nI (7 * j)))]) hx hb dL_law_517 hl (by decide) rfl (fun ls hl => ?_)
  refine lv_aload_n hx hb dL_law_519 rfl (lv_at hl 3 rfl) ?_
  refine lv_aload_n hx hb dL_law_520 rfl (lv_at hl 1 rfl) ?_
  refine lv_iload hx hb dL_law_521 (lv_at hl 5 rfl) ?_
  refine lv_iconst (v := 1) hx hb dL_law_523 (by decide) ?_
  refine lv_iadd hx hb dL_law_524 ?_
  refine va_sld hx hb hXs hbl hbA hS (by rw [e_1]; exact vp_in_nI (show 7 * j + 1 < L by omega) (by omega)) dL_law_525 ?_
  refine W.eq (g2 := F0 m 526 ls [.int x1, .ref o]) (by rw [e_1, nI_clamp (show 7 * j + 1 < 2 ^ 31 by omega), ← hx1]) ?_
  refine lv_aload_n hx hb dL_law_526 rfl (lv_at hl 1 rfl) ?_
  refine lv_iload hx hb dL_law_527 (lv_at hl 5 rfl) ?_
  refine lv_iconst (v := 2) hx hb dL_law_529 (by decide) ?_
  refine lv_iadd hx hb dL_law_530 ?_
  refine va_sld hx hb hXs hbl hbA hS (by rw [e_2]; exact vp_in_nI (show 7 * j + 2 < L by omega) (by omega)) dL_law_531 ?_
  refine W.eq (g2 := F0 m 532 ls [.int x2, .int x1, .ref o]) (by rw [e_2, nI_clamp (show 7 * j + 2 < 2 ^ 31 by omega), ← hx2]) ?_
  refine mw_callV (C := RX4) (As := [.int x1, .int x2]) (rest := []) hx hb hml hown hl (kX4_signOf l htr G H.size M1 o A th z S hmR hI.1.ok x1 x2) (g_B (n := 2) htb wd636 wd3 wd633 (by decide +kernel) ⟨Nat.le_of_ble_eq_true rfl, Nat.le_of_ble_eq_true rfl⟩) (htb _ wd634) (htb _ wd635) hE hP hS hT9.1 rfl rfl rfl (Nat.le_of_ble_eq_true rfl) dL_law_532 ⟨show C + 20 + 0 ≤ 601024 from by omega, show D + 900 + 0 ≤ 7293034 from by omega⟩ (fun v9 M9 H locs hpo hP hz hS => ?_) (fun x9 E9 cell9 H9 locs9 hE9 => hE9.elim)
  have hmk := hpo
  obtain ⟨rfl, -, -⟩ := hpo
  obtain ⟨M2, hM2⟩ : ∃ z9 : mw_M, z9 = M9 := ⟨_, rfl⟩
  rw [← hM2] at hP hmk
  obtain ⟨hI2, ⟨g2, hot2, hφ⟩, z2, hmR2⟩ := lw_w2 J hI hk1 hR1 ho1 hmk
  obtain ⟨np2, bg2, g92, hT92, -⟩ := id hmR2
  refine W.eq (g2 := F0 m 535 ls [.int (if ex_signOf S x1 x2 = 0 then kt_y S (fs_rd S (sF S (fIx x1)) x2) else 0)]) rfl ?_
  refine lv_istore (lv' := [(6, .int (if ex_signOf S x1 x2 = 0 then kt_y S (fs_rd S (sF S (fIx x1)) x2) else 0)), (5, .int (nI (ex_signOf S x1 x2))), (0, .ref b), (1, .ref (f0 f)), (2, .ref o), (3, .ref ot), (4, .int (nI (7 * j)))]) hx hb dL_law_535 hl (by decide) rfl (fun ls hl => ?_)
  refine lv_aload_n hx hb dL_law_537 rfl (lv_at hl 4 rfl) ?_
  refine mw_callV (C := RX4) (As := []) (rest := []) hx hb hml hown hl (kX4_thrown l htr G H.size M2 o A (nI (ex_signOf S x1 x2)) z2 (if ex_signOf S x1 x2 = 0 then kt_S S (sF S (fIx x1)) (fs_rd S (sF S (fIx x1)) x2) x2 else S) hmR2) (g_B (n := 0) htb wd592 wd3 wd589 (by decide +kernel) ⟨Nat.le_of_ble_eq_true rfl, Nat.le_of_ble_eq_true rfl⟩) (htb _ wd590) (htb _ wd591) hE hP hS hT92.1 rfl rfl rfl (Nat.le_of_ble_eq_true rfl) dL_law_538 ⟨show C + 20 + 0 + 0 ≤ 601024 from by omega, show D + 900 + 0 + 0 ≤ 7293034 from by omega⟩ (fun v9 M9 H locs hpo hP hz hS => ?_) (fun x9 E9 cell9 H9 locs9 hE9 => hE9.elim)
  obtain ⟨rfl, rfl⟩ := hpo
  refine W.eq (g2 := F0 m 541 ls [.int (nI (ex_signOf S x1 x2))]) rfl ?_
  refine lv_iload hx hb dL_law_541 (lv_at hl 1 rfl) ?_
  refine lv_icmp_eq (tgt := 548) hx hb dL_law_543 (by decide) (fun c_1 => ?_) (fun c_1 => absurd rfl c_1)
  refine lv_iload hx hb dL_law_548 (lv_at hl 1 rfl) ?_
  refine lv_if_ne (tgt := 565) hx hb dL_law_550 (by decide) (fun c_2 => ?_) (fun c_2 => ?_)
  · refine lv_goto (tgt := 1383) hx hb dL_law_565 (by decide) ?_
    refine W.widen (k := C + 30) (n := D + 1000) (show C + 20 + 0 + 0 ≤ C + 30 by omega) (show D + 900 + 0 + 0 ≤ D + 1000 by omega) ?_
    exact K _ _ _ _ _ hI2 hP hS (lv_sub hl [2, 3, 4, 5, 6] rfl)
  · refine lv_aload_n hx hb dL_law_553 rfl (lv_at hl 5 rfl) ?_
    refine lv_iconst (v := 0) hx hb dL_law_554 (by decide) ?_
    refine mw_lald hx hb hK hP 3 hot2 rfl (by unfold vp_in; decide) dL_law_555 ?_
    have hex : ex_signOf S x1 x2 = 0 := ex0 (by unfold ex_signOf; exact le4_ite (by decide) (le4_ite (by decide) (le4_ite (by decide) (le4_ite (by decide) (by decide))))) c_2
    have hg0 := hφ hex
    refine W.eq (g2 := F0 m 556 ls [.long (kt_y S (fs_rd S (sF S (fIx x1)) x2)).toInt64]) (show F0 m 556 ls [.long (g2 0)] = _ from by rw [hg0]) ?_
    refine lv_iload hx hb dL_law_556 (lv_at hl 0 rfl) ?_
    refine lv_i2l hx hb dL_law_558 rfl ?_
    refine W.eq (g2 := F0 m 559 ls [.long (kt_y S (fs_rd S (sF S (fIx x1)) x2)).toInt64, .long (kt_y S (fs_rd S (sF S (fIx x1)) x2)).toInt64]) (by rw [if_pos hex]) ?_
    refine mw_lcmpE hx hb dL_law_559 ?_
    refine lv_if_eq (tgt := 565) hx hb dL_law_560 (by decide) (fun c_3 => ?_) (fun c_3 => absurd (by decide) c_3)
    refine lv_goto (tgt := 1383) hx hb dL_law_565 (by decide) ?_
    refine W.widen (k := C + 30) (n := D + 1000) (show C + 20 + 0 + 0 ≤ C + 30 by omega) (show D + 900 + 0 + 0 ≤ D + 1000 by omega) ?_
    exact K _ _ _ _ _ hI2 hP hS (lv_sub hl [2, 3, 4, 5, 6] rfl)
-- fraction
set_option maxHeartbeats 4000000 in
set_option maxRecDepth 100000 in
theorem lwc_6 {p : Program} {l : Launch} {e : Env} {s : State} {m : MethodId} {below : List Frame} {meth : Method} {c : Code} {Q : State → Prop} (G : gx_G) (f : fs_A) (o : Nat) (A : Nat → Nat) (ot : Nat) (gn : Nat → Int32) (b L : Nat) (xs : Nat → Int32) (C0 : lw_C l G p s m c b L xs) (J : lw_J G f o A ot) (j : Nat) (hj : 7 * j + 7 ≤ L) (C D : Nat) (hC : C + 30 ≤ 601024) (hD : D + 1000 ≤ 7293034)
    (K : ∀ (M' : mw_M) (S' : fs_S) (H' : Heap) (locs' : List Loc) (ls' : Array Slot), lw_I G f o A ot gn M' S' → mw_P (gD G) gx_cl M' H' → va_S (gA G) s.heap H' locs' → lv_has ls' 7 [(0, .ref b), (1, .ref (f0 f)), (2, .ref o), (3, .ref ot), (4, .int (nI (7 * j)))] → W p l e room_1 s m #[Value.ref b] below meth c H' locs' (C + 30) (D + 1000) Q (F0 m 1383 ls' []))
    {M : mw_M} {S : fs_S} {H : Heap} {locs : List Loc} {ls : Array Slot} (hI : lw_I G f o A ot gn M S) (hP : mw_P (gD G) gx_cl M H) (hS : va_S (gA G) s.heap H locs) (hl : lv_has ls 7 [(0, .ref b), (1, .ref (f0 f)), (2, .ref o), (3, .ref ot), (4, .int (nI (7 * j)))]) : W p l e room_1 s m #[Value.ref b] below meth c H locs C D Q (F0 m 568 ls []) := by
  obtain ⟨hx, hb, hml, hown, htb, hE, hN, hXs, hbl, hbA, hAn, htr, hL⟩ := C0
  have hK := hE.1
  obtain ⟨g0, hot⟩ := id hI.2.2.1
  obtain ⟨x0, hx0⟩ : ∃ z9, z9 = xs (7 * j) := ⟨_, rfl⟩
  obtain ⟨x1, hx1⟩ : ∃ z9, z9 = xs (7 * j + 1) := ⟨_, rfl⟩
  have e_1 : nI (7 * j) + 1 = nI (7 * j + 1) := nI_add _ 1
  obtain ⟨x2, hx2⟩ : ∃ z9, z9 = xs (7 * j + 2) := ⟨_, rfl⟩
  have e_2 : nI (7 * j) + 2 = nI (7 * j + 2) := nI_add _ 2
  obtain ⟨x3, hx3⟩ : ∃ z9, z9 = xs (7 * j + 3) := ⟨_, rfl⟩
  have e_3 : nI (7 * j) + 3 = nI (7 * j + 3) := nI_add _ 3
  obtain ⟨x4, hx4⟩ : ∃ z9, z9 = xs (7 * j + 4) := ⟨_, rfl⟩
  have e_4 : nI (7 * j) + 4 = nI (7 * j + 4) := nI_add _ 4
  obtain ⟨x5, hx5⟩ : ∃ z9, z9 = xs (7 * j + 5) := ⟨_, rfl⟩
  have e_5 : nI (7 * j) + 5 = nI (7 * j + 5) := nI_add _ 5
  obtain ⟨x6, hx6⟩ : ∃ z9, z9 = xs (7 * j + 6) := ⟨_, rfl⟩
  have e_6 : nI (7 * j) + 6 = nI (7 * j + 6) := nI_add _ 6
  refine lv_aload_n hx hb dL_law_568 rfl (lv_at hl 1 rfl) ?_
  refine lv_aload_n hx hb dL_law_569 rfl (lv_at hl 0 rfl) ?_
  refine lv_iload hx hb dL_law_570 (lv_at hl 4 rfl) ?_
  refine lv_iconst (v := 1) hx hb dL_law_572 (by decide) ?_
  refine lv_iadd hx hb dL_law_573 ?_
  refine va_sld hx hb hXs hbl hbA hS (by rw [e_1]; exact vp_in_nI (show 7 * j + 1 < L by omega) (by omega)) dL_law_574 ?_
  refine W.eq (g2 := F0 m 575 ls [.int x1, .ref (f0 f)]) (by rw [e_1, nI_clamp (show 7 * j + 1 < 2 ^ 31 by omega), ← hx1]) ?_
  refine lv_aload_n hx hb dL_law_575 rfl (lv_at hl 0 rfl) ?_
  refine lv_iload hx hb dL_law_576 (lv_at hl 4 rfl) ?_
  refine lv_iconst (v := 2) hx hb dL_law_578 (by decide) ?_
  refine lv_iadd hx hb dL_law_579 ?_
  refine va_sld hx hb hXs hbl hbA hS (by rw [e_2]; exact vp_in_nI (show 7 * j + 2 < L by omega) (by omega)) dL_law_580 ?_
  refine W.eq (g2 := F0 m 581 ls [.int x2, .int x1, .ref (f0 f)]) (by rw [e_2, nI_clamp (show 7 * j + 2 < 2 ^ 31 by omega), ← hx2]) ?_
  refine lv_aload_n hx hb dL_law_581 rfl (lv_at hl 0 rfl) ?_
  refine lv_iload hx hb dL_law_582 (lv_at hl 4 rfl) ?_
  refine lv_iconst (v := 3) hx hb dL_law_584 (by decide) ?_
  refine lv_iadd hx hb dL_law_585 ?_
  refine va_sld hx hb hXs hbl hbA hS (by rw [e_3]; exact vp_in_nI (show 7 * j + 3 < L by omega) (by omega)) dL_law_586 ?_
  refine W.eq (g2 := F0 m 587 ls [.int x3, .int x2, .int x1, .ref (f0 f)]) (by rw [e_3, nI_clamp (show 7 * j + 3 < 2 ^ 31 by omega), ← hx3]) ?_
  refine lv_aload_n hx hb dL_law_587 rfl (lv_at hl 0 rfl) ?_
  refine lv_iload hx hb dL_law_588 (lv_at hl 4 rfl) ?_
  refine lv_iconst (v := 4) hx hb dL_law_590 (by decide) ?_
  refine lv_iadd hx hb dL_law_591 ?_
  refine va_sld hx hb hXs hbl hbA hS (by rw [e_4]; exact vp_in_nI (show 7 * j + 4 < L by omega) (by omega)) dL_law_592 ?_
  refine W.eq (g2 := F0 m 593 ls [.int x4, .int x3, .int x2, .int x1, .ref (f0 f)]) (by rw [e_4, nI_clamp (show 7 * j + 4 < 2 ^ 31 by omega), ← hx4]) ?_
  refine lv_aload_n hx hb dL_law_593 rfl (lv_at hl 3 rfl) ?_
  refine mw_callN (As := [.ref (f0 f), .int x1, .int x2, .int x3, .int x4, .ref ot]) (rest := []) hx hb hml hown hl (kL_fraction l htr G H.size M f S hI.1 hI.2.2.2.2 (fun q h => hAn q (Nat.le_trans hS.1 h)) ot g0 hot J.2.1.2.1 J.2.1.1 J.2.1.2.2.2 x1 x2 x3 x4) (g_BW (n := 6) htb wd374 wd0 wd372 (by decide +kernel) ⟨Nat.le_of_ble_eq_true rfl, Nat.le_of_ble_eq_true rfl⟩) (htb _ wd373) hE hN hP hS rfl rfl (Nat.le_of_ble_eq_true rfl) dL_law_594 ⟨show C + 20 ≤ 601024 from by omega, show D + 900 ≤ 7293034 from by omega⟩ (fun v9 M9 H locs hpo hP hz hS => ?_)
  obtain ⟨rfl, ho1, hR1, hk1⟩ := hpo
  obtain ⟨M1, hM1⟩ : ∃ z9 : mw_M, z9 = M9 := ⟨_, rfl⟩
  rw [← hM1] at hP ho1 hR1 hk1
  obtain ⟨th, z, hmR⟩ := lw_w1 J hI hk1
  obtain ⟨np, bg, g9, hT9, -⟩ := id hmR
  refine W.eq (g2 := F0 m 597 ls [.int (nI (ex_fraction S x1 x2 x3 x4))]) rfl ?_
  refine lv_istore (lv' := [(5, .int (nI (ex_fraction S x1 x2 x3 x4))), (0, .ref b), (1, .ref (f0 f)), (2, .ref o), (3, .ref ot), (4, .int (nI (7 * j)))]) hx hb dL_law_597 hl (by decide) rfl (fun ls hl => ?_)
  refine lv_aload_n hx hb dL_law_599 rfl (lv_at hl 3 rfl) ?_
  refine lv_aload_n hx hb dL_law_600 rfl (lv_at hl 1 rfl) ?_
  refine lv_iload hx hb dL_law_601 (lv_at hl 5 rfl) ?_
  refine lv_iconst (v := 1) hx hb dL_law_603 (by decide) ?_
  refine lv_iadd hx hb dL_law_604 ?_
  refine va_sld hx hb hXs hbl hbA hS (by rw [e_1]; exact vp_in_nI (show 7 * j + 1 < L by omega) (by omega)) dL_law_605 ?_
  refine W.eq (g2 := F0 m 606 ls [.int x1, .ref o]) (by rw [e_1, nI_clamp (show 7 * j + 1 < 2 ^ 31 by omega), ← hx1]) ?_
  refine lv_aload_n hx hb dL_law_606 rfl (lv_at hl 1 rfl) ?_
  refine lv_iload hx hb dL_law_607 (lv_at hl 5 rfl) ?_
  refine lv_iconst (v := 2) hx hb dL_law_609 (by decide) ?_
  refine lv_iadd hx hb dL_law_610 ?_
  refine va_sld hx hb hXs hbl hbA hS (by rw [e_2]; exact vp_in_nI (show 7 * j + 2 < L by omega) (by omega)) dL_law_611 ?_
  refine W.eq (g2 := F0 m 612 ls [.int x2, .int x1, .ref o]) (by rw [e_2, nI_clamp (show 7 * j + 2 < 2 ^ 31 by omega), ← hx2]) ?_
  refine lv_aload_n hx hb dL_law_612 rfl (lv_at hl 1 rfl) ?_
  refine lv_iload hx hb dL_law_613 (lv_at hl 5 rfl) ?_
  refine lv_iconst (v := 3) hx hb dL_law_615 (by decide) ?_
  refine lv_iadd hx hb dL_law_616 ?_
  refine va_sld hx hb hXs hbl hbA hS (by rw [e_3]; exact vp_in_nI (show 7 * j + 3 < L by omega) (by omega)) dL_law_617 ?_
  refine W.eq (g2 := F0 m 618 ls [.int x3, .int x2, .int x1, .ref o]) (by rw [e_3, nI_clamp (show 7 * j + 3 < 2 ^ 31 by omega), ← hx3]) ?_
  refine lv_aload_n hx hb dL_law_618 rfl (lv_at hl 1 rfl) ?_
  refine lv_iload hx hb dL_law_619 (lv_at hl 5 rfl) ?_
  refine lv_iconst (v := 4) hx hb dL_law_621 (by decide) ?_
  refine lv_iadd hx hb dL_law_622 ?_
  refine va_sld hx hb hXs hbl hbA hS (by rw [e_4]; exact vp_in_nI (show 7 * j + 4 < L by omega) (by omega)) dL_law_623 ?_
  refine W.eq (g2 := F0 m 624 ls [.int x4, .int x3, .int x2, .int x1, .ref o]) (by rw [e_4, nI_clamp (show 7 * j + 4 < 2 ^ 31 by omega), ← hx4]) ?_
  refine mw_callV (C := RX4) (As := [.int x1, .int x2, .int x3, .int x4]) (rest := []) hx hb hml hown hl (kX4_fraction l htr G H.size M1 o A th z S hmR hI.1.ok x1 x2 x3 x4) (g_B (n := 4) htb wd668 wd3 wd665 (by decide +kernel) ⟨Nat.le_of_ble_eq_true rfl, Nat.le_of_ble_eq_true rfl⟩) (htb _ wd666) (htb _ wd667) hE hP hS hT9.1 rfl rfl rfl (Nat.le_of_ble_eq_true rfl) dL_law_624 ⟨show C + 20 + 0 ≤ 601024 from by omega, show D + 900 + 0 ≤ 7293034 from by omega⟩ (fun v9 M9 H locs hpo hP hz hS => ?_) (fun x9 E9 cell9 H9 locs9 hE9 => hE9.elim)
  have hmk := hpo
  obtain ⟨rfl, -, -⟩ := hpo
  obtain ⟨M2, hM2⟩ : ∃ z9 : mw_M, z9 = M9 := ⟨_, rfl⟩
  rw [← hM2] at hP hmk
  obtain ⟨hI2, ⟨g2, hot2, hφ⟩, z2, hmR2⟩ := lw_w2 J hI hk1 hR1 ho1 hmk
  obtain ⟨np2, bg2, g92, hT92, -⟩ := id hmR2
  refine W.eq (g2 := F0 m 627 ls [.int (if ex_fraction S x1 x2 x3 x4 = 0 then nI (sN S) else 0)]) rfl ?_
  refine lv_istore (lv' := [(6, .int (if ex_fraction S x1 x2 x3 x4 = 0 then nI (sN S) else 0)), (5, .int (nI (ex_fraction S x1 x2 x3 x4))), (0, .ref b), (1, .ref (f0 f)), (2, .ref o), (3, .ref ot), (4, .int (nI (7 * j)))]) hx hb dL_law_627 hl (by decide) rfl (fun ls hl => ?_)
  refine lv_aload_n hx hb dL_law_629 rfl (lv_at hl 4 rfl) ?_
  refine mw_callV (C := RX4) (As := []) (rest := []) hx hb hml hown hl (kX4_thrown l htr G H.size M2 o A (nI (ex_fraction S x1 x2 x3 x4)) z2 (if ex_fraction S x1 x2 x3 x4 = 0 then fs_push S (re_fraction S x1 x2 x3 x4) else S) hmR2) (g_B (n := 0) htb wd592 wd3 wd589 (by decide +kernel) ⟨Nat.le_of_ble_eq_true rfl, Nat.le_of_ble_eq_true rfl⟩) (htb _ wd590) (htb _ wd591) hE hP hS hT92.1 rfl rfl rfl (Nat.le_of_ble_eq_true rfl) dL_law_630 ⟨show C + 20 + 0 + 0 ≤ 601024 from by omega, show D + 900 + 0 + 0 ≤ 7293034 from by omega⟩ (fun v9 M9 H locs hpo hP hz hS => ?_) (fun x9 E9 cell9 H9 locs9 hE9 => hE9.elim)
  obtain ⟨rfl, rfl⟩ := hpo
  refine W.eq (g2 := F0 m 633 ls [.int (nI (ex_fraction S x1 x2 x3 x4))]) rfl ?_
  refine lv_iload hx hb dL_law_633 (lv_at hl 1 rfl) ?_
  refine lv_icmp_eq (tgt := 640) hx hb dL_law_635 (by decide) (fun c_1 => ?_) (fun c_1 => absurd rfl c_1)
  refine lv_iload hx hb dL_law_640 (lv_at hl 1 rfl) ?_
  refine lv_if_ne (tgt := 657) hx hb dL_law_642 (by decide) (fun c_2 => ?_) (fun c_2 => ?_)
  · refine lv_goto (tgt := 1383) hx hb dL_law_657 (by decide) ?_
    refine W.widen (k := C + 30) (n := D + 1000) (show C + 20 + 0 + 0 ≤ C + 30 by omega) (show D + 900 + 0 + 0 ≤ D + 1000 by omega) ?_
    exact K _ _ _ _ _ hI2 hP hS (lv_sub hl [2, 3, 4, 5, 6] rfl)
  · refine lv_aload_n hx hb dL_law_645 rfl (lv_at hl 5 rfl) ?_
    refine lv_iconst (v := 0) hx hb dL_law_646 (by decide) ?_
    refine mw_lald hx hb hK hP 3 hot2 rfl (by unfold vp_in; decide) dL_law_647 ?_
    have hex : ex_fraction S x1 x2 x3 x4 = 0 := ex0 (by unfold ex_fraction; exact le4_ite (by decide) (le4_ite (by decide) (le4_ite (by decide) (by decide)))) c_2
    have hg0 := hφ hex
    refine W.eq (g2 := F0 m 648 ls [.long (nI (sN S)).toInt64]) (show F0 m 648 ls [.long (g2 0)] = _ from by rw [hg0]) ?_
    refine lv_iload hx hb dL_law_648 (lv_at hl 0 rfl) ?_
    refine lv_i2l hx hb dL_law_650 rfl ?_
    refine W.eq (g2 := F0 m 651 ls [.long (nI (sN S)).toInt64, .long (nI (sN S)).toInt64]) (by rw [if_pos hex]) ?_
    refine mw_lcmpE hx hb dL_law_651 ?_
    refine lv_if_eq (tgt := 657) hx hb dL_law_652 (by decide) (fun c_3 => ?_) (fun c_3 => absurd (by decide) c_3)
    refine lv_goto (tgt := 1383) hx hb dL_law_657 (by decide) ?_
    refine W.widen (k := C + 30) (n := D + 1000) (show C + 20 + 0 + 0 ≤ C + 30 by omega) (show D + 900 + 0 + 0 ≤ D + 1000 by omega) ?_
    exact K _ _ _ _ _ hI2 hP hS (lv_sub hl [2, 3, 4, 5, 6] rfl)
-- root
set_option maxHeartbeats 4000000 in
set_option maxRecDepth 100000 in
theorem lwc_7 {p : Program} {l : Launch} {e : Env} {s : State} {m : MethodId} {below : List Frame} {meth : Method} {c : Code} {Q : State → Prop} (G : gx_G) (f : fs_A) (o : Nat) (A : Nat → Nat) (ot : Nat) (gn : Nat → Int32) (b L : Nat) (xs : Nat → Int32) (C0 : lw_C l G p s m c b L xs) (J : lw_J G f o A ot) (j : Nat) (hj : 7 * j + 7 ≤ L) (C D : Nat) (hC : C + 30 ≤ 601024) (hD : D + 1000 ≤ 7293034)
    (K : ∀ (M' : mw_M) (S' : fs_S) (H' : Heap) (locs' : List Loc) (ls' : Array Slot), lw_I G f o A ot gn M' S' → mw_P (gD G) gx_cl M' H' → va_S (gA G) s.heap H' locs' → lv_has ls' 7 [(0, .ref b), (1, .ref (f0 f)), (2, .ref o), (3, .ref ot), (4, .int (nI (7 * j)))] → W p l e room_1 s m #[Value.ref b] below meth c H' locs' (C + 30) (D + 1000) Q (F0 m 1383 ls' []))
    {M : mw_M} {S : fs_S} {H : Heap} {locs : List Loc} {ls : Array Slot} (hI : lw_I G f o A ot gn M S) (hP : mw_P (gD G) gx_cl M H) (hS : va_S (gA G) s.heap H locs) (hl : lv_has ls 7 [(0, .ref b), (1, .ref (f0 f)), (2, .ref o), (3, .ref ot), (4, .int (nI (7 * j)))]) : W p l e room_1 s m #[Value.ref b] below meth c H locs C D Q (F0 m 660 ls []) := by
  obtain ⟨hx, hb, hml, hown, htb, hE, hN, hXs, hbl, hbA, hAn, htr, hL⟩ := C0
  have hK := hE.1
  obtain ⟨g0, hot⟩ := id hI.2.2.1
  obtain ⟨x0, hx0⟩ : ∃ z9, z9 = xs (7 * j) := ⟨_, rfl⟩
  obtain ⟨x1, hx1⟩ : ∃ z9, z9 = xs (7 * j + 1) := ⟨_, rfl⟩
  have e_1 : nI (7 * j) + 1 = nI (7 * j + 1) := nI_add _ 1
  obtain ⟨x2, hx2⟩ : ∃ z9, z9 = xs (7 * j + 2) := ⟨_, rfl⟩
  have e_2 : nI (7 * j) + 2 = nI (7 * j + 2) := nI_add _ 2
  obtain ⟨x3, hx3⟩ : ∃ z9, z9 = xs (7 * j + 3) := ⟨_, rfl⟩
  have e_3 : nI (7 * j) + 3 = nI (7 * j + 3) := nI_add _ 3
  obtain ⟨x4, hx4⟩ : ∃ z9, z9 = xs (7 * j + 4) := ⟨_, rfl⟩
  have e_4 : nI (7 * j) + 4 = nI (7 * j + 4) := nI_add _ 4
  obtain ⟨x5, hx5⟩ : ∃ z9, z9 = xs (7 * j + 5) := ⟨_, rfl⟩
  have e_5 : nI (7 * j) + 5 = nI (7 * j + 5) := nI_add _ 5
  obtain ⟨x6, hx6⟩ : ∃ z9, z9 = xs (7 * j + 6) := ⟨_, rfl⟩
  have e_6 : nI (7 * j) + 6 = nI (7 * j + 6) := nI_add _ 6
  refine lv_aload_n hx hb dL_law_660 rfl (lv_at hl 1 rfl) ?_
  refine lv_aload_n hx hb dL_law_661 rfl (lv_at hl 0 rfl) ?_
  refine lv_iload hx hb dL_law_662 (lv_at hl 4 rfl) ?_
  refine lv_iconst (v := 1) hx hb dL_law_664 (by decide) ?_
  refine lv_iadd hx hb dL_law_665 ?_
  refine va_sld hx hb hXs hbl hbA hS (by rw [e_1]; exact vp_in_nI (show 7 * j + 1 < L by omega) (by omega)) dL_law_666 ?_
  refine W.eq (g2 := F0 m 667 ls [.int x1, .ref (f0 f)]) (by rw [e_1, nI_clamp (show 7 * j + 1 < 2 ^ 31 by omega), ← hx1]) ?_
  refine lv_aload_n hx hb dL_law_667 rfl (lv_at hl 0 rfl) ?_
  refine lv_iload hx hb dL_law_668 (lv_at hl 4 rfl) ?_
  refine lv_iconst (v := 2) hx hb dL_law_670 (by decide) ?_
  refine lv_iadd hx hb dL_law_671 ?_
  refine va_sld hx hb hXs hbl hbA hS (by rw [e_2]; exact vp_in_nI (show 7 * j + 2 < L by omega) (by omega)) dL_law_672 ?_
  refine W.eq (g2 := F0 m 673 ls [.int x2, .int x1, .ref (f0 f)]) (by rw [e_2, nI_clamp (show 7 * j + 2 < 2 ^ 31 by omega), ← hx2]) ?_
  refine lv_aload_n hx hb dL_law_673 rfl (lv_at hl 0 rfl) ?_
  refine lv_iload hx hb dL_law_674 (lv_at hl 4 rfl) ?_
  refine lv_iconst (v := 3) hx hb dL_law_676 (by decide) ?_
  refine lv_iadd hx hb dL_law_677 ?_
  refine va_sld hx hb hXs hbl hbA hS (by rw [e_3]; exact vp_in_nI (show 7 * j + 3 < L by omega) (by omega)) dL_law_678 ?_
  refine W.eq (g2 := F0 m 679 ls [.int x3, .int x2, .int x1, .ref (f0 f)]) (by rw [e_3, nI_clamp (show 7 * j + 3 < 2 ^ 31 by omega), ← hx3]) ?_
  refine lv_aload_n hx hb dL_law_679 rfl (lv_at hl 3 rfl) ?_
  refine mw_callN (As := [.ref (f0 f), .int x1, .int x2, .int x3, .ref ot]) (rest := []) hx hb hml hown hl (kL_root l htr G H.size M f S hI.1 hI.2.2.2.2 (fun q h => hAn q (Nat.le_trans hS.1 h)) ot g0 hot J.2.1.2.1 J.2.1.1 J.2.1.2.2.2 x1 x2 x3) (g_BW (n := 5) htb wd414 wd0 wd412 (by decide +kernel) ⟨Nat.le_of_ble_eq_true rfl, Nat.le_of_ble_eq_true rfl⟩) (htb _ wd413) hE hN hP hS rfl rfl (Nat.le_of_ble_eq_true rfl) dL_law_680 ⟨show C + 20 ≤ 601024 from by omega, show D + 900 ≤ 7293034 from by omega⟩ (fun v9 M9 H locs hpo hP hz hS => ?_)
  obtain ⟨rfl, ho1, hR1, hk1⟩ := hpo
  obtain ⟨M1, hM1⟩ : ∃ z9 : mw_M, z9 = M9 := ⟨_, rfl⟩
  rw [← hM1] at hP ho1 hR1 hk1
  obtain ⟨th, z, hmR⟩ := lw_w1 J hI hk1
  obtain ⟨np, bg, g9, hT9, -⟩ := id hmR
  refine W.eq (g2 := F0 m 683 ls [.int (nI (ex_root S x1 x2 x3))]) rfl ?_
  refine lv_istore (lv' := [(5, .int (nI (ex_root S x1 x2 x3))), (0, .ref b), (1, .ref (f0 f)), (2, .ref o), (3, .ref ot), (4, .int (nI (7 * j)))]) hx hb dL_law_683 hl (by decide) rfl (fun ls hl => ?_)
  refine lv_aload_n hx hb dL_law_685 rfl (lv_at hl 3 rfl) ?_
  refine lv_aload_n hx hb dL_law_686 rfl (lv_at hl 1 rfl) ?_
  refine lv_iload hx hb dL_law_687 (lv_at hl 5 rfl) ?_
  refine lv_iconst (v := 1) hx hb dL_law_689 (by decide) ?_
  refine lv_iadd hx hb dL_law_690 ?_
  refine va_sld hx hb hXs hbl hbA hS (by rw [e_1]; exact vp_in_nI (show 7 * j + 1 < L by omega) (by omega)) dL_law_691 ?_
  refine W.eq (g2 := F0 m 692 ls [.int x1, .ref o]) (by rw [e_1, nI_clamp (show 7 * j + 1 < 2 ^ 31 by omega), ← hx1]) ?_
  refine lv_aload_n hx hb dL_law_692 rfl (lv_at hl 1 rfl) ?_
  refine lv_iload hx hb dL_law_693 (lv_at hl 5 rfl) ?_
  refine lv_iconst (v := 2) hx hb dL_law_695 (by decide) ?_
  refine lv_iadd hx hb dL_law_696 ?_
  refine va_sld hx hb hXs hbl hbA hS (by rw [e_2]; exact vp_in_nI (show 7 * j + 2 < L by omega) (by omega)) dL_law_697 ?_
  refine W.eq (g2 := F0 m 698 ls [.int x2, .int x1, .ref o]) (by rw [e_2, nI_clamp (show 7 * j + 2 < 2 ^ 31 by omega), ← hx2]) ?_
  refine lv_aload_n hx hb dL_law_698 rfl (lv_at hl 1 rfl) ?_
  refine lv_iload hx hb dL_law_699 (lv_at hl 5 rfl) ?_
  refine lv_iconst (v := 3) hx hb dL_law_701 (by decide) ?_
  refine lv_iadd hx hb dL_law_702 ?_
  refine va_sld hx hb hXs hbl hbA hS (by rw [e_3]; exact vp_in_nI (show 7 * j + 3 < L by omega) (by omega)) dL_law_703 ?_
  refine W.eq (g2 := F0 m 704 ls [.int x3, .int x2, .int x1, .ref o]) (by rw [e_3, nI_clamp (show 7 * j + 3 < 2 ^ 31 by omega), ← hx3]) ?_
  refine mw_callV (C := RX4) (As := [.int x1, .int x2, .int x3]) (rest := []) hx hb hml hown hl (kX4_root l htr G H.size M1 o A th z S hmR hI.1.ok x1 x2 x3) (g_B (n := 3) htb wd686 wd3 wd683 (by decide +kernel) ⟨Nat.le_of_ble_eq_true rfl, Nat.le_of_ble_eq_true rfl⟩) (htb _ wd684) (htb _ wd685) hE hP hS hT9.1 rfl rfl rfl (Nat.le_of_ble_eq_true rfl) dL_law_704 ⟨show C + 20 + 0 ≤ 601024 from by omega, show D + 900 + 0 ≤ 7293034 from by omega⟩ (fun v9 M9 H locs hpo hP hz hS => ?_) (fun x9 E9 cell9 H9 locs9 hE9 => hE9.elim)
  have hmk := hpo
  obtain ⟨rfl, -, -⟩ := hpo
  obtain ⟨M2, hM2⟩ : ∃ z9 : mw_M, z9 = M9 := ⟨_, rfl⟩
  rw [← hM2] at hP hmk
  obtain ⟨hI2, ⟨g2, hot2, hφ⟩, z2, hmR2⟩ := lw_w2 J hI hk1 hR1 ho1 hmk
  obtain ⟨np2, bg2, g92, hT92, -⟩ := id hmR2
  refine W.eq (g2 := F0 m 707 ls [.int (if ex_root S x1 x2 x3 = 0 then nI (sN (ro_S S x1 x2 x3)) else 0)]) rfl ?_
  refine lv_istore (lv' := [(6, .int (if ex_root S x1 x2 x3 = 0 then nI (sN (ro_S S x1 x2 x3)) else 0)), (5, .int (nI (ex_root S x1 x2 x3))), (0, .ref b), (1, .ref (f0 f)), (2, .ref o), (3, .ref ot), (4, .int (nI (7 * j)))]) hx hb dL_law_707 hl (by decide) rfl (fun ls hl => ?_)
  refine lv_aload_n hx hb dL_law_709 rfl (lv_at hl 4 rfl) ?_
  refine mw_callV (C := RX4) (As := []) (rest := []) hx hb hml hown hl (kX4_thrown l htr G H.size M2 o A (nI (ex_root S x1 x2 x3)) z2 (if ex_root S x1 x2 x3 = 0 then fs_push (ro_S S x1 x2 x3) (re_root S x1 x2 x3) else S) hmR2) (g_B (n := 0) htb wd592 wd3 wd589 (by decide +kernel) ⟨Nat.le_of_ble_eq_true rfl, Nat.le_of_ble_eq_true rfl⟩) (htb _ wd590) (htb _ wd591) hE hP hS hT92.1 rfl rfl rfl (Nat.le_of_ble_eq_true rfl) dL_law_710 ⟨show C + 20 + 0 + 0 ≤ 601024 from by omega, show D + 900 + 0 + 0 ≤ 7293034 from by omega⟩ (fun v9 M9 H locs hpo hP hz hS => ?_) (fun x9 E9 cell9 H9 locs9 hE9 => hE9.elim)
  obtain ⟨rfl, rfl⟩ := hpo
  refine W.eq (g2 := F0 m 713 ls [.int (nI (ex_root S x1 x2 x3))]) rfl ?_
  refine lv_iload hx hb dL_law_713 (lv_at hl 1 rfl) ?_
  refine lv_icmp_eq (tgt := 720) hx hb dL_law_715 (by decide) (fun c_1 => ?_) (fun c_1 => absurd rfl c_1)
  refine lv_iload hx hb dL_law_720 (lv_at hl 1 rfl) ?_
  refine lv_if_ne (tgt := 737) hx hb dL_law_722 (by decide) (fun c_2 => ?_) (fun c_2 => ?_)
  · refine lv_goto (tgt := 1383) hx hb dL_law_737 (by decide) ?_
    refine W.widen (k := C + 30) (n := D + 1000) (show C + 20 + 0 + 0 ≤ C + 30 by omega) (show D + 900 + 0 + 0 ≤ D + 1000 by omega) ?_
    exact K _ _ _ _ _ hI2 hP hS (lv_sub hl [2, 3, 4, 5, 6] rfl)
  · refine lv_aload_n hx hb dL_law_725 rfl (lv_at hl 5 rfl) ?_
    refine lv_iconst (v := 0) hx hb dL_law_726 (by decide) ?_
    refine mw_lald hx hb hK hP 3 hot2 rfl (by unfold vp_in; decide) dL_law_727 ?_
    have hex : ex_root S x1 x2 x3 = 0 := ex0 (by unfold ex_root; exact le4_ite (by decide) (le4_ite (by decide) (le4_ite (by decide) (le4_ite (by decide) (by decide))))) c_2
    have hg0 := hφ hex
    refine W.eq (g2 := F0 m 728 ls [.long (nI (sN (ro_S S x1 x2 x3))).toInt64]) (show F0 m 728 ls [.long (g2 0)] = _ from by rw [hg0]) ?_
    refine lv_iload hx hb dL_law_728 (lv_at hl 0 rfl) ?_
    refine lv_i2l hx hb dL_law_730 rfl ?_
    refine W.eq (g2 := F0 m 731 ls [.long (nI (sN (ro_S S x1 x2 x3))).toInt64, .long (nI (sN (ro_S S x1 x2 x3))).toInt64]) (by rw [if_pos hex]) ?_
    refine mw_lcmpE hx hb dL_law_731 ?_
    refine lv_if_eq (tgt := 737) hx hb dL_law_732 (by decide) (fun c_3 => ?_) (fun c_3 => absurd (by decide) c_3)
    refine lv_goto (tgt := 1383) hx hb dL_law_737 (by decide) ?_
    refine W.widen (k := C + 30) (n := D + 1000) (show C + 20 + 0 + 0 ≤ C + 30 by omega) (show D + 900 + 0 + 0 ≤ D + 1000 by omega) ?_
    exact K _ _ _ _ _ hI2 hP hS (lv_sub hl [2, 3, 4, 5, 6] rfl)
-- signs
set_option maxHeartbeats 4000000 in
set_option maxRecDepth 100000 in
theorem lwc_8 {p : Program} {l : Launch} {e : Env} {s : State} {m : MethodId} {below : List Frame} {meth : Method} {c : Code} {Q : State → Prop} (G : gx_G) (f : fs_A) (o : Nat) (A : Nat → Nat) (ot : Nat) (gn : Nat → Int32) (b L : Nat) (xs : Nat → Int32) (C0 : lw_C l G p s m c b L xs) (J : lw_J G f o A ot) (j : Nat) (hj : 7 * j + 7 ≤ L) (C D : Nat) (hC : C + 30 ≤ 601024) (hD : D + 1000 ≤ 7293034)
    (K : ∀ (M' : mw_M) (S' : fs_S) (H' : Heap) (locs' : List Loc) (ls' : Array Slot), lw_I G f o A ot gn M' S' → mw_P (gD G) gx_cl M' H' → va_S (gA G) s.heap H' locs' → lv_has ls' 7 [(0, .ref b), (1, .ref (f0 f)), (2, .ref o), (3, .ref ot), (4, .int (nI (7 * j)))] → W p l e room_1 s m #[Value.ref b] below meth c H' locs' (C + 30) (D + 1000) Q (F0 m 1383 ls' []))
    {M : mw_M} {S : fs_S} {H : Heap} {locs : List Loc} {ls : Array Slot} (hI : lw_I G f o A ot gn M S) (hP : mw_P (gD G) gx_cl M H) (hS : va_S (gA G) s.heap H locs) (hl : lv_has ls 7 [(0, .ref b), (1, .ref (f0 f)), (2, .ref o), (3, .ref ot), (4, .int (nI (7 * j)))]) : W p l e room_1 s m #[Value.ref b] below meth c H locs C D Q (F0 m 740 ls []) := by
  obtain ⟨hx, hb, hml, hown, htb, hE, hN, hXs, hbl, hbA, hAn, htr, hL⟩ := C0
  have hK := hE.1
  obtain ⟨g0, hot⟩ := id hI.2.2.1
  obtain ⟨x0, hx0⟩ : ∃ z9, z9 = xs (7 * j) := ⟨_, rfl⟩
  obtain ⟨x1, hx1⟩ : ∃ z9, z9 = xs (7 * j + 1) := ⟨_, rfl⟩
  have e_1 : nI (7 * j) + 1 = nI (7 * j + 1) := nI_add _ 1
  obtain ⟨x2, hx2⟩ : ∃ z9, z9 = xs (7 * j + 2) := ⟨_, rfl⟩
  have e_2 : nI (7 * j) + 2 = nI (7 * j + 2) := nI_add _ 2
  obtain ⟨x3, hx3⟩ : ∃ z9, z9 = xs (7 * j + 3) := ⟨_, rfl⟩
  have e_3 : nI (7 * j) + 3 = nI (7 * j + 3) := nI_add _ 3
  obtain ⟨x4, hx4⟩ : ∃ z9, z9 = xs (7 * j + 4) := ⟨_, rfl⟩
  have e_4 : nI (7 * j) + 4 = nI (7 * j + 4) := nI_add _ 4
  obtain ⟨x5, hx5⟩ : ∃ z9, z9 = xs (7 * j + 5) := ⟨_, rfl⟩
  have e_5 : nI (7 * j) + 5 = nI (7 * j + 5) := nI_add _ 5
  obtain ⟨x6, hx6⟩ : ∃ z9, z9 = xs (7 * j + 6) := ⟨_, rfl⟩
  have e_6 : nI (7 * j) + 6 = nI (7 * j + 6) := nI_add _ 6
  refine lv_aload_n hx hb dL_law_740 rfl (lv_at hl 1 rfl) ?_
  refine lv_aload_n hx hb dL_law_741 rfl (lv_at hl 0 rfl) ?_
  refine lv_iload hx hb dL_law_742 (lv_at hl 4 rfl) ?_
  refine lv_iconst (v := 1) hx hb dL_law_744 (by decide) ?_
  refine lv_iadd hx hb dL_law_745 ?_
  refine va_sld hx hb hXs hbl hbA hS (by rw [e_1]; exact vp_in_nI (show 7 * j + 1 < L by omega) (by omega)) dL_law_746 ?_
  refine W.eq (g2 := F0 m 747 ls [.int x1, .ref (f0 f)]) (by rw [e_1, nI_clamp (show 7 * j + 1 < 2 ^ 31 by omega), ← hx1]) ?_
  refine lv_aload_n hx hb dL_law_747 rfl (lv_at hl 0 rfl) ?_
  refine lv_iload hx hb dL_law_748 (lv_at hl 4 rfl) ?_
  refine lv_iconst (v := 2) hx hb dL_law_750 (by decide) ?_
  refine lv_iadd hx hb dL_law_751 ?_
  refine va_sld hx hb hXs hbl hbA hS (by rw [e_2]; exact vp_in_nI (show 7 * j + 2 < L by omega) (by omega)) dL_law_752 ?_
  refine W.eq (g2 := F0 m 753 ls [.int x2, .int x1, .ref (f0 f)]) (by rw [e_2, nI_clamp (show 7 * j + 2 < 2 ^ 31 by omega), ← hx2]) ?_
  refine lv_if_eq (tgt := 760) hx hb dL_law_753 (by decide) (fun c_1 => ?_) (fun c_1 => ?_)
  · refine lv_iconst (v := 0) hx hb dL_law_760 (by decide) ?_
    refine lv_aload_n hx hb dL_law_761 rfl (lv_at hl 0 rfl) ?_
    refine lv_iload hx hb dL_law_762 (lv_at hl 4 rfl) ?_
    refine lv_iconst (v := 3) hx hb dL_law_764 (by decide) ?_
    refine lv_iadd hx hb dL_law_765 ?_
    refine va_sld hx hb hXs hbl hbA hS (by rw [e_3]; exact vp_in_nI (show 7 * j + 3 < L by omega) (by omega)) dL_law_766 ?_
    refine W.eq (g2 := F0 m 767 ls [.int x3, .int 0, .int x1, .ref (f0 f)]) (by rw [e_3, nI_clamp (show 7 * j + 3 < 2 ^ 31 by omega), ← hx3]) ?_
    refine lv_aload_n hx hb dL_law_767 rfl (lv_at hl 0 rfl) ?_
    refine lv_iload hx hb dL_law_768 (lv_at hl 4 rfl) ?_
    refine lv_iconst (v := 4) hx hb dL_law_770 (by decide) ?_
    refine lv_iadd hx hb dL_law_771 ?_
    refine va_sld hx hb hXs hbl hbA hS (by rw [e_4]; exact vp_in_nI (show 7 * j + 4 < L by omega) (by omega)) dL_law_772 ?_
    refine W.eq (g2 := F0 m 773 ls [.int x4, .int x3, .int 0, .int x1, .ref (f0 f)]) (by rw [e_4, nI_clamp (show 7 * j + 4 < 2 ^ 31 by omega), ← hx4]) ?_
    refine lv_if_eq (tgt := 780) hx hb dL_law_773 (by decide) (fun c_2 => ?_) (fun c_2 => ?_)
    · refine lv_iconst (v := 0) hx hb dL_law_780 (by decide) ?_
      refine lv_aload_n hx hb dL_law_781 rfl (lv_at hl 0 rfl) ?_
      refine lv_iload hx hb dL_law_782 (lv_at hl 4 rfl) ?_
      refine lv_iconst (v := 5) hx hb dL_law_784 (by decide) ?_
      refine lv_iadd hx hb dL_law_785 ?_
      refine va_sld hx hb hXs hbl hbA hS (by rw [e_5]; exact vp_in_nI (show 7 * j + 5 < L by omega) (by omega)) dL_law_786 ?_
      refine W.eq (g2 := F0 m 787 ls [.int x5, .int 0, .int x3, .int 0, .int x1, .ref (f0 f)]) (by rw [e_5, nI_clamp (show 7 * j + 5 < 2 ^ 31 by omega), ← hx5]) ?_
      refine lv_aload_n hx hb dL_law_787 rfl (lv_at hl 0 rfl) ?_
      refine lv_iload hx hb dL_law_788 (lv_at hl 4 rfl) ?_
      refine lv_bipush (v := 6) hx hb dL_law_790 (by decide) ?_
      refine lv_iadd hx hb dL_law_792 ?_
      refine va_sld hx hb hXs hbl hbA hS (by rw [e_6]; exact vp_in_nI (show 7 * j + 6 < L by omega) (by omega)) dL_law_793 ?_
      refine W.eq (g2 := F0 m 794 ls [.int x6, .int x5, .int 0, .int x3, .int 0, .int x1, .ref (f0 f)]) (by rw [e_6, nI_clamp (show 7 * j + 6 < 2 ^ 31 by omega), ← hx6]) ?_
      refine lv_aload_n hx hb dL_law_794 rfl (lv_at hl 3 rfl) ?_
      refine mw_callN (As := [.ref (f0 f), .int x1, .int 0, .int x3, .int 0, .int x5, .int x6, .ref ot]) (rest := []) hx hb hml hown hl (kL_signs l htr G H.size M f S hI.1 hI.2.2.2.2 (fun q h => hAn q (Nat.le_trans hS.1 h)) ot g0 hot J.2.1.2.1 J.2.1.1 J.2.1.2.2.2 x1 0 x3 0 x5 x6) (g_BW (n := 8) htb wd432 wd0 wd430 (by decide +kernel) ⟨Nat.le_of_ble_eq_true rfl, Nat.le_of_ble_eq_true rfl⟩) (htb _ wd431) hE hN hP hS rfl rfl (Nat.le_of_ble_eq_true rfl) dL_law_795 ⟨show C + 20 ≤ 601024 from by omega, show D + 900 ≤ 7293034 from by omega⟩ (fun v9 M9 H locs hpo hP hz hS => ?_)
      obtain ⟨rfl, ho1, hR1, hk1⟩ := hpo
      obtain ⟨M1, hM1⟩ : ∃ z9 : mw_M, z9 = M9 := ⟨_, rfl⟩
      rw [← hM1] at hP ho1 hR1 hk1
      obtain ⟨th, z, hmR⟩ := lw_w1 J hI hk1
      obtain ⟨np, bg, g9, hT9, -⟩ := id hmR
      refine W.eq (g2 := F0 m 798 ls [.int (nI (ex_lim S x1 x3 x5 x6))]) rfl ?_
      refine lv_istore (lv' := [(5, .int (nI (ex_lim S x1 x3 x5 x6))), (0, .ref b), (1, .ref (f0 f)), (2, .ref o), (3, .ref ot), (4, .int (nI (7 * j)))]) hx hb dL_law_798 hl (by decide) rfl (fun ls hl => ?_)
      refine lv_aload_n hx hb dL_law_800 rfl (lv_at hl 3 rfl) ?_
      refine lv_aload_n hx hb dL_law_801 rfl (lv_at hl 1 rfl) ?_
      refine lv_iload hx hb dL_law_802 (lv_at hl 5 rfl) ?_
      refine lv_iconst (v := 1) hx hb dL_law_804 (by decide) ?_
      refine lv_iadd hx hb dL_law_805 ?_
      refine va_sld hx hb hXs hbl hbA hS (by rw [e_1]; exact vp_in_nI (show 7 * j + 1 < L by omega) (by omega)) dL_law_806 ?_
      refine W.eq (g2 := F0 m 807 ls [.int x1, .ref o]) (by rw [e_1, nI_clamp (show 7 * j + 1 < 2 ^ 31 by omega), ← hx1]) ?_
      refine lv_aload_n hx hb dL_law_807 rfl (lv_at hl 1 rfl) ?_
      refine lv_iload hx hb dL_law_808 (lv_at hl 5 rfl) ?_
      refine lv_iconst (v := 2) hx hb dL_law_810 (by decide) ?_
      refine lv_iadd hx hb dL_law_811 ?_
      refine va_sld hx hb hXs hbl hbA hS (by rw [e_2]; exact vp_in_nI (show 7 * j + 2 < L by omega) (by omega)) dL_law_812 ?_
      refine W.eq (g2 := F0 m 813 ls [.int x2, .int x1, .ref o]) (by rw [e_2, nI_clamp (show 7 * j + 2 < 2 ^ 31 by omega), ← hx2]) ?_
      refine lv_if_eq (tgt := 820) hx hb dL_law_813 (by decide) (fun c_3 => ?_) (fun c_3 => absurd c_1 c_3)
      refine lv_iconst (v := 0) hx hb dL_law_820 (by decide) ?_
      refine lv_aload_n hx hb dL_law_821 rfl (lv_at hl 1 rfl) ?_
      refine lv_iload hx hb dL_law_822 (lv_at hl 5 rfl) ?_
      refine lv_iconst (v := 3) hx hb dL_law_824 (by decide) ?_
      refine lv_iadd hx hb dL_law_825 ?_
      refine va_sld hx hb hXs hbl hbA hS (by rw [e_3]; exact vp_in_nI (show 7 * j + 3 < L by omega) (by omega)) dL_law_826 ?_
      refine W.eq (g2 := F0 m 827 ls [.int x3, .int 0, .int x1, .ref o]) (by rw [e_3, nI_clamp (show 7 * j + 3 < 2 ^ 31 by omega), ← hx3]) ?_
      refine lv_aload_n hx hb dL_law_827 rfl (lv_at hl 1 rfl) ?_
      refine lv_iload hx hb dL_law_828 (lv_at hl 5 rfl) ?_
      refine lv_iconst (v := 4) hx hb dL_law_830 (by decide) ?_
      refine lv_iadd hx hb dL_law_831 ?_
      refine va_sld hx hb hXs hbl hbA hS (by rw [e_4]; exact vp_in_nI (show 7 * j + 4 < L by omega) (by omega)) dL_law_832 ?_
      refine W.eq (g2 := F0 m 833 ls [.int x4, .int x3, .int 0, .int x1, .ref o]) (by rw [e_4, nI_clamp (show 7 * j + 4 < 2 ^ 31 by omega), ← hx4]) ?_
      refine lv_if_eq (tgt := 840) hx hb dL_law_833 (by decide) (fun c_4 => ?_) (fun c_4 => absurd c_2 c_4)
      refine lv_iconst (v := 0) hx hb dL_law_840 (by decide) ?_
      refine lv_aload_n hx hb dL_law_841 rfl (lv_at hl 1 rfl) ?_
      refine lv_iload hx hb dL_law_842 (lv_at hl 5 rfl) ?_
      refine lv_iconst (v := 5) hx hb dL_law_844 (by decide) ?_
      refine lv_iadd hx hb dL_law_845 ?_
      refine va_sld hx hb hXs hbl hbA hS (by rw [e_5]; exact vp_in_nI (show 7 * j + 5 < L by omega) (by omega)) dL_law_846 ?_
      refine W.eq (g2 := F0 m 847 ls [.int x5, .int 0, .int x3, .int 0, .int x1, .ref o]) (by rw [e_5, nI_clamp (show 7 * j + 5 < 2 ^ 31 by omega), ← hx5]) ?_
      refine lv_aload_n hx hb dL_law_847 rfl (lv_at hl 1 rfl) ?_
      refine lv_iload hx hb dL_law_848 (lv_at hl 5 rfl) ?_
      refine lv_bipush (v := 6) hx hb dL_law_850 (by decide) ?_
      refine lv_iadd hx hb dL_law_852 ?_
      refine va_sld hx hb hXs hbl hbA hS (by rw [e_6]; exact vp_in_nI (show 7 * j + 6 < L by omega) (by omega)) dL_law_853 ?_
      refine W.eq (g2 := F0 m 854 ls [.int x6, .int x5, .int 0, .int x3, .int 0, .int x1, .ref o]) (by rw [e_6, nI_clamp (show 7 * j + 6 < 2 ^ 31 by omega), ← hx6]) ?_
      refine mw_callV (C := RX4) (As := [.int x1, .int 0, .int x3, .int 0, .int x5, .int x6]) (rest := []) hx hb hml hown hl (kX4_signs l htr G H.size M1 o A th z S hmR hI.1.ok x1 0 x3 0 x5 x6) (g_B (n := 6) htb wd693 wd3 wd690 (by decide +kernel) ⟨Nat.le_of_ble_eq_true rfl, Nat.le_of_ble_eq_true rfl⟩) (htb _ wd691) (htb _ wd692) hE hP hS hT9.1 rfl rfl rfl (Nat.le_of_ble_eq_true rfl) dL_law_854 ⟨show C + 20 + 0 ≤ 601024 from by omega, show D + 900 + 0 ≤ 7293034 from by omega⟩ (fun v9 M9 H locs hpo hP hz hS => ?_) (fun x9 E9 cell9 H9 locs9 hE9 => hE9.elim)
      have hmk := hpo
      obtain ⟨rfl, -, -⟩ := hpo
      obtain ⟨M2, hM2⟩ : ∃ z9 : mw_M, z9 = M9 := ⟨_, rfl⟩
      rw [← hM2] at hP hmk
      obtain ⟨hI2, ⟨g2, hot2, hφ⟩, z2, hmR2⟩ := lw_w2 J hI hk1 hR1 ho1 hmk
      obtain ⟨np2, bg2, g92, hT92, -⟩ := id hmR2
      refine W.eq (g2 := F0 m 857 ls [.int (if ex_lim S x1 x3 x5 x6 = 0 then nI (sN S) else 0)]) rfl ?_
      refine lv_istore (lv' := [(6, .int (if ex_lim S x1 x3 x5 x6 = 0 then nI (sN S) else 0)), (5, .int (nI (ex_lim S x1 x3 x5 x6))), (0, .ref b), (1, .ref (f0 f)), (2, .ref o), (3, .ref ot), (4, .int (nI (7 * j)))]) hx hb dL_law_857 hl (by decide) rfl (fun ls hl => ?_)
      refine lv_aload_n hx hb dL_law_859 rfl (lv_at hl 4 rfl) ?_
      refine mw_callV (C := RX4) (As := []) (rest := []) hx hb hml hown hl (kX4_thrown l htr G H.size M2 o A (nI (ex_lim S x1 x3 x5 x6)) z2 (if ex_lim S x1 x3 x5 x6 = 0 then fs_push S (re_signs S x1 0 x3 0 x5 x6) else S) hmR2) (g_B (n := 0) htb wd592 wd3 wd589 (by decide +kernel) ⟨Nat.le_of_ble_eq_true rfl, Nat.le_of_ble_eq_true rfl⟩) (htb _ wd590) (htb _ wd591) hE hP hS hT92.1 rfl rfl rfl (Nat.le_of_ble_eq_true rfl) dL_law_860 ⟨show C + 20 + 0 + 0 ≤ 601024 from by omega, show D + 900 + 0 + 0 ≤ 7293034 from by omega⟩ (fun v9 M9 H locs hpo hP hz hS => ?_) (fun x9 E9 cell9 H9 locs9 hE9 => hE9.elim)
      obtain ⟨rfl, rfl⟩ := hpo
      refine W.eq (g2 := F0 m 863 ls [.int (nI (ex_lim S x1 x3 x5 x6))]) rfl ?_
      refine lv_iload hx hb dL_law_863 (lv_at hl 1 rfl) ?_
      refine lv_icmp_eq (tgt := 870) hx hb dL_law_865 (by decide) (fun c_5 => ?_) (fun c_5 => absurd rfl c_5)
      refine lv_iload hx hb dL_law_870 (lv_at hl 1 rfl) ?_
      refine lv_if_ne (tgt := 887) hx hb dL_law_872 (by decide) (fun c_6 => ?_) (fun c_6 => ?_)
      · refine lv_goto (tgt := 1383) hx hb dL_law_887 (by decide) ?_
        refine W.widen (k := C + 30) (n := D + 1000) (show C + 20 + 0 + 0 ≤ C + 30 by omega) (show D + 900 + 0 + 0 ≤ D + 1000 by omega) ?_
        exact K _ _ _ _ _ hI2 hP hS (lv_sub hl [2, 3, 4, 5, 6] rfl)
      · refine lv_aload_n hx hb dL_law_875 rfl (lv_at hl 5 rfl) ?_
        refine lv_iconst (v := 0) hx hb dL_law_876 (by decide) ?_
        refine mw_lald hx hb hK hP 3 hot2 rfl (by unfold vp_in; decide) dL_law_877 ?_
        have hex : ex_lim S x1 x3 x5 x6 = 0 := ex0 (by unfold ex_lim; exact le4_ite (by decide) (le4_ite (by decide) (le4_ite (by decide) (by decide)))) c_6
        have hg0 := hφ hex
        refine W.eq (g2 := F0 m 878 ls [.long (nI (sN S)).toInt64]) (show F0 m 878 ls [.long (g2 0)] = _ from by rw [hg0]) ?_
        refine lv_iload hx hb dL_law_878 (lv_at hl 0 rfl) ?_
        refine lv_i2l hx hb dL_law_880 rfl ?_
        refine W.eq (g2 := F0 m 881 ls [.long (nI (sN S)).toInt64, .long (nI (sN S)).toInt64]) (by rw [if_pos hex]) ?_
        refine mw_lcmpE hx hb dL_law_881 ?_
        refine lv_if_eq (tgt := 887) hx hb dL_law_882 (by decide) (fun c_7 => ?_) (fun c_7 => absurd (by decide) c_7)
        refine lv_goto (tgt := 1383) hx hb dL_law_887 (by decide) ?_
        refine W.widen (k := C + 30) (n := D + 1000) (show C + 20 + 0 + 0 ≤ C + 30 by omega) (show D + 900 + 0 + 0 ≤ D + 1000 by omega) ?_
        exact K _ _ _ _ _ hI2 hP hS (lv_sub hl [2, 3, 4, 5, 6] rfl)
    · refine lv_iconst (v := 1) hx hb dL_law_776 (by decide) ?_
      refine lv_goto (tgt := 781) hx hb dL_law_777 (by decide) ?_
      refine lv_aload_n hx hb dL_law_781 rfl (lv_at hl 0 rfl) ?_
      refine lv_iload hx hb dL_law_782 (lv_at hl 4 rfl) ?_
      refine lv_iconst (v := 5) hx hb dL_law_784 (by decide) ?_
      refine lv_iadd hx hb dL_law_785 ?_
      refine va_sld hx hb hXs hbl hbA hS (by rw [e_5]; exact vp_in_nI (show 7 * j + 5 < L by omega) (by omega)) dL_law_786 ?_
      refine W.eq (g2 := F0 m 787 ls [.int x5, .int 1, .int x3, .int 0, .int x1, .ref (f0 f)]) (by rw [e_5, nI_clamp (show 7 * j + 5 < 2 ^ 31 by omega), ← hx5]) ?_
      refine lv_aload_n hx hb dL_law_787 rfl (lv_at hl 0 rfl) ?_
      refine lv_iload hx hb dL_law_788 (lv_at hl 4 rfl) ?_
      refine lv_bipush (v := 6) hx hb dL_law_790 (by decide) ?_
      refine lv_iadd hx hb dL_law_792 ?_
      refine va_sld hx hb hXs hbl hbA hS (by rw [e_6]; exact vp_in_nI (show 7 * j + 6 < L by omega) (by omega)) dL_law_793 ?_
      refine W.eq (g2 := F0 m 794 ls [.int x6, .int x5, .int 1, .int x3, .int 0, .int x1, .ref (f0 f)]) (by rw [e_6, nI_clamp (show 7 * j + 6 < 2 ^ 31 by omega), ← hx6]) ?_
      refine lv_aload_n hx hb dL_law_794 rfl (lv_at hl 3 rfl) ?_
      refine mw_callN (As := [.ref (f0 f), .int x1, .int 0, .int x3, .int 1, .int x5, .int x6, .ref ot]) (rest := []) hx hb hml hown hl (kL_signs l htr G H.size M f S hI.1 hI.2.2.2.2 (fun q h => hAn q (Nat.le_trans hS.1 h)) ot g0 hot J.2.1.2.1 J.2.1.1 J.2.1.2.2.2 x1 0 x3 1 x5 x6) (g_BW (n := 8) htb wd432 wd0 wd430 (by decide +kernel) ⟨Nat.le_of_ble_eq_true rfl, Nat.le_of_ble_eq_true rfl⟩) (htb _ wd431) hE hN hP hS rfl rfl (Nat.le_of_ble_eq_true rfl) dL_law_795 ⟨show C + 20 ≤ 601024 from by omega, show D + 900 ≤ 7293034 from by omega⟩ (fun v9 M9 H locs hpo hP hz hS => ?_)
      obtain ⟨rfl, ho1, hR1, hk1⟩ := hpo
      obtain ⟨M1, hM1⟩ : ∃ z9 : mw_M, z9 = M9 := ⟨_, rfl⟩
      rw [← hM1] at hP ho1 hR1 hk1
      obtain ⟨th, z, hmR⟩ := lw_w1 J hI hk1
      obtain ⟨np, bg, g9, hT9, -⟩ := id hmR
      refine W.eq (g2 := F0 m 798 ls [.int (nI (ex_lim S x1 x3 x5 x6))]) rfl ?_
      refine lv_istore (lv' := [(5, .int (nI (ex_lim S x1 x3 x5 x6))), (0, .ref b), (1, .ref (f0 f)), (2, .ref o), (3, .ref ot), (4, .int (nI (7 * j)))]) hx hb dL_law_798 hl (by decide) rfl (fun ls hl => ?_)
      refine lv_aload_n hx hb dL_law_800 rfl (lv_at hl 3 rfl) ?_
      refine lv_aload_n hx hb dL_law_801 rfl (lv_at hl 1 rfl) ?_
      refine lv_iload hx hb dL_law_802 (lv_at hl 5 rfl) ?_
      refine lv_iconst (v := 1) hx hb dL_law_804 (by decide) ?_
      refine lv_iadd hx hb dL_law_805 ?_
      refine va_sld hx hb hXs hbl hbA hS (by rw [e_1]; exact vp_in_nI (show 7 * j + 1 < L by omega) (by omega)) dL_law_806 ?_
      refine W.eq (g2 := F0 m 807 ls [.int x1, .ref o]) (by rw [e_1, nI_clamp (show 7 * j + 1 < 2 ^ 31 by omega), ← hx1]) ?_
      refine lv_aload_n hx hb dL_law_807 rfl (lv_at hl 1 rfl) ?_
      refine lv_iload hx hb dL_law_808 (lv_at hl 5 rfl) ?_
      refine lv_iconst (v := 2) hx hb dL_law_810 (by decide) ?_
      refine lv_iadd hx hb dL_law_811 ?_
      refine va_sld hx hb hXs hbl hbA hS (by rw [e_2]; exact vp_in_nI (show 7 * j + 2 < L by omega) (by omega)) dL_law_812 ?_
      refine W.eq (g2 := F0 m 813 ls [.int x2, .int x1, .ref o]) (by rw [e_2, nI_clamp (show 7 * j + 2 < 2 ^ 31 by omega), ← hx2]) ?_
      refine lv_if_eq (tgt := 820) hx hb dL_law_813 (by decide) (fun c_8 => ?_) (fun c_8 => absurd c_1 c_8)
      refine lv_iconst (v := 0) hx hb dL_law_820 (by decide) ?_
      refine lv_aload_n hx hb dL_law_821 rfl (lv_at hl 1 rfl) ?_
      refine lv_iload hx hb dL_law_822 (lv_at hl 5 rfl) ?_
      refine lv_iconst (v := 3) hx hb dL_law_824 (by decide) ?_
      refine lv_iadd hx hb dL_law_825 ?_
      refine va_sld hx hb hXs hbl hbA hS (by rw [e_3]; exact vp_in_nI (show 7 * j + 3 < L by omega) (by omega)) dL_law_826 ?_
      refine W.eq (g2 := F0 m 827 ls [.int x3, .int 0, .int x1, .ref o]) (by rw [e_3, nI_clamp (show 7 * j + 3 < 2 ^ 31 by omega), ← hx3]) ?_
      refine lv_aload_n hx hb dL_law_827 rfl (lv_at hl 1 rfl) ?_
      refine lv_iload hx hb dL_law_828 (lv_at hl 5 rfl) ?_
      refine lv_iconst (v := 4) hx hb dL_law_830 (by decide) ?_
      refine lv_iadd hx hb dL_law_831 ?_
      refine va_sld hx hb hXs hbl hbA hS (by rw [e_4]; exact vp_in_nI (show 7 * j + 4 < L by omega) (by omega)) dL_law_832 ?_
      refine W.eq (g2 := F0 m 833 ls [.int x4, .int x3, .int 0, .int x1, .ref o]) (by rw [e_4, nI_clamp (show 7 * j + 4 < 2 ^ 31 by omega), ← hx4]) ?_
      refine lv_if_eq (tgt := 840) hx hb dL_law_833 (by decide) (fun c_9 => absurd c_9 c_2) (fun c_9 => ?_)
      refine lv_iconst (v := 1) hx hb dL_law_836 (by decide) ?_
      refine lv_goto (tgt := 841) hx hb dL_law_837 (by decide) ?_
      refine lv_aload_n hx hb dL_law_841 rfl (lv_at hl 1 rfl) ?_
      refine lv_iload hx hb dL_law_842 (lv_at hl 5 rfl) ?_
      refine lv_iconst (v := 5) hx hb dL_law_844 (by decide) ?_
      refine lv_iadd hx hb dL_law_845 ?_
      refine va_sld hx hb hXs hbl hbA hS (by rw [e_5]; exact vp_in_nI (show 7 * j + 5 < L by omega) (by omega)) dL_law_846 ?_
      refine W.eq (g2 := F0 m 847 ls [.int x5, .int 1, .int x3, .int 0, .int x1, .ref o]) (by rw [e_5, nI_clamp (show 7 * j + 5 < 2 ^ 31 by omega), ← hx5]) ?_
      refine lv_aload_n hx hb dL_law_847 rfl (lv_at hl 1 rfl) ?_
      refine lv_iload hx hb dL_law_848 (lv_at hl 5 rfl) ?_
      refine lv_bipush (v := 6) hx hb dL_law_850 (by decide) ?_
      refine lv_iadd hx hb dL_law_852 ?_
      refine va_sld hx hb hXs hbl hbA hS (by rw [e_6]; exact vp_in_nI (show 7 * j + 6 < L by omega) (by omega)) dL_law_853 ?_
      refine W.eq (g2 := F0 m 854 ls [.int x6, .int x5, .int 1, .int x3, .int 0, .int x1, .ref o]) (by rw [e_6, nI_clamp (show 7 * j + 6 < 2 ^ 31 by omega), ← hx6]) ?_
      refine mw_callV (C := RX4) (As := [.int x1, .int 0, .int x3, .int 1, .int x5, .int x6]) (rest := []) hx hb hml hown hl (kX4_signs l htr G H.size M1 o A th z S hmR hI.1.ok x1 0 x3 1 x5 x6) (g_B (n := 6) htb wd693 wd3 wd690 (by decide +kernel) ⟨Nat.le_of_ble_eq_true rfl, Nat.le_of_ble_eq_true rfl⟩) (htb _ wd691) (htb _ wd692) hE hP hS hT9.1 rfl rfl rfl (Nat.le_of_ble_eq_true rfl) dL_law_854 ⟨show C + 20 + 0 ≤ 601024 from by omega, show D + 900 + 0 ≤ 7293034 from by omega⟩ (fun v9 M9 H locs hpo hP hz hS => ?_) (fun x9 E9 cell9 H9 locs9 hE9 => hE9.elim)
      have hmk := hpo
      obtain ⟨rfl, -, -⟩ := hpo
      obtain ⟨M2, hM2⟩ : ∃ z9 : mw_M, z9 = M9 := ⟨_, rfl⟩
      rw [← hM2] at hP hmk
      obtain ⟨hI2, ⟨g2, hot2, hφ⟩, z2, hmR2⟩ := lw_w2 J hI hk1 hR1 ho1 hmk
      obtain ⟨np2, bg2, g92, hT92, -⟩ := id hmR2
      refine W.eq (g2 := F0 m 857 ls [.int (if ex_lim S x1 x3 x5 x6 = 0 then nI (sN S) else 0)]) rfl ?_
      refine lv_istore (lv' := [(6, .int (if ex_lim S x1 x3 x5 x6 = 0 then nI (sN S) else 0)), (5, .int (nI (ex_lim S x1 x3 x5 x6))), (0, .ref b), (1, .ref (f0 f)), (2, .ref o), (3, .ref ot), (4, .int (nI (7 * j)))]) hx hb dL_law_857 hl (by decide) rfl (fun ls hl => ?_)
      refine lv_aload_n hx hb dL_law_859 rfl (lv_at hl 4 rfl) ?_
      refine mw_callV (C := RX4) (As := []) (rest := []) hx hb hml hown hl (kX4_thrown l htr G H.size M2 o A (nI (ex_lim S x1 x3 x5 x6)) z2 (if ex_lim S x1 x3 x5 x6 = 0 then fs_push S (re_signs S x1 0 x3 1 x5 x6) else S) hmR2) (g_B (n := 0) htb wd592 wd3 wd589 (by decide +kernel) ⟨Nat.le_of_ble_eq_true rfl, Nat.le_of_ble_eq_true rfl⟩) (htb _ wd590) (htb _ wd591) hE hP hS hT92.1 rfl rfl rfl (Nat.le_of_ble_eq_true rfl) dL_law_860 ⟨show C + 20 + 0 + 0 ≤ 601024 from by omega, show D + 900 + 0 + 0 ≤ 7293034 from by omega⟩ (fun v9 M9 H locs hpo hP hz hS => ?_) (fun x9 E9 cell9 H9 locs9 hE9 => hE9.elim)
      obtain ⟨rfl, rfl⟩ := hpo
      refine W.eq (g2 := F0 m 863 ls [.int (nI (ex_lim S x1 x3 x5 x6))]) rfl ?_
      refine lv_iload hx hb dL_law_863 (lv_at hl 1 rfl) ?_
      refine lv_icmp_eq (tgt := 870) hx hb dL_law_865 (by decide) (fun c_10 => ?_) (fun c_10 => absurd rfl c_10)
      refine lv_iload hx hb dL_law_870 (lv_at hl 1 rfl) ?_
      refine lv_if_ne (tgt := 887) hx hb dL_law_872 (by decide) (fun c_11 => ?_) (fun c_11 => ?_)
      · refine lv_goto (tgt := 1383) hx hb dL_law_887 (by decide) ?_
        refine W.widen (k := C + 30) (n := D + 1000) (show C + 20 + 0 + 0 ≤ C + 30 by omega) (show D + 900 + 0 + 0 ≤ D + 1000 by omega) ?_
        exact K _ _ _ _ _ hI2 hP hS (lv_sub hl [2, 3, 4, 5, 6] rfl)
      · refine lv_aload_n hx hb dL_law_875 rfl (lv_at hl 5 rfl) ?_
        refine lv_iconst (v := 0) hx hb dL_law_876 (by decide) ?_
        refine mw_lald hx hb hK hP 3 hot2 rfl (by unfold vp_in; decide) dL_law_877 ?_
        have hex : ex_lim S x1 x3 x5 x6 = 0 := ex0 (by unfold ex_lim; exact le4_ite (by decide) (le4_ite (by decide) (le4_ite (by decide) (by decide)))) c_11
        have hg0 := hφ hex
        refine W.eq (g2 := F0 m 878 ls [.long (nI (sN S)).toInt64]) (show F0 m 878 ls [.long (g2 0)] = _ from by rw [hg0]) ?_
        refine lv_iload hx hb dL_law_878 (lv_at hl 0 rfl) ?_
        refine lv_i2l hx hb dL_law_880 rfl ?_
        refine W.eq (g2 := F0 m 881 ls [.long (nI (sN S)).toInt64, .long (nI (sN S)).toInt64]) (by rw [if_pos hex]) ?_
        refine mw_lcmpE hx hb dL_law_881 ?_
        refine lv_if_eq (tgt := 887) hx hb dL_law_882 (by decide) (fun c_12 => ?_) (fun c_12 => absurd (by decide) c_12)
        refine lv_goto (tgt := 1383) hx hb dL_law_887 (by decide) ?_
        refine W.widen (k := C + 30) (n := D + 1000) (show C + 20 + 0 + 0 ≤ C + 30 by omega) (show D + 900 + 0 + 0 ≤ D + 1000 by omega) ?_
        exact K _ _ _ _ _ hI2 hP hS (lv_sub hl [2, 3, 4, 5, 6] rfl)
  · refine lv_iconst (v := 1) hx hb dL_law_756 (by decide) ?_
    refine lv_goto (tgt := 761) hx hb dL_law_757 (by decide) ?_
    refine lv_aload_n hx hb dL_law_761 rfl (lv_at hl 0 rfl) ?_
    refine lv_iload hx hb dL_law_762 (lv_at hl 4 rfl) ?_
    refine lv_iconst (v := 3) hx hb dL_law_764 (by decide) ?_
    refine lv_iadd hx hb dL_law_765 ?_
    refine va_sld hx hb hXs hbl hbA hS (by rw [e_3]; exact vp_in_nI (show 7 * j + 3 < L by omega) (by omega)) dL_law_766 ?_
    refine W.eq (g2 := F0 m 767 ls [.int x3, .int 1, .int x1, .ref (f0 f)]) (by rw [e_3, nI_clamp (show 7 * j + 3 < 2 ^ 31 by omega), ← hx3]) ?_
    refine lv_aload_n hx hb dL_law_767 rfl (lv_at hl 0 rfl) ?_
    refine lv_iload hx hb dL_law_768 (lv_at hl 4 rfl) ?_
    refine lv_iconst (v := 4) hx hb dL_law_770 (by decide) ?_
    refine lv_iadd hx hb dL_law_771 ?_
    refine va_sld hx hb hXs hbl hbA hS (by rw [e_4]; exact vp_in_nI (show 7 * j + 4 < L by omega) (by omega)) dL_law_772 ?_
    refine W.eq (g2 := F0 m 773 ls [.int x4, .int x3, .int 1, .int x1, .ref (f0 f)]) (by rw [e_4, nI_clamp (show 7 * j + 4 < 2 ^ 31 by omega), ← hx4]) ?_
    refine lv_if_eq (tgt := 780) hx hb dL_law_773 (by decide) (fun c_13 => ?_) (fun c_13 => ?_)
    · refine lv_iconst (v := 0) hx hb dL_law_780 (by decide) ?_
      refine lv_aload_n hx hb dL_law_781 rfl (lv_at hl 0 rfl) ?_
      refine lv_iload hx hb dL_law_782 (lv_at hl 4 rfl) ?_
      refine lv_iconst (v := 5) hx hb dL_law_784 (by decide) ?_
      refine lv_iadd hx hb dL_law_785 ?_
      refine va_sld hx hb hXs hbl hbA hS (by rw [e_5]; exact vp_in_nI (show 7 * j + 5 < L by omega) (by omega)) dL_law_786 ?_
      refine W.eq (g2 := F0 m 787 ls [.int x5, .int 0, .int x3, .int 1, .int x1, .ref (f0 f)]) (by rw [e_5, nI_clamp (show 7 * j + 5 < 2 ^ 31 by omega), ← hx5]) ?_
      refine lv_aload_n hx hb dL_law_787 rfl (lv_at hl 0 rfl) ?_
      refine lv_iload hx hb dL_law_788 (lv_at hl 4 rfl) ?_
      refine lv_bipush (v := 6) hx hb dL_law_790 (by decide) ?_
      refine lv_iadd hx hb dL_law_792 ?_
      refine va_sld hx hb hXs hbl hbA hS (by rw [e_6]; exact vp_in_nI (show 7 * j + 6 < L by omega) (by omega)) dL_law_793 ?_
      refine W.eq (g2 := F0 m 794 ls [.int x6, .int x5, .int 0, .int x3, .int 1, .int x1, .ref (f0 f)]) (by rw [e_6, nI_clamp (show 7 * j + 6 < 2 ^ 31 by omega), ← hx6]) ?_
      refine lv_aload_n hx hb dL_law_794 rfl (lv_at hl 3 rfl) ?_
      refine mw_callN (As := [.ref (f0 f), .int x1, .int 1, .int x3, .int 0, .int x5, .int x6, .ref ot]) (rest := []) hx hb hml hown hl (kL_signs l htr G H.size M f S hI.1 hI.2.2.2.2 (fun q h => hAn q (Nat.le_trans hS.1 h)) ot g0 hot J.2.1.2.1 J.2.1.1 J.2.1.2.2.2 x1 1 x3 0 x5 x6) (g_BW (n := 8) htb wd432 wd0 wd430 (by decide +kernel) ⟨Nat.le_of_ble_eq_true rfl, Nat.le_of_ble_eq_true rfl⟩) (htb _ wd431) hE hN hP hS rfl rfl (Nat.le_of_ble_eq_true rfl) dL_law_795 ⟨show C + 20 ≤ 601024 from by omega, show D + 900 ≤ 7293034 from by omega⟩ (fun v9 M9 H locs hpo hP hz hS => ?_)
      obtain ⟨rfl, ho1, hR1, hk1⟩ := hpo
      obtain ⟨M1, hM1⟩ : ∃ z9 : mw_M, z9 = M9 := ⟨_, rfl⟩
      rw [← hM1] at hP ho1 hR1 hk1
      obtain ⟨th, z, hmR⟩ := lw_w1 J hI hk1
      obtain ⟨np, bg, g9, hT9, -⟩ := id hmR
      refine W.eq (g2 := F0 m 798 ls [.int (nI (ex_lim S x1 x3 x5 x6))]) rfl ?_
      refine lv_istore (lv' := [(5, .int (nI (ex_lim S x1 x3 x5 x6))), (0, .ref b), (1, .ref (f0 f)), (2, .ref o), (3, .ref ot), (4, .int (nI (7 * j)))]) hx hb dL_law_798 hl (by decide) rfl (fun ls hl => ?_)
      refine lv_aload_n hx hb dL_law_800 rfl (lv_at hl 3 rfl) ?_
      refine lv_aload_n hx hb dL_law_801 rfl (lv_at hl 1 rfl) ?_
      refine lv_iload hx hb dL_law_802 (lv_at hl 5 rfl) ?_
      refine lv_iconst (v := 1) hx hb dL_law_804 (by decide) ?_
      refine lv_iadd hx hb dL_law_805 ?_
      refine va_sld hx hb hXs hbl hbA hS (by rw [e_1]; exact vp_in_nI (show 7 * j + 1 < L by omega) (by omega)) dL_law_806 ?_
      refine W.eq (g2 := F0 m 807 ls [.int x1, .ref o]) (by rw [e_1, nI_clamp (show 7 * j + 1 < 2 ^ 31 by omega), ← hx1]) ?_
      refine lv_aload_n hx hb dL_law_807 rfl (lv_at hl 1 rfl) ?_
      refine lv_iload hx hb dL_law_808 (lv_at hl 5 rfl) ?_
      refine lv_iconst (v := 2) hx hb dL_law_810 (by decide) ?_
      refine lv_iadd hx hb dL_law_811 ?_
      refine va_sld hx hb hXs hbl hbA hS (by rw [e_2]; exact vp_in_nI (show 7 * j + 2 < L by omega) (by omega)) dL_law_812 ?_
      refine W.eq (g2 := F0 m 813 ls [.int x2, .int x1, .ref o]) (by rw [e_2, nI_clamp (show 7 * j + 2 < 2 ^ 31 by omega), ← hx2]) ?_
      refine lv_if_eq (tgt := 820) hx hb dL_law_813 (by decide) (fun c_14 => absurd c_14 c_1) (fun c_14 => ?_)
      refine lv_iconst (v := 1) hx hb dL_law_816 (by decide) ?_
      refine lv_goto (tgt := 821) hx hb dL_law_817 (by decide) ?_
      refine lv_aload_n hx hb dL_law_821 rfl (lv_at hl 1 rfl) ?_
      refine lv_iload hx hb dL_law_822 (lv_at hl 5 rfl) ?_
      refine lv_iconst (v := 3) hx hb dL_law_824 (by decide) ?_
      refine lv_iadd hx hb dL_law_825 ?_
      refine va_sld hx hb hXs hbl hbA hS (by rw [e_3]; exact vp_in_nI (show 7 * j + 3 < L by omega) (by omega)) dL_law_826 ?_
      refine W.eq (g2 := F0 m 827 ls [.int x3, .int 1, .int x1, .ref o]) (by rw [e_3, nI_clamp (show 7 * j + 3 < 2 ^ 31 by omega), ← hx3]) ?_
      refine lv_aload_n hx hb dL_law_827 rfl (lv_at hl 1 rfl) ?_
      refine lv_iload hx hb dL_law_828 (lv_at hl 5 rfl) ?_
      refine lv_iconst (v := 4) hx hb dL_law_830 (by decide) ?_
      refine lv_iadd hx hb dL_law_831 ?_
      refine va_sld hx hb hXs hbl hbA hS (by rw [e_4]; exact vp_in_nI (show 7 * j + 4 < L by omega) (by omega)) dL_law_832 ?_
      refine W.eq (g2 := F0 m 833 ls [.int x4, .int x3, .int 1, .int x1, .ref o]) (by rw [e_4, nI_clamp (show 7 * j + 4 < 2 ^ 31 by omega), ← hx4]) ?_
      refine lv_if_eq (tgt := 840) hx hb dL_law_833 (by decide) (fun c_15 => ?_) (fun c_15 => absurd c_13 c_15)
      refine lv_iconst (v := 0) hx hb dL_law_840 (by decide) ?_
      refine lv_aload_n hx hb dL_law_841 rfl (lv_at hl 1 rfl) ?_
      refine lv_iload hx hb dL_law_842 (lv_at hl 5 rfl) ?_
      refine lv_iconst (v := 5) hx hb dL_law_844 (by decide) ?_
      refine lv_iadd hx hb dL_law_845 ?_
      refine va_sld hx hb hXs hbl hbA hS (by rw [e_5]; exact vp_in_nI (show 7 * j + 5 < L by omega) (by omega)) dL_law_846 ?_
      refine W.eq (g2 := F0 m 847 ls [.int x5, .int 0, .int x3, .int 1, .int x1, .ref o]) (by rw [e_5, nI_clamp (show 7 * j + 5 < 2 ^ 31 by omega), ← hx5]) ?_
      refine lv_aload_n hx hb dL_law_847 rfl (lv_at hl 1 rfl) ?_
      refine lv_iload hx hb dL_law_848 (lv_at hl 5 rfl) ?_
      refine lv_bipush (v := 6) hx hb dL_law_850 (by decide) ?_
      refine lv_iadd hx hb dL_law_852 ?_
      refine va_sld hx hb hXs hbl hbA hS (by rw [e_6]; exact vp_in_nI (show 7 * j + 6 < L by omega) (by omega)) dL_law_853 ?_
      refine W.eq (g2 := F0 m 854 ls [.int x6, .int x5, .int 0, .int x3, .int 1, .int x1, .ref o]) (by rw [e_6, nI_clamp (show 7 * j + 6 < 2 ^ 31 by omega), ← hx6]) ?_
      refine mw_callV (C := RX4) (As := [.int x1, .int 1, .int x3, .int 0, .int x5, .int x6]) (rest := []) hx hb hml hown hl (kX4_signs l htr G H.size M1 o A th z S hmR hI.1.ok x1 1 x3 0 x5 x6) (g_B (n := 6) htb wd693 wd3 wd690 (by decide +kernel) ⟨Nat.le_of_ble_eq_true rfl, Nat.le_of_ble_eq_true rfl⟩) (htb _ wd691) (htb _ wd692) hE hP hS hT9.1 rfl rfl rfl (Nat.le_of_ble_eq_true rfl) dL_law_854 ⟨show C + 20 + 0 ≤ 601024 from by omega, show D + 900 + 0 ≤ 7293034 from by omega⟩ (fun v9 M9 H locs hpo hP hz hS => ?_) (fun x9 E9 cell9 H9 locs9 hE9 => hE9.elim)
      have hmk := hpo
      obtain ⟨rfl, -, -⟩ := hpo
      obtain ⟨M2, hM2⟩ : ∃ z9 : mw_M, z9 = M9 := ⟨_, rfl⟩
      rw [← hM2] at hP hmk
      obtain ⟨hI2, ⟨g2, hot2, hφ⟩, z2, hmR2⟩ := lw_w2 J hI hk1 hR1 ho1 hmk
      obtain ⟨np2, bg2, g92, hT92, -⟩ := id hmR2
      refine W.eq (g2 := F0 m 857 ls [.int (if ex_lim S x1 x3 x5 x6 = 0 then nI (sN S) else 0)]) rfl ?_
      refine lv_istore (lv' := [(6, .int (if ex_lim S x1 x3 x5 x6 = 0 then nI (sN S) else 0)), (5, .int (nI (ex_lim S x1 x3 x5 x6))), (0, .ref b), (1, .ref (f0 f)), (2, .ref o), (3, .ref ot), (4, .int (nI (7 * j)))]) hx hb dL_law_857 hl (by decide) rfl (fun ls hl => ?_)
      refine lv_aload_n hx hb dL_law_859 rfl (lv_at hl 4 rfl) ?_
      refine mw_callV (C := RX4) (As := []) (rest := []) hx hb hml hown hl (kX4_thrown l htr G H.size M2 o A (nI (ex_lim S x1 x3 x5 x6)) z2 (if ex_lim S x1 x3 x5 x6 = 0 then fs_push S (re_signs S x1 1 x3 0 x5 x6) else S) hmR2) (g_B (n := 0) htb wd592 wd3 wd589 (by decide +kernel) ⟨Nat.le_of_ble_eq_true rfl, Nat.le_of_ble_eq_true rfl⟩) (htb _ wd590) (htb _ wd591) hE hP hS hT92.1 rfl rfl rfl (Nat.le_of_ble_eq_true rfl) dL_law_860 ⟨show C + 20 + 0 + 0 ≤ 601024 from by omega, show D + 900 + 0 + 0 ≤ 7293034 from by omega⟩ (fun v9 M9 H locs hpo hP hz hS => ?_) (fun x9 E9 cell9 H9 locs9 hE9 => hE9.elim)
      obtain ⟨rfl, rfl⟩ := hpo
      refine W.eq (g2 := F0 m 863 ls [.int (nI (ex_lim S x1 x3 x5 x6))]) rfl ?_
      refine lv_iload hx hb dL_law_863 (lv_at hl 1 rfl) ?_
      refine lv_icmp_eq (tgt := 870) hx hb dL_law_865 (by decide) (fun c_16 => ?_) (fun c_16 => absurd rfl c_16)
      refine lv_iload hx hb dL_law_870 (lv_at hl 1 rfl) ?_
      refine lv_if_ne (tgt := 887) hx hb dL_law_872 (by decide) (fun c_17 => ?_) (fun c_17 => ?_)
      · refine lv_goto (tgt := 1383) hx hb dL_law_887 (by decide) ?_
        refine W.widen (k := C + 30) (n := D + 1000) (show C + 20 + 0 + 0 ≤ C + 30 by omega) (show D + 900 + 0 + 0 ≤ D + 1000 by omega) ?_
        exact K _ _ _ _ _ hI2 hP hS (lv_sub hl [2, 3, 4, 5, 6] rfl)
      · refine lv_aload_n hx hb dL_law_875 rfl (lv_at hl 5 rfl) ?_
        refine lv_iconst (v := 0) hx hb dL_law_876 (by decide) ?_
        refine mw_lald hx hb hK hP 3 hot2 rfl (by unfold vp_in; decide) dL_law_877 ?_
        have hex : ex_lim S x1 x3 x5 x6 = 0 := ex0 (by unfold ex_lim; exact le4_ite (by decide) (le4_ite (by decide) (le4_ite (by decide) (by decide)))) c_17
        have hg0 := hφ hex
        refine W.eq (g2 := F0 m 878 ls [.long (nI (sN S)).toInt64]) (show F0 m 878 ls [.long (g2 0)] = _ from by rw [hg0]) ?_
        refine lv_iload hx hb dL_law_878 (lv_at hl 0 rfl) ?_
        refine lv_i2l hx hb dL_law_880 rfl ?_
        refine W.eq (g2 := F0 m 881 ls [.long (nI (sN S)).toInt64, .long (nI (sN S)).toInt64]) (by rw [if_pos hex]) ?_
        refine mw_lcmpE hx hb dL_law_881 ?_
        refine lv_if_eq (tgt := 887) hx hb dL_law_882 (by decide) (fun c_18 => ?_) (fun c_18 => absurd (by decide) c_18)
        refine lv_goto (tgt := 1383) hx hb dL_law_887 (by decide) ?_
        refine W.widen (k := C + 30) (n := D + 1000) (show C + 20 + 0 + 0 ≤ C + 30 by omega) (show D + 900 + 0 + 0 ≤ D + 1000 by omega) ?_
        exact K _ _ _ _ _ hI2 hP hS (lv_sub hl [2, 3, 4, 5, 6] rfl)
    · refine lv_iconst (v := 1) hx hb dL_law_776 (by decide) ?_
      refine lv_goto (tgt := 781) hx hb dL_law_777 (by decide) ?_
      refine lv_aload_n hx hb dL_law_781 rfl (lv_at hl 0 rfl) ?_
      refine lv_iload hx hb dL_law_782 (lv_at hl 4 rfl) ?_
      refine lv_iconst (v := 5) hx hb dL_law_784 (by decide) ?_
      refine lv_iadd hx hb dL_law_785 ?_
      refine va_sld hx hb hXs hbl hbA hS (by rw [e_5]; exact vp_in_nI (show 7 * j + 5 < L by omega) (by omega)) dL_law_786 ?_
      refine W.eq (g2 := F0 m 787 ls [.int x5, .int 1, .int x3, .int 1, .int x1, .ref (f0 f)]) (by rw [e_5, nI_clamp (show 7 * j + 5 < 2 ^ 31 by omega), ← hx5]) ?_
      refine lv_aload_n hx hb dL_law_787 rfl (lv_at hl 0 rfl) ?_
      refine lv_iload hx hb dL_law_788 (lv_at hl 4 rfl) ?_
      refine lv_bipush (v := 6) hx hb dL_law_790 (by decide) ?_
      refine lv_iadd hx hb dL_law_792 ?_
      refine va_sld hx hb hXs hbl hbA hS (by rw [e_6]; exact vp_in_nI (show 7 * j + 6 < L by omega) (by omega)) dL_law_793 ?_
      refine W.eq (g2 := F0 m 794 ls [.int x6, .int x5, .int 1, .int x3, .int 1, .int x1, .ref (f0 f)]) (by rw [e_6, nI_clamp (show 7 * j + 6 < 2 ^ 31 by omega), ← hx6]) ?_
      refine lv_aload_n hx hb dL_law_794 rfl (lv_at hl 3 rfl) ?_
      refine mw_callN (As := [.ref (f0 f), .int x1, .int 1, .int x3, .int 1, .int x5, .int x6, .ref ot]) (rest := []) hx hb hml hown hl (kL_signs l htr G H.size M f S hI.1 hI.2.2.2.2 (fun q h => hAn q (Nat.le_trans hS.1 h)) ot g0 hot J.2.1.2.1 J.2.1.1 J.2.1.2.2.2 x1 1 x3 1 x5 x6) (g_BW (n := 8) htb wd432 wd0 wd430 (by decide +kernel) ⟨Nat.le_of_ble_eq_true rfl, Nat.le_of_ble_eq_true rfl⟩) (htb _ wd431) hE hN hP hS rfl rfl (Nat.le_of_ble_eq_true rfl) dL_law_795 ⟨show C + 20 ≤ 601024 from by omega, show D + 900 ≤ 7293034 from by omega⟩ (fun v9 M9 H locs hpo hP hz hS => ?_)
      obtain ⟨rfl, ho1, hR1, hk1⟩ := hpo
      obtain ⟨M1, hM1⟩ : ∃ z9 : mw_M, z9 = M9 := ⟨_, rfl⟩
      rw [← hM1] at hP ho1 hR1 hk1
      obtain ⟨th, z, hmR⟩ := lw_w1 J hI hk1
      obtain ⟨np, bg, g9, hT9, -⟩ := id hmR
      refine W.eq (g2 := F0 m 798 ls [.int (nI (ex_lim S x1 x3 x5 x6))]) rfl ?_
      refine lv_istore (lv' := [(5, .int (nI (ex_lim S x1 x3 x5 x6))), (0, .ref b), (1, .ref (f0 f)), (2, .ref o), (3, .ref ot), (4, .int (nI (7 * j)))]) hx hb dL_law_798 hl (by decide) rfl (fun ls hl => ?_)
      refine lv_aload_n hx hb dL_law_800 rfl (lv_at hl 3 rfl) ?_
      refine lv_aload_n hx hb dL_law_801 rfl (lv_at hl 1 rfl) ?_
      refine lv_iload hx hb dL_law_802 (lv_at hl 5 rfl) ?_
      refine lv_iconst (v := 1) hx hb dL_law_804 (by decide) ?_
      refine lv_iadd hx hb dL_law_805 ?_
      refine va_sld hx hb hXs hbl hbA hS (by rw [e_1]; exact vp_in_nI (show 7 * j + 1 < L by omega) (by omega)) dL_law_806 ?_
      refine W.eq (g2 := F0 m 807 ls [.int x1, .ref o]) (by rw [e_1, nI_clamp (show 7 * j + 1 < 2 ^ 31 by omega), ← hx1]) ?_
      refine lv_aload_n hx hb dL_law_807 rfl (lv_at hl 1 rfl) ?_
      refine lv_iload hx hb dL_law_808 (lv_at hl 5 rfl) ?_
      refine lv_iconst (v := 2) hx hb dL_law_810 (by decide) ?_
      refine lv_iadd hx hb dL_law_811 ?_
      refine va_sld hx hb hXs hbl hbA hS (by rw [e_2]; exact vp_in_nI (show 7 * j + 2 < L by omega) (by omega)) dL_law_812 ?_
      refine W.eq (g2 := F0 m 813 ls [.int x2, .int x1, .ref o]) (by rw [e_2, nI_clamp (show 7 * j + 2 < 2 ^ 31 by omega), ← hx2]) ?_
      refine lv_if_eq (tgt := 820) hx hb dL_law_813 (by decide) (fun c_19 => absurd c_19 c_1) (fun c_19 => ?_)
      refine lv_iconst (v := 1) hx hb dL_law_816 (by decide) ?_
      refine lv_goto (tgt := 821) hx hb dL_law_817 (by decide) ?_
      refine lv_aload_n hx hb dL_law_821 rfl (lv_at hl 1 rfl) ?_
      refine lv_iload hx hb dL_law_822 (lv_at hl 5 rfl) ?_
      refine lv_iconst (v := 3) hx hb dL_law_824 (by decide) ?_
      refine lv_iadd hx hb dL_law_825 ?_
      refine va_sld hx hb hXs hbl hbA hS (by rw [e_3]; exact vp_in_nI (show 7 * j + 3 < L by omega) (by omega)) dL_law_826 ?_
      refine W.eq (g2 := F0 m 827 ls [.int x3, .int 1, .int x1, .ref o]) (by rw [e_3, nI_clamp (show 7 * j + 3 < 2 ^ 31 by omega), ← hx3]) ?_
      refine lv_aload_n hx hb dL_law_827 rfl (lv_at hl 1 rfl) ?_
      refine lv_iload hx hb dL_law_828 (lv_at hl 5 rfl) ?_
      refine lv_iconst (v := 4) hx hb dL_law_830 (by decide) ?_
      refine lv_iadd hx hb dL_law_831 ?_
      refine va_sld hx hb hXs hbl hbA hS (by rw [e_4]; exact vp_in_nI (show 7 * j + 4 < L by omega) (by omega)) dL_law_832 ?_
      refine W.eq (g2 := F0 m 833 ls [.int x4, .int x3, .int 1, .int x1, .ref o]) (by rw [e_4, nI_clamp (show 7 * j + 4 < 2 ^ 31 by omega), ← hx4]) ?_
      refine lv_if_eq (tgt := 840) hx hb dL_law_833 (by decide) (fun c_20 => absurd c_20 c_13) (fun c_20 => ?_)
      refine lv_iconst (v := 1) hx hb dL_law_836 (by decide) ?_
      refine lv_goto (tgt := 841) hx hb dL_law_837 (by decide) ?_
      refine lv_aload_n hx hb dL_law_841 rfl (lv_at hl 1 rfl) ?_
      refine lv_iload hx hb dL_law_842 (lv_at hl 5 rfl) ?_
      refine lv_iconst (v := 5) hx hb dL_law_844 (by decide) ?_
      refine lv_iadd hx hb dL_law_845 ?_
      refine va_sld hx hb hXs hbl hbA hS (by rw [e_5]; exact vp_in_nI (show 7 * j + 5 < L by omega) (by omega)) dL_law_846 ?_
      refine W.eq (g2 := F0 m 847 ls [.int x5, .int 1, .int x3, .int 1, .int x1, .ref o]) (by rw [e_5, nI_clamp (show 7 * j + 5 < 2 ^ 31 by omega), ← hx5]) ?_
      refine lv_aload_n hx hb dL_law_847 rfl (lv_at hl 1 rfl) ?_
      refine lv_iload hx hb dL_law_848 (lv_at hl 5 rfl) ?_
      refine lv_bipush (v := 6) hx hb dL_law_850 (by decide) ?_
      refine lv_iadd hx hb dL_law_852 ?_
      refine va_sld hx hb hXs hbl hbA hS (by rw [e_6]; exact vp_in_nI (show 7 * j + 6 < L by omega) (by omega)) dL_law_853 ?_
      refine W.eq (g2 := F0 m 854 ls [.int x6, .int x5, .int 1, .int x3, .int 1, .int x1, .ref o]) (by rw [e_6, nI_clamp (show 7 * j + 6 < 2 ^ 31 by omega), ← hx6]) ?_
      refine mw_callV (C := RX4) (As := [.int x1, .int 1, .int x3, .int 1, .int x5, .int x6]) (rest := []) hx hb hml hown hl (kX4_signs l htr G H.size M1 o A th z S hmR hI.1.ok x1 1 x3 1 x5 x6) (g_B (n := 6) htb wd693 wd3 wd690 (by decide +kernel) ⟨Nat.le_of_ble_eq_true rfl, Nat.le_of_ble_eq_true rfl⟩) (htb _ wd691) (htb _ wd692) hE hP hS hT9.1 rfl rfl rfl (Nat.le_of_ble_eq_true rfl) dL_law_854 ⟨show C + 20 + 0 ≤ 601024 from by omega, show D + 900 + 0 ≤ 7293034 from by omega⟩ (fun v9 M9 H locs hpo hP hz hS => ?_) (fun x9 E9 cell9 H9 locs9 hE9 => hE9.elim)
      have hmk := hpo
      obtain ⟨rfl, -, -⟩ := hpo
      obtain ⟨M2, hM2⟩ : ∃ z9 : mw_M, z9 = M9 := ⟨_, rfl⟩
      rw [← hM2] at hP hmk
      obtain ⟨hI2, ⟨g2, hot2, hφ⟩, z2, hmR2⟩ := lw_w2 J hI hk1 hR1 ho1 hmk
      obtain ⟨np2, bg2, g92, hT92, -⟩ := id hmR2
      refine W.eq (g2 := F0 m 857 ls [.int (if ex_lim S x1 x3 x5 x6 = 0 then nI (sN S) else 0)]) rfl ?_
      refine lv_istore (lv' := [(6, .int (if ex_lim S x1 x3 x5 x6 = 0 then nI (sN S) else 0)), (5, .int (nI (ex_lim S x1 x3 x5 x6))), (0, .ref b), (1, .ref (f0 f)), (2, .ref o), (3, .ref ot), (4, .int (nI (7 * j)))]) hx hb dL_law_857 hl (by decide) rfl (fun ls hl => ?_)
      refine lv_aload_n hx hb dL_law_859 rfl (lv_at hl 4 rfl) ?_
      refine mw_callV (C := RX4) (As := []) (rest := []) hx hb hml hown hl (kX4_thrown l htr G H.size M2 o A (nI (ex_lim S x1 x3 x5 x6)) z2 (if ex_lim S x1 x3 x5 x6 = 0 then fs_push S (re_signs S x1 1 x3 1 x5 x6) else S) hmR2) (g_B (n := 0) htb wd592 wd3 wd589 (by decide +kernel) ⟨Nat.le_of_ble_eq_true rfl, Nat.le_of_ble_eq_true rfl⟩) (htb _ wd590) (htb _ wd591) hE hP hS hT92.1 rfl rfl rfl (Nat.le_of_ble_eq_true rfl) dL_law_860 ⟨show C + 20 + 0 + 0 ≤ 601024 from by omega, show D + 900 + 0 + 0 ≤ 7293034 from by omega⟩ (fun v9 M9 H locs hpo hP hz hS => ?_) (fun x9 E9 cell9 H9 locs9 hE9 => hE9.elim)
      obtain ⟨rfl, rfl⟩ := hpo
      refine W.eq (g2 := F0 m 863 ls [.int (nI (ex_lim S x1 x3 x5 x6))]) rfl ?_
      refine lv_iload hx hb dL_law_863 (lv_at hl 1 rfl) ?_
      refine lv_icmp_eq (tgt := 870) hx hb dL_law_865 (by decide) (fun c_21 => ?_) (fun c_21 => absurd rfl c_21)
      refine lv_iload hx hb dL_law_870 (lv_at hl 1 rfl) ?_
      refine lv_if_ne (tgt := 887) hx hb dL_law_872 (by decide) (fun c_22 => ?_) (fun c_22 => ?_)
      · refine lv_goto (tgt := 1383) hx hb dL_law_887 (by decide) ?_
        refine W.widen (k := C + 30) (n := D + 1000) (show C + 20 + 0 + 0 ≤ C + 30 by omega) (show D + 900 + 0 + 0 ≤ D + 1000 by omega) ?_
        exact K _ _ _ _ _ hI2 hP hS (lv_sub hl [2, 3, 4, 5, 6] rfl)
      · refine lv_aload_n hx hb dL_law_875 rfl (lv_at hl 5 rfl) ?_
        refine lv_iconst (v := 0) hx hb dL_law_876 (by decide) ?_
        refine mw_lald hx hb hK hP 3 hot2 rfl (by unfold vp_in; decide) dL_law_877 ?_
        have hex : ex_lim S x1 x3 x5 x6 = 0 := ex0 (by unfold ex_lim; exact le4_ite (by decide) (le4_ite (by decide) (le4_ite (by decide) (by decide)))) c_22
        have hg0 := hφ hex
        refine W.eq (g2 := F0 m 878 ls [.long (nI (sN S)).toInt64]) (show F0 m 878 ls [.long (g2 0)] = _ from by rw [hg0]) ?_
        refine lv_iload hx hb dL_law_878 (lv_at hl 0 rfl) ?_
        refine lv_i2l hx hb dL_law_880 rfl ?_
        refine W.eq (g2 := F0 m 881 ls [.long (nI (sN S)).toInt64, .long (nI (sN S)).toInt64]) (by rw [if_pos hex]) ?_
        refine mw_lcmpE hx hb dL_law_881 ?_
        refine lv_if_eq (tgt := 887) hx hb dL_law_882 (by decide) (fun c_23 => ?_) (fun c_23 => absurd (by decide) c_23)
        refine lv_goto (tgt := 1383) hx hb dL_law_887 (by decide) ?_
        refine W.widen (k := C + 30) (n := D + 1000) (show C + 20 + 0 + 0 ≤ C + 30 by omega) (show D + 900 + 0 + 0 ≤ D + 1000 by omega) ?_
        exact K _ _ _ _ _ hI2 hP hS (lv_sub hl [2, 3, 4, 5, 6] rfl)
-- limits
set_option maxHeartbeats 4000000 in
set_option maxRecDepth 100000 in
theorem lwc_9 {p : Program} {l : Launch} {e : Env} {s : State} {m : MethodId} {below : List Frame} {meth : Method} {c : Code} {Q : State → Prop} (G : gx_G) (f : fs_A) (o : Nat) (A : Nat → Nat) (ot : Nat) (gn : Nat → Int32) (b L : Nat) (xs : Nat → Int32) (C0 : lw_C l G p s m c b L xs) (J : lw_J G f o A ot) (j : Nat) (hj : 7 * j + 7 ≤ L) (C D : Nat) (hC : C + 30 ≤ 601024) (hD : D + 1000 ≤ 7293034)
    (K : ∀ (M' : mw_M) (S' : fs_S) (H' : Heap) (locs' : List Loc) (ls' : Array Slot), lw_I G f o A ot gn M' S' → mw_P (gD G) gx_cl M' H' → va_S (gA G) s.heap H' locs' → lv_has ls' 7 [(0, .ref b), (1, .ref (f0 f)), (2, .ref o), (3, .ref ot), (4, .int (nI (7 * j)))] → W p l e room_1 s m #[Value.ref b] below meth c H' locs' (C + 30) (D + 1000) Q (F0 m 1383 ls' []))
    {M : mw_M} {S : fs_S} {H : Heap} {locs : List Loc} {ls : Array Slot} (hI : lw_I G f o A ot gn M S) (hP : mw_P (gD G) gx_cl M H) (hS : va_S (gA G) s.heap H locs) (hl : lv_has ls 7 [(0, .ref b), (1, .ref (f0 f)), (2, .ref o), (3, .ref ot), (4, .int (nI (7 * j)))]) : W p l e room_1 s m #[Value.ref b] below meth c H locs C D Q (F0 m 890 ls []) := by
  obtain ⟨hx, hb, hml, hown, htb, hE, hN, hXs, hbl, hbA, hAn, htr, hL⟩ := C0
  have hK := hE.1
  obtain ⟨g0, hot⟩ := id hI.2.2.1
  obtain ⟨x0, hx0⟩ : ∃ z9, z9 = xs (7 * j) := ⟨_, rfl⟩
  obtain ⟨x1, hx1⟩ : ∃ z9, z9 = xs (7 * j + 1) := ⟨_, rfl⟩
  have e_1 : nI (7 * j) + 1 = nI (7 * j + 1) := nI_add _ 1
  obtain ⟨x2, hx2⟩ : ∃ z9, z9 = xs (7 * j + 2) := ⟨_, rfl⟩
  have e_2 : nI (7 * j) + 2 = nI (7 * j + 2) := nI_add _ 2
  obtain ⟨x3, hx3⟩ : ∃ z9, z9 = xs (7 * j + 3) := ⟨_, rfl⟩
  have e_3 : nI (7 * j) + 3 = nI (7 * j + 3) := nI_add _ 3
  obtain ⟨x4, hx4⟩ : ∃ z9, z9 = xs (7 * j + 4) := ⟨_, rfl⟩
  have e_4 : nI (7 * j) + 4 = nI (7 * j + 4) := nI_add _ 4
  obtain ⟨x5, hx5⟩ : ∃ z9, z9 = xs (7 * j + 5) := ⟨_, rfl⟩
  have e_5 : nI (7 * j) + 5 = nI (7 * j + 5) := nI_add _ 5
  obtain ⟨x6, hx6⟩ : ∃ z9, z9 = xs (7 * j + 6) := ⟨_, rfl⟩
  have e_6 : nI (7 * j) + 6 = nI (7 * j + 6) := nI_add _ 6
  refine lv_aload_n hx hb dL_law_890 rfl (lv_at hl 1 rfl) ?_
  refine lv_aload_n hx hb dL_law_891 rfl (lv_at hl 0 rfl) ?_
  refine lv_iload hx hb dL_law_892 (lv_at hl 4 rfl) ?_
  refine lv_iconst (v := 1) hx hb dL_law_894 (by decide) ?_
  refine lv_iadd hx hb dL_law_895 ?_
  refine va_sld hx hb hXs hbl hbA hS (by rw [e_1]; exact vp_in_nI (show 7 * j + 1 < L by omega) (by omega)) dL_law_896 ?_
  refine W.eq (g2 := F0 m 897 ls [.int x1, .ref (f0 f)]) (by rw [e_1, nI_clamp (show 7 * j + 1 < 2 ^ 31 by omega), ← hx1]) ?_
  refine lv_aload_n hx hb dL_law_897 rfl (lv_at hl 0 rfl) ?_
  refine lv_iload hx hb dL_law_898 (lv_at hl 4 rfl) ?_
  refine lv_iconst (v := 2) hx hb dL_law_900 (by decide) ?_
  refine lv_iadd hx hb dL_law_901 ?_
  refine va_sld hx hb hXs hbl hbA hS (by rw [e_2]; exact vp_in_nI (show 7 * j + 2 < L by omega) (by omega)) dL_law_902 ?_
  refine W.eq (g2 := F0 m 903 ls [.int x2, .int x1, .ref (f0 f)]) (by rw [e_2, nI_clamp (show 7 * j + 2 < 2 ^ 31 by omega), ← hx2]) ?_
  refine lv_aload_n hx hb dL_law_903 rfl (lv_at hl 0 rfl) ?_
  refine lv_iload hx hb dL_law_904 (lv_at hl 4 rfl) ?_
  refine lv_iconst (v := 3) hx hb dL_law_906 (by decide) ?_
  refine lv_iadd hx hb dL_law_907 ?_
  refine va_sld hx hb hXs hbl hbA hS (by rw [e_3]; exact vp_in_nI (show 7 * j + 3 < L by omega) (by omega)) dL_law_908 ?_
  refine W.eq (g2 := F0 m 909 ls [.int x3, .int x2, .int x1, .ref (f0 f)]) (by rw [e_3, nI_clamp (show 7 * j + 3 < 2 ^ 31 by omega), ← hx3]) ?_
  refine lv_aload_n hx hb dL_law_909 rfl (lv_at hl 0 rfl) ?_
  refine lv_iload hx hb dL_law_910 (lv_at hl 4 rfl) ?_
  refine lv_iconst (v := 4) hx hb dL_law_912 (by decide) ?_
  refine lv_iadd hx hb dL_law_913 ?_
  refine va_sld hx hb hXs hbl hbA hS (by rw [e_4]; exact vp_in_nI (show 7 * j + 4 < L by omega) (by omega)) dL_law_914 ?_
  refine W.eq (g2 := F0 m 915 ls [.int x4, .int x3, .int x2, .int x1, .ref (f0 f)]) (by rw [e_4, nI_clamp (show 7 * j + 4 < 2 ^ 31 by omega), ← hx4]) ?_
  refine lv_aload_n hx hb dL_law_915 rfl (lv_at hl 3 rfl) ?_
  refine mw_callN (As := [.ref (f0 f), .int x1, .int x2, .int x3, .int x4, .ref ot]) (rest := []) hx hb hml hown hl (kL_limits l htr G H.size M f S hI.1 hI.2.2.2.2 (fun q h => hAn q (Nat.le_trans hS.1 h)) ot g0 hot J.2.1.2.1 J.2.1.1 J.2.1.2.2.2 x1 x2 x3 x4) (g_BW (n := 6) htb wd463 wd0 wd461 (by decide +kernel) ⟨Nat.le_of_ble_eq_true rfl, Nat.le_of_ble_eq_true rfl⟩) (htb _ wd462) hE hN hP hS rfl rfl (Nat.le_of_ble_eq_true rfl) dL_law_916 ⟨show C + 20 ≤ 601024 from by omega, show D + 900 ≤ 7293034 from by omega⟩ (fun v9 M9 H locs hpo hP hz hS => ?_)
  obtain ⟨rfl, ho1, hR1, hk1⟩ := hpo
  obtain ⟨M1, hM1⟩ : ∃ z9 : mw_M, z9 = M9 := ⟨_, rfl⟩
  rw [← hM1] at hP ho1 hR1 hk1
  obtain ⟨th, z, hmR⟩ := lw_w1 J hI hk1
  obtain ⟨np, bg, g9, hT9, -⟩ := id hmR
  refine W.eq (g2 := F0 m 919 ls [.int (nI (ex_lim S x1 x2 x3 x4))]) rfl ?_
  refine lv_istore (lv' := [(5, .int (nI (ex_lim S x1 x2 x3 x4))), (0, .ref b), (1, .ref (f0 f)), (2, .ref o), (3, .ref ot), (4, .int (nI (7 * j)))]) hx hb dL_law_919 hl (by decide) rfl (fun ls hl => ?_)
  refine lv_aload_n hx hb dL_law_921 rfl (lv_at hl 3 rfl) ?_
  refine lv_aload_n hx hb dL_law_922 rfl (lv_at hl 1 rfl) ?_
  refine lv_iload hx hb dL_law_923 (lv_at hl 5 rfl) ?_
  refine lv_iconst (v := 1) hx hb dL_law_925 (by decide) ?_
  refine lv_iadd hx hb dL_law_926 ?_
  refine va_sld hx hb hXs hbl hbA hS (by rw [e_1]; exact vp_in_nI (show 7 * j + 1 < L by omega) (by omega)) dL_law_927 ?_
  refine W.eq (g2 := F0 m 928 ls [.int x1, .ref o]) (by rw [e_1, nI_clamp (show 7 * j + 1 < 2 ^ 31 by omega), ← hx1]) ?_
  refine lv_aload_n hx hb dL_law_928 rfl (lv_at hl 1 rfl) ?_
  refine lv_iload hx hb dL_law_929 (lv_at hl 5 rfl) ?_
  refine lv_iconst (v := 2) hx hb dL_law_931 (by decide) ?_
  refine lv_iadd hx hb dL_law_932 ?_
  refine va_sld hx hb hXs hbl hbA hS (by rw [e_2]; exact vp_in_nI (show 7 * j + 2 < L by omega) (by omega)) dL_law_933 ?_
  refine W.eq (g2 := F0 m 934 ls [.int x2, .int x1, .ref o]) (by rw [e_2, nI_clamp (show 7 * j + 2 < 2 ^ 31 by omega), ← hx2]) ?_
  refine lv_aload_n hx hb dL_law_934 rfl (lv_at hl 1 rfl) ?_
  refine lv_iload hx hb dL_law_935 (lv_at hl 5 rfl) ?_
  refine lv_iconst (v := 3) hx hb dL_law_937 (by decide) ?_
  refine lv_iadd hx hb dL_law_938 ?_
  refine va_sld hx hb hXs hbl hbA hS (by rw [e_3]; exact vp_in_nI (show 7 * j + 3 < L by omega) (by omega)) dL_law_939 ?_
  refine W.eq (g2 := F0 m 940 ls [.int x3, .int x2, .int x1, .ref o]) (by rw [e_3, nI_clamp (show 7 * j + 3 < 2 ^ 31 by omega), ← hx3]) ?_
  refine lv_aload_n hx hb dL_law_940 rfl (lv_at hl 1 rfl) ?_
  refine lv_iload hx hb dL_law_941 (lv_at hl 5 rfl) ?_
  refine lv_iconst (v := 4) hx hb dL_law_943 (by decide) ?_
  refine lv_iadd hx hb dL_law_944 ?_
  refine va_sld hx hb hXs hbl hbA hS (by rw [e_4]; exact vp_in_nI (show 7 * j + 4 < L by omega) (by omega)) dL_law_945 ?_
  refine W.eq (g2 := F0 m 946 ls [.int x4, .int x3, .int x2, .int x1, .ref o]) (by rw [e_4, nI_clamp (show 7 * j + 4 < 2 ^ 31 by omega), ← hx4]) ?_
  refine mw_callV (C := RX4) (As := [.int x1, .int x2, .int x3, .int x4]) (rest := []) hx hb hml hown hl (kX4_limits l htr G H.size M1 o A th z S hmR hI.1.ok x1 x2 x3 x4) (g_B (n := 4) htb wd697 wd3 wd694 (by decide +kernel) ⟨Nat.le_of_ble_eq_true rfl, Nat.le_of_ble_eq_true rfl⟩) (htb _ wd695) (htb _ wd696) hE hP hS hT9.1 rfl rfl rfl (Nat.le_of_ble_eq_true rfl) dL_law_946 ⟨show C + 20 + 0 ≤ 601024 from by omega, show D + 900 + 0 ≤ 7293034 from by omega⟩ (fun v9 M9 H locs hpo hP hz hS => ?_) (fun x9 E9 cell9 H9 locs9 hE9 => hE9.elim)
  have hmk := hpo
  obtain ⟨rfl, -, -⟩ := hpo
  obtain ⟨M2, hM2⟩ : ∃ z9 : mw_M, z9 = M9 := ⟨_, rfl⟩
  rw [← hM2] at hP hmk
  obtain ⟨hI2, ⟨g2, hot2, hφ⟩, z2, hmR2⟩ := lw_w2 J hI hk1 hR1 ho1 hmk
  obtain ⟨np2, bg2, g92, hT92, -⟩ := id hmR2
  refine W.eq (g2 := F0 m 949 ls [.int (if ex_lim S x1 x2 x3 x4 = 0 then nI (sN S) else 0)]) rfl ?_
  refine lv_istore (lv' := [(6, .int (if ex_lim S x1 x2 x3 x4 = 0 then nI (sN S) else 0)), (5, .int (nI (ex_lim S x1 x2 x3 x4))), (0, .ref b), (1, .ref (f0 f)), (2, .ref o), (3, .ref ot), (4, .int (nI (7 * j)))]) hx hb dL_law_949 hl (by decide) rfl (fun ls hl => ?_)
  refine lv_aload_n hx hb dL_law_951 rfl (lv_at hl 4 rfl) ?_
  refine mw_callV (C := RX4) (As := []) (rest := []) hx hb hml hown hl (kX4_thrown l htr G H.size M2 o A (nI (ex_lim S x1 x2 x3 x4)) z2 (if ex_lim S x1 x2 x3 x4 = 0 then fs_push S (fs_lm S (fIx x1) (fIx x2) x3 x4) else S) hmR2) (g_B (n := 0) htb wd592 wd3 wd589 (by decide +kernel) ⟨Nat.le_of_ble_eq_true rfl, Nat.le_of_ble_eq_true rfl⟩) (htb _ wd590) (htb _ wd591) hE hP hS hT92.1 rfl rfl rfl (Nat.le_of_ble_eq_true rfl) dL_law_952 ⟨show C + 20 + 0 + 0 ≤ 601024 from by omega, show D + 900 + 0 + 0 ≤ 7293034 from by omega⟩ (fun v9 M9 H locs hpo hP hz hS => ?_) (fun x9 E9 cell9 H9 locs9 hE9 => hE9.elim)
  obtain ⟨rfl, rfl⟩ := hpo
  refine W.eq (g2 := F0 m 955 ls [.int (nI (ex_lim S x1 x2 x3 x4))]) rfl ?_
  refine lv_iload hx hb dL_law_955 (lv_at hl 1 rfl) ?_
  refine lv_icmp_eq (tgt := 962) hx hb dL_law_957 (by decide) (fun c_1 => ?_) (fun c_1 => absurd rfl c_1)
  refine lv_iload hx hb dL_law_962 (lv_at hl 1 rfl) ?_
  refine lv_if_ne (tgt := 979) hx hb dL_law_964 (by decide) (fun c_2 => ?_) (fun c_2 => ?_)
  · refine lv_goto (tgt := 1383) hx hb dL_law_979 (by decide) ?_
    refine W.widen (k := C + 30) (n := D + 1000) (show C + 20 + 0 + 0 ≤ C + 30 by omega) (show D + 900 + 0 + 0 ≤ D + 1000 by omega) ?_
    exact K _ _ _ _ _ hI2 hP hS (lv_sub hl [2, 3, 4, 5, 6] rfl)
  · refine lv_aload_n hx hb dL_law_967 rfl (lv_at hl 5 rfl) ?_
    refine lv_iconst (v := 0) hx hb dL_law_968 (by decide) ?_
    refine mw_lald hx hb hK hP 3 hot2 rfl (by unfold vp_in; decide) dL_law_969 ?_
    have hex : ex_lim S x1 x2 x3 x4 = 0 := ex0 (by unfold ex_lim; exact le4_ite (by decide) (le4_ite (by decide) (le4_ite (by decide) (by decide)))) c_2
    have hg0 := hφ hex
    refine W.eq (g2 := F0 m 970 ls [.long (nI (sN S)).toInt64]) (show F0 m 970 ls [.long (g2 0)] = _ from by rw [hg0]) ?_
    refine lv_iload hx hb dL_law_970 (lv_at hl 0 rfl) ?_
    refine lv_i2l hx hb dL_law_972 rfl ?_
    refine W.eq (g2 := F0 m 973 ls [.long (nI (sN S)).toInt64, .long (nI (sN S)).toInt64]) (by rw [if_pos hex]) ?_
    refine mw_lcmpE hx hb dL_law_973 ?_
    refine lv_if_eq (tgt := 979) hx hb dL_law_974 (by decide) (fun c_3 => ?_) (fun c_3 => absurd (by decide) c_3)
    refine lv_goto (tgt := 1383) hx hb dL_law_979 (by decide) ?_
    refine W.widen (k := C + 30) (n := D + 1000) (show C + 20 + 0 + 0 ≤ C + 30 by omega) (show D + 900 + 0 + 0 ≤ D + 1000 by omega) ?_
    exact K _ _ _ _ _ hI2 hP hS (lv_sub hl [2, 3, 4, 5, 6] rfl)
-- brackets
set_option maxHeartbeats 4000000 in
set_option maxRecDepth 100000 in
theorem lwc_10 {p : Program} {l : Launch} {e : Env} {s : State} {m : MethodId} {below : List Frame} {meth : Method} {c : Code} {Q : State → Prop} (G : gx_G) (f : fs_A) (o : Nat) (A : Nat → Nat) (ot : Nat) (gn : Nat → Int32) (b L : Nat) (xs : Nat → Int32) (C0 : lw_C l G p s m c b L xs) (J : lw_J G f o A ot) (j : Nat) (hj : 7 * j + 7 ≤ L) (C D : Nat) (hC : C + 30 ≤ 601024) (hD : D + 1000 ≤ 7293034)
    (K : ∀ (M' : mw_M) (S' : fs_S) (H' : Heap) (locs' : List Loc) (ls' : Array Slot), lw_I G f o A ot gn M' S' → mw_P (gD G) gx_cl M' H' → va_S (gA G) s.heap H' locs' → lv_has ls' 7 [(0, .ref b), (1, .ref (f0 f)), (2, .ref o), (3, .ref ot), (4, .int (nI (7 * j)))] → W p l e room_1 s m #[Value.ref b] below meth c H' locs' (C + 30) (D + 1000) Q (F0 m 1383 ls' []))
    {M : mw_M} {S : fs_S} {H : Heap} {locs : List Loc} {ls : Array Slot} (hI : lw_I G f o A ot gn M S) (hP : mw_P (gD G) gx_cl M H) (hS : va_S (gA G) s.heap H locs) (hl : lv_has ls 7 [(0, .ref b), (1, .ref (f0 f)), (2, .ref o), (3, .ref ot), (4, .int (nI (7 * j)))]) : W p l e room_1 s m #[Value.ref b] below meth c H locs C D Q (F0 m 982 ls []) := by
  obtain ⟨hx, hb, hml, hown, htb, hE, hN, hXs, hbl, hbA, hAn, htr, hL⟩ := C0
  have hK := hE.1
  obtain ⟨g0, hot⟩ := id hI.2.2.1
  obtain ⟨x0, hx0⟩ : ∃ z9, z9 = xs (7 * j) := ⟨_, rfl⟩
  obtain ⟨x1, hx1⟩ : ∃ z9, z9 = xs (7 * j + 1) := ⟨_, rfl⟩
  have e_1 : nI (7 * j) + 1 = nI (7 * j + 1) := nI_add _ 1
  obtain ⟨x2, hx2⟩ : ∃ z9, z9 = xs (7 * j + 2) := ⟨_, rfl⟩
  have e_2 : nI (7 * j) + 2 = nI (7 * j + 2) := nI_add _ 2
  obtain ⟨x3, hx3⟩ : ∃ z9, z9 = xs (7 * j + 3) := ⟨_, rfl⟩
  have e_3 : nI (7 * j) + 3 = nI (7 * j + 3) := nI_add _ 3
  obtain ⟨x4, hx4⟩ : ∃ z9, z9 = xs (7 * j + 4) := ⟨_, rfl⟩
  have e_4 : nI (7 * j) + 4 = nI (7 * j + 4) := nI_add _ 4
  obtain ⟨x5, hx5⟩ : ∃ z9, z9 = xs (7 * j + 5) := ⟨_, rfl⟩
  have e_5 : nI (7 * j) + 5 = nI (7 * j + 5) := nI_add _ 5
  obtain ⟨x6, hx6⟩ : ∃ z9, z9 = xs (7 * j + 6) := ⟨_, rfl⟩
  have e_6 : nI (7 * j) + 6 = nI (7 * j + 6) := nI_add _ 6
  refine lv_aload_n hx hb dL_law_982 rfl (lv_at hl 1 rfl) ?_
  refine lv_aload_n hx hb dL_law_983 rfl (lv_at hl 0 rfl) ?_
  refine lv_iload hx hb dL_law_984 (lv_at hl 4 rfl) ?_
  refine lv_iconst (v := 1) hx hb dL_law_986 (by decide) ?_
  refine lv_iadd hx hb dL_law_987 ?_
  refine va_sld hx hb hXs hbl hbA hS (by rw [e_1]; exact vp_in_nI (show 7 * j + 1 < L by omega) (by omega)) dL_law_988 ?_
  refine W.eq (g2 := F0 m 989 ls [.int x1, .ref (f0 f)]) (by rw [e_1, nI_clamp (show 7 * j + 1 < 2 ^ 31 by omega), ← hx1]) ?_
  refine lv_aload_n hx hb dL_law_989 rfl (lv_at hl 0 rfl) ?_
  refine lv_iload hx hb dL_law_990 (lv_at hl 4 rfl) ?_
  refine lv_iconst (v := 2) hx hb dL_law_992 (by decide) ?_
  refine lv_iadd hx hb dL_law_993 ?_
  refine va_sld hx hb hXs hbl hbA hS (by rw [e_2]; exact vp_in_nI (show 7 * j + 2 < L by omega) (by omega)) dL_law_994 ?_
  refine W.eq (g2 := F0 m 995 ls [.int x2, .int x1, .ref (f0 f)]) (by rw [e_2, nI_clamp (show 7 * j + 2 < 2 ^ 31 by omega), ← hx2]) ?_
  refine lv_aload_n hx hb dL_law_995 rfl (lv_at hl 0 rfl) ?_
  refine lv_iload hx hb dL_law_996 (lv_at hl 4 rfl) ?_
  refine lv_iconst (v := 3) hx hb dL_law_998 (by decide) ?_
  refine lv_iadd hx hb dL_law_999 ?_
  refine va_sld hx hb hXs hbl hbA hS (by rw [e_3]; exact vp_in_nI (show 7 * j + 3 < L by omega) (by omega)) dL_law_1000 ?_
  refine W.eq (g2 := F0 m 1001 ls [.int x3, .int x2, .int x1, .ref (f0 f)]) (by rw [e_3, nI_clamp (show 7 * j + 3 < 2 ^ 31 by omega), ← hx3]) ?_
  refine lv_aload_n hx hb dL_law_1001 rfl (lv_at hl 0 rfl) ?_
  refine lv_iload hx hb dL_law_1002 (lv_at hl 4 rfl) ?_
  refine lv_iconst (v := 4) hx hb dL_law_1004 (by decide) ?_
  refine lv_iadd hx hb dL_law_1005 ?_
  refine va_sld hx hb hXs hbl hbA hS (by rw [e_4]; exact vp_in_nI (show 7 * j + 4 < L by omega) (by omega)) dL_law_1006 ?_
  refine W.eq (g2 := F0 m 1007 ls [.int x4, .int x3, .int x2, .int x1, .ref (f0 f)]) (by rw [e_4, nI_clamp (show 7 * j + 4 < 2 ^ 31 by omega), ← hx4]) ?_
  refine lv_aload_n hx hb dL_law_1007 rfl (lv_at hl 3 rfl) ?_
  refine mw_callN (As := [.ref (f0 f), .int x1, .int x2, .int x3, .int x4, .ref ot]) (rest := []) hx hb hml hown hl (kL_brackets l htr G H.size M f S hI.1 hI.2.2.2.2 (fun q h => hAn q (Nat.le_trans hS.1 h)) ot g0 hot J.2.1.2.1 J.2.1.1 J.2.1.2.2.2 x1 x2 x3 x4) (g_BW (n := 6) htb wd474 wd0 wd472 (by decide +kernel) ⟨Nat.le_of_ble_eq_true rfl, Nat.le_of_ble_eq_true rfl⟩) (htb _ wd473) hE hN hP hS rfl rfl (Nat.le_of_ble_eq_true rfl) dL_law_1008 ⟨show C + 20 ≤ 601024 from by omega, show D + 900 ≤ 7293034 from by omega⟩ (fun v9 M9 H locs hpo hP hz hS => ?_)
  obtain ⟨rfl, ho1, hR1, hk1⟩ := hpo
  obtain ⟨M1, hM1⟩ : ∃ z9 : mw_M, z9 = M9 := ⟨_, rfl⟩
  rw [← hM1] at hP ho1 hR1 hk1
  obtain ⟨th, z, hmR⟩ := lw_w1 J hI hk1
  obtain ⟨np, bg, g9, hT9, -⟩ := id hmR
  refine W.eq (g2 := F0 m 1011 ls [.int (nI (ex_brackets S x1 x2 x3 x4))]) rfl ?_
  refine lv_istore (lv' := [(5, .int (nI (ex_brackets S x1 x2 x3 x4))), (0, .ref b), (1, .ref (f0 f)), (2, .ref o), (3, .ref ot), (4, .int (nI (7 * j)))]) hx hb dL_law_1011 hl (by decide) rfl (fun ls hl => ?_)
  refine lv_aload_n hx hb dL_law_1013 rfl (lv_at hl 3 rfl) ?_
  refine lv_aload_n hx hb dL_law_1014 rfl (lv_at hl 1 rfl) ?_
  refine lv_iload hx hb dL_law_1015 (lv_at hl 5 rfl) ?_
  refine lv_iconst (v := 1) hx hb dL_law_1017 (by decide) ?_
  refine lv_iadd hx hb dL_law_1018 ?_
  refine va_sld hx hb hXs hbl hbA hS (by rw [e_1]; exact vp_in_nI (show 7 * j + 1 < L by omega) (by omega)) dL_law_1019 ?_
  refine W.eq (g2 := F0 m 1020 ls [.int x1, .ref o]) (by rw [e_1, nI_clamp (show 7 * j + 1 < 2 ^ 31 by omega), ← hx1]) ?_
  refine lv_aload_n hx hb dL_law_1020 rfl (lv_at hl 1 rfl) ?_
  refine lv_iload hx hb dL_law_1021 (lv_at hl 5 rfl) ?_
  refine lv_iconst (v := 2) hx hb dL_law_1023 (by decide) ?_
  refine lv_iadd hx hb dL_law_1024 ?_
  refine va_sld hx hb hXs hbl hbA hS (by rw [e_2]; exact vp_in_nI (show 7 * j + 2 < L by omega) (by omega)) dL_law_1025 ?_
  refine W.eq (g2 := F0 m 1026 ls [.int x2, .int x1, .ref o]) (by rw [e_2, nI_clamp (show 7 * j + 2 < 2 ^ 31 by omega), ← hx2]) ?_
  refine lv_aload_n hx hb dL_law_1026 rfl (lv_at hl 1 rfl) ?_
  refine lv_iload hx hb dL_law_1027 (lv_at hl 5 rfl) ?_
  refine lv_iconst (v := 3) hx hb dL_law_1029 (by decide) ?_
  refine lv_iadd hx hb dL_law_1030 ?_
  refine va_sld hx hb hXs hbl hbA hS (by rw [e_3]; exact vp_in_nI (show 7 * j + 3 < L by omega) (by omega)) dL_law_1031 ?_
  refine W.eq (g2 := F0 m 1032 ls [.int x3, .int x2, .int x1, .ref o]) (by rw [e_3, nI_clamp (show 7 * j + 3 < 2 ^ 31 by omega), ← hx3]) ?_
  refine lv_aload_n hx hb dL_law_1032 rfl (lv_at hl 1 rfl) ?_
  refine lv_iload hx hb dL_law_1033 (lv_at hl 5 rfl) ?_
  refine lv_iconst (v := 4) hx hb dL_law_1035 (by decide) ?_
  refine lv_iadd hx hb dL_law_1036 ?_
  refine va_sld hx hb hXs hbl hbA hS (by rw [e_4]; exact vp_in_nI (show 7 * j + 4 < L by omega) (by omega)) dL_law_1037 ?_
  refine W.eq (g2 := F0 m 1038 ls [.int x4, .int x3, .int x2, .int x1, .ref o]) (by rw [e_4, nI_clamp (show 7 * j + 4 < 2 ^ 31 by omega), ← hx4]) ?_
  refine mw_callV (C := RX4) (As := [.int x1, .int x2, .int x3, .int x4]) (rest := []) hx hb hml hown hl (kX4_brackets l htr G H.size M1 o A th z S hmR hI.1.ok x1 x2 x3 x4) (g_B (n := 4) htb wd701 wd3 wd698 (by decide +kernel) ⟨Nat.le_of_ble_eq_true rfl, Nat.le_of_ble_eq_true rfl⟩) (htb _ wd699) (htb _ wd700) hE hP hS hT9.1 rfl rfl rfl (Nat.le_of_ble_eq_true rfl) dL_law_1038 ⟨show C + 20 + 0 ≤ 601024 from by omega, show D + 900 + 0 ≤ 7293034 from by omega⟩ (fun v9 M9 H locs hpo hP hz hS => ?_) (fun x9 E9 cell9 H9 locs9 hE9 => hE9.elim)
  have hmk := hpo
  obtain ⟨rfl, -, -⟩ := hpo
  obtain ⟨M2, hM2⟩ : ∃ z9 : mw_M, z9 = M9 := ⟨_, rfl⟩
  rw [← hM2] at hP hmk
  obtain ⟨hI2, ⟨g2, hot2, hφ⟩, z2, hmR2⟩ := lw_w2 J hI hk1 hR1 ho1 hmk
  obtain ⟨np2, bg2, g92, hT92, -⟩ := id hmR2
  refine W.eq (g2 := F0 m 1041 ls [.int (if ex_brackets S x1 x2 x3 x4 = 0 then nI (sN (br_S S x1 x2 x3 x4)) else 0)]) rfl ?_
  refine lv_istore (lv' := [(6, .int (if ex_brackets S x1 x2 x3 x4 = 0 then nI (sN (br_S S x1 x2 x3 x4)) else 0)), (5, .int (nI (ex_brackets S x1 x2 x3 x4))), (0, .ref b), (1, .ref (f0 f)), (2, .ref o), (3, .ref ot), (4, .int (nI (7 * j)))]) hx hb dL_law_1041 hl (by decide) rfl (fun ls hl => ?_)
  refine lv_aload_n hx hb dL_law_1043 rfl (lv_at hl 4 rfl) ?_
  refine mw_callV (C := RX4) (As := []) (rest := []) hx hb hml hown hl (kX4_thrown l htr G H.size M2 o A (nI (ex_brackets S x1 x2 x3 x4)) z2 (if ex_brackets S x1 x2 x3 x4 = 0 then fs_push (br_S S x1 x2 x3 x4) (re_brackets S x1 x2 x3 x4) else S) hmR2) (g_B (n := 0) htb wd592 wd3 wd589 (by decide +kernel) ⟨Nat.le_of_ble_eq_true rfl, Nat.le_of_ble_eq_true rfl⟩) (htb _ wd590) (htb _ wd591) hE hP hS hT92.1 rfl rfl rfl (Nat.le_of_ble_eq_true rfl) dL_law_1044 ⟨show C + 20 + 0 + 0 ≤ 601024 from by omega, show D + 900 + 0 + 0 ≤ 7293034 from by omega⟩ (fun v9 M9 H locs hpo hP hz hS => ?_) (fun x9 E9 cell9 H9 locs9 hE9 => hE9.elim)
  obtain ⟨rfl, rfl⟩ := hpo
  refine W.eq (g2 := F0 m 1047 ls [.int (nI (ex_brackets S x1 x2 x3 x4))]) rfl ?_
  refine lv_iload hx hb dL_law_1047 (lv_at hl 1 rfl) ?_
  refine lv_icmp_eq (tgt := 1054) hx hb dL_law_1049 (by decide) (fun c_1 => ?_) (fun c_1 => absurd rfl c_1)
  refine lv_iload hx hb dL_law_1054 (lv_at hl 1 rfl) ?_
  refine lv_if_ne (tgt := 1071) hx hb dL_law_1056 (by decide) (fun c_2 => ?_) (fun c_2 => ?_)
  · refine lv_goto (tgt := 1383) hx hb dL_law_1071 (by decide) ?_
    refine W.widen (k := C + 30) (n := D + 1000) (show C + 20 + 0 + 0 ≤ C + 30 by omega) (show D + 900 + 0 + 0 ≤ D + 1000 by omega) ?_
    exact K _ _ _ _ _ hI2 hP hS (lv_sub hl [2, 3, 4, 5, 6] rfl)
  · refine lv_aload_n hx hb dL_law_1059 rfl (lv_at hl 5 rfl) ?_
    refine lv_iconst (v := 0) hx hb dL_law_1060 (by decide) ?_
    refine mw_lald hx hb hK hP 3 hot2 rfl (by unfold vp_in; decide) dL_law_1061 ?_
    have hex : ex_brackets S x1 x2 x3 x4 = 0 := ex0 (by unfold ex_brackets; exact le4_ite (by decide) (le4_ite (by decide) (le4_ite (by decide) (le4_ite (by decide) (by decide))))) c_2
    have hg0 := hφ hex
    refine W.eq (g2 := F0 m 1062 ls [.long (nI (sN (br_S S x1 x2 x3 x4))).toInt64]) (show F0 m 1062 ls [.long (g2 0)] = _ from by rw [hg0]) ?_
    refine lv_iload hx hb dL_law_1062 (lv_at hl 0 rfl) ?_
    refine lv_i2l hx hb dL_law_1064 rfl ?_
    refine W.eq (g2 := F0 m 1065 ls [.long (nI (sN (br_S S x1 x2 x3 x4))).toInt64, .long (nI (sN (br_S S x1 x2 x3 x4))).toInt64]) (by rw [if_pos hex]) ?_
    refine mw_lcmpE hx hb dL_law_1065 ?_
    refine lv_if_eq (tgt := 1071) hx hb dL_law_1066 (by decide) (fun c_3 => ?_) (fun c_3 => absurd (by decide) c_3)
    refine lv_goto (tgt := 1383) hx hb dL_law_1071 (by decide) ?_
    refine W.widen (k := C + 30) (n := D + 1000) (show C + 20 + 0 + 0 ≤ C + 30 by omega) (show D + 900 + 0 + 0 ≤ D + 1000 by omega) ?_
    exact K _ _ _ _ _ hI2 hP hS (lv_sub hl [2, 3, 4, 5, 6] rfl)
-- row
set_option maxHeartbeats 4000000 in
set_option maxRecDepth 100000 in
theorem lwc_11 {p : Program} {l : Launch} {e : Env} {s : State} {m : MethodId} {below : List Frame} {meth : Method} {c : Code} {Q : State → Prop} (G : gx_G) (f : fs_A) (o : Nat) (A : Nat → Nat) (ot : Nat) (gn : Nat → Int32) (b L : Nat) (xs : Nat → Int32) (C0 : lw_C l G p s m c b L xs) (J : lw_J G f o A ot) (j : Nat) (hj : 7 * j + 7 ≤ L) (C D : Nat) (hC : C + 30 ≤ 601024) (hD : D + 1000 ≤ 7293034)
    (K : ∀ (M' : mw_M) (S' : fs_S) (H' : Heap) (locs' : List Loc) (ls' : Array Slot), lw_I G f o A ot gn M' S' → mw_P (gD G) gx_cl M' H' → va_S (gA G) s.heap H' locs' → lv_has ls' 7 [(0, .ref b), (1, .ref (f0 f)), (2, .ref o), (3, .ref ot), (4, .int (nI (7 * j)))] → W p l e room_1 s m #[Value.ref b] below meth c H' locs' (C + 30) (D + 1000) Q (F0 m 1383 ls' []))
    {M : mw_M} {S : fs_S} {H : Heap} {locs : List Loc} {ls : Array Slot} (hI : lw_I G f o A ot gn M S) (hP : mw_P (gD G) gx_cl M H) (hS : va_S (gA G) s.heap H locs) (hl : lv_has ls 7 [(0, .ref b), (1, .ref (f0 f)), (2, .ref o), (3, .ref ot), (4, .int (nI (7 * j)))]) : W p l e room_1 s m #[Value.ref b] below meth c H locs C D Q (F0 m 1074 ls []) := by
  obtain ⟨hx, hb, hml, hown, htb, hE, hN, hXs, hbl, hbA, hAn, htr, hL⟩ := C0
  have hK := hE.1
  obtain ⟨g0, hot⟩ := id hI.2.2.1
  obtain ⟨x0, hx0⟩ : ∃ z9, z9 = xs (7 * j) := ⟨_, rfl⟩
  obtain ⟨x1, hx1⟩ : ∃ z9, z9 = xs (7 * j + 1) := ⟨_, rfl⟩
  have e_1 : nI (7 * j) + 1 = nI (7 * j + 1) := nI_add _ 1
  obtain ⟨x2, hx2⟩ : ∃ z9, z9 = xs (7 * j + 2) := ⟨_, rfl⟩
  have e_2 : nI (7 * j) + 2 = nI (7 * j + 2) := nI_add _ 2
  obtain ⟨x3, hx3⟩ : ∃ z9, z9 = xs (7 * j + 3) := ⟨_, rfl⟩
  have e_3 : nI (7 * j) + 3 = nI (7 * j + 3) := nI_add _ 3
  obtain ⟨x4, hx4⟩ : ∃ z9, z9 = xs (7 * j + 4) := ⟨_, rfl⟩
  have e_4 : nI (7 * j) + 4 = nI (7 * j + 4) := nI_add _ 4
  obtain ⟨x5, hx5⟩ : ∃ z9, z9 = xs (7 * j + 5) := ⟨_, rfl⟩
  have e_5 : nI (7 * j) + 5 = nI (7 * j + 5) := nI_add _ 5
  obtain ⟨x6, hx6⟩ : ∃ z9, z9 = xs (7 * j + 6) := ⟨_, rfl⟩
  have e_6 : nI (7 * j) + 6 = nI (7 * j + 6) := nI_add _ 6
  refine lv_aload_n hx hb dL_law_1074 rfl (lv_at hl 1 rfl) ?_
  refine lv_aload_n hx hb dL_law_1075 rfl (lv_at hl 0 rfl) ?_
  refine lv_iload hx hb dL_law_1076 (lv_at hl 4 rfl) ?_
  refine lv_iconst (v := 1) hx hb dL_law_1078 (by decide) ?_
  refine lv_iadd hx hb dL_law_1079 ?_
  refine va_sld hx hb hXs hbl hbA hS (by rw [e_1]; exact vp_in_nI (show 7 * j + 1 < L by omega) (by omega)) dL_law_1080 ?_
  refine W.eq (g2 := F0 m 1081 ls [.int x1, .ref (f0 f)]) (by rw [e_1, nI_clamp (show 7 * j + 1 < 2 ^ 31 by omega), ← hx1]) ?_
  refine lv_aload_n hx hb dL_law_1081 rfl (lv_at hl 0 rfl) ?_
  refine lv_iload hx hb dL_law_1082 (lv_at hl 4 rfl) ?_
  refine lv_iconst (v := 2) hx hb dL_law_1084 (by decide) ?_
  refine lv_iadd hx hb dL_law_1085 ?_
  refine va_sld hx hb hXs hbl hbA hS (by rw [e_2]; exact vp_in_nI (show 7 * j + 2 < L by omega) (by omega)) dL_law_1086 ?_
  refine W.eq (g2 := F0 m 1087 ls [.int x2, .int x1, .ref (f0 f)]) (by rw [e_2, nI_clamp (show 7 * j + 2 < 2 ^ 31 by omega), ← hx2]) ?_
  refine lv_aload_n hx hb dL_law_1087 rfl (lv_at hl 0 rfl) ?_
  refine lv_iload hx hb dL_law_1088 (lv_at hl 4 rfl) ?_
  refine lv_iconst (v := 3) hx hb dL_law_1090 (by decide) ?_
  refine lv_iadd hx hb dL_law_1091 ?_
  refine va_sld hx hb hXs hbl hbA hS (by rw [e_3]; exact vp_in_nI (show 7 * j + 3 < L by omega) (by omega)) dL_law_1092 ?_
  refine W.eq (g2 := F0 m 1093 ls [.int x3, .int x2, .int x1, .ref (f0 f)]) (by rw [e_3, nI_clamp (show 7 * j + 3 < 2 ^ 31 by omega), ← hx3]) ?_
  refine lv_aload_n hx hb dL_law_1093 rfl (lv_at hl 3 rfl) ?_
  refine mw_callN (As := [.ref (f0 f), .int x1, .int x2, .int x3, .ref ot]) (rest := []) hx hb hml hown hl (kL_row l htr G H.size M f S hI.1 hI.2.2.2.2 (fun q h => hAn q (Nat.le_trans hS.1 h)) ot g0 hot J.2.1.2.1 J.2.1.1 J.2.1.2.2.2 x1 x2 x3) (g_BW (n := 5) htb wd489 wd0 wd487 (by decide +kernel) ⟨Nat.le_of_ble_eq_true rfl, Nat.le_of_ble_eq_true rfl⟩) (htb _ wd488) hE hN hP hS rfl rfl (Nat.le_of_ble_eq_true rfl) dL_law_1094 ⟨show C + 20 ≤ 601024 from by omega, show D + 900 ≤ 7293034 from by omega⟩ (fun v9 M9 H locs hpo hP hz hS => ?_)
  obtain ⟨rfl, ho1, hR1, hk1⟩ := hpo
  obtain ⟨M1, hM1⟩ : ∃ z9 : mw_M, z9 = M9 := ⟨_, rfl⟩
  rw [← hM1] at hP ho1 hR1 hk1
  obtain ⟨th, z, hmR⟩ := lw_w1 J hI hk1
  obtain ⟨np, bg, g9, hT9, -⟩ := id hmR
  refine W.eq (g2 := F0 m 1097 ls [.int (nI (ex_row S x1 x2 x3))]) rfl ?_
  refine lv_istore (lv' := [(5, .int (nI (ex_row S x1 x2 x3))), (0, .ref b), (1, .ref (f0 f)), (2, .ref o), (3, .ref ot), (4, .int (nI (7 * j)))]) hx hb dL_law_1097 hl (by decide) rfl (fun ls hl => ?_)
  refine lv_aload_n hx hb dL_law_1099 rfl (lv_at hl 3 rfl) ?_
  refine lv_aload_n hx hb dL_law_1100 rfl (lv_at hl 1 rfl) ?_
  refine lv_iload hx hb dL_law_1101 (lv_at hl 5 rfl) ?_
  refine lv_iconst (v := 1) hx hb dL_law_1103 (by decide) ?_
  refine lv_iadd hx hb dL_law_1104 ?_
  refine va_sld hx hb hXs hbl hbA hS (by rw [e_1]; exact vp_in_nI (show 7 * j + 1 < L by omega) (by omega)) dL_law_1105 ?_
  refine W.eq (g2 := F0 m 1106 ls [.int x1, .ref o]) (by rw [e_1, nI_clamp (show 7 * j + 1 < 2 ^ 31 by omega), ← hx1]) ?_
  refine lv_aload_n hx hb dL_law_1106 rfl (lv_at hl 1 rfl) ?_
  refine lv_iload hx hb dL_law_1107 (lv_at hl 5 rfl) ?_
  refine lv_iconst (v := 2) hx hb dL_law_1109 (by decide) ?_
  refine lv_iadd hx hb dL_law_1110 ?_
  refine va_sld hx hb hXs hbl hbA hS (by rw [e_2]; exact vp_in_nI (show 7 * j + 2 < L by omega) (by omega)) dL_law_1111 ?_
  refine W.eq (g2 := F0 m 1112 ls [.int x2, .int x1, .ref o]) (by rw [e_2, nI_clamp (show 7 * j + 2 < 2 ^ 31 by omega), ← hx2]) ?_
  refine lv_aload_n hx hb dL_law_1112 rfl (lv_at hl 1 rfl) ?_
  refine lv_iload hx hb dL_law_1113 (lv_at hl 5 rfl) ?_
  refine lv_iconst (v := 3) hx hb dL_law_1115 (by decide) ?_
  refine lv_iadd hx hb dL_law_1116 ?_
  refine va_sld hx hb hXs hbl hbA hS (by rw [e_3]; exact vp_in_nI (show 7 * j + 3 < L by omega) (by omega)) dL_law_1117 ?_
  refine W.eq (g2 := F0 m 1118 ls [.int x3, .int x2, .int x1, .ref o]) (by rw [e_3, nI_clamp (show 7 * j + 3 < 2 ^ 31 by omega), ← hx3]) ?_
  refine mw_callV (C := RX4) (As := [.int x1, .int x2, .int x3]) (rest := []) hx hb hml hown hl (kX4_row l htr G H.size M1 o A th z S hmR hI.1.ok x1 x2 x3) (g_B (n := 3) htb wd709 wd3 wd706 (by decide +kernel) ⟨Nat.le_of_ble_eq_true rfl, Nat.le_of_ble_eq_true rfl⟩) (htb _ wd707) (htb _ wd708) hE hP hS hT9.1 rfl rfl rfl (Nat.le_of_ble_eq_true rfl) dL_law_1118 ⟨show C + 20 + 0 ≤ 601024 from by omega, show D + 900 + 0 ≤ 7293034 from by omega⟩ (fun v9 M9 H locs hpo hP hz hS => ?_) (fun x9 E9 cell9 H9 locs9 hE9 => hE9.elim)
  have hmk := hpo
  obtain ⟨rfl, -, -⟩ := hpo
  obtain ⟨M2, hM2⟩ : ∃ z9 : mw_M, z9 = M9 := ⟨_, rfl⟩
  rw [← hM2] at hP hmk
  obtain ⟨hI2, ⟨g2, hot2, hφ⟩, z2, hmR2⟩ := lw_w2 J hI hk1 hR1 ho1 hmk
  obtain ⟨np2, bg2, g92, hT92, -⟩ := id hmR2
  refine W.eq (g2 := F0 m 1121 ls [.int (if ex_row S x1 x2 x3 = 0 then nI (sN S) else 0)]) rfl ?_
  refine lv_istore (lv' := [(6, .int (if ex_row S x1 x2 x3 = 0 then nI (sN S) else 0)), (5, .int (nI (ex_row S x1 x2 x3))), (0, .ref b), (1, .ref (f0 f)), (2, .ref o), (3, .ref ot), (4, .int (nI (7 * j)))]) hx hb dL_law_1121 hl (by decide) rfl (fun ls hl => ?_)
  refine lv_aload_n hx hb dL_law_1123 rfl (lv_at hl 4 rfl) ?_
  refine mw_callV (C := RX4) (As := []) (rest := []) hx hb hml hown hl (kX4_thrown l htr G H.size M2 o A (nI (ex_row S x1 x2 x3)) z2 (if ex_row S x1 x2 x3 = 0 then fs_push S (re_row S x1 x2 x3) else S) hmR2) (g_B (n := 0) htb wd592 wd3 wd589 (by decide +kernel) ⟨Nat.le_of_ble_eq_true rfl, Nat.le_of_ble_eq_true rfl⟩) (htb _ wd590) (htb _ wd591) hE hP hS hT92.1 rfl rfl rfl (Nat.le_of_ble_eq_true rfl) dL_law_1124 ⟨show C + 20 + 0 + 0 ≤ 601024 from by omega, show D + 900 + 0 + 0 ≤ 7293034 from by omega⟩ (fun v9 M9 H locs hpo hP hz hS => ?_) (fun x9 E9 cell9 H9 locs9 hE9 => hE9.elim)
  obtain ⟨rfl, rfl⟩ := hpo
  refine W.eq (g2 := F0 m 1127 ls [.int (nI (ex_row S x1 x2 x3))]) rfl ?_
  refine lv_iload hx hb dL_law_1127 (lv_at hl 1 rfl) ?_
  refine lv_icmp_eq (tgt := 1134) hx hb dL_law_1129 (by decide) (fun c_1 => ?_) (fun c_1 => absurd rfl c_1)
  refine lv_iload hx hb dL_law_1134 (lv_at hl 1 rfl) ?_
  refine lv_if_ne (tgt := 1151) hx hb dL_law_1136 (by decide) (fun c_2 => ?_) (fun c_2 => ?_)
  · refine lv_goto (tgt := 1383) hx hb dL_law_1151 (by decide) ?_
    refine W.widen (k := C + 30) (n := D + 1000) (show C + 20 + 0 + 0 ≤ C + 30 by omega) (show D + 900 + 0 + 0 ≤ D + 1000 by omega) ?_
    exact K _ _ _ _ _ hI2 hP hS (lv_sub hl [2, 3, 4, 5, 6] rfl)
  · refine lv_aload_n hx hb dL_law_1139 rfl (lv_at hl 5 rfl) ?_
    refine lv_iconst (v := 0) hx hb dL_law_1140 (by decide) ?_
    refine mw_lald hx hb hK hP 3 hot2 rfl (by unfold vp_in; decide) dL_law_1141 ?_
    have hex : ex_row S x1 x2 x3 = 0 := ex0 (by unfold ex_row; exact le4_ite (by decide) (le4_ite (by decide) (le4_ite (by decide) (by decide)))) c_2
    have hg0 := hφ hex
    refine W.eq (g2 := F0 m 1142 ls [.long (nI (sN S)).toInt64]) (show F0 m 1142 ls [.long (g2 0)] = _ from by rw [hg0]) ?_
    refine lv_iload hx hb dL_law_1142 (lv_at hl 0 rfl) ?_
    refine lv_i2l hx hb dL_law_1144 rfl ?_
    refine W.eq (g2 := F0 m 1145 ls [.long (nI (sN S)).toInt64, .long (nI (sN S)).toInt64]) (by rw [if_pos hex]) ?_
    refine mw_lcmpE hx hb dL_law_1145 ?_
    refine lv_if_eq (tgt := 1151) hx hb dL_law_1146 (by decide) (fun c_3 => ?_) (fun c_3 => absurd (by decide) c_3)
    refine lv_goto (tgt := 1383) hx hb dL_law_1151 (by decide) ?_
    refine W.widen (k := C + 30) (n := D + 1000) (show C + 20 + 0 + 0 ≤ C + 30 by omega) (show D + 900 + 0 + 0 ≤ D + 1000 by omega) ?_
    exact K _ _ _ _ _ hI2 hP hS (lv_sub hl [2, 3, 4, 5, 6] rfl)
-- centre
set_option maxHeartbeats 4000000 in
set_option maxRecDepth 100000 in
theorem lwc_12 {p : Program} {l : Launch} {e : Env} {s : State} {m : MethodId} {below : List Frame} {meth : Method} {c : Code} {Q : State → Prop} (G : gx_G) (f : fs_A) (o : Nat) (A : Nat → Nat) (ot : Nat) (gn : Nat → Int32) (b L : Nat) (xs : Nat → Int32) (C0 : lw_C l G p s m c b L xs) (J : lw_J G f o A ot) (j : Nat) (hj : 7 * j + 7 ≤ L) (C D : Nat) (hC : C + 30 ≤ 601024) (hD : D + 1000 ≤ 7293034)
    (K : ∀ (M' : mw_M) (S' : fs_S) (H' : Heap) (locs' : List Loc) (ls' : Array Slot), lw_I G f o A ot gn M' S' → mw_P (gD G) gx_cl M' H' → va_S (gA G) s.heap H' locs' → lv_has ls' 7 [(0, .ref b), (1, .ref (f0 f)), (2, .ref o), (3, .ref ot), (4, .int (nI (7 * j)))] → W p l e room_1 s m #[Value.ref b] below meth c H' locs' (C + 30) (D + 1000) Q (F0 m 1383 ls' []))
    {M : mw_M} {S : fs_S} {H : Heap} {locs : List Loc} {ls : Array Slot} (hI : lw_I G f o A ot gn M S) (hP : mw_P (gD G) gx_cl M H) (hS : va_S (gA G) s.heap H locs) (hl : lv_has ls 7 [(0, .ref b), (1, .ref (f0 f)), (2, .ref o), (3, .ref ot), (4, .int (nI (7 * j)))]) : W p l e room_1 s m #[Value.ref b] below meth c H locs C D Q (F0 m 1154 ls []) := by
  obtain ⟨hx, hb, hml, hown, htb, hE, hN, hXs, hbl, hbA, hAn, htr, hL⟩ := C0
  have hK := hE.1
  obtain ⟨g0, hot⟩ := id hI.2.2.1
  obtain ⟨x0, hx0⟩ : ∃ z9, z9 = xs (7 * j) := ⟨_, rfl⟩
  obtain ⟨x1, hx1⟩ : ∃ z9, z9 = xs (7 * j + 1) := ⟨_, rfl⟩
  have e_1 : nI (7 * j) + 1 = nI (7 * j + 1) := nI_add _ 1
  obtain ⟨x2, hx2⟩ : ∃ z9, z9 = xs (7 * j + 2) := ⟨_, rfl⟩
  have e_2 : nI (7 * j) + 2 = nI (7 * j + 2) := nI_add _ 2
  obtain ⟨x3, hx3⟩ : ∃ z9, z9 = xs (7 * j + 3) := ⟨_, rfl⟩
  have e_3 : nI (7 * j) + 3 = nI (7 * j + 3) := nI_add _ 3
  obtain ⟨x4, hx4⟩ : ∃ z9, z9 = xs (7 * j + 4) := ⟨_, rfl⟩
  have e_4 : nI (7 * j) + 4 = nI (7 * j + 4) := nI_add _ 4
  obtain ⟨x5, hx5⟩ : ∃ z9, z9 = xs (7 * j + 5) := ⟨_, rfl⟩
  have e_5 : nI (7 * j) + 5 = nI (7 * j + 5) := nI_add _ 5
  obtain ⟨x6, hx6⟩ : ∃ z9, z9 = xs (7 * j + 6) := ⟨_, rfl⟩
  have e_6 : nI (7 * j) + 6 = nI (7 * j + 6) := nI_add _ 6
  refine lv_aload_n hx hb dL_law_1154 rfl (lv_at hl 1 rfl) ?_
  refine lv_aload_n hx hb dL_law_1155 rfl (lv_at hl 0 rfl) ?_
  refine lv_iload hx hb dL_law_1156 (lv_at hl 4 rfl) ?_
  refine lv_iconst (v := 1) hx hb dL_law_1158 (by decide) ?_
  refine lv_iadd hx hb dL_law_1159 ?_
  refine va_sld hx hb hXs hbl hbA hS (by rw [e_1]; exact vp_in_nI (show 7 * j + 1 < L by omega) (by omega)) dL_law_1160 ?_
  refine W.eq (g2 := F0 m 1161 ls [.int x1, .ref (f0 f)]) (by rw [e_1, nI_clamp (show 7 * j + 1 < 2 ^ 31 by omega), ← hx1]) ?_
  refine lv_aload_n hx hb dL_law_1161 rfl (lv_at hl 0 rfl) ?_
  refine lv_iload hx hb dL_law_1162 (lv_at hl 4 rfl) ?_
  refine lv_iconst (v := 2) hx hb dL_law_1164 (by decide) ?_
  refine lv_iadd hx hb dL_law_1165 ?_
  refine va_sld hx hb hXs hbl hbA hS (by rw [e_2]; exact vp_in_nI (show 7 * j + 2 < L by omega) (by omega)) dL_law_1166 ?_
  refine W.eq (g2 := F0 m 1167 ls [.int x2, .int x1, .ref (f0 f)]) (by rw [e_2, nI_clamp (show 7 * j + 2 < 2 ^ 31 by omega), ← hx2]) ?_
  refine lv_aload_n hx hb dL_law_1167 rfl (lv_at hl 3 rfl) ?_
  refine mw_callN (As := [.ref (f0 f), .int x1, .int x2, .ref ot]) (rest := []) hx hb hml hown hl (kL_centre l htr G H.size M f S hI.1 hI.2.2.2.2 (fun q h => hAn q (Nat.le_trans hS.1 h)) ot g0 hot J.2.1.2.1 J.2.1.1 J.2.1.2.2.2 x1 x2) (g_BW (n := 4) htb wd496 wd0 wd494 (by decide +kernel) ⟨Nat.le_of_ble_eq_true rfl, Nat.le_of_ble_eq_true rfl⟩) (htb _ wd495) hE hN hP hS rfl rfl (Nat.le_of_ble_eq_true rfl) dL_law_1168 ⟨show C + 20 ≤ 601024 from by omega, show D + 900 ≤ 7293034 from by omega⟩ (fun v9 M9 H locs hpo hP hz hS => ?_)
  obtain ⟨rfl, ho1, hR1, hk1⟩ := hpo
  obtain ⟨M1, hM1⟩ : ∃ z9 : mw_M, z9 = M9 := ⟨_, rfl⟩
  rw [← hM1] at hP ho1 hR1 hk1
  obtain ⟨th, z, hmR⟩ := lw_w1 J hI hk1
  obtain ⟨np, bg, g9, hT9, -⟩ := id hmR
  refine W.eq (g2 := F0 m 1171 ls [.int (nI (ex_centre S x1 x2))]) rfl ?_
  refine lv_istore (lv' := [(5, .int (nI (ex_centre S x1 x2))), (0, .ref b), (1, .ref (f0 f)), (2, .ref o), (3, .ref ot), (4, .int (nI (7 * j)))]) hx hb dL_law_1171 hl (by decide) rfl (fun ls hl => ?_)
  refine lv_aload_n hx hb dL_law_1173 rfl (lv_at hl 3 rfl) ?_
  refine lv_aload_n hx hb dL_law_1174 rfl (lv_at hl 1 rfl) ?_
  refine lv_iload hx hb dL_law_1175 (lv_at hl 5 rfl) ?_
  refine lv_iconst (v := 1) hx hb dL_law_1177 (by decide) ?_
  refine lv_iadd hx hb dL_law_1178 ?_
  refine va_sld hx hb hXs hbl hbA hS (by rw [e_1]; exact vp_in_nI (show 7 * j + 1 < L by omega) (by omega)) dL_law_1179 ?_
  refine W.eq (g2 := F0 m 1180 ls [.int x1, .ref o]) (by rw [e_1, nI_clamp (show 7 * j + 1 < 2 ^ 31 by omega), ← hx1]) ?_
  refine lv_aload_n hx hb dL_law_1180 rfl (lv_at hl 1 rfl) ?_
  refine lv_iload hx hb dL_law_1181 (lv_at hl 5 rfl) ?_
  refine lv_iconst (v := 2) hx hb dL_law_1183 (by decide) ?_
  refine lv_iadd hx hb dL_law_1184 ?_
  refine va_sld hx hb hXs hbl hbA hS (by rw [e_2]; exact vp_in_nI (show 7 * j + 2 < L by omega) (by omega)) dL_law_1185 ?_
  refine W.eq (g2 := F0 m 1186 ls [.int x2, .int x1, .ref o]) (by rw [e_2, nI_clamp (show 7 * j + 2 < 2 ^ 31 by omega), ← hx2]) ?_
  refine mw_callV (C := RX4) (As := [.int x1, .int x2]) (rest := []) hx hb hml hown hl (kX4_centre l htr G H.size M1 o A th z S hmR hI.1.ok x1 x2) (g_B (n := 2) htb wd713 wd3 wd710 (by decide +kernel) ⟨Nat.le_of_ble_eq_true rfl, Nat.le_of_ble_eq_true rfl⟩) (htb _ wd711) (htb _ wd712) hE hP hS hT9.1 rfl rfl rfl (Nat.le_of_ble_eq_true rfl) dL_law_1186 ⟨show C + 20 + 0 ≤ 601024 from by omega, show D + 900 + 0 ≤ 7293034 from by omega⟩ (fun v9 M9 H locs hpo hP hz hS => ?_) (fun x9 E9 cell9 H9 locs9 hE9 => hE9.elim)
  have hmk := hpo
  obtain ⟨rfl, -, -⟩ := hpo
  obtain ⟨M2, hM2⟩ : ∃ z9 : mw_M, z9 = M9 := ⟨_, rfl⟩
  rw [← hM2] at hP hmk
  obtain ⟨hI2, ⟨g2, hot2, hφ⟩, z2, hmR2⟩ := lw_w2 J hI hk1 hR1 ho1 hmk
  obtain ⟨np2, bg2, g92, hT92, -⟩ := id hmR2
  refine W.eq (g2 := F0 m 1189 ls [.int (if ex_centre S x1 x2 = 0 then nI (sN S) else 0)]) rfl ?_
  refine lv_istore (lv' := [(6, .int (if ex_centre S x1 x2 = 0 then nI (sN S) else 0)), (5, .int (nI (ex_centre S x1 x2))), (0, .ref b), (1, .ref (f0 f)), (2, .ref o), (3, .ref ot), (4, .int (nI (7 * j)))]) hx hb dL_law_1189 hl (by decide) rfl (fun ls hl => ?_)
  refine lv_aload_n hx hb dL_law_1191 rfl (lv_at hl 4 rfl) ?_
  refine mw_callV (C := RX4) (As := []) (rest := []) hx hb hml hown hl (kX4_thrown l htr G H.size M2 o A (nI (ex_centre S x1 x2)) z2 (if ex_centre S x1 x2 = 0 then fs_push S (re_centre S x1 x2) else S) hmR2) (g_B (n := 0) htb wd592 wd3 wd589 (by decide +kernel) ⟨Nat.le_of_ble_eq_true rfl, Nat.le_of_ble_eq_true rfl⟩) (htb _ wd590) (htb _ wd591) hE hP hS hT92.1 rfl rfl rfl (Nat.le_of_ble_eq_true rfl) dL_law_1192 ⟨show C + 20 + 0 + 0 ≤ 601024 from by omega, show D + 900 + 0 + 0 ≤ 7293034 from by omega⟩ (fun v9 M9 H locs hpo hP hz hS => ?_) (fun x9 E9 cell9 H9 locs9 hE9 => hE9.elim)
  obtain ⟨rfl, rfl⟩ := hpo
  refine W.eq (g2 := F0 m 1195 ls [.int (nI (ex_centre S x1 x2))]) rfl ?_
  refine lv_iload hx hb dL_law_1195 (lv_at hl 1 rfl) ?_
  refine lv_icmp_eq (tgt := 1202) hx hb dL_law_1197 (by decide) (fun c_1 => ?_) (fun c_1 => absurd rfl c_1)
  refine lv_iload hx hb dL_law_1202 (lv_at hl 1 rfl) ?_
  refine lv_if_ne (tgt := 1219) hx hb dL_law_1204 (by decide) (fun c_2 => ?_) (fun c_2 => ?_)
  · refine lv_goto (tgt := 1383) hx hb dL_law_1219 (by decide) ?_
    refine W.widen (k := C + 30) (n := D + 1000) (show C + 20 + 0 + 0 ≤ C + 30 by omega) (show D + 900 + 0 + 0 ≤ D + 1000 by omega) ?_
    exact K _ _ _ _ _ hI2 hP hS (lv_sub hl [2, 3, 4, 5, 6] rfl)
  · refine lv_aload_n hx hb dL_law_1207 rfl (lv_at hl 5 rfl) ?_
    refine lv_iconst (v := 0) hx hb dL_law_1208 (by decide) ?_
    refine mw_lald hx hb hK hP 3 hot2 rfl (by unfold vp_in; decide) dL_law_1209 ?_
    have hex : ex_centre S x1 x2 = 0 := ex0 (by unfold ex_centre; exact le4_ite (by decide) (le4_ite (by decide) (le4_ite (by decide) (by decide)))) c_2
    have hg0 := hφ hex
    refine W.eq (g2 := F0 m 1210 ls [.long (nI (sN S)).toInt64]) (show F0 m 1210 ls [.long (g2 0)] = _ from by rw [hg0]) ?_
    refine lv_iload hx hb dL_law_1210 (lv_at hl 0 rfl) ?_
    refine lv_i2l hx hb dL_law_1212 rfl ?_
    refine W.eq (g2 := F0 m 1213 ls [.long (nI (sN S)).toInt64, .long (nI (sN S)).toInt64]) (by rw [if_pos hex]) ?_
    refine mw_lcmpE hx hb dL_law_1213 ?_
    refine lv_if_eq (tgt := 1219) hx hb dL_law_1214 (by decide) (fun c_3 => ?_) (fun c_3 => absurd (by decide) c_3)
    refine lv_goto (tgt := 1383) hx hb dL_law_1219 (by decide) ?_
    refine W.widen (k := C + 30) (n := D + 1000) (show C + 20 + 0 + 0 ≤ C + 30 by omega) (show D + 900 + 0 + 0 ≤ D + 1000 by omega) ?_
    exact K _ _ _ _ _ hI2 hP hS (lv_sub hl [2, 3, 4, 5, 6] rfl)
-- told
set_option maxHeartbeats 4000000 in
set_option maxRecDepth 100000 in
theorem lwc_13 {p : Program} {l : Launch} {e : Env} {s : State} {m : MethodId} {below : List Frame} {meth : Method} {c : Code} {Q : State → Prop} (G : gx_G) (f : fs_A) (o : Nat) (A : Nat → Nat) (ot : Nat) (gn : Nat → Int32) (b L : Nat) (xs : Nat → Int32) (C0 : lw_C l G p s m c b L xs) (J : lw_J G f o A ot) (j : Nat) (hj : 7 * j + 7 ≤ L) (C D : Nat) (hC : C + 30 ≤ 601024) (hD : D + 1000 ≤ 7293034)
    (K : ∀ (M' : mw_M) (S' : fs_S) (H' : Heap) (locs' : List Loc) (ls' : Array Slot), lw_I G f o A ot gn M' S' → mw_P (gD G) gx_cl M' H' → va_S (gA G) s.heap H' locs' → lv_has ls' 7 [(0, .ref b), (1, .ref (f0 f)), (2, .ref o), (3, .ref ot), (4, .int (nI (7 * j)))] → W p l e room_1 s m #[Value.ref b] below meth c H' locs' (C + 30) (D + 1000) Q (F0 m 1383 ls' []))
    {M : mw_M} {S : fs_S} {H : Heap} {locs : List Loc} {ls : Array Slot} (hI : lw_I G f o A ot gn M S) (hP : mw_P (gD G) gx_cl M H) (hS : va_S (gA G) s.heap H locs) (hl : lv_has ls 7 [(0, .ref b), (1, .ref (f0 f)), (2, .ref o), (3, .ref ot), (4, .int (nI (7 * j)))]) : W p l e room_1 s m #[Value.ref b] below meth c H locs C D Q (F0 m 1222 ls []) := by
  obtain ⟨hx, hb, hml, hown, htb, hE, hN, hXs, hbl, hbA, hAn, htr, hL⟩ := C0
  have hK := hE.1
  obtain ⟨g0, hot⟩ := id hI.2.2.1
  obtain ⟨x0, hx0⟩ : ∃ z9, z9 = xs (7 * j) := ⟨_, rfl⟩
  obtain ⟨x1, hx1⟩ : ∃ z9, z9 = xs (7 * j + 1) := ⟨_, rfl⟩
  have e_1 : nI (7 * j) + 1 = nI (7 * j + 1) := nI_add _ 1
  obtain ⟨x2, hx2⟩ : ∃ z9, z9 = xs (7 * j + 2) := ⟨_, rfl⟩
  have e_2 : nI (7 * j) + 2 = nI (7 * j + 2) := nI_add _ 2
  obtain ⟨x3, hx3⟩ : ∃ z9, z9 = xs (7 * j + 3) := ⟨_, rfl⟩
  have e_3 : nI (7 * j) + 3 = nI (7 * j + 3) := nI_add _ 3
  obtain ⟨x4, hx4⟩ : ∃ z9, z9 = xs (7 * j + 4) := ⟨_, rfl⟩
  have e_4 : nI (7 * j) + 4 = nI (7 * j + 4) := nI_add _ 4
  obtain ⟨x5, hx5⟩ : ∃ z9, z9 = xs (7 * j + 5) := ⟨_, rfl⟩
  have e_5 : nI (7 * j) + 5 = nI (7 * j + 5) := nI_add _ 5
  obtain ⟨x6, hx6⟩ : ∃ z9, z9 = xs (7 * j + 6) := ⟨_, rfl⟩
  have e_6 : nI (7 * j) + 6 = nI (7 * j + 6) := nI_add _ 6
  refine lv_aload_n hx hb dL_law_1222 rfl (lv_at hl 1 rfl) ?_
  refine lv_aload_n hx hb dL_law_1223 rfl (lv_at hl 0 rfl) ?_
  refine lv_iload hx hb dL_law_1224 (lv_at hl 4 rfl) ?_
  refine lv_iconst (v := 1) hx hb dL_law_1226 (by decide) ?_
  refine lv_iadd hx hb dL_law_1227 ?_
  refine va_sld hx hb hXs hbl hbA hS (by rw [e_1]; exact vp_in_nI (show 7 * j + 1 < L by omega) (by omega)) dL_law_1228 ?_
  refine W.eq (g2 := F0 m 1229 ls [.int x1, .ref (f0 f)]) (by rw [e_1, nI_clamp (show 7 * j + 1 < 2 ^ 31 by omega), ← hx1]) ?_
  refine lv_aload_n hx hb dL_law_1229 rfl (lv_at hl 0 rfl) ?_
  refine lv_iload hx hb dL_law_1230 (lv_at hl 4 rfl) ?_
  refine lv_iconst (v := 2) hx hb dL_law_1232 (by decide) ?_
  refine lv_iadd hx hb dL_law_1233 ?_
  refine va_sld hx hb hXs hbl hbA hS (by rw [e_2]; exact vp_in_nI (show 7 * j + 2 < L by omega) (by omega)) dL_law_1234 ?_
  refine W.eq (g2 := F0 m 1235 ls [.int x2, .int x1, .ref (f0 f)]) (by rw [e_2, nI_clamp (show 7 * j + 2 < 2 ^ 31 by omega), ← hx2]) ?_
  refine lv_aload_n hx hb dL_law_1235 rfl (lv_at hl 3 rfl) ?_
  refine mw_callN (As := [.ref (f0 f), .int x1, .int x2, .ref ot]) (rest := []) hx hb hml hown hl (kL_told l htr G H.size M f S hI.1 hI.2.2.2.2 (fun q h => hAn q (Nat.le_trans hS.1 h)) ot g0 hot J.2.1.2.1 J.2.1.1 J.2.1.2.2.2 x1 x2) (g_BW (n := 4) htb wd503 wd0 wd501 (by decide +kernel) ⟨Nat.le_of_ble_eq_true rfl, Nat.le_of_ble_eq_true rfl⟩) (htb _ wd502) hE hN hP hS rfl rfl (Nat.le_of_ble_eq_true rfl) dL_law_1236 ⟨show C + 20 ≤ 601024 from by omega, show D + 900 ≤ 7293034 from by omega⟩ (fun v9 M9 H locs hpo hP hz hS => ?_)
  obtain ⟨rfl, ho1, hR1, hk1⟩ := hpo
  obtain ⟨M1, hM1⟩ : ∃ z9 : mw_M, z9 = M9 := ⟨_, rfl⟩
  rw [← hM1] at hP ho1 hR1 hk1
  obtain ⟨th, z, hmR⟩ := lw_w1 J hI hk1
  obtain ⟨np, bg, g9, hT9, -⟩ := id hmR
  refine W.eq (g2 := F0 m 1239 ls [.int (nI (ex_told S x1 x2))]) rfl ?_
  refine lv_istore (lv' := [(5, .int (nI (ex_told S x1 x2))), (0, .ref b), (1, .ref (f0 f)), (2, .ref o), (3, .ref ot), (4, .int (nI (7 * j)))]) hx hb dL_law_1239 hl (by decide) rfl (fun ls hl => ?_)
  refine lv_aload_n hx hb dL_law_1241 rfl (lv_at hl 3 rfl) ?_
  refine lv_aload_n hx hb dL_law_1242 rfl (lv_at hl 1 rfl) ?_
  refine lv_iload hx hb dL_law_1243 (lv_at hl 5 rfl) ?_
  refine lv_iconst (v := 1) hx hb dL_law_1245 (by decide) ?_
  refine lv_iadd hx hb dL_law_1246 ?_
  refine va_sld hx hb hXs hbl hbA hS (by rw [e_1]; exact vp_in_nI (show 7 * j + 1 < L by omega) (by omega)) dL_law_1247 ?_
  refine W.eq (g2 := F0 m 1248 ls [.int x1, .ref o]) (by rw [e_1, nI_clamp (show 7 * j + 1 < 2 ^ 31 by omega), ← hx1]) ?_
  refine lv_aload_n hx hb dL_law_1248 rfl (lv_at hl 1 rfl) ?_
  refine lv_iload hx hb dL_law_1249 (lv_at hl 5 rfl) ?_
  refine lv_iconst (v := 2) hx hb dL_law_1251 (by decide) ?_
  refine lv_iadd hx hb dL_law_1252 ?_
  refine va_sld hx hb hXs hbl hbA hS (by rw [e_2]; exact vp_in_nI (show 7 * j + 2 < L by omega) (by omega)) dL_law_1253 ?_
  refine W.eq (g2 := F0 m 1254 ls [.int x2, .int x1, .ref o]) (by rw [e_2, nI_clamp (show 7 * j + 2 < 2 ^ 31 by omega), ← hx2]) ?_
  refine mw_callV (C := RX4) (As := [.int x1, .int x2]) (rest := []) hx hb hml hown hl (kX4_told l htr G H.size M1 o A th z S hmR hI.1.ok x1 x2) (g_B (n := 2) htb wd717 wd3 wd714 (by decide +kernel) ⟨Nat.le_of_ble_eq_true rfl, Nat.le_of_ble_eq_true rfl⟩) (htb _ wd715) (htb _ wd716) hE hP hS hT9.1 rfl rfl rfl (Nat.le_of_ble_eq_true rfl) dL_law_1254 ⟨show C + 20 + 0 ≤ 601024 from by omega, show D + 900 + 0 ≤ 7293034 from by omega⟩ (fun v9 M9 H locs hpo hP hz hS => ?_) (fun x9 E9 cell9 H9 locs9 hE9 => hE9.elim)
  have hmk := hpo
  obtain ⟨rfl, -, -⟩ := hpo
  obtain ⟨M2, hM2⟩ : ∃ z9 : mw_M, z9 = M9 := ⟨_, rfl⟩
  rw [← hM2] at hP hmk
  obtain ⟨hI2, ⟨g2, hot2, hφ⟩, z2, hmR2⟩ := lw_w2 J hI hk1 hR1 ho1 hmk
  obtain ⟨np2, bg2, g92, hT92, -⟩ := id hmR2
  refine W.eq (g2 := F0 m 1257 ls [.int (if ex_told S x1 x2 = 0 then re_told S x1 x2 else 0)]) rfl ?_
  refine lv_istore (lv' := [(6, .int (if ex_told S x1 x2 = 0 then re_told S x1 x2 else 0)), (5, .int (nI (ex_told S x1 x2))), (0, .ref b), (1, .ref (f0 f)), (2, .ref o), (3, .ref ot), (4, .int (nI (7 * j)))]) hx hb dL_law_1257 hl (by decide) rfl (fun ls hl => ?_)
  refine lv_aload_n hx hb dL_law_1259 rfl (lv_at hl 4 rfl) ?_
  refine mw_callV (C := RX4) (As := []) (rest := []) hx hb hml hown hl (kX4_thrown l htr G H.size M2 o A (nI (ex_told S x1 x2)) z2 (if ex_told S x1 x2 = 0 then S else S) hmR2) (g_B (n := 0) htb wd592 wd3 wd589 (by decide +kernel) ⟨Nat.le_of_ble_eq_true rfl, Nat.le_of_ble_eq_true rfl⟩) (htb _ wd590) (htb _ wd591) hE hP hS hT92.1 rfl rfl rfl (Nat.le_of_ble_eq_true rfl) dL_law_1260 ⟨show C + 20 + 0 + 0 ≤ 601024 from by omega, show D + 900 + 0 + 0 ≤ 7293034 from by omega⟩ (fun v9 M9 H locs hpo hP hz hS => ?_) (fun x9 E9 cell9 H9 locs9 hE9 => hE9.elim)
  obtain ⟨rfl, rfl⟩ := hpo
  refine W.eq (g2 := F0 m 1263 ls [.int (nI (ex_told S x1 x2))]) rfl ?_
  refine lv_iload hx hb dL_law_1263 (lv_at hl 1 rfl) ?_
  refine lv_icmp_eq (tgt := 1270) hx hb dL_law_1265 (by decide) (fun c_1 => ?_) (fun c_1 => absurd rfl c_1)
  refine lv_iload hx hb dL_law_1270 (lv_at hl 1 rfl) ?_
  refine lv_if_ne (tgt := 1287) hx hb dL_law_1272 (by decide) (fun c_2 => ?_) (fun c_2 => ?_)
  · refine lv_goto (tgt := 1383) hx hb dL_law_1287 (by decide) ?_
    refine W.widen (k := C + 30) (n := D + 1000) (show C + 20 + 0 + 0 ≤ C + 30 by omega) (show D + 900 + 0 + 0 ≤ D + 1000 by omega) ?_
    exact K _ _ _ _ _ hI2 hP hS (lv_sub hl [2, 3, 4, 5, 6] rfl)
  · refine lv_aload_n hx hb dL_law_1275 rfl (lv_at hl 5 rfl) ?_
    refine lv_iconst (v := 0) hx hb dL_law_1276 (by decide) ?_
    refine mw_lald hx hb hK hP 3 hot2 rfl (by unfold vp_in; decide) dL_law_1277 ?_
    have hex : ex_told S x1 x2 = 0 := ex0 (by unfold ex_told; exact le4_ite (by decide) (by decide)) c_2
    have hg0 := hφ hex
    refine W.eq (g2 := F0 m 1278 ls [.long (re_told S x1 x2).toInt64]) (show F0 m 1278 ls [.long (g2 0)] = _ from by rw [hg0]) ?_
    refine lv_iload hx hb dL_law_1278 (lv_at hl 0 rfl) ?_
    refine lv_i2l hx hb dL_law_1280 rfl ?_
    refine W.eq (g2 := F0 m 1281 ls [.long (re_told S x1 x2).toInt64, .long (re_told S x1 x2).toInt64]) (by rw [if_pos hex]) ?_
    refine mw_lcmpE hx hb dL_law_1281 ?_
    refine lv_if_eq (tgt := 1287) hx hb dL_law_1282 (by decide) (fun c_3 => ?_) (fun c_3 => absurd (by decide) c_3)
    refine lv_goto (tgt := 1383) hx hb dL_law_1287 (by decide) ?_
    refine W.widen (k := C + 30) (n := D + 1000) (show C + 20 + 0 + 0 ≤ C + 30 by omega) (show D + 900 + 0 + 0 ≤ D + 1000 by omega) ?_
    exact K _ _ _ _ _ hI2 hP hS (lv_sub hl [2, 3, 4, 5, 6] rfl)
-- part
set_option maxHeartbeats 4000000 in
set_option maxRecDepth 100000 in
theorem lwc_14 {p : Program} {l : Launch} {e : Env} {s : State} {m : MethodId} {below : List Frame} {meth : Method} {c : Code} {Q : State → Prop} (G : gx_G) (f : fs_A) (o : Nat) (A : Nat → Nat) (ot : Nat) (gn : Nat → Int32) (b L : Nat) (xs : Nat → Int32) (C0 : lw_C l G p s m c b L xs) (J : lw_J G f o A ot) (j : Nat) (hj : 7 * j + 7 ≤ L) (C D : Nat) (hC : C + 30 ≤ 601024) (hD : D + 1000 ≤ 7293034)
    (K : ∀ (M' : mw_M) (S' : fs_S) (H' : Heap) (locs' : List Loc) (ls' : Array Slot), lw_I G f o A ot gn M' S' → mw_P (gD G) gx_cl M' H' → va_S (gA G) s.heap H' locs' → lv_has ls' 7 [(0, .ref b), (1, .ref (f0 f)), (2, .ref o), (3, .ref ot), (4, .int (nI (7 * j)))] → W p l e room_1 s m #[Value.ref b] below meth c H' locs' (C + 30) (D + 1000) Q (F0 m 1383 ls' []))
    {M : mw_M} {S : fs_S} {H : Heap} {locs : List Loc} {ls : Array Slot} (hI : lw_I G f o A ot gn M S) (hP : mw_P (gD G) gx_cl M H) (hS : va_S (gA G) s.heap H locs) (hl : lv_has ls 7 [(0, .ref b), (1, .ref (f0 f)), (2, .ref o), (3, .ref ot), (4, .int (nI (7 * j)))]) : W p l e room_1 s m #[Value.ref b] below meth c H locs C D Q (F0 m 1290 ls []) := by
  obtain ⟨hx, hb, hml, hown, htb, hE, hN, hXs, hbl, hbA, hAn, htr, hL⟩ := C0
  have hK := hE.1
  obtain ⟨g0, hot⟩ := id hI.2.2.1
  obtain ⟨x0, hx0⟩ : ∃ z9, z9 = xs (7 * j) := ⟨_, rfl⟩
  obtain ⟨x1, hx1⟩ : ∃ z9, z9 = xs (7 * j + 1) := ⟨_, rfl⟩
  have e_1 : nI (7 * j) + 1 = nI (7 * j + 1) := nI_add _ 1
  obtain ⟨x2, hx2⟩ : ∃ z9, z9 = xs (7 * j + 2) := ⟨_, rfl⟩
  have e_2 : nI (7 * j) + 2 = nI (7 * j + 2) := nI_add _ 2
  obtain ⟨x3, hx3⟩ : ∃ z9, z9 = xs (7 * j + 3) := ⟨_, rfl⟩
  have e_3 : nI (7 * j) + 3 = nI (7 * j + 3) := nI_add _ 3
  obtain ⟨x4, hx4⟩ : ∃ z9, z9 = xs (7 * j + 4) := ⟨_, rfl⟩
  have e_4 : nI (7 * j) + 4 = nI (7 * j + 4) := nI_add _ 4
  obtain ⟨x5, hx5⟩ : ∃ z9, z9 = xs (7 * j + 5) := ⟨_, rfl⟩
  have e_5 : nI (7 * j) + 5 = nI (7 * j + 5) := nI_add _ 5
  obtain ⟨x6, hx6⟩ : ∃ z9, z9 = xs (7 * j + 6) := ⟨_, rfl⟩
  have e_6 : nI (7 * j) + 6 = nI (7 * j + 6) := nI_add _ 6
  refine lv_aload_n hx hb dL_law_1290 rfl (lv_at hl 1 rfl) ?_
  refine lv_aload_n hx hb dL_law_1291 rfl (lv_at hl 0 rfl) ?_
  refine lv_iload hx hb dL_law_1292 (lv_at hl 4 rfl) ?_
  refine lv_iconst (v := 1) hx hb dL_law_1294 (by decide) ?_
  refine lv_iadd hx hb dL_law_1295 ?_
  refine va_sld hx hb hXs hbl hbA hS (by rw [e_1]; exact vp_in_nI (show 7 * j + 1 < L by omega) (by omega)) dL_law_1296 ?_
  refine W.eq (g2 := F0 m 1297 ls [.int x1, .ref (f0 f)]) (by rw [e_1, nI_clamp (show 7 * j + 1 < 2 ^ 31 by omega), ← hx1]) ?_
  refine lv_aload_n hx hb dL_law_1297 rfl (lv_at hl 0 rfl) ?_
  refine lv_iload hx hb dL_law_1298 (lv_at hl 4 rfl) ?_
  refine lv_iconst (v := 2) hx hb dL_law_1300 (by decide) ?_
  refine lv_iadd hx hb dL_law_1301 ?_
  refine va_sld hx hb hXs hbl hbA hS (by rw [e_2]; exact vp_in_nI (show 7 * j + 2 < L by omega) (by omega)) dL_law_1302 ?_
  refine W.eq (g2 := F0 m 1303 ls [.int x2, .int x1, .ref (f0 f)]) (by rw [e_2, nI_clamp (show 7 * j + 2 < 2 ^ 31 by omega), ← hx2]) ?_
  refine lv_aload_n hx hb dL_law_1303 rfl (lv_at hl 0 rfl) ?_
  refine lv_iload hx hb dL_law_1304 (lv_at hl 4 rfl) ?_
  refine lv_iconst (v := 3) hx hb dL_law_1306 (by decide) ?_
  refine lv_iadd hx hb dL_law_1307 ?_
  refine va_sld hx hb hXs hbl hbA hS (by rw [e_3]; exact vp_in_nI (show 7 * j + 3 < L by omega) (by omega)) dL_law_1308 ?_
  refine W.eq (g2 := F0 m 1309 ls [.int x3, .int x2, .int x1, .ref (f0 f)]) (by rw [e_3, nI_clamp (show 7 * j + 3 < 2 ^ 31 by omega), ← hx3]) ?_
  refine lv_aload_n hx hb dL_law_1309 rfl (lv_at hl 3 rfl) ?_
  refine mw_callN (As := [.ref (f0 f), .int x1, .int x2, .int x3, .ref ot]) (rest := []) hx hb hml hown hl (kL_part l htr G H.size M f S hI.1 hI.2.2.2.2 (fun q h => hAn q (Nat.le_trans hS.1 h)) ot g0 hot J.2.1.2.1 J.2.1.1 J.2.1.2.2.2 x1 x2 x3) (g_BW (n := 5) htb wd511 wd0 wd509 (by decide +kernel) ⟨Nat.le_of_ble_eq_true rfl, Nat.le_of_ble_eq_true rfl⟩) (htb _ wd510) hE hN hP hS rfl rfl (Nat.le_of_ble_eq_true rfl) dL_law_1310 ⟨show C + 20 ≤ 601024 from by omega, show D + 900 ≤ 7293034 from by omega⟩ (fun v9 M9 H locs hpo hP hz hS => ?_)
  obtain ⟨rfl, ho1, hR1, hk1⟩ := hpo
  obtain ⟨M1, hM1⟩ : ∃ z9 : mw_M, z9 = M9 := ⟨_, rfl⟩
  rw [← hM1] at hP ho1 hR1 hk1
  obtain ⟨th, z, hmR⟩ := lw_w1 J hI hk1
  obtain ⟨np, bg, g9, hT9, -⟩ := id hmR
  refine W.eq (g2 := F0 m 1313 ls [.int (nI (ex_part S x1 x2 x3))]) rfl ?_
  refine lv_istore (lv' := [(5, .int (nI (ex_part S x1 x2 x3))), (0, .ref b), (1, .ref (f0 f)), (2, .ref o), (3, .ref ot), (4, .int (nI (7 * j)))]) hx hb dL_law_1313 hl (by decide) rfl (fun ls hl => ?_)
  refine lv_aload_n hx hb dL_law_1315 rfl (lv_at hl 3 rfl) ?_
  refine lv_aload_n hx hb dL_law_1316 rfl (lv_at hl 1 rfl) ?_
  refine lv_iload hx hb dL_law_1317 (lv_at hl 5 rfl) ?_
  refine lv_iconst (v := 1) hx hb dL_law_1319 (by decide) ?_
  refine lv_iadd hx hb dL_law_1320 ?_
  refine va_sld hx hb hXs hbl hbA hS (by rw [e_1]; exact vp_in_nI (show 7 * j + 1 < L by omega) (by omega)) dL_law_1321 ?_
  refine W.eq (g2 := F0 m 1322 ls [.int x1, .ref o]) (by rw [e_1, nI_clamp (show 7 * j + 1 < 2 ^ 31 by omega), ← hx1]) ?_
  refine lv_aload_n hx hb dL_law_1322 rfl (lv_at hl 1 rfl) ?_
  refine lv_iload hx hb dL_law_1323 (lv_at hl 5 rfl) ?_
  refine lv_iconst (v := 2) hx hb dL_law_1325 (by decide) ?_
  refine lv_iadd hx hb dL_law_1326 ?_
  refine va_sld hx hb hXs hbl hbA hS (by rw [e_2]; exact vp_in_nI (show 7 * j + 2 < L by omega) (by omega)) dL_law_1327 ?_
  refine W.eq (g2 := F0 m 1328 ls [.int x2, .int x1, .ref o]) (by rw [e_2, nI_clamp (show 7 * j + 2 < 2 ^ 31 by omega), ← hx2]) ?_
  refine lv_aload_n hx hb dL_law_1328 rfl (lv_at hl 1 rfl) ?_
  refine lv_iload hx hb dL_law_1329 (lv_at hl 5 rfl) ?_
  refine lv_iconst (v := 3) hx hb dL_law_1331 (by decide) ?_
  refine lv_iadd hx hb dL_law_1332 ?_
  refine va_sld hx hb hXs hbl hbA hS (by rw [e_3]; exact vp_in_nI (show 7 * j + 3 < L by omega) (by omega)) dL_law_1333 ?_
  refine W.eq (g2 := F0 m 1334 ls [.int x3, .int x2, .int x1, .ref o]) (by rw [e_3, nI_clamp (show 7 * j + 3 < 2 ^ 31 by omega), ← hx3]) ?_
  refine mw_callV (C := RX4) (As := [.int x1, .int x2, .int x3]) (rest := []) hx hb hml hown hl (kX4_part l htr G H.size M1 o A th z S hmR hI.1.ok x1 x2 x3) (g_B (n := 3) htb wd721 wd3 wd718 (by decide +kernel) ⟨Nat.le_of_ble_eq_true rfl, Nat.le_of_ble_eq_true rfl⟩) (htb _ wd719) (htb _ wd720) hE hP hS hT9.1 rfl rfl rfl (Nat.le_of_ble_eq_true rfl) dL_law_1334 ⟨show C + 20 + 0 ≤ 601024 from by omega, show D + 900 + 0 ≤ 7293034 from by omega⟩ (fun v9 M9 H locs hpo hP hz hS => ?_) (fun x9 E9 cell9 H9 locs9 hE9 => hE9.elim)
  have hmk := hpo
  obtain ⟨rfl, -, -⟩ := hpo
  obtain ⟨M2, hM2⟩ : ∃ z9 : mw_M, z9 = M9 := ⟨_, rfl⟩
  rw [← hM2] at hP hmk
  obtain ⟨hI2, ⟨g2, hot2, hφ⟩, z2, hmR2⟩ := lw_w2 J hI hk1 hR1 ho1 hmk
  obtain ⟨np2, bg2, g92, hT92, -⟩ := id hmR2
  refine W.eq (g2 := F0 m 1337 ls [.int (if ex_part S x1 x2 x3 = 0 then re_part S x1 x2 x3 else 0)]) rfl ?_
  refine lv_istore (lv' := [(6, .int (if ex_part S x1 x2 x3 = 0 then re_part S x1 x2 x3 else 0)), (5, .int (nI (ex_part S x1 x2 x3))), (0, .ref b), (1, .ref (f0 f)), (2, .ref o), (3, .ref ot), (4, .int (nI (7 * j)))]) hx hb dL_law_1337 hl (by decide) rfl (fun ls hl => ?_)
  refine lv_aload_n hx hb dL_law_1339 rfl (lv_at hl 4 rfl) ?_
  refine mw_callV (C := RX4) (As := []) (rest := []) hx hb hml hown hl (kX4_thrown l htr G H.size M2 o A (nI (ex_part S x1 x2 x3)) z2 (if ex_part S x1 x2 x3 = 0 then S else S) hmR2) (g_B (n := 0) htb wd592 wd3 wd589 (by decide +kernel) ⟨Nat.le_of_ble_eq_true rfl, Nat.le_of_ble_eq_true rfl⟩) (htb _ wd590) (htb _ wd591) hE hP hS hT92.1 rfl rfl rfl (Nat.le_of_ble_eq_true rfl) dL_law_1340 ⟨show C + 20 + 0 + 0 ≤ 601024 from by omega, show D + 900 + 0 + 0 ≤ 7293034 from by omega⟩ (fun v9 M9 H locs hpo hP hz hS => ?_) (fun x9 E9 cell9 H9 locs9 hE9 => hE9.elim)
  obtain ⟨rfl, rfl⟩ := hpo
  refine W.eq (g2 := F0 m 1343 ls [.int (nI (ex_part S x1 x2 x3))]) rfl ?_
  refine lv_iload hx hb dL_law_1343 (lv_at hl 1 rfl) ?_
  refine lv_icmp_eq (tgt := 1350) hx hb dL_law_1345 (by decide) (fun c_1 => ?_) (fun c_1 => absurd rfl c_1)
  refine lv_iload hx hb dL_law_1350 (lv_at hl 1 rfl) ?_
  refine lv_if_ne (tgt := 1367) hx hb dL_law_1352 (by decide) (fun c_2 => ?_) (fun c_2 => ?_)
  · refine lv_goto (tgt := 1383) hx hb dL_law_1367 (by decide) ?_
    refine W.widen (k := C + 30) (n := D + 1000) (show C + 20 + 0 + 0 ≤ C + 30 by omega) (show D + 900 + 0 + 0 ≤ D + 1000 by omega) ?_
    exact K _ _ _ _ _ hI2 hP hS (lv_sub hl [2, 3, 4, 5, 6] rfl)
  · refine lv_aload_n hx hb dL_law_1355 rfl (lv_at hl 5 rfl) ?_
    refine lv_iconst (v := 0) hx hb dL_law_1356 (by decide) ?_
    refine mw_lald hx hb hK hP 3 hot2 rfl (by unfold vp_in; decide) dL_law_1357 ?_
    have hex : ex_part S x1 x2 x3 = 0 := ex0 (by unfold ex_part; exact le4_ite (by decide) (by decide)) c_2
    have hg0 := hφ hex
    refine W.eq (g2 := F0 m 1358 ls [.long (re_part S x1 x2 x3).toInt64]) (show F0 m 1358 ls [.long (g2 0)] = _ from by rw [hg0]) ?_
    refine lv_iload hx hb dL_law_1358 (lv_at hl 0 rfl) ?_
    refine lv_i2l hx hb dL_law_1360 rfl ?_
    refine W.eq (g2 := F0 m 1361 ls [.long (re_part S x1 x2 x3).toInt64, .long (re_part S x1 x2 x3).toInt64]) (by rw [if_pos hex]) ?_
    refine mw_lcmpE hx hb dL_law_1361 ?_
    refine lv_if_eq (tgt := 1367) hx hb dL_law_1362 (by decide) (fun c_3 => ?_) (fun c_3 => absurd (by decide) c_3)
    refine lv_goto (tgt := 1383) hx hb dL_law_1367 (by decide) ?_
    refine W.widen (k := C + 30) (n := D + 1000) (show C + 20 + 0 + 0 ≤ C + 30 by omega) (show D + 900 + 0 + 0 ≤ D + 1000 by omega) ?_
    exact K _ _ _ _ _ hI2 hP hS (lv_sub hl [2, 3, 4, 5, 6] rfl)
