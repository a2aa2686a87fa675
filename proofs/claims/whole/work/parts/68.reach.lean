/-! printed by wip/whole/spec*.py -/
theorem md_ab.parts {np : Nat} {bg : Nat → Nat} {g : Nat → Nat → Int32} {S : fs_S} {w y d : Int32} {P : List Int32} {rw rh : Int32} (h : md_ab np bg g (fs_push S (w, y, d, P, rw, rh))) {k : Nat} (hk : k < P.length / 3) : g 8 (bg (sN S) + k) = P.getD (3 * k) 0 ∧ g 10 (bg (sN S) + k) = P.getD (3 * k + 2) 0 :=
  ⟨(h.topb.2.2.2.2.2 k hk).1, (h.topb.2.2.2.2.2 k hk).2.2⟩
theorem md_ab.beg {np : Nat} {bg : Nat → Nat} {g : Nat → Nat → Int32} {S : fs_S} {w y d : Int32} {P : List Int32} {rw rh : Int32} (h : md_ab np bg g (fs_push S (w, y, d, P, rw, rh))) : g 4 (sN S) = nI (bg (sN S)) := h.topb.1.2.2.2.1
-- X4_reach
set_option maxHeartbeats 4000000 in
set_option maxRecDepth 100000 in
theorem kX4_reach (l : Launch) (htr : l.stackTraces = false) (G : gx_G) (sz : Nat) (M : mw_M) (o : Nat) (A : Nat → Nat) (th z : Int32) (S : fs_S) (w : Int32) (P : List Int32) (hR : md_R G o A M th z (fs_push S (w, 0, 0, P, 0, 0))) (hPin : ∀ j, 3 * j < P.length → ∃ i, i < sN S ∧ P.getD (3 * j) 0 = nI i) : g_Met l G yX4_reach (.code yX4_reach cX4_reach 6 none) ({ frames := 2, cells := 0, slots := 0, locals := 100 } : Room) sz M [.ref o] (fun v M9 => v = none ∧ md_R G o A M9 th z (fs_push S (fs_en S w P)) ∧ md_keeps o A M M9) (fun _ => False) := by
  refine MetE.ofW (cc := cX4_reach) (maxL := 6) (ret := none) (by decide) rfl ?_
  intro p e s m args below meth c s₁ B hml hv
  obtain ⟨rfl, hsz, hP, hE⟩ := hv
  have hx := B.exec
  have hb := B.bytes
  have hr := B.returns
  have hts := atoms_spec (ws := _ :: lw_big) B.pre
  have htb : ∀ w ∈ lw_big, w.before _ s = true := fun w h => hts w (List.mem_cons_of_mem _ h)
  have hno := B.noHandlers (hts _ List.mem_cons_self)
  have hown : s.vm.findClass RX4 = some m.cls := findClass_of_methodNamed B.named
  have hlocks := B.notSynchronized
  have hK := hE.1
  subst hsz
  have hS : va_S (gA G) s.heap s.heap [] := va_S.rf
  have hl := lv_entry ([.ref o]) (n := 6) (Nat.le_of_ble_eq_true rfl)
  rw [lg_entry_eq]
  generalize (lg_sl ([.ref o]) ++ List.replicate (6 - (lg_sl ([.ref o])).length) Slot.unset).toArray = ls at hl ⊢
  have hl : lv_has ls 6 [(0, .ref o)] := hl
  obtain ⟨np, bg, g, hT, hB⟩ := id hR
  rw [sN_push] at hT
  have hT : md_at G o A M th (sSp S) (sSh S) (nI (sN S + 1)) (nI np) z g := hT
  have hk : md_keeps o A M M := md_keeps.rf o A M
  have hle : sN S + 1 ≤ 120 := by have := hB.1; rw [sN_push] at this; exact this
  have e_top : nI (sN S + 1) - 1 = nI (sN S) := top_1 _
  have hP3 : P.length % 3 = 0 := hB.topb.2.1
  have hP9 : P.length ≤ 369 := hB.topb.2.2.1
  refine lv_aload_n hx hb dX4_reach_0 rfl (lv_at hl 0 rfl) ?_
  refine mw_get (D := gD G) (ci := 4) (v := .int (nI (sN S + 1))) (C := RX4) (T := TX4) (N := 21) hx hb htb inX4 hown hK hP hT.1 rfl 4 (by decide) (htb _ wd528) (fun _ h9 => h9) rfl dX4_reach_1 ?_
  refine lv_iconst (v := 1) hx hb dX4_reach_4 (by decide) ?_
  refine lv_isub hx hb dX4_reach_5 ?_
  refine lv_istore_n (lv' := [(1, .int ((nI (sN S + 1)) - 1)), (0, .ref o)]) hx hb dX4_reach_6 rfl hl (by decide) rfl (fun ls hl => ?_)
  refine lv_iconst (v := 0) hx hb dX4_reach_7 (by decide) ?_
  refine lv_istore_n (lv' := [(2, .int 0), (1, .int ((nI (sN S + 1)) - 1)), (0, .ref o)]) hx hb dX4_reach_8 rfl hl (by decide) rfl (fun ls hl => ?_)
  rw [e_top] at hl
  have loop : ∀ (n j : Nat), j + n = P.length / 3 → ∀ (M1 : mw_M), md_R G o A M1 th z (fs_push S (w, fs_eh S P j, fs_ed S P j, P, 0, 0)) → md_keeps o A M M1 → ∀ (H : Heap) (locs : List Loc) (ls : Array Slot), mw_P (gD G) gx_cl M1 H → va_S (gA G) s.heap H locs → lv_has ls 6 [(0, .ref o), (1, .int (nI (sN S))), (2, .int (nI j))] → W p l e (headSpec (Cond.code yX4_reach cX4_reach 6 none :: lw_big) ({ frames := 2, cells := 0, slots := 0, locals := 100 } : Room)).room s m ([.ref o] : List Value).toArray below meth c H locs 0 0 (mx_Q below (mw_Qx (gD G) gx_cl M (fun v M9 => v = none ∧ md_R G o A M9 th z (fs_push S (fs_en S w P)) ∧ md_keeps o A M M9) (fun _ => False) (gA G)) ([.ref o] : List Value).toArray s ({ frames := 2, cells := 0, slots := 0, locals := 100 } : Room).cells ({ frames := 2, cells := 0, slots := 0, locals := 100 } : Room).slots (gA G)) (F0 m 9 ls []) := by
    intro n
    induction n with
    | zero =>
      intro j hj M1 hR1 hk H locs ls hP hS hl
      obtain ⟨np1, bg1, g1, hT, hB⟩ := id hR1
      rw [sN_push] at hT
      have hT : md_at G o A M1 th (sSp S) (sSh S) (nI (sN S + 1)) (nI np1) z g1 := hT
      have hK7 : nI (P.length / 3) ≤ nI j := nI_le (by omega) (by omega)
      refine lv_iload_n hx hb dX4_reach_9 rfl (lv_at hl 2 rfl) ?_
      refine lv_aload_n hx hb dX4_reach_10 rfl (lv_at hl 0 rfl) ?_
      refine mw_get (D := gD G) (ci := 4) (v := .ref (A 5)) (C := RX4) (T := TX4) (N := 21) hx hb htb inX4 hown hK hP hT.1 rfl 9 (by decide) (htb _ wd533) (fun _ h9 => h9) rfl dX4_reach_11 ?_
      refine lv_iload_n hx hb dX4_reach_14 rfl (lv_at hl 1 rfl) ?_
      refine mw_iald hx hb hK hP 0 (show M1 (A 5) = some (.inl (gI G, 120, .inl (g1 5))) from hT.2.1 5 (by decide)) rfl (by exact vp_in_nI (show (sN S) < 120 by have := hle; omega) (by decide)) dX4_reach_15 ?_
      refine W.eq (g2 := F0 m 16 ls [.int (nI (P.length / 3)), .int (nI j)]) (by rw [nI_clamp (show (sN S) < 2 ^ 31 by have := hle; omega), hB.topM]) ?_
      refine lv_icmp_ge (tgt := 126) hx hb dX4_reach_16 (by decide) (fun c_2 => ?_) (fun c_2 => absurd hK7 c_2)
      have hjn : j = P.length / 3 := by omega
      exact mx_vret (M' := M1) hx hb hr hlocks hP hS ⟨rfl, by rw [fs_en, ← hjn]; exact hR1, hk⟩ dX4_reach_126 (Nat.le_of_ble_eq_true rfl) (Nat.le_of_ble_eq_true rfl)
    | succ n ih =>
      intro j hj M1 hR1 hk H locs ls hP hS hl
      obtain ⟨np3, bg3, g3, hT, hB⟩ := id hR1
      rw [sN_push] at hT
      have hT : md_at G o A M1 th (sSp S) (sSh S) (nI (sN S + 1)) (nI np3) z g3 := hT
      have hK7 : ¬ nI (P.length / 3) ≤ nI j := nI_ge (by omega) (by omega)
      obtain ⟨bi, h_bi, ebi⟩ := hPin j (by omega)
      have hbl : bg3 (sN S) + P.length / 3 ≤ np3 := hB.topb.2.2.2.2.1
      have hnl : np3 ≤ 123 * (sN S + 1) := by have h9 := hB.2.1; rw [sN_push] at h9; exact h9
      have e_ij : nI (bg3 (sN S)) + nI j = nI (bg3 (sN S) + j) := nI_add _ _
      obtain ⟨hp8, hp10⟩ := hB.parts (k := j) (by omega)
      refine lv_iload_n hx hb dX4_reach_9 rfl (lv_at hl 2 rfl) ?_
      refine lv_aload_n hx hb dX4_reach_10 rfl (lv_at hl 0 rfl) ?_
      refine mw_get (D := gD G) (ci := 4) (v := .ref (A 5)) (C := RX4) (T := TX4) (N := 21) hx hb htb inX4 hown hK hP hT.1 rfl 9 (by decide) (htb _ wd533) (fun _ h9 => h9) rfl dX4_reach_11 ?_
      refine lv_iload_n hx hb dX4_reach_14 rfl (lv_at hl 1 rfl) ?_
      refine mw_iald hx hb hK hP 0 (show M1 (A 5) = some (.inl (gI G, 120, .inl (g3 5))) from hT.2.1 5 (by decide)) rfl (by exact vp_in_nI (show (sN S) < 120 by have := hle; omega) (by decide)) dX4_reach_15 ?_
      refine W.eq (g2 := F0 m 16 ls [.int (nI (P.length / 3)), .int (nI j)]) (by rw [nI_clamp (show (sN S) < 2 ^ 31 by have := hle; omega), hB.topM]) ?_
      refine lv_icmp_ge (tgt := 126) hx hb dX4_reach_16 (by decide) (fun c_4 => absurd c_4 hK7) (fun c_4 => ?_)
      refine lv_aload_n hx hb dX4_reach_19 rfl (lv_at hl 0 rfl) ?_
      refine mw_get (D := gD G) (ci := 4) (v := .ref (A 4)) (C := RX4) (T := TX4) (N := 21) hx hb htb inX4 hown hK hP hT.1 rfl 8 (by decide) (htb _ wd532) (fun _ h9 => h9) rfl dX4_reach_20 ?_
      refine lv_iload_n hx hb dX4_reach_23 rfl (lv_at hl 1 rfl) ?_
      refine mw_iald hx hb hK hP 0 (show M1 (A 4) = some (.inl (gI G, 120, .inl (g3 4))) from hT.2.1 4 (by decide)) rfl (by exact vp_in_nI (show (sN S) < 120 by have := hle; omega) (by decide)) dX4_reach_24 ?_
      refine W.eq (g2 := F0 m 25 ls [.int (nI (bg3 (sN S)))]) (by rw [nI_clamp (show (sN S) < 2 ^ 31 by have := hle; omega), hB.beg]) ?_
      refine lv_iload_n hx hb dX4_reach_25 rfl (lv_at hl 2 rfl) ?_
      refine lv_iadd hx hb dX4_reach_26 ?_
      refine lv_istore_n (lv' := [(3, .int ((nI (bg3 (sN S))) + (nI j))), (0, .ref o), (1, .int (nI (sN S))), (2, .int (nI j))]) hx hb dX4_reach_27 rfl hl (by decide) rfl (fun ls hl => ?_)
      refine lv_aload_n hx hb dX4_reach_28 rfl (lv_at hl 1 rfl) ?_
      refine mw_get (D := gD G) (ci := 4) (v := .ref (A 10)) (C := RX4) (T := TX4) (N := 21) hx hb htb inX4 hown hK hP hT.1 rfl 15 (by decide) (htb _ wd539) (fun _ h9 => h9) rfl dX4_reach_29 ?_
      refine lv_iload_n hx hb dX4_reach_32 rfl (lv_at hl 0 rfl) ?_
      refine mw_iald hx hb hK hP 0 (show M1 (A 10) = some (.inl (gI G, 14800, .inl (g3 10))) from hT.2.1 10 (by decide)) rfl (by rw [e_ij]; exact vp_in_nI (show (bg3 (sN S) + j) < 14800 by omega) (by decide)) dX4_reach_33 ?_
      refine W.eq (g2 := F0 m 34 ls [.int (P.getD (3 * j + 2) 0)]) (by rw [e_ij, nI_clamp (show (bg3 (sN S) + j) < 2 ^ 31 by omega), hp10]) ?_
      refine lv_aload_n hx hb dX4_reach_34 rfl (lv_at hl 1 rfl) ?_
      refine mw_get (D := gD G) (ci := 4) (v := .ref (A 2)) (C := RX4) (T := TX4) (N := 21) hx hb htb inX4 hown hK hP hT.1 rfl 6 (by decide) (htb _ wd530) (fun _ h9 => h9) rfl dX4_reach_35 ?_
      refine lv_aload_n hx hb dX4_reach_38 rfl (lv_at hl 1 rfl) ?_
      refine mw_get (D := gD G) (ci := 4) (v := .ref (A 8)) (C := RX4) (T := TX4) (N := 21) hx hb htb inX4 hown hK hP hT.1 rfl 13 (by decide) (htb _ wd537) (fun _ h9 => h9) rfl dX4_reach_39 ?_
      refine lv_iload_n hx hb dX4_reach_42 rfl (lv_at hl 0 rfl) ?_
      refine mw_iald hx hb hK hP 0 (show M1 (A 8) = some (.inl (gI G, 14800, .inl (g3 8))) from hT.2.1 8 (by decide)) rfl (by rw [e_ij]; exact vp_in_nI (show (bg3 (sN S) + j) < 14800 by omega) (by decide)) dX4_reach_43 ?_
      refine W.eq (g2 := F0 m 44 ls [.int (nI bi), .ref (A 2), .int (P.getD (3 * j + 2) 0)]) (by rw [e_ij, nI_clamp (show (bg3 (sN S) + j) < 2 ^ 31 by omega), hp8, ebi]) ?_
      refine mw_iald hx hb hK hP 0 (show M1 (A 2) = some (.inl (gI G, 120, .inl (g3 2))) from hT.2.1 2 (by decide)) rfl (by exact vp_in_nI (show bi < 120 by have := hle; omega) (by decide)) dX4_reach_44 ?_
      refine W.eq (g2 := F0 m 45 ls [.int (bH S bi), .int (P.getD (3 * j + 2) 0)]) (by rw [nI_clamp (show bi < 2 ^ 31 by have := hle; omega), hB.H (show bi < sN (fs_push S (w, (fs_eh S P j), (fs_ed S P j), P, 0, 0)) by rw [sN_push]; omega), bH_push _ h_bi]) ?_
      refine lv_iadd hx hb dX4_reach_45 ?_
      refine lv_istore (lv' := [(4, .int ((P.getD (3 * j + 2) 0) + (bH S bi))), (3, .int ((nI (bg3 (sN S))) + (nI j))), (0, .ref o), (1, .int (nI (sN S))), (2, .int (nI j))]) hx hb dX4_reach_46 hl (by decide) rfl (fun ls hl => ?_)
      refine lv_aload_n hx hb dX4_reach_48 rfl (lv_at hl 2 rfl) ?_
      refine mw_get (D := gD G) (ci := 4) (v := .ref (A 3)) (C := RX4) (T := TX4) (N := 21) hx hb htb inX4 hown hK hP hT.1 rfl 7 (by decide) (htb _ wd531) (fun _ h9 => h9) rfl dX4_reach_49 ?_
      refine lv_aload_n hx hb dX4_reach_52 rfl (lv_at hl 2 rfl) ?_
      refine mw_get (D := gD G) (ci := 4) (v := .ref (A 8)) (C := RX4) (T := TX4) (N := 21) hx hb htb inX4 hown hK hP hT.1 rfl 13 (by decide) (htb _ wd537) (fun _ h9 => h9) rfl dX4_reach_53 ?_
      refine lv_iload_n hx hb dX4_reach_56 rfl (lv_at hl 1 rfl) ?_
      refine mw_iald hx hb hK hP 0 (show M1 (A 8) = some (.inl (gI G, 14800, .inl (g3 8))) from hT.2.1 8 (by decide)) rfl (by rw [e_ij]; exact vp_in_nI (show (bg3 (sN S) + j) < 14800 by omega) (by decide)) dX4_reach_57 ?_
      refine W.eq (g2 := F0 m 58 ls [.int (nI bi), .ref (A 3)]) (by rw [e_ij, nI_clamp (show (bg3 (sN S) + j) < 2 ^ 31 by omega), hp8, ebi]) ?_
      refine mw_iald hx hb hK hP 0 (show M1 (A 3) = some (.inl (gI G, 120, .inl (g3 3))) from hT.2.1 3 (by decide)) rfl (by exact vp_in_nI (show bi < 120 by have := hle; omega) (by decide)) dX4_reach_58 ?_
      refine W.eq (g2 := F0 m 59 ls [.int (bD S bi)]) (by rw [nI_clamp (show bi < 2 ^ 31 by have := hle; omega), hB.D (show bi < sN (fs_push S (w, (fs_eh S P j), (fs_ed S P j), P, 0, 0)) by rw [sN_push]; omega), bD_push _ h_bi]) ?_
      refine lv_aload_n hx hb dX4_reach_59 rfl (lv_at hl 2 rfl) ?_
      refine mw_get (D := gD G) (ci := 4) (v := .ref (A 10)) (C := RX4) (T := TX4) (N := 21) hx hb htb inX4 hown hK hP hT.1 rfl 15 (by decide) (htb _ wd539) (fun _ h9 => h9) rfl dX4_reach_60 ?_
      refine lv_iload_n hx hb dX4_reach_63 rfl (lv_at hl 1 rfl) ?_
      refine mw_iald hx hb hK hP 0 (show M1 (A 10) = some (.inl (gI G, 14800, .inl (g3 10))) from hT.2.1 10 (by decide)) rfl (by rw [e_ij]; exact vp_in_nI (show (bg3 (sN S) + j) < 14800 by omega) (by decide)) dX4_reach_64 ?_
      refine W.eq (g2 := F0 m 65 ls [.int (P.getD (3 * j + 2) 0), .int (bD S bi)]) (by rw [e_ij, nI_clamp (show (bg3 (sN S) + j) < 2 ^ 31 by omega), hp10]) ?_
      refine lv_isub hx hb dX4_reach_65 ?_
      refine lv_istore (lv' := [(5, .int ((bD S bi) - (P.getD (3 * j + 2) 0))), (4, .int ((P.getD (3 * j + 2) 0) + (bH S bi))), (3, .int ((nI (bg3 (sN S))) + (nI j))), (0, .ref o), (1, .int (nI (sN S))), (2, .int (nI j))]) hx hb dX4_reach_66 hl (by decide) rfl (fun ls hl => ?_)
      refine lv_aload_n hx hb dX4_reach_68 rfl (lv_at hl 3 rfl) ?_
      refine mw_get (D := gD G) (ci := 4) (v := .ref (A 2)) (C := RX4) (T := TX4) (N := 21) hx hb htb inX4 hown hK hP hT.1 rfl 6 (by decide) (htb _ wd530) (fun _ h9 => h9) rfl dX4_reach_69 ?_
      refine lv_iload_n hx hb dX4_reach_72 rfl (lv_at hl 4 rfl) ?_
      refine lv_iload_n hx hb dX4_reach_73 rfl (lv_at hl 5 rfl) ?_
      refine lv_if_ne (tgt := 82) hx hb dX4_reach_74 (by decide) (fun c_5 => ?_) (fun c_5 => ?_)
      · refine lv_aload_n hx hb dX4_reach_82 rfl (lv_at hl 3 rfl) ?_
        refine mw_get (D := gD G) (ci := 4) (v := .ref (A 2)) (C := RX4) (T := TX4) (N := 21) hx hb htb inX4 hown hK hP hT.1 rfl 6 (by decide) (htb _ wd530) (fun _ h9 => h9) rfl dX4_reach_83 ?_
        refine lv_iload_n hx hb dX4_reach_86 rfl (lv_at hl 4 rfl) ?_
        refine mw_iald hx hb hK hP 0 (show M1 (A 2) = some (.inl (gI G, 120, .inl (g3 2))) from hT.2.1 2 (by decide)) rfl (by exact vp_in_nI (show (sN S) < 120 by have := hle; omega) (by decide)) dX4_reach_87 ?_
        refine W.eq (g2 := F0 m 88 ls [.int (fs_eh S P j), .int (nI (sN S)), .ref (A 2)]) (by rw [nI_clamp (show (sN S) < 2 ^ 31 by have := hle; omega), hB.topH]) ?_
        refine lv_iload hx hb dX4_reach_88 (lv_at hl 1 rfl) ?_
        refine mw_callS (As := [.int (fs_eh S P j), .int ((P.getD (3 * j + 2) 0) + (bH S bi))]) (rest := [.int (nI (sN S)), .ref (A 2)]) hx hb hml hown hl (kX4_greater l htr G H.size M1 (fs_eh S P j) ((P.getD (3 * j + 2) 0) + (bH S bi))) (g_B (n := 2) htb wd664 wd3 wd662 (by decide +kernel) ⟨Nat.le_of_ble_eq_true rfl, Nat.le_of_ble_eq_true rfl⟩) (htb _ wd663) hE hP hS rfl rfl (Nat.le_of_ble_eq_true rfl) dX4_reach_90 ⟨Nat.le_of_ble_eq_true rfl, Nat.le_of_ble_eq_true rfl⟩ (fun v9 M9 H locs hpo hP hz hS => ?_) (fun x9 E9 cell9 H9 locs9 hE9 => hE9.elim)
        obtain ⟨rfl, rfl⟩ := hpo
        refine W.eq (g2 := F0 m 93 ls [.int (fMx (fs_eh S P j) ((P.getD (3 * j + 2) 0) + (bH S bi))), .int (nI (sN S)), .ref (A 2)]) rfl ?_
        refine mw_iast hx hb hK hP hS 0 (show M1 (A 2) = some (.inl (gI G, 120, .inl (g3 2))) from hT.2.1 2 (by decide)) (hT.2.2.2.2 2 (by decide)) rfl (by exact vp_in_nI (show (sN S) < 120 by have := hle; omega) (by decide)) dX4_reach_93 (fun H locs hP hS => ?_)
        rw [nI_clamp (show (sN S) < 2 ^ 31 by have := hle; omega)] at hP
        obtain ⟨M_6, hM_6⟩ : ∃ z9 : mw_M, z9 = mw_up M1 (A 2) (.inl (gI G, 120, .inl (upd (g3 2) (sN S) (fMx (fs_eh S P j) ((P.getD (3 * j + 2) 0) + (bH S bi)))))) := ⟨_, rfl⟩
        have hP : mw_P (gD G) gx_cl M_6 H := by rw [hM_6]; exact hP
        obtain ⟨g_7, hg_7⟩ : ∃ z9, z9 = ug g3 2 (sN S) (fMx (fs_eh S P j) ((P.getD (3 * j + 2) 0) + (bH S bi))) := ⟨_, rfl⟩
        have hT : md_at G o A M_6 th (sSp S) (sSh S) (nI (sN S + 1)) (nI np3) z g_7 := by rw [hg_7]; exact md_at.put hT (by decide) rfl rfl hM_6
        have hk : md_keeps o A M M_6 := md_keeps.arr (j := 2) hk (by decide) hM_6
        have hB : md_ab np3 bg3 g_7 (fs_push S (w, (fMx (fs_eh S P j) ((P.getD (3 * j + 2) 0) + (bH S bi))), (fs_ed S P j), P, 0, 0)) := by rw [hg_7]; exact md_ab.set2 hB _
        refine lv_aload_n hx hb dX4_reach_94 rfl (lv_at hl 3 rfl) ?_
        refine mw_get (D := gD G) (ci := 4) (v := .ref (A 3)) (C := RX4) (T := TX4) (N := 21) hx hb htb inX4 hown hK hP hT.1 rfl 7 (by decide) (htb _ wd531) (fun _ h9 => h9) rfl dX4_reach_95 ?_
        refine lv_iload_n hx hb dX4_reach_98 rfl (lv_at hl 4 rfl) ?_
        refine lv_iload_n hx hb dX4_reach_99 rfl (lv_at hl 5 rfl) ?_
        refine lv_if_ne (tgt := 108) hx hb dX4_reach_100 (by decide) (fun c_8 => ?_) (fun c_8 => absurd c_8 c_5)
        refine lv_aload_n hx hb dX4_reach_108 rfl (lv_at hl 3 rfl) ?_
        refine mw_get (D := gD G) (ci := 4) (v := .ref (A 3)) (C := RX4) (T := TX4) (N := 21) hx hb htb inX4 hown hK hP hT.1 rfl 7 (by decide) (htb _ wd531) (fun _ h9 => h9) rfl dX4_reach_109 ?_
        refine lv_iload_n hx hb dX4_reach_112 rfl (lv_at hl 4 rfl) ?_
        refine mw_iald hx hb hK hP 0 (show M_6 (A 3) = some (.inl (gI G, 120, .inl (g_7 3))) from hT.2.1 3 (by decide)) rfl (by exact vp_in_nI (show (sN S) < 120 by have := hle; omega) (by decide)) dX4_reach_113 ?_
        refine W.eq (g2 := F0 m 114 ls [.int (fs_ed S P j), .int (nI (sN S)), .ref (A 3)]) (by rw [nI_clamp (show (sN S) < 2 ^ 31 by have := hle; omega), hB.topD]) ?_
        refine lv_iload hx hb dX4_reach_114 (lv_at hl 0 rfl) ?_
        refine mw_callS (As := [.int (fs_ed S P j), .int ((bD S bi) - (P.getD (3 * j + 2) 0))]) (rest := [.int (nI (sN S)), .ref (A 3)]) hx hb hml hown hl (kX4_greater l htr G H.size M_6 (fs_ed S P j) ((bD S bi) - (P.getD (3 * j + 2) 0))) (g_B (n := 2) htb wd664 wd3 wd662 (by decide +kernel) ⟨Nat.le_of_ble_eq_true rfl, Nat.le_of_ble_eq_true rfl⟩) (htb _ wd663) hE hP hS rfl rfl (Nat.le_of_ble_eq_true rfl) dX4_reach_116 ⟨Nat.le_of_ble_eq_true rfl, Nat.le_of_ble_eq_true rfl⟩ (fun v9 M9 H locs hpo hP hz hS => ?_) (fun x9 E9 cell9 H9 locs9 hE9 => hE9.elim)
        obtain ⟨rfl, rfl⟩ := hpo
        refine W.eq (g2 := F0 m 119 ls [.int (fMx (fs_ed S P j) ((bD S bi) - (P.getD (3 * j + 2) 0))), .int (nI (sN S)), .ref (A 3)]) rfl ?_
        refine mw_iast hx hb hK hP hS 0 (show M_6 (A 3) = some (.inl (gI G, 120, .inl (g_7 3))) from hT.2.1 3 (by decide)) (hT.2.2.2.2 3 (by decide)) rfl (by exact vp_in_nI (show (sN S) < 120 by have := hle; omega) (by decide)) dX4_reach_119 (fun H locs hP hS => ?_)
        rw [nI_clamp (show (sN S) < 2 ^ 31 by have := hle; omega)] at hP
        obtain ⟨M_9, hM_9⟩ : ∃ z9 : mw_M, z9 = mw_up M_6 (A 3) (.inl (gI G, 120, .inl (upd (g_7 3) (sN S) (fMx (fs_ed S P j) ((bD S bi) - (P.getD (3 * j + 2) 0)))))) := ⟨_, rfl⟩
        have hP : mw_P (gD G) gx_cl M_9 H := by rw [hM_9]; exact hP
        obtain ⟨g_10, hg_10⟩ : ∃ z9, z9 = ug g_7 3 (sN S) (fMx (fs_ed S P j) ((bD S bi) - (P.getD (3 * j + 2) 0))) := ⟨_, rfl⟩
        have hT : md_at G o A M_9 th (sSp S) (sSh S) (nI (sN S + 1)) (nI np3) z g_10 := by rw [hg_10]; exact md_at.put hT (by decide) rfl rfl hM_9
        have hk : md_keeps o A M M_9 := md_keeps.arr (j := 3) hk (by decide) hM_9
        have hB : md_ab np3 bg3 g_10 (fs_push S (w, (fMx (fs_eh S P j) ((P.getD (3 * j + 2) 0) + (bH S bi))), (fMx (fs_ed S P j) ((bD S bi) - (P.getD (3 * j + 2) 0))), P, 0, 0)) := by rw [hg_10]; exact md_ab.set3 hB _
        obtain ⟨v_11, ev_11⟩ : ∃ y : Int32, y = (nI j) + 1 := ⟨_, rfl⟩
        refine lv_iinc (v := v_11) (lv' := [(2, .int v_11), (5, .int ((bD S bi) - (P.getD (3 * j + 2) 0))), (4, .int ((P.getD (3 * j + 2) 0) + (bH S bi))), (3, .int ((nI (bg3 (sN S))) + (nI j))), (0, .ref o), (1, .int (nI (sN S)))]) hx hb dX4_reach_120 hl (k := 5) rfl (by rw [ev_11]; rfl) (by decide) rfl (fun ls hl => ?_)
        refine lv_goto (tgt := 9) hx hb dX4_reach_123 (by decide) ?_
        obtain rfl : v_11 = nI (j + 1) := by rw [ev_11]; exact nI_1 j
        have hbn : (P.getD (3 * j) 0).toNatClampNeg = bi := by rw [ebi]; exact nI_clamp (show bi < 2 ^ 31 by omega)
        have hj0 : ¬ j = 0 := fun q => c_5 (by rw [q]; rfl)
        have eh : fs_eh S P (j + 1) = (fMx (fs_eh S P j) ((P.getD (3 * j + 2) 0) + (bH S bi))) := by simp only [fs_eh, if_neg hj0]; rw [hbn]
        have ed : fs_ed S P (j + 1) = (fMx (fs_ed S P j) ((bD S bi) - (P.getD (3 * j + 2) 0))) := by simp only [fs_ed, if_neg hj0]; rw [hbn]
        refine W.widen (k := 0) (n := 0) (Nat.le_of_ble_eq_true rfl) (Nat.le_of_ble_eq_true rfl) ?_
        exact ih (j + 1) (by omega) M_9 (by rw [eh, ed]; exact (md_R.of (np := np3) hT hB : md_R G o A M_9 th z (fs_push S (w, (fMx (fs_eh S P j) ((P.getD (3 * j + 2) 0) + (bH S bi))), (fMx (fs_ed S P j) ((bD S bi) - (P.getD (3 * j + 2) 0))), P, 0, 0)))) hk H locs ls hP hS (lv_sub hl [4, 5, 0] rfl)
      · refine lv_iload hx hb dX4_reach_77 (lv_at hl 1 rfl) ?_
        refine lv_goto (tgt := 93) hx hb dX4_reach_79 (by decide) ?_
        refine mw_iast hx hb hK hP hS 0 (show M1 (A 2) = some (.inl (gI G, 120, .inl (g3 2))) from hT.2.1 2 (by decide)) (hT.2.2.2.2 2 (by decide)) rfl (by exact vp_in_nI (show (sN S) < 120 by have := hle; omega) (by decide)) dX4_reach_93 (fun H locs hP hS => ?_)
        rw [nI_clamp (show (sN S) < 2 ^ 31 by have := hle; omega)] at hP
        obtain ⟨M_12, hM_12⟩ : ∃ z9 : mw_M, z9 = mw_up M1 (A 2) (.inl (gI G, 120, .inl (upd (g3 2) (sN S) ((P.getD (3 * j + 2) 0) + (bH S bi))))) := ⟨_, rfl⟩
        have hP : mw_P (gD G) gx_cl M_12 H := by rw [hM_12]; exact hP
        obtain ⟨g_13, hg_13⟩ : ∃ z9, z9 = ug g3 2 (sN S) ((P.getD (3 * j + 2) 0) + (bH S bi)) := ⟨_, rfl⟩
        have hT : md_at G o A M_12 th (sSp S) (sSh S) (nI (sN S + 1)) (nI np3) z g_13 := by rw [hg_13]; exact md_at.put hT (by decide) rfl rfl hM_12
        have hk : md_keeps o A M M_12 := md_keeps.arr (j := 2) hk (by decide) hM_12
        have hB : md_ab np3 bg3 g_13 (fs_push S (w, ((P.getD (3 * j + 2) 0) + (bH S bi)), (fs_ed S P j), P, 0, 0)) := by rw [hg_13]; exact md_ab.set2 hB _
        refine lv_aload_n hx hb dX4_reach_94 rfl (lv_at hl 3 rfl) ?_
        refine mw_get (D := gD G) (ci := 4) (v := .ref (A 3)) (C := RX4) (T := TX4) (N := 21) hx hb htb inX4 hown hK hP hT.1 rfl 7 (by decide) (htb _ wd531) (fun _ h9 => h9) rfl dX4_reach_95 ?_
        refine lv_iload_n hx hb dX4_reach_98 rfl (lv_at hl 4 rfl) ?_
        refine lv_iload_n hx hb dX4_reach_99 rfl (lv_at hl 5 rfl) ?_
        refine lv_if_ne (tgt := 108) hx hb dX4_reach_100 (by decide) (fun c_14 => absurd c_5 c_14) (fun c_14 => ?_)
        refine lv_iload hx hb dX4_reach_103 (lv_at hl 0 rfl) ?_
        refine lv_goto (tgt := 119) hx hb dX4_reach_105 (by decide) ?_
        refine mw_iast hx hb hK hP hS 0 (show M_12 (A 3) = some (.inl (gI G, 120, .inl (g_13 3))) from hT.2.1 3 (by decide)) (hT.2.2.2.2 3 (by decide)) rfl (by exact vp_in_nI (show (sN S) < 120 by have := hle; omega) (by decide)) dX4_reach_119 (fun H locs hP hS => ?_)
        rw [nI_clamp (show (sN S) < 2 ^ 31 by have := hle; omega)] at hP
        obtain ⟨M_15, hM_15⟩ : ∃ z9 : mw_M, z9 = mw_up M_12 (A 3) (.inl (gI G, 120, .inl (upd (g_13 3) (sN S) ((bD S bi) - (P.getD (3 * j + 2) 0))))) := ⟨_, rfl⟩
        have hP : mw_P (gD G) gx_cl M_15 H := by rw [hM_15]; exact hP
        obtain ⟨g_16, hg_16⟩ : ∃ z9, z9 = ug g_13 3 (sN S) ((bD S bi) - (P.getD (3 * j + 2) 0)) := ⟨_, rfl⟩
        have hT : md_at G o A M_15 th (sSp S) (sSh S) (nI (sN S + 1)) (nI np3) z g_16 := by rw [hg_16]; exact md_at.put hT (by decide) rfl rfl hM_15
        have hk : md_keeps o A M M_15 := md_keeps.arr (j := 3) hk (by decide) hM_15
        have hB : md_ab np3 bg3 g_16 (fs_push S (w, ((P.getD (3 * j + 2) 0) + (bH S bi)), ((bD S bi) - (P.getD (3 * j + 2) 0)), P, 0, 0)) := by rw [hg_16]; exact md_ab.set3 hB _
        obtain ⟨v_17, ev_17⟩ : ∃ y : Int32, y = (nI j) + 1 := ⟨_, rfl⟩
        refine lv_iinc (v := v_17) (lv' := [(2, .int v_17), (5, .int ((bD S bi) - (P.getD (3 * j + 2) 0))), (4, .int ((P.getD (3 * j + 2) 0) + (bH S bi))), (3, .int ((nI (bg3 (sN S))) + (nI j))), (0, .ref o), (1, .int (nI (sN S)))]) hx hb dX4_reach_120 hl (k := 5) rfl (by rw [ev_17]; rfl) (by decide) rfl (fun ls hl => ?_)
        refine lv_goto (tgt := 9) hx hb dX4_reach_123 (by decide) ?_
        obtain rfl : v_17 = nI (j + 1) := by rw [ev_17]; exact nI_1 j
        have hbn : (P.getD (3 * j) 0).toNatClampNeg = bi := by rw [ebi]; exact nI_clamp (show bi < 2 ^ 31 by omega)
        have hj0 : j = 0 := by
          rcases Nat.eq_zero_or_pos j with q | q
          · exact q
          · exact absurd c_5 (nI_ne0 (by omega) (by omega))
        have e00 : P.getD 0 0 = P.getD (3 * j) 0 := by rw [hj0]
        have eh : fs_eh S P (j + 1) = ((P.getD (3 * j + 2) 0) + (bH S bi)) := by simp only [fs_eh, if_pos hj0]; rw [e00, hbn, hj0]
        have ed : fs_ed S P (j + 1) = ((bD S bi) - (P.getD (3 * j + 2) 0)) := by simp only [fs_ed, if_pos hj0]; rw [e00, hbn, hj0]
        refine W.widen (k := 0) (n := 0) (Nat.le_of_ble_eq_true rfl) (Nat.le_of_ble_eq_true rfl) ?_
        exact ih (j + 1) (by omega) M_15 (by rw [eh, ed]; exact (md_R.of (np := np3) hT hB : md_R G o A M_15 th z (fs_push S (w, ((P.getD (3 * j + 2) 0) + (bH S bi)), ((bD S bi) - (P.getD (3 * j + 2) 0)), P, 0, 0)))) hk H locs ls hP hS (lv_sub hl [4, 5, 0] rfl)
  exact loop (P.length / 3) 0 (by omega) M hR (md_keeps.rf o A M) _ _ _ hP hS (lv_sub hl [2, 1, 0] rfl)
