/-! printed by wip/whole/spec*.py -/
-- X3_pileUp
set_option maxHeartbeats 4000000 in
set_option maxRecDepth 100000 in
theorem kX3_pileUp (l : Launch) (htr : l.stackTraces = false) (G : gx_G) (sz : Nat) (M : mw_M) (f : fs_A) (S : fs_S) (M0 : mw_M) (hR : fs_R G f M0 S) (hx0 : mw_ext M0 M) (a pl nn : Nat) (ha0 : M0 a = none) (hp0 : M0 pl = none) (u : fs_Pi) (hpi : fs_pi G M a pl nn u) (hAa : gA G a) (hAp : gA G pl) (hn : nn ≤ 369) (x : Int32) (hxo : fs_on S x) (t : Nat) (ht : t ≤ 60) (hroom : u.1.length + 3 * (if x = (-1) then 0 else t) ≤ nn) : g_Met l G yX3_pileUp (.code yX3_pileUp cX3_pileUp 5 none) ({ frames := 2, cells := 0, slots := 0, locals := 100 } : Room) sz M [.ref (f0 f), .ref a, .int x, .int (nI t)] (fun v M9 => v = none ∧ fs_pi G M9 a pl nn (fs_puo S u x t) ∧ ∀ y e, y ≠ a → y ≠ pl → M y = some e → M9 y = some e) (fun _ => False) := by
  refine MetE.ofW (cc := cX3_pileUp) (maxL := 5) (ret := none) (by decide) rfl ?_
  intro p e s m args below meth c s₁ B hml hv
  obtain ⟨rfl, hsz, hP, hE⟩ := hv
  have hx := B.exec
  have hb := B.bytes
  have hr := B.returns
  have hts := atoms_spec (ws := _ :: lw_big) B.pre
  have htb : ∀ w ∈ lw_big, w.before _ s = true := fun w h => hts w (List.mem_cons_of_mem _ h)
  have hno := B.noHandlers (hts _ List.mem_cons_self)
  have hown : s.vm.findClass RX3 = some m.cls := findClass_of_methodNamed B.named
  have hlocks := B.notSynchronized
  have hK := hE.1
  subst hsz
  have hS : va_S (gA G) s.heap s.heap [] := va_S.rf
  have hl := lv_entry ([.ref (f0 f), .ref a, .int x, .int (nI t)]) (n := 5) (Nat.le_of_ble_eq_true rfl)
  rw [lg_entry_eq]
  generalize (lg_sl ([.ref (f0 f), .ref a, .int x, .int (nI t)]) ++ List.replicate (5 - (lg_sl ([.ref (f0 f), .ref a, .int x, .int (nI t)])).length) Slot.unset).toArray = ls at hl ⊢
  have hl : lv_has ls 5 [(0, .ref (f0 f)), (1, .ref a), (2, .int x), (3, .int (nI t))] := hl
  refine lv_iload_n hx hb dX3_pileUp_0 rfl (lv_at hl 2 rfl) ?_
  refine lv_iconst (v := (-1)) hx hb dX3_pileUp_1 (by decide) ?_
  refine lv_icmp_ne (tgt := 6) hx hb dX3_pileUp_2 (by decide) (fun c_1 => ?_) (fun c_1 => ?_)
  · obtain ⟨b, hb9, exb⟩ := hxo.resolve_left c_1
    rw [exb] at hl
    refine lv_iconst (v := 0) hx hb dX3_pileUp_6 (by decide) ?_
    refine lv_istore (lv' := [(4, .int 0), (0, .ref (f0 f)), (1, .ref a), (2, .int (nI b)), (3, .int (nI t))]) hx hb dX3_pileUp_7 hl (by decide) rfl (fun ls hl => ?_)
    have e_t : 3 * (if x = (-1) then 0 else t) = 3 * t := by rw [if_neg c_1]
    rw [e_t] at hroom
    obtain ⟨gm, gf, g, h1, h2, h3, h4, h5, h6, h7, h8, h9⟩ := id hR
    obtain ⟨q, hgq, bp, gp, hb1, hb2, hb3, hb4, hb5⟩ := h6 b hb9
    have hqa : q ≠ a := fun z9 => by rw [z9, ha0] at hb1; cases hb1
    have hqp : q ≠ pl := fun z9 => by rw [z9, hp0] at hb1; cases hb1
    have loop : ∀ (n j : Nat), j + n = t → ∀ (M1 : mw_M), fs_pi G M1 a pl nn (fs_pus S u b j) → (∀ y e, y ≠ a → y ≠ pl → M y = some e → M1 y = some e) → ∀ (H : Heap) (locs : List Loc) (ls : Array Slot), mw_P (gD G) gx_cl M1 H → va_S (gA G) s.heap H locs → lv_has ls 5 [(0, .ref (f0 f)), (1, .ref a), (2, .int (nI b)), (3, .int (nI t)), (4, .int (nI j))] → W p l e (headSpec (Cond.code yX3_pileUp cX3_pileUp 5 none :: lw_big) ({ frames := 2, cells := 0, slots := 0, locals := 100 } : Room)).room s m ([.ref (f0 f), .ref a, .int x, .int (nI t)] : List Value).toArray below meth c H locs 0 0 (mx_Q below (mw_Qx (gD G) gx_cl M (fun v M9 => v = none ∧ fs_pi G M9 a pl nn (fs_puo S u x t) ∧ ∀ y e, y ≠ a → y ≠ pl → M y = some e → M9 y = some e) (fun _ => False) (gA G)) ([.ref (f0 f), .ref a, .int x, .int (nI t)] : List Value).toArray s ({ frames := 2, cells := 0, slots := 0, locals := 100 } : Room).cells ({ frames := 2, cells := 0, slots := 0, locals := 100 } : Room).slots (gA G)) (F0 m 9 ls []) := by
      intro n
      induction n with
      | zero =>
        intro j hj M1 hpi1 hold H locs ls hP hS hl
        have hex : mw_ext M0 M1 := fun y e h => hold y e (fun z9 => by rw [z9, ha0] at h; cases h) (fun z9 => by rw [z9, hp0] at h; cases h) (hx0 y e h)
        have hK7 : nI t ≤ nI j := nI_le (by omega) (by omega)
        refine lv_iload hx hb dX3_pileUp_9 (lv_at hl 4 rfl) ?_
        refine lv_iload_n hx hb dX3_pileUp_11 rfl (lv_at hl 3 rfl) ?_
        refine lv_icmp_ge (tgt := 32) hx hb dX3_pileUp_12 (by decide) (fun c_2 => ?_) (fun c_2 => absurd hK7 c_2)
        exact mx_vret (M' := M1) hx hb hr hlocks hP hS ⟨rfl, by rw [fs_puo, if_neg c_1, exb, fIx_nI (show b < 2 ^ 31 by have := h8.1; omega), ← (show j = t by omega)]; exact hpi1, hold⟩ dX3_pileUp_32 (Nat.le_of_ble_eq_true rfl) (Nat.le_of_ble_eq_true rfl)
      | succ n ih =>
        intro j hj M1 hpi1 hold H locs ls hP hS hl
        have hex : mw_ext M0 M1 := fun y e h => hold y e (fun z9 => by rw [z9, ha0] at h; cases h) (fun z9 => by rw [z9, hp0] at h; cases h) (hx0 y e h)
        have hK7 : ¬ nI t ≤ nI j := nI_ge (by omega) (by omega)
        refine lv_iload hx hb dX3_pileUp_9 (lv_at hl 4 rfl) ?_
        refine lv_iload_n hx hb dX3_pileUp_11 rfl (lv_at hl 3 rfl) ?_
        refine lv_icmp_ge (tgt := 32) hx hb dX3_pileUp_12 (by decide) (fun c_3 => absurd c_3 hK7) (fun c_3 => ?_)
        refine lv_aload_n hx hb dX3_pileUp_15 rfl (lv_at hl 1 rfl) ?_
        refine lv_iload_n hx hb dX3_pileUp_16 rfl (lv_at hl 2 rfl) ?_
        refine lv_aload_n hx hb dX3_pileUp_17 rfl (lv_at hl 0 rfl) ?_
        refine mw_get (D := gD G) (ci := 3) (v := .ref (fM f)) (C := RX3) (T := TX3) (N := 6) hx hb htb inX3 hown hK hP (hex _ _ h1) rfl 0 (by decide) (htb _ wd56) (fun _ h9 => h9) rfl dX3_pileUp_18 ?_
        refine lv_iload_n hx hb dX3_pileUp_21 rfl (lv_at hl 2 rfl) ?_
        refine mw_aald hx hb hK hP 1 (hex _ _ h2) rfl (vp_in_nI (show b < 120 by have := h8.1; omega) (by decide)) dX3_pileUp_22 ?_
        refine W.eq (g2 := F0 m 23 ls [.ref q, .int (nI b), .ref a]) (by rw [nI_clamp (show b < 2 ^ 31 by have := h8.1; omega), hgq]; rfl) ?_
        obtain ⟨gg, hpi2, -⟩ := id hpi1
        refine mw_callV (C := RX2) (As := [.int (nI b), .ref q]) (rest := []) hx hb hml hown hl (kX2_put l htr G H.size M1 a pl nn (fs_pus S u b j) hpi1 hAa hAp hn (by rw [fs_pus_len]; omega) (nI b) q (sB S b).1 (sB S b).2.1 (sB S b).2.2.1 bp (sB S b).2.2.2.2.1 (sB S b).2.2.2.2.2 (hex _ _ hb1) hqp hqa) (g_B (n := 2) htb wd362 wd12 wd359 (by decide +kernel) ⟨Nat.le_of_ble_eq_true rfl, Nat.le_of_ble_eq_true rfl⟩) (htb _ wd360) (htb _ wd361) hE hP hS hpi2 rfl rfl rfl (Nat.le_of_ble_eq_true rfl) dX3_pileUp_23 ⟨Nat.le_of_ble_eq_true rfl, Nat.le_of_ble_eq_true rfl⟩ (fun v9 M9 H locs hpo hP hz hS => ?_) (fun x9 E9 cell9 H9 locs9 hE9 => hE9.elim)
        obtain ⟨rfl, hpi9, hold9⟩ := hpo
        refine W.eq (g2 := F0 m 26 ls []) rfl ?_
        obtain ⟨v_4, ev_4⟩ : ∃ y : Int32, y = (nI j) + 1 := ⟨_, rfl⟩
        refine lv_iinc (v := v_4) (lv' := [(4, .int v_4), (0, .ref (f0 f)), (1, .ref a), (2, .int (nI b)), (3, .int (nI t))]) hx hb dX3_pileUp_26 hl (k := 4) rfl (by rw [ev_4]; rfl) (by decide) rfl (fun ls hl => ?_)
        refine lv_goto (tgt := 9) hx hb dX3_pileUp_29 (by decide) ?_
        obtain rfl : v_4 = nI (j + 1) := by rw [ev_4]; exact nI_1 j
        refine W.widen (k := 0) (n := 0) (Nat.le_of_ble_eq_true rfl) (Nat.le_of_ble_eq_true rfl) ?_
        exact ih (j + 1) (by omega) M9 hpi9 (fun y9 e9 n1 n2 h => hold9 y9 e9 n1 n2 (hold y9 e9 n1 n2 h)) H locs ls hP hS (lv_sub hl [1, 2, 3, 4, 0] rfl)
    exact loop t 0 (by omega) M hpi (fun _ _ _ _ h => h) _ _ _ hP hS (lv_sub hl [1, 2, 3, 4, 0] rfl)
  · exact mx_vret (M' := M) hx hb hr hlocks hP hS ⟨rfl, by rw [fs_puo, if_pos c_1]; exact hpi, fun _ _ _ _ h => h⟩ dX3_pileUp_5 (Nat.le_of_ble_eq_true rfl) (Nat.le_of_ble_eq_true rfl)
theorem fs_c01 (x : Int32) : (if x = (-1) then (0 : Int32) else 1) = nI (if x = (-1) then 0 else 1) := by split <;> rfl
theorem fs_cnt1 (a b c : Int32) (N : Nat) : (if a = (-1) then (0 : Int32) else 1) + (if b = (-1) then (0 : Int32) else 1) + (if c = (-1) then (0 : Int32) else 1) + nI N = nI ((if a = (-1) then 0 else 1) + (if b = (-1) then 0 else 1) + (if c = (-1) then 0 else 1) + N) := by
  rw [fs_c01, fs_c01, fs_c01, nI_add, nI_add, nI_add]
theorem fs_cnt2 (a b c : Int32) (N : Nat) : (if a = (-1) then (0 : Int32) else 1) + (if b = (-1) then (0 : Int32) else 1) + (if c = (-1) then (0 : Int32) else 1) + 2 * nI N = nI ((if a = (-1) then 0 else 1) + (if b = (-1) then 0 else 1) + (if c = (-1) then 0 else 1) + 2 * N) := by
  rw [show (2 : Int32) * nI N = nI (2 * N) from pk_mul 2 N]
  exact fs_cnt1 a b c (2 * N)
theorem fs_le1 (x : Int32) : (if x = (-1) then 0 else 1) ≤ 1 := by split <;> omega
