/-! printed by wip/whole/spec*.py -/
theorem lw_made {G : gx_G} {M0 M1 M2 M3 M4 M5 : mw_M} {q o ot mm F P : Nat} {Qf Rf : Nat → Nat} {A : Nat → Nat} {e3 e4 : va_E} {gn : Nat → Int32} {g : Nat → Int64} (hN : M0 (gN G) = some (.inl (gI G, 0, .inl gn))) (hq : M0 q = none) (h1 : M1 = mw_up M0 q e3)
    (hF : ∀ X : Nat → Prop, (∀ x, fs_mu ((q, mm, F, P, Qf, Rf, X) : fs_A) x → X x) → fs_R G (q, mm, F, P, Qf, Rf, X) M2 fs_S0) (hFn : ∀ x, fs_mu ((q, mm, F, P, Qf, Rf, fun _ => True) : fs_A) x → x = q ∨ M1 x = none) (hFk : ∀ x e, x ≠ q → M1 x = some e → M2 x = some e)
    (ho : M2 o = none) (h3 : M3 = mw_up M2 o e4) (hM : md_R G o A M4 0 0 fs_S0) (hMn : ∀ j, j < 15 → M3 (A j) = none) (hMk : ∀ x e, x ≠ o → M3 x = some e → M4 x = some e) (hot : M4 ot = none) (h5 : M5 = mw_up M4 ot (.inl (gJ G, 1, .inr (.inl g)))) (hotA : gA G ot) :
    ∃ X : Nat → Prop, lw_J G (q, mm, F, P, Qf, Rf, X) o A ot ∧ lw_I G (q, mm, F, P, Qf, Rf, X) o A ot gn M5 fs_S0 := by
  have hmu : ∀ (X Y : Nat → Prop) (x : Nat), fs_mu ((q, mm, F, P, Qf, Rf, X) : fs_A) x → fs_mu ((q, mm, F, P, Qf, Rf, Y) : fs_A) x := fun X Y x h => h
  obtain ⟨f', hf'⟩ : ∃ z9 : fs_A, z9 = (q, mm, F, P, Qf, Rf, fun _ => True) := ⟨_, rfl⟩
  have R2 := hF (fun _ => True) (fun _ _ => trivial)
  rw [← hf'] at R2
  have mu2 : ∀ x, fs_mu f' x → M2 x ≠ none := fun x h => R2.some h
  have gq : gN G ≠ q := fun z => by rw [z, hq] at hN; cases hN
  have n1 : M1 (gN G) = some (.inl (gI G, 0, .inl gn)) := by rw [h1, mw_ne _ _ gq]; exact hN
  have n2 := hFk _ _ gq n1
  have go : gN G ≠ o := fun z => by rw [z, ho] at n2; cases n2
  have n3 : M3 (gN G) = some (.inl (gI G, 0, .inl gn)) := by rw [h3, mw_ne _ _ go]; exact n2
  have n4 := hMk _ _ go n3
  have gt : gN G ≠ ot := fun z => by rw [z, hot] at n4; cases n4
  have gmu : ¬ fs_mu f' (gN G) := fun z => by
    rw [hf'] at z
    rcases hFn _ z with z | z
    · exact gq z
    · rw [n1] at z; cases z
  have mu3 : ∀ x, fs_mu f' x → x ≠ o ∧ M3 x = M2 x := fun x h => by
    have hx : x ≠ o := fun z => mu2 x h (by rw [z]; exact ho)
    exact ⟨hx, by rw [h3, mw_ne _ _ hx]⟩
  have md3 : ∀ x, md_own o A x → ¬ fs_mu f' x ∧ x ≠ gN G := fun x h => by
    rcases h with rfl | ⟨j, hj, rfl⟩
    · exact ⟨fun z => mu2 _ z ho, fun z => go z.symm⟩
    · have hn := hMn j hj
      refine ⟨fun z => ?_, fun z => ?_⟩
      · have h9 := (mu3 _ z).2
        rw [hn] at h9
        exact mu2 _ z h9.symm
      · rw [z, n3] at hn; cases hn
  have otd : ∀ x, md_own o A x → x ≠ ot := fun x h z => hM.some h (by rw [z]; exact hot)
  have mu4 : ∀ x e, fs_mu f' x → M2 x = some e → M4 x = some e := fun x e h k => hMk _ _ (mu3 x h).1 (by rw [(mu3 x h).2]; exact k)
  have otm : ¬ fs_mu f' ot := fun z => by
    cases he : M2 ot with
    | none => exact mu2 _ z he
    | some e => rw [mu4 _ _ z he] at hot; cases hot
  refine ⟨fun x => md_own o A x ∨ fs_mu f' x ∨ x = ot, ⟨fun x h => ⟨Or.inl h, ?_, otd x h, (md3 x h).2⟩, ⟨Or.inr (Or.inr rfl), ?_, fun z => gt z.symm, hotA⟩, ?_⟩, ?_⟩
  · have h9 := (md3 x h).1
    rw [hf'] at h9
    exact h9
  · have h9 := otm
    rw [hf'] at h9
    exact h9
  · intro z
    rcases z with z | z | z
    · exact (md3 _ z).2 rfl
    · exact gmu z
    · exact gt z
  · have RX := hF (fun x => md_own o A x ∨ fs_mu f' x ∨ x = ot) (fun x h => Or.inr (Or.inl (by rw [hf']; exact h)))
    have k25 : ∀ x e, ¬ (md_own o A x ∨ x = ot) → M2 x = some e → M5 x = some e := fun x e h k => by
      have hx : x ≠ o := fun z => h (Or.inl (Or.inl z))
      rw [h5, mw_ne _ _ (fun z => h (Or.inr z))]
      exact hMk _ _ hx (by rw [h3, mw_ne _ _ hx]; exact k)
    have M45 : ∀ x e, x ≠ ot → M4 x = some e → M5 x = some e := fun x e h k => by rw [h5, mw_ne _ _ h]; exact k
    have hM5 : md_R G o A M5 0 0 fs_S0 := hM.other (fun a e h k => M45 a e (otd a h) k)
    refine ⟨RX.other (X := fun x => md_own o A x ∨ x = ot) (fun a e n h => k25 a e n h) (fun a h => ?_), ⟨0, 0, hM5⟩, ⟨g, by rw [h5, mw_self]⟩, M45 _ _ gt n4, fun a ha => ?_⟩
    · rcases h with h | h
      · refine ⟨Or.inl h, ?_⟩
        have h9 := (md3 a h).1
        rw [hf'] at h9
        exact h9
      · rw [h]
        refine ⟨Or.inr (Or.inr rfl), ?_⟩
        have h9 := otm
        rw [hf'] at h9
        exact h9
    · rcases ha with h | h | h
      · exact hM5.some h
      · cases he : M2 a with
        | none => exact absurd he (mu2 a h)
        | some e => rw [M45 a e (fun z => otm (by rw [← z]; exact h)) (mu4 a e h he)]; exact fun z => by cases z
      · rw [h, h5, mw_self]; exact fun z => by cases z
def lw_At (p : Program) (s : State) (m : MethodId) (meth : Method) (c : Code) (b L : Nat) (xs : Nat → Int32) : Prop :=
  p.tables.exec = Jvm.exec ∧ c.code = code ∧ meth.sig.returnType = ret ∧ c.maxLocals = 7 ∧ s.vm.findClass RL = some m.cls ∧ (∀ w ∈ lw_tbl, w.before #[Value.ref b] s = true) ∧ va_X b L xs s s.heap ∧ b < s.heap.size ∧ meth.locks = false ∧ (Jvm.Cond.and given_1 narrow_1).before #[Value.ref b] s = true
set_option maxHeartbeats 4000000 in
set_option maxRecDepth 100000 in
theorem whole_start {p : Program} {e : Env} {s : State} {m : MethodId} {below : List Frame} {meth : Method} {c : Code} (l : Launch) (htr : l.stackTraces = false) {b L : Nat} {xs : Nat → Int32} (hL : L ≤ 3584) (C0 : lw_At p s m meth c b L xs) : W p l e room_1 s m #[Value.ref b] below meth c s.heap [] 0 0 (lw_Z below #[Value.ref b] s) (entryFrame m ([Value.ref b] : List Value).toArray 7) := by
  obtain ⟨hx, hb, hr, hml, hown, hts, hXs, hbl, hlocks, hgv⟩ := C0
  obtain ⟨G, hgA, hE, hN, hP⟩ := lw_env hts hgv
  have htb : ∀ w ∈ lw_big, w.before #[Value.ref b] s = true := fun w h => hts w (List.mem_filter.mp h).1
  have hK := hE.1
  have hAn : ∀ q : Nat, s.heap.size ≤ q → gA G q := fun q h => by rw [hgA]; exact h
  have hAg : ∀ q : Nat, gA G q → s.heap.size ≤ q := fun q h => by rw [hgA] at h; exact h
  have hS : va_S (gA G) s.heap s.heap [] := va_S.rf
  obtain ⟨M0, hM0⟩ : ∃ z9 : mw_M, z9 = mw_up (fun _ => none) (gN G) (.inl (gI G, 0, .inl (fun _ => 0))) := ⟨_, rfl⟩
  rw [← hM0] at hP
  have hl := lv_entry ([.ref b]) (n := 7) (Nat.le_of_ble_eq_true rfl)
  rw [lg_entry_eq]
  generalize (lg_sl ([.ref b]) ++ List.replicate (7 - (lg_sl ([.ref b])).length) Slot.unset).toArray = ls at hl ⊢
  have hl : lv_has ls 7 [(0, .ref b)] := hl
  refine mw_new (ci := 3) (fs := [.null, .int 0, .null, .null, .int 0, .int 0]) (C := RX3) (T := TX3) (N := 6) hx hb htb inX3 tyX3 tyX3_ok hown (htb _ wd14) (htb _ wd15) (htb _ wd1) hK hP hS rfl (fun j hj => by rcases (show j = 0 ∨ j = 1 ∨ j = 2 ∨ j = 3 ∨ j = 4 ∨ j = 5 by omega) with rfl | rfl | rfl | rfl | rfl | rfl <;> rfl) (Nat.le_of_ble_eq_true rfl) (Nat.le_of_ble_eq_true rfl) dL_law_0 (fun q H hq hs hP hS => ?_)
  obtain ⟨M1, hM1⟩ : ∃ z9 : mw_M, z9 = mw_up M0 q (.inr (3, [.null, .int 0, .null, .null, .int 0, .int 0])) := ⟨_, rfl⟩
  rw [← hM1] at hP
  refine lv_dup hx hb dL_law_3 rfl ?_
  refine mw_callI (As := []) (rest := [.ref q]) hx hb hml hown hl (kX3_init l htr G H.size M1 (fun x h => hAn x (Nat.le_trans hS.1 h)) q (hAn _ hs) (by rw [hM1, mw_self])) (g_B (n := 0) htb wd18 wd1 wd16 (by decide +kernel) ⟨Nat.le_of_ble_eq_true rfl, Nat.le_of_ble_eq_true rfl⟩) (htb _ wd17) (htb _ wd18) rfl hE hP hS rfl rfl (Nat.le_of_ble_eq_true rfl) dL_law_4 ⟨Nat.le_of_ble_eq_true rfl, Nat.le_of_ble_eq_true rfl⟩ (fun v9 M9 H locs hpo hP hz hS => ?_) (fun x9 E9 cell9 H9 locs9 hE9 => hE9.elim)
  obtain ⟨rfl, mm, F, P, Qf, Rf, hF, hFn, hFk⟩ := hpo
  refine W.eq (g2 := F0 m 7 ls [.ref q]) rfl ?_
  refine lv_astore_n (lv' := [(1, .ref q), (0, .ref b)]) hx hb dL_law_7 rfl hl (by decide) rfl (fun ls hl => ?_)
  obtain ⟨M2, hM2⟩ : ∃ z9 : mw_M, z9 = M9 := ⟨_, rfl⟩
  rw [← hM2] at hP hF hFk
  refine mw_new (ci := 4) (fs := [.int 0, .null, .int 0, .int 0, .int 0, .null, .null, .null, .null, .null, .null, .null, .int 0, .null, .null, .null, .null, .null, .null, .null, .int 0]) (C := RX4) (T := TX4) (N := 21) hx hb htb inX4 tyX4 tyX4_ok hown (htb _ wd518) (htb _ wd519) (htb _ wd3) hK hP hS rfl (fun j hj => by rcases (show j = 0 ∨ j = 1 ∨ j = 2 ∨ j = 3 ∨ j = 4 ∨ j = 5 ∨ j = 6 ∨ j = 7 ∨ j = 8 ∨ j = 9 ∨ j = 10 ∨ j = 11 ∨ j = 12 ∨ j = 13 ∨ j = 14 ∨ j = 15 ∨ j = 16 ∨ j = 17 ∨ j = 18 ∨ j = 19 ∨ j = 20 by omega) with rfl | rfl | rfl | rfl | rfl | rfl | rfl | rfl | rfl | rfl | rfl | rfl | rfl | rfl | rfl | rfl | rfl | rfl | rfl | rfl | rfl <;> rfl) (Nat.le_of_ble_eq_true rfl) (Nat.le_of_ble_eq_true rfl) dL_law_8 (fun o H ho hso hP hS => ?_)
  obtain ⟨M3, hM3⟩ : ∃ z9 : mw_M, z9 = mw_up M2 o (.inr (4, [.int 0, .null, .int 0, .int 0, .int 0, .null, .null, .null, .null, .null, .null, .null, .int 0, .null, .null, .null, .null, .null, .null, .null, .int 0])) := ⟨_, rfl⟩
  rw [← hM3] at hP
  refine lv_dup hx hb dL_law_11 rfl ?_
  refine mw_callI (As := []) (rest := [.ref o]) hx hb hml hown hl (kX4_init l htr G H.size M3 (fun x h => hAn x (Nat.le_trans hS.1 h)) o (hAn _ hso) (by rw [hM3, mw_self])) (g_B (n := 0) htb wd522 wd3 wd520 (by decide +kernel) ⟨Nat.le_of_ble_eq_true rfl, Nat.le_of_ble_eq_true rfl⟩) (htb _ wd521) (htb _ wd522) rfl hE hP hS rfl rfl (Nat.le_of_ble_eq_true rfl) dL_law_12 ⟨Nat.le_of_ble_eq_true rfl, Nat.le_of_ble_eq_true rfl⟩ (fun v9 M9 H locs hpo hP hz hS => ?_) (fun x9 E9 cell9 H9 locs9 hE9 => hE9.elim)
  obtain ⟨rfl, A, hMd, hMn, hMk⟩ := hpo
  refine W.eq (g2 := F0 m 15 ls [.ref o]) rfl ?_
  refine lv_astore_n (lv' := [(2, .ref o), (1, .ref q), (0, .ref b)]) hx hb dL_law_15 rfl hl (by decide) rfl (fun ls hl => ?_)
  obtain ⟨M4, hM4⟩ : ∃ z9 : mw_M, z9 = M9 := ⟨_, rfl⟩
  rw [← hM4] at hP hMd hMk
  refine lv_iconst (v := 1) hx hb dL_law_16 (by decide) ?_
  refine mw_newl (N := 1) hx hb (htb _ wd726) hK hP hS 3 rfl (by decide) (by decide) (by decide) (Nat.le_of_ble_eq_true rfl) (Nat.le_of_ble_eq_true rfl) dL_law_17 (fun ot H hot hsot hP hS => ?_)
  obtain ⟨M5, hM5⟩ : ∃ z9 : mw_M, z9 = mw_up M4 ot (.inl (gJ G, 1, .inr (.inl (fun _ => 0)))) := ⟨_, rfl⟩
  rw [← hM5] at hP
  refine lv_astore_n (lv' := [(3, .ref ot), (2, .ref o), (1, .ref q), (0, .ref b)]) hx hb dL_law_19 rfl hl (by decide) rfl (fun ls hl => ?_)
  refine lv_iconst (v := 0) hx hb dL_law_20 (by decide) ?_
  refine lv_istore (lv' := [(4, .int 0), (3, .ref ot), (2, .ref o), (1, .ref q), (0, .ref b)]) hx hb dL_law_21 hl (by decide) rfl (fun ls hl => ?_)
  obtain ⟨X, J, I⟩ := lw_made (by rw [hM0, mw_self]) hq hM1 hF hFn hFk ho hM3 hMd hMn hMk hot hM5 (hAn _ hsot)
  refine W.widen (k := 100 + 30 * 0) (n := 50000 + 1000 * 0) (Nat.le_of_ble_eq_true rfl) (Nat.le_of_ble_eq_true rfl) ?_
  have hl : lv_has ls 7 [(0, .ref b), (1, .ref q), (2, .ref o), (3, .ref ot), (4, .int (nI (7 * 0)))] := by
    rw [show nI (7 * 0) = 0 from by decide +kernel]
    exact lv_sub hl [4, 3, 2, 1, 0] rfl
  exact lw_loop G (q, mm, F, P, Qf, Rf, X) o A ot (fun _ => 0) b L xs ⟨hx, hb, hml, hown, htb, hE, hN, hXs, hbl, fun z => absurd (hAg _ z) (Nat.not_le.mpr hbl), hAn, htr, hL⟩ J hr hlocks hAg L 0 (by omega) (by decide) M5 fs_S0 H _ ls I hP hS hl
