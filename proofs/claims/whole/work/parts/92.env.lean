/-! printed by wip/whole/spec*.py -/
/-! THE LAW'S ENTRY: what the words of the start say, and the three objects that the law makes -/
theorem lw_len {tm : Term} {args : Array Value} {s : State} {t : Addr} {cell : Cell} {v : Value} (hlen : (Term.length tm).eval args s none [] s = some v) (ht : tm.eval args s none [] s = some (.ref t)) (hat : s.arrayAt? t = some cell) : cell.slots.size < 2 ^ 31 := by
  by_cases h : cell.slots.size < 2 ^ 31
  · exact h
  · simp [Term.eval, ht, hat] at hlen
    omega
theorem lw_str {args : Array Value} {s : State} {own tx : String} {k : Nat} (h : (Cond.stringRef own k tx).before args s = true) : ∃ a : Nat, vk_R own k tx a s := by
  cases hc : s.vm.findClass own with
  | none => simp [Cond.before, Cond.holds, Cond.value, hc] at h
  | some cc =>
    obtain ⟨k1, cf, i, a, -, -, -, -, -, he⟩ := Cond.stringRef_spec hc h
    exact ⟨a, vk_R.of h he⟩
set_option maxHeartbeats 4000000 in
set_option maxRecDepth 100000 in
theorem lw_env {args : Array Value} {s : State} (hts : ∀ w ∈ lw_tbl, w.before args s = true) (hgv : (Jvm.Cond.and given_1 narrow_1).before args s = true) : ∃ G : gx_G, gA G = (fun q : Nat => s.heap.size ≤ q) ∧ g_E G s ∧ g_N s ∧ mw_P (gD G) gx_cl (mw_up (fun _ => none) (gN G) (.inl (gI G, 0, .inl (fun _ => 0)))) s.heap := by
  have htb : ∀ w ∈ lw_big, w.before args s = true := fun w h => hts w (List.mem_filter.mp h).1
  have ht1 : ∀ w ∈ tables_1, w.before args s = true := fun w h => hts w (List.mem_append_right _ h)
  have hf := flat_of_before _ hgv
  have hA : ∀ a : Nat, a < s.heap.size → ¬ (fun q : Nat => s.heap.size ≤ q) a := fun a h1 h2 => absurd h1 (Nat.not_lt.mpr h2)
  obtain ⟨cX0, iX0, kX0⟩ := u_known (C := RX0) (T := TX0) (N := 6) (n := 6) htb inX0 (htb _ wd215)
  obtain ⟨cX1, iX1, kX1⟩ := u_known (C := RX1) (T := TX1) (N := 6) (n := 6) htb inX1 (htb _ wd26)
  obtain ⟨cX2, iX2, kX2⟩ := u_known (C := RX2) (T := TX2) (N := 4) (n := 4) htb inX2 (htb _ wd337)
  obtain ⟨cX3, iX3, kX3⟩ := u_known (C := RX3) (T := TX3) (N := 6) (n := 6) htb inX3 (htb _ wd15)
  obtain ⟨cX4, iX4, kX4⟩ := u_known (C := RX4) (T := TX4) (N := 21) (n := 21) htb inX4 (htb _ wd519)
  obtain ⟨cI, kI, pI, I1, I2, I3⟩ := Cond.arrayClass_spec (htb _ wd55)
  obtain ⟨cJ, kJ, pJ, J1, J2, J3⟩ := Cond.arrayClass_spec (htb _ wd726)
  obtain ⟨cZ, kZ, pZ, Z1, Z2, Z3⟩ := Cond.arrayClass_spec (htb _ wd588)
  obtain ⟨pB, cB, kB, B1, B2, B3, B4, B5⟩ := Cond.arrayOver_spec (ht1 _ wd23)
  obtain ⟨pF, cF, kF, F1, F2, F3, F4, F5⟩ := Cond.arrayOver_spec (ht1 _ wd25)
  have hlen : (Term.length (.static "FormulaShapes" "NO_PLACES" "[I")).eval args s none [] s = some (.int 0) := va_eqt (hf (.eq (.length (.static "FormulaShapes" "NO_PLACES" "[I")) (.int 0)) (by decide +kernel))
  obtain ⟨t, cell, ht, hat, hv⟩ := Term.length_spec hlen
  obtain ⟨hcell, hkn, -, -⟩ := State.arrayAt?_spec hat
  obtain ⟨⟨hs0, kN, hkN, pN, hkindN⟩, -⟩ := Cond.arrayOf_spec (hf (.arrayOf (.static "FormulaShapes" "NO_PLACES" "[I") .int) (by decide +kernel)) ht hcell
  have hsz : cell.slots.size = 0 := by
    have h1 := lw_len hlen ht hat
    have h2 : (0 : Int32) = nI cell.slots.size := Value.int.inj hv
    rcases Nat.eq_zero_or_pos cell.slots.size with q | q
    · exact q
    · exact absurd h2.symm (nI_ne0 q h1)
  obtain ⟨a_0, r_0⟩ := lw_str (ht1 _ wd130)
  obtain ⟨a_1, r_1⟩ := lw_str (ht1 _ wd157)
  obtain ⟨a_2, r_2⟩ := lw_str (ht1 _ wd172)
  obtain ⟨a_3, r_3⟩ := lw_str (ht1 _ wd186)
  obtain ⟨a_4, r_4⟩ := lw_str (ht1 _ wd208)
  obtain ⟨a_5, r_5⟩ := lw_str (ht1 _ wd267)
  obtain ⟨a_6, r_6⟩ := lw_str (ht1 _ wd272)
  obtain ⟨a_7, r_7⟩ := lw_str (ht1 _ wd273)
  obtain ⟨a_8, r_8⟩ := lw_str (ht1 _ wd289)
  obtain ⟨a_9, r_9⟩ := lw_str (ht1 _ wd311)
  obtain ⟨a_10, r_10⟩ := lw_str (ht1 _ wd382)
  obtain ⟨a_11, r_11⟩ := lw_str (ht1 _ wd440)
  obtain ⟨a_12, r_12⟩ := lw_str (ht1 _ wd508)
  obtain ⟨a_13, r_13⟩ := lw_str (ht1 _ wd516)
  obtain ⟨a_14, r_14⟩ := lw_str (ht1 _ wd517)
  obtain ⟨gs, hgs⟩ : ∃ z9 : Nat → Nat, z9 = fun i => ([a_0, a_1, a_2, a_3, a_4, a_5, a_6, a_7, a_8, a_9, a_10, a_11, a_12, a_13, a_14] : List Nat).getD i 0 := ⟨_, rfl⟩
  have s_0 : gs 0 = a_0 := by rw [hgs]; rfl
  have s_1 : gs 1 = a_1 := by rw [hgs]; rfl
  have s_2 : gs 2 = a_2 := by rw [hgs]; rfl
  have s_3 : gs 3 = a_3 := by rw [hgs]; rfl
  have s_4 : gs 4 = a_4 := by rw [hgs]; rfl
  have s_5 : gs 5 = a_5 := by rw [hgs]; rfl
  have s_6 : gs 6 = a_6 := by rw [hgs]; rfl
  have s_7 : gs 7 = a_7 := by rw [hgs]; rfl
  have s_8 : gs 8 = a_8 := by rw [hgs]; rfl
  have s_9 : gs 9 = a_9 := by rw [hgs]; rfl
  have s_10 : gs 10 = a_10 := by rw [hgs]; rfl
  have s_11 : gs 11 = a_11 := by rw [hgs]; rfl
  have s_12 : gs 12 = a_12 := by rw [hgs]; rfl
  have s_13 : gs 13 = a_13 := by rw [hgs]; rfl
  have s_14 : gs 14 = a_14 := by rw [hgs]; rfl
  obtain ⟨dC, hdC⟩ : ∃ z9 : Nat → ClassId, z9 = fun i => ([cX0, cX1, cX2, cX3, cX4, cX4, cX4, cX4, cX4, cell.cls] : List ClassId).getD i cX0 := ⟨_, rfl⟩
  obtain ⟨dI, hdI⟩ : ∃ z9 : Nat → Nat → Nat, z9 = fun i => ([iX0, iX1, iX2, iX3, iX4] : List (Nat → Nat)).getD i iX0 := ⟨_, rfl⟩
  refine ⟨(dC, dI, (cI, cB, cF, cJ, cZ), t, gs, fun q : Nat => s.heap.size ≤ q), rfl, ⟨⟨⟨fun k q hq => ?_, fun k q hq => ?_⟩, fun n z => ?_⟩, fun z hz => ?_, fun z hz => ?_, fun z hz => ?_, fun q hq C hC => ?_⟩, ⟨?_, ?_, ?_, ?_, ?_, ?_⟩, fun a e ha => ?_⟩
  · match k, hq with
    | 0, hq => cases hq; rw [hdC, hdI]; exact kX0
    | 1, hq => cases hq; rw [hdC, hdI]; exact kX1
    | 2, hq => cases hq; rw [hdC, hdI]; exact kX2
    | 3, hq => cases hq; rw [hdC, hdI]; exact kX3
    | 4, hq => cases hq; rw [hdC, hdI]; exact kX4
    | k + 5, hq => simp [gx_cl] at hq
  · match k, hq with
    | 0, hq => cases hq; exact ⟨fun n z => ⟨fun q h => (by cases h), kI, I2, pI, I3⟩, I1⟩
    | 1, hq => cases hq; exact ⟨fun n z => ⟨fun q h => (by cases h), kB, B3, pB, B4⟩, kB, pB, B3, B4, B1, B5⟩
    | 2, hq => cases hq; exact ⟨fun n z => ⟨fun q h => (by cases h), kF, F3, pF, F4⟩, kF, pF, F3, F4, F1, F5⟩
    | 3, hq => cases hq; exact ⟨fun n z => ⟨fun q h => (by cases h), kJ, J2, pJ, J3⟩, J1⟩
    | 4, hq => cases hq; exact ⟨fun n z => ⟨fun q h => (by cases h), kZ, Z2, pZ, Z3⟩, Z1⟩
    | k + 5, hq => simp [g_tys] at hq
  · refine ⟨fun q h => (by cases h), kN, ?_, pN, hkindN⟩
    show s.vm.classes[dC 9]? = _
    rw [hdC]
    exact hkN
  · rw [List.mem_singleton.mp hz]
    exact va_Zref (ht1 _ wd217) (htb _ wd1) ht hA
  · rcases List.mem_cons.mp hz with rfl | hz
    · exact mw_L.of (ht1 _ wd115) (hf (.isRef (.static "java/lang/Throwable" "UNASSIGNED_STACK" "[Ljava/lang/StackTraceElement;")) (by decide +kernel)) hA
    · rw [List.mem_singleton.mp hz]
      exact mw_L.of (ht1 _ wd117) (hf (.isRef (.static "java/lang/Throwable" "SUPPRESSED_SENTINEL" "Ljava/util/List;")) (by decide +kernel)) hA
  · have hz := hz
    rcases List.mem_cons.mp hz with rfl | hz
    · show vk_R _ _ _ (gs 0) s
      rw [s_0]; exact r_0
    rcases List.mem_cons.mp hz with rfl | hz
    · show vk_R _ _ _ (gs 1) s
      rw [s_1]; exact r_1
    rcases List.mem_cons.mp hz with rfl | hz
    · show vk_R _ _ _ (gs 2) s
      rw [s_2]; exact r_2
    rcases List.mem_cons.mp hz with rfl | hz
    · show vk_R _ _ _ (gs 3) s
      rw [s_3]; exact r_3
    rcases List.mem_cons.mp hz with rfl | hz
    · show vk_R _ _ _ (gs 4) s
      rw [s_4]; exact r_4
    rcases List.mem_cons.mp hz with rfl | hz
    · show vk_R _ _ _ (gs 5) s
      rw [s_5]; exact r_5
    rcases List.mem_cons.mp hz with rfl | hz
    · show vk_R _ _ _ (gs 6) s
      rw [s_6]; exact r_6
    rcases List.mem_cons.mp hz with rfl | hz
    · show vk_R _ _ _ (gs 7) s
      rw [s_7]; exact r_7
    rcases List.mem_cons.mp hz with rfl | hz
    · show vk_R _ _ _ (gs 8) s
      rw [s_8]; exact r_8
    rcases List.mem_cons.mp hz with rfl | hz
    · show vk_R _ _ _ (gs 9) s
      rw [s_9]; exact r_9
    rcases List.mem_cons.mp hz with rfl | hz
    · show vk_R _ _ _ (gs 10) s
      rw [s_10]; exact r_10
    rcases List.mem_cons.mp hz with rfl | hz
    · show vk_R _ _ _ (gs 11) s
      rw [s_11]; exact r_11
    rcases List.mem_cons.mp hz with rfl | hz
    · show vk_R _ _ _ (gs 12) s
      rw [s_12]; exact r_12
    rcases List.mem_cons.mp hz with rfl | hz
    · show vk_R _ _ _ (gs 13) s
      rw [s_13]; exact r_13
    rw [List.mem_singleton.mp hz]
    show vk_R _ _ _ (gs 14) s
    rw [s_14]; exact r_14
  · rcases List.mem_cons.mp hq with rfl | hq
    · cases hC
    rcases List.mem_cons.mp hq with rfl | hq
    · cases hC; exact va_AO.of (ht1 _ wd23)
    rcases List.mem_cons.mp hq with rfl | hq
    · cases hC; exact va_AO.of (ht1 _ wd25)
    rcases List.mem_cons.mp hq with rfl | hq
    · cases hC
    · rw [List.mem_singleton.mp hq] at hC; cases hC
  · exact va_Nc.of (hf (.not (.castable "java/lang/IllegalArgumentException" "java/lang/IndexOutOfBoundsException")) (by decide +kernel))
  · exact va_Nc.of (hf (.not (.castable "java/lang/IllegalStateException" "java/lang/IndexOutOfBoundsException")) (by decide +kernel))
  · exact va_Nc.of (hf (.not (.castable "java/lang/UnsupportedOperationException" "java/lang/IndexOutOfBoundsException")) (by decide +kernel))
  · exact va_Nc.of (hf (.not (.castable "java/lang/IllegalStateException" "java/lang/IllegalArgumentException")) (by decide +kernel))
  · exact va_Nc.of (hf (.not (.castable "java/lang/UnsupportedOperationException" "java/lang/IllegalArgumentException")) (by decide +kernel))
  · exact va_Nc.of (hf (.not (.castable "java/lang/UnsupportedOperationException" "java/lang/IllegalStateException")) (by decide +kernel))
  · by_cases hq : a = t
    · subst hq
      have ha : mw_up (fun _ => none) a (.inl (cI, 0, .inl (fun _ => 0))) a = some e := ha
      rw [mw_self] at ha
      cases ha
      exact Or.inr ⟨_, _, cell, rfl, hcell, (show cell.cls = dC 9 from by rw [hdC]; rfl), hs0, hsz⟩
    · have ha : mw_up (fun _ => none) t (.inl (cI, 0, .inl (fun _ => 0))) a = some e := ha
      rw [mw_ne _ _ hq] at ha
      cases ha
