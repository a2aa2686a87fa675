/-! boolean[] in the map world; small facts for the reference -/
section MW2
variable {p : Program} {l : Launch} {e : Env} {R : Room} {s : State} {m : MethodId} {args : Array Value} {below : List Frame} {meth : Method} {c : Code} {H : Heap} {locs : List Loc} {cells slots : Nat} {Q : State → Prop}
variable {cc : ByteArray} {pc : Nat} {ls : Array Slot} {rest : List Value} {D : va_G} {cl : List vw_C} {A : Nat → Prop} {a : Nat} {tys : List (ClassId × FieldType)} {M : mw_M} {H0 : Heap}
theorem mw_zald (hexec : p.tables.exec = Jvm.exec) (hb : c.code = cc) (hK : mw_K D cl tys s) (hP : mw_P D cl M H) (t0 : Nat) {cA : ClassId} {n : Nat} {f : Nat → Int32} (ha : M a = some (.inl (cA, n, .inl f))) (ht : tys[t0]? = some (cA, .boolean)) {i : Int32} (hin : vp_in i n) (hdg : decode cc pc = .ok (.baload, 1))
    (kk : W p l e R s m args below meth c H locs cells slots Q (F0 m (pc + 1) ls (.int (f i.toNatClampNeg) :: rest))) : W p l e R s m args below meth c H locs cells slots Q (F0 m pc ls (.int i :: .ref a :: rest)) :=
  va_zald hexec hb hK.1 (mw_one hP ha (fun _ _ z => by cases z; exact hin (Or.inr (Nat.zero_le _)))) 0 t0 rfl ht hin hdg kk
theorem mw_zast (hexec : p.tables.exec = Jvm.exec) (hb : c.code = cc) (hK : mw_K D cl tys s) (hP : mw_P D cl M H) (hS : va_S A H0 H locs) (t0 : Nat) {cA : ClassId} {n : Nat} {f : Nat → Int32} (ha : M a = some (.inl (cA, n, .inl f))) (hAa : A a) (ht : tys[t0]? = some (cA, .boolean)) {i : Int32} {x : Int32} (hin : vp_in i n) (hdg : decode cc pc = .ok (.bastore, 1))
    (kk : ∀ (H1 : Heap) (locs1 : List Loc), mw_P D cl (mw_up M a (.inl (cA, n, .inl (upd f i.toNatClampNeg (vp_nar .boolean x))))) H1 → va_S A H0 H1 locs1 → W p l e R s m args below meth c H1 locs1 cells slots Q (F0 m (pc + 1) ls rest)) : W p l e R s m args below meth c H locs cells slots Q (F0 m pc ls (.int x :: .int i :: .ref a :: rest)) := by
  refine W.zast hexec hb (hP.sure ha (fun _ _ z => by cases z; exact hin (Or.inr (Nat.zero_le _)))) ((hK.1.2 t0 _ ht).1 n (fun j => .int (f j))) (fun q => by cases q) (by show ¬ (i < 0 ∨ (arrV _ _ _).slots.size ≤ _); rw [arrV_size]; exact hin) rfl rfl hdg fun H1 e z oq => ?_
  refine kk H1 _ (hP.set ?_ oq) (hS.put z oq hAa)
  show H1[a]? = some (vp_cell _ _)
  rw [e]
  rw [vp_cell_i, vp_cell_i, arrV_store]
  congr 2
  funext q
  by_cases hq : q = i.toNatClampNeg
  · subst hq
    simp [updV, upd, vp_nar]
    try rfl
  · simp [updV, upd, hq]
theorem mw_newz (hexec : p.tables.exec = Jvm.exec) (hb : c.code = cc) (harr : (Cond.arrayClass (newarray.typeOf .boolean)).before args s = true) (hK : mw_K D cl tys s) (hP : mw_P D cl M H) (hS : va_S A H0 H locs) (t0 : Nat) {cA : ClassId} (ht : tys[t0]? = some (cA, .boolean))
    {n : Int32} {N : Nat} (hn : ¬ n < 0) (hN : n.toNatClampNeg = N) (hbytes : N * 1 ≤ 536870912) (hcells : cells + 1 ≤ R.cells) (hslots : slots + N ≤ R.slots) (hdg : decode cc pc = .ok (.newarray .boolean, 2))
    (kk : ∀ (q : Nat) (H1 : Heap), M q = none → H0.size ≤ q → mw_P D cl (mw_up M q (.inl (cA, N, .inl (fun _ => 0)))) H1 → va_S A H0 H1 locs → W p l e R s m args below meth c H1 locs (cells + 1) (slots + N) Q (F0 m (pc + 2) ls (.ref q :: rest))) : W p l e R s m args below meth c H locs cells slots Q (F0 m pc ls (.int n :: rest)) := by
  refine va_newaK hexec hb harr rfl hdg rfl hn hN hbytes hcells hslots rfl fun H1 cA' e1 z1 o1 hAr hNm => ?_
  have hcc : cA' = cA := Option.some.inj (hNm.symm.trans (hK.1.2 t0 _ ht).2)
  subst hcc
  exact kk H.size H1 (hP.none (Nat.le_refl _)) hS.1 (hP.push e1 o1) ⟨Nat.le_trans hS.1 (by omega), fun x h1 h2 => (o1 x (Nat.lt_of_lt_of_le h1 hS.1)).trans (hS.2.1 x h1 h2), hS.2.2⟩
end MW2
theorem narrow_bI (P : Prop) [Decidable P] : narrow .boolean (.int (bI P)) = .int (bI P) := by
  unfold bI
  split <;> rfl
theorem fMx_gt (a b : Int32) : (if b < a then a else b) = fMx a b := by
  unfold fMx
  by_cases h : b < a
  · rw [if_pos h, if_neg (fun q => Int32.lt_irrefl (Int32.lt_trans h q))]
  · rw [if_neg h]
    by_cases h2 : a < b
    · rw [if_pos h2]
    · rw [if_neg h2]
      exact Int32.le_antisymm (Int32.not_lt.mp h2) (Int32.not_lt.mp h)
theorem fAb_lt (x : Int32) : (if x < 0 then -x else x) = fAb x := by
  unfold fAb
  by_cases h : x < 0
  · rw [if_pos h, if_neg (fun q => Int32.not_le.mpr h q)]
    simp
  · rw [if_neg h, if_pos (Int32.not_lt.mp h)]
theorem isB_in {S : fs_S} (hS : sN S ≤ 120) (x : Int32) : wi x 0 (nI (sN S) - 1) ↔ isB S x := by
  have hlt : x.toInt < 2147483648 := by have := x.toInt_lt; omega
  refine and_congr Iff.rfl (not_congr ?_)
  have e1 : (nI (sN S) - 1).toInt = (sN S : Int) - 1 := by
    rcases Nat.eq_zero_or_pos (sN S) with q | q
    · rw [q]; rfl
    · rw [show (1 : Int32) = nI 1 from rfl, pk_sub (by omega), nI_toInt (by omega)]
      omega
  rw [Int32.lt_iff_toInt_lt, Int32.le_iff_toInt_le, e1, nI_toInt (by omega)]
  omega
theorem le_lt1 (x : Int32) (n : Nat) (hn : n + 1 < 2 ^ 31) : nI n < x ↔ nI (n + 1) ≤ x := by
  rw [Int32.lt_iff_toInt_lt, Int32.le_iff_toInt_le, nI_toInt (by omega), nI_toInt hn]
  omega
theorem isF_in (x : Int32) : wi x 0 7 ↔ isF x := and_congr Iff.rfl (not_congr (le_lt1 x 7 (by decide)))
theorem rmk_eq {S : fs_S} (hS : sN S ≤ 120) : nI (sN S) = 120 ↔ ¬ rmk S 1 := by
  constructor
  · intro h q
    exact q (by rw [h]; decide)
  · intro h
    rcases Nat.lt_or_ge (sN S) 120 with q | q
    · exact absurd (show rmk S 1 by show ¬ 120 < nI (sN S) + 1; rw [nI_1]; exact nI_nlt (a := 120) (by omega) (by decide)) h
    · rw [show sN S = 120 by omega]; rfl
theorem bW_top (S : fs_S) (b : fs_B) : bW (fs_push S b) (sN S) = b.1 := by unfold bW; rw [sB_push_eq]
theorem bH_top (S : fs_S) (b : fs_B) : bH (fs_push S b) (sN S) = b.2.1 := by unfold bH; rw [sB_push_eq]
theorem bD_top (S : fs_S) (b : fs_B) : bD (fs_push S b) (sN S) = b.2.2.1 := by unfold bD; rw [sB_push_eq]
theorem top_sub (S : fs_S) (b : fs_B) : nI (sN (fs_push S b)) - 1 = nI (sN S) := by
  rw [sN_push, show (1 : Int32) = nI 1 from rfl, pk_sub (by omega)]
  rfl
