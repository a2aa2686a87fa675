/-! sums that wrap around -/
theorem rg_1 (x y z : Int32) : x + y - -z = z + x + y := by
  first | (rw [Int32.sub_eq_add_neg, Int32.neg_neg, Int32.add_comm (x + y) z, Int32.add_assoc z x y]; done) | grind
theorem rg_2 (v c g : Int32) : v + (c - g) = v + c - g := by
  first | (rw [Int32.sub_eq_add_neg c g, Int32.sub_eq_add_neg (v + c) g, Int32.add_assoc]; done) | grind
theorem rg_3 (d v : Int32) : d - -v = v + d := by
  first | (rw [Int32.sub_eq_add_neg, Int32.neg_neg, Int32.add_comm]; done) | grind
theorem pl_3g {S : fs_S} {u : fs_F} {least : Int32} (hS : sN S ≤ 120) (h4 : u.1.length ≤ 4) (hm : ∀ j, j < u.1.length → fs_in S (u.1.getD j 0)) (h : md_pl S u least = (-3)) : ¬ (nI u.1.length = 0 ∧ u.2.2.2.2 = (-1)) ∧ fs_rd S u least = (-1) := by
  rcases pl_cases least h4 hm with q | q | q
  · rw [q.1] at h
    exact absurd h (by decide)
  · exact ⟨q.1, q.2.2.1⟩
  · have h9 := q.2.2.pos hS
    rw [← q.2.1, h] at h9
    exact absurd (by decide) h9
theorem kt_ok {S : fs_S} (hok : fs_ok S) {k : Nat} (hk : k < 8) (r least : Int32) (hr : r = (-1) → sN S < 120) : fs_ok (kt_S S (sF S k) r least) := by
  unfold kt_S
  split
  · rename_i h
    obtain ⟨o1, o2, o3, o4, o5, o6⟩ := hok.2.2 k hk
    exact hok.push (hr h) (fs_tg_pl hok.1 o3 o4 o5 o6)
  · exact hok
theorem find_congr {p q : Int32 → Bool} : ∀ {l : List Int32}, (∀ x ∈ l, p x = q x) → l.find? p = l.find? q
  | [], _ => rfl
  | y :: ys, h => by
    rw [List.find?_cons, List.find?_cons, h y List.mem_cons_self, find_congr (fun x hx => h x (List.mem_cons_of_mem _ hx))]
theorem rd_kt {S : fs_S} {r : Int32} (hS : sN S + 1 ≤ 120 ∨ ¬ r = (-1)) (u : fs_F) (least l2 : Int32) {u2 : fs_F} (hm : ∀ j, j < u2.1.length → fs_in S (u2.1.getD j 0)) : fs_rd (kt_S S u r least) u2 l2 = fs_rd S u2 l2 := by
  unfold kt_S
  split
  · rename_i h
    have hS1 := hS.resolve_right (fun q => q h)
    have hf : u2.1.find? (fs_hi (fs_push S (fs_tg S u least)) l2) = u2.1.find? (fs_hi S l2) := by
      have hc : ∀ x ∈ u2.1, fs_hi (fs_push S (fs_tg S u least)) l2 x = fs_hi S l2 x := by
        intro x hx
        obtain ⟨j, hj, e⟩ := List.getElem_of_mem hx
        have h9 := hm j hj
        rw [show u2.1.getD j 0 = x by simp [List.getD_eq_getElem?_getD, hj, e]] at h9
        unfold fs_hi
        rw [fEx_push _ hS1 h9.on]
      exact find_congr hc
    unfold fs_rd
    rw [hf]
  · rfl
