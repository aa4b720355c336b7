/-! steps of the choice of the next finding, and of the plan -/
theorem bst_A {wf S : Nat → Nat} {o j : Nat} (ho : o = bO wf S j) (hol : o ≤ 12) (c : S j = 0) (d : toI o = (-9)) : j = bO wf S (j + 1) := by
  rw [bO_yes ⟨c, Or.inl (by rw [← ho]; exact (toI_n hol).mp d)⟩]
theorem bst_B {wf S : Nat → Nat} {o j lw : Nat} (ho : o = bO wf S j) (hol : o ≤ 12) (c : S j = 0) (hlw : o = 12 ∨ lw = wf o) (d : ¬ toI o = (-9)) (e : ¬ lw ≤ wf j) : j = bO wf S (j + 1) := by
  rcases hlw with h | h
  · exact absurd ((toI_n hol).mpr h) d
  · rw [bO_yes ⟨c, Or.inr (by rw [← ho, ← h]; omega)⟩]
theorem bst_C {wf S : Nat → Nat} {o j lw : Nat} (ho : o = bO wf S j) (hol : o ≤ 12) (hlw : o = 12 ∨ lw = wf o) (d : ¬ toI o = (-9)) (e : lw ≤ wf j) : o = bO wf S (j + 1) := by
  rcases hlw with h | h
  · exact absurd ((toI_n hol).mpr h) d
  · rw [bO_no (fun q => ?_)]
    · exact ho
    · rcases q.2 with r | r
      · rw [← ho] at r
        exact d ((toI_n hol).mpr r)
      · rw [← ho, ← h] at r
        omega
theorem bst_D {wf S : Nat → Nat} {o j : Nat} (ho : o = bO wf S j) (c : ¬ S j = 0) : o = bO wf S (j + 1) := by rw [bO_no (fun q => c q.1)]; exact ho
theorem nxo_1 {K : Kn} {S : Nat → Nat} (h : ¬ 2 ≤ nE K S) : (-9 : Int32) = toI (nxo K S) := by
  unfold nxo
  rw [if_pos (by omega)]
  rfl
theorem nxo_2 {K : Kn} {S : Nat → Nat} {o : Nat} (h : 2 ≤ nE K S) (ho : o = bO (wC K S) S 12) : toI o = toI (nxo K S) := by
  unfold nxo
  rw [if_neg (by omega), ho]
theorem nxo_lt {K : Kn} {S : Nat → Nat} (h : ¬ toI (nxo K S) = (-9)) : nxo K S < 12 := by
  rcases nxo_in K S with q | q
  · exact absurd (by rw [q]; rfl) h
  · exact q.1
theorem nxo_12 {K : Kn} {S : Nat → Nat} (h : toI (nxo K S) = (-9)) : nxo K S = 12 := by
  rcases nxo_in K S with q | q
  · exact q
  · exact (toI_n (by omega)).mp h
def PT (K : Kn) (S : Nat → Nat) (j : Nat) (qf qt qm : Nat → Nat) : Prop := ∀ i, i < j → nxo K (pS K S i) < 12 ∧ qf i = nxo K (pS K S i) ∧ qt i = tkS K (pS K S i) ∧ qm i = nE K (pS K S (i + 1))
theorem PT.step {K : Kn} {S : Nat → Nat} {j : Nat} {qf qt qm : Nat → Nat} (h : PT K S j qf qt qm) (hj : nxo K (pS K S j) < 12) : PT K S (j + 1) (va_up qf j (nxo K (pS K S j))) (va_up qt j (tkS K (pS K S j))) (va_up qm j (nE K (pS K S (j + 1)))) := by
  intro i hi
  unfold va_up
  by_cases q : i = j
  · rw [if_pos q, if_pos q, if_pos q, q]
    exact ⟨hj, rfl, rfl, rfl⟩
  · rw [if_neg q, if_neg q, if_neg q]
    exact h i (by omega)
theorem PT.fin {K : Kn} {S : Nat → Nat} {j : Nat} {qf qt qm : Nat → Nat} (h : PT K S j qf qt qm) (hj : j ≤ 12) (he : nxo K (pS K S j) = 12 ∨ j = 12) : PI K S j qf qt qm := by
  refine ⟨⟨hj, fun i hi => (h i hi).1, ?_⟩, fun k hk => (h k hk).2⟩
  rcases he with q | q
  · exact q
  · subst q
    exact plan_12 (fun i hi => (h i hi).1)
theorem PT.zero (K : Kn) (S qf qt qm : Nat → Nat) : PT K S 0 qf qt qm := fun i hi => absurd hi (Nat.not_lt_zero i)
theorem tk_t {K : Kn} {S : Nat → Nat} (h : ¬ lfT K S (nxo K S) < lfA K S (nxo K S)) : nI 1 = nI (tkS K S) := by
  unfold tkS tkn
  rw [decide_eq_true (by omega)]
  rfl
theorem tk_f {K : Kn} {S : Nat → Nat} (h : lfT K S (nxo K S) < lfA K S (nxo K S)) : nI 2 = nI (tkS K S) := by
  unfold tkS tkn
  rw [decide_eq_false (by omega)]
  rfl
