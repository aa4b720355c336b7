/-! what the reference's public calls need -/
theorem inN_w {x : Int32} {N : Nat} (h : N ≤ 252) : nI (inR x (nI 0).toInt (nI N - nI 1).toInt).toNat = nI (inN x N).toNat := by
  unfold inR inN
  rw [pk_sub_toInt (by omega) (by omega), tIn (by decide)]
  congr 2
  rw [decide_eq_decide]
  omega
theorem inR_ne {x : Int32} {n k : Nat} (h : inR x 0 (n : Int) = false) (hk : k ≤ n) (hn : n < 2 ^ 31) : ¬ x = nI k := fun e => by
  rw [e, inR_yes hk hn] at h
  cases h
theorem zr_step (S : Nat → Nat) (j : Nat) : va_up (zr S j) j 0 = zr S (j + 1) := by
  funext i
  unfold va_up zr
  by_cases e : i = j
  · rw [if_pos e, if_pos (by omega)]
  · rw [if_neg e]
    by_cases q : i < j
    · rw [if_pos q, if_pos (by omega)]
    · rw [if_neg q, if_neg (by omega)]
theorem zr_0 (S : Nat → Nat) : zr S 0 = S := by
  funext i
  unfold zr
  rw [if_neg (by omega)]
theorem up_back (S : Nat → Nat) (j v : Nat) : va_up (va_up S j v) j (S j) = S := by
  funext i
  unfold va_up
  by_cases e : i = j
  · rw [if_pos e, e]
  · rw [if_neg e, if_neg e]
theorem need_eq {K : Kn} {S : Nat → Nat} {x c : Nat} (hc : cov K S x = true) (hb : x.testBit c = true) : mkN (fun f => S f == 1 && !isL K f (ndf x (2 ^ c))) 12 = need K (thM S) x c := by
  unfold need
  refine (mkN_eq (ndf_lt _ (Nat.lt_of_le_of_lt Nat.and_le_left (thM_lt S))) (fun f hf => ?_)).symm
  rw [ndf_bit, Nat.testBit_and, thM_bit S hf, lfM_bit K c hf, foM_bit K _ hf]
  show ((S f == 1) && lk K f c && !isL K f (ndf x (2 ^ c))) = (S f == 1 && !isL K f (ndf x (2 ^ c)))
  cases hS : S f == 1
  · rfl
  · cases hl : isL K f (ndf x (2 ^ c))
    · rw [Bool.true_and, Bool.not_false, Bool.and_true, Bool.and_true]
      obtain ⟨d, hd, hxd, hld⟩ := isL_iff.mp ((cov_iff.mp hc).2 f hf (by simpa using hS))
      by_cases e : d = c
      · rw [← e]; exact hld
      · exfalso
        have : isL K f (ndf x (2 ^ c)) = true := isL_iff.mpr ⟨d, hd, by rw [ndf_bit, hxd, Nat.testBit_two_pow, decide_eq_false (Ne.symm e)]; rfl, hld⟩
        rw [hl] at this
        cases this
    · simp
theorem minN_all (ee : Nat → Nat) : ∀ n k, k < n → minN ee n ≤ pop (ee k)
  | 0, k, h => absurd h (Nat.not_lt_zero k)
  | n + 1, k, h => by
    rw [minN]
    rcases Nat.lt_or_ge k n with q | q
    · exact Nat.le_trans (Nat.min_le_left _ _) (minN_all ee n k q)
    · rw [show k = n by omega]
      exact Nat.min_le_right _ _
theorem fw_min {ee : Nat → Nat} {j a : Nat} (ha : a = minN ee j) : (if pop (ee j) < a then pop (ee j) else a) = minN ee (j + 1) := by
  rw [minN, ← ha]
  by_cases h : pop (ee j) < a
  · rw [if_pos h, Nat.min_eq_right (by omega)]
  · rw [if_neg h, Nat.min_eq_left (by omega)]
theorem fw_max {ee : Nat → Nat} {j a : Nat} (ha : a = maxN ee j) : (if a < pop (ee j) then pop (ee j) else a) = maxN ee (j + 1) := by
  rw [maxN, ← ha]
  by_cases h : a < pop (ee j)
  · rw [if_pos h, Nat.max_eq_right (by omega)]
  · rw [if_neg h, Nat.max_eq_left (by omega)]
theorem fw_ct {ee : Nat → Nat} {j a k : Nat} (ha : a = minN ee j) (hk : k = ct (fun z => pop (ee z) == minN ee j) j) : (if pop (ee j) < a then 0 else k) + (pop (ee j) == (if pop (ee j) < a then pop (ee j) else a)).toNat = ct (fun z => pop (ee z) == minN ee (j + 1)) (j + 1) := by
  rw [ct, ← fw_min ha]
  by_cases h : pop (ee j) < a
  · rw [if_pos h, if_pos h]
    have : ct (fun z => pop (ee z) == pop (ee j)) j = 0 := by
      rw [ct_skip (Nat.zero_le j) (fun y _ hy => by
        rw [beq_eq_false_iff_ne]
        have := minN_all ee j y hy
        omega)]
      rfl
    rw [this]
  · rw [if_neg h, if_neg h, hk, ha]
theorem MK_pop {K : Kn} {S : Nat → Nat} {ex we : Nat → Nat} (h : MKn K S ex we) : ∀ k, k < nE K S → ex k = eS K S k := fun k hk => (h.2 k hk).1
theorem MK_smC {K : Kn} {S : Nat → Nat} {ex we : Nat → Nat} (h : MKn K S ex we) (ca : Nat) : sm (fun k => if (ex k).testBit ca then we k else 0) (nE K S) = smC K (eS K S) ca (nE K S) := sm_ext (fun k hk => by rw [(h.2 k hk).1, (h.2 k hk).2])
theorem MK_ctC {K : Kn} {S : Nat → Nat} {ex we : Nat → Nat} (h : MKn K S ex we) (ca : Nat) : ct (fun k => (ex k).testBit ca) (nE K S) = ct (fun z => (eS K S z).testBit ca) (nE K S) := ct_ext (fun k hk => by rw [(h.2 k hk).1])
theorem MK_ctF {K : Kn} {S : Nat → Nat} {ex we : Nat → Nat} (h : MKn K S ex we) (fi : Nat) {w : Nat} (hw : w ≤ 2) : ct (fun k => fo3 K (ex k) fi == w) (nE K S) = ct (fun z => fort K (eS K S z) fi == wv w) (nE K S) := ct_ext (fun k hk => by
  rw [(h.2 k hk).1]
  apply Bool.eq_iff_iff.mpr
  rw [beq_iff_eq, beq_iff_eq]
  exact fo3_fort hw)
theorem MK_ctP {K : Kn} {S : Nat → Nat} {ex we : Nat → Nat} (h : MKn K S ex we) : ct (fun k => pop (ex k) == minN ex (nE K S)) (nE K S) = ct (fun z => pop (eS K S z) == minN (eS K S) (nE K S)) (nE K S) := by
  rw [minN_ext (MK_pop h)]
  exact ct_ext (fun k hk => by rw [(h.2 k hk).1])
/-- links counted by findings and by causes -/
theorem ct_rows (p : Nat → Nat → Bool) : ∀ m, ct (fun x => p (x / 10) (x % 10)) (10 * m) = sm (fun f => ct (fun c => p f c) 10) m
  | 0 => rfl
  | m + 1 => by
    have ih := ct_rows p m
    rw [sm, ← ih]
    have key : ∀ k, k ≤ 10 → ct (fun x => p (x / 10) (x % 10)) (10 * m + k) = ct (fun x => p (x / 10) (x % 10)) (10 * m) + ct (fun c => p m c) k := by
      intro k
      induction k with
      | zero => intro _; rfl
      | succ k ih2 =>
        intro hk
        rw [← Nat.add_assoc, ct, ih2 (by omega), ct]
        show _ + (p ((10 * m + k) / 10) ((10 * m + k) % 10)).toNat = _
        rw [show (10 * m + k) / 10 = m by omega, show (10 * m + k) % 10 = k by omega]
        omega
    rw [Nat.mul_succ]
    exact key 10 (Nat.le_refl _)
theorem sm_plus (f g : Nat → Nat) : ∀ n, sm (fun k => f k + g k) n = sm f n + sm g n
  | 0 => rfl
  | n + 1 => by rw [sm, sm, sm, sm_plus f g n]; omega
theorem ct_swap (p : Nat → Nat → Bool) (n : Nat) : ∀ m, sm (fun f => ct (fun c => p f c) n) m = sm (fun c => ct (fun f => p f c) m) n
  | 0 => by
    rw [sm]
    exact (sm_skip (Nat.zero_le n) (fun y _ _ => rfl)).symm
  | m + 1 => by
    rw [sm, ct_swap p n m]
    have e : ∀ k, ct (fun c => p m c) k = sm (fun c => (p m c).toNat) k := by
      intro k
      induction k with
      | zero => rfl
      | succ k ih => rw [ct, sm, ih]
    rw [e n, ← sm_plus]
    rfl
theorem cnt_links (K : Kn) : ct (fun x => lkA K x != 0) 120 = cntL K 10 := by
  have h1 := ct_rows (fun f c => lk K f c) 12
  have h2 := ct_swap (fun f c => lk K f c) 10 12
  unfold cntL
  rw [show sm (fun c => pop (lfM K c)) 10 = sm (fun c => ct (fun f => lk K f c) 12) 10 from sm_ext (fun c _ => ct_ext (fun f hf => lfM_bit K c hf)), ← h2, ← h1]
  rfl
/-! the plan of the reference -/
def cpI (S ks : Nat → Nat) (j : Nat) : Nat → Nat := fun i => if i < j then S i else ks i
theorem cpI_0 (S ks : Nat → Nat) : cpI S ks 0 = ks := by
  funext i
  unfold cpI
  rw [if_neg (by omega)]
theorem cpI_step (S ks : Nat → Nat) (j : Nat) : va_up (cpI S ks j) j (S j) = cpI S ks (j + 1) := by
  funext i
  unfold va_up cpI
  by_cases e : i = j
  · rw [if_pos e, e, if_pos (by omega)]
  · rw [if_neg e]
    by_cases q : i < j
    · rw [if_pos q, if_pos (by omega)]
    · rw [if_neg q, if_neg (by omega)]
theorem pS_hi {K : Kn} {S : Nat → Nat} : ∀ k, (∀ i, i < k → nxo K (pS K S i) < 12) → ∀ f, 12 ≤ f → pS K S k f = S f
  | 0, _, f, _ => rfl
  | k + 1, h, f, hf => by
    rw [pS]
    unfold va_up
    have := h k (by omega)
    rw [if_neg (by omega)]
    exact pS_hi k (fun i hi => h i (by omega)) f hf
theorem pS_rest {K : Kn} {S ks : Nat → Nat} {z : Nat} (h : PZ K S z) : cpI (cpI S ks 12) (pS K S z) 12 = S := by
  funext i
  unfold cpI
  by_cases q : i < 12
  · rw [if_pos q, if_pos q]
  · rw [if_neg q]
    exact pS_hi z h.2.1 i (by omega)
theorem cpI_at (S ks : Nat → Nat) {j n : Nat} (h : j < n) : cpI S ks n j = S j := by
  unfold cpI
  rw [if_pos h]
def PJ (K : Kn) (S : Nat → Nat) (z : Nat) (ya yb yc : Nat → Nat) : Prop := PZ K S z ∧ ∀ k, k < z → ya k = nxo K (pS K S k) ∧ yb k = (tkn K (pS K S k)).toNat ∧ yc k = nE K (pS K S (k + 1))
def PTm (K : Kn) (S : Nat → Nat) (j : Nat) (qf qt qm : Nat → Nat) : Prop := ∀ i, i < j → nxo K (pS K S i) < 12 ∧ qf i = nxo K (pS K S i) ∧ qt i = (tkn K (pS K S i)).toNat ∧ qm i = nE K (pS K S (i + 1))
theorem PTm.step {K : Kn} {S : Nat → Nat} {j : Nat} {qf qt qm : Nat → Nat} (h : PTm K S j qf qt qm) (hj : nxo K (pS K S j) < 12) : PTm K S (j + 1) (va_up qf j (nxo K (pS K S j))) (va_up qt j (tkn K (pS K S j)).toNat) (va_up qm j (nE K (pS K S (j + 1)))) := by
  intro i hi
  unfold va_up
  by_cases q : i = j
  · rw [if_pos q, if_pos q, if_pos q, q]
    exact ⟨hj, rfl, rfl, rfl⟩
  · rw [if_neg q, if_neg q, if_neg q]
    exact h i (by omega)
theorem PTm.fin {K : Kn} {S : Nat → Nat} {j : Nat} {qf qt qm : Nat → Nat} (h : PTm K S j qf qt qm) (hj : j ≤ 12) (he : nxo K (pS K S j) = 12) : PJ K S j qf qt qm := ⟨⟨hj, fun i hi => (h i hi).1, he⟩, fun k hk => (h k hk).2⟩
theorem PTm.zero (K : Kn) (S qf qt qm : Nat → Nat) : PTm K S 0 qf qt qm := fun i hi => absurd hi (Nat.not_lt_zero i)
theorem PTm.le {K : Kn} {S : Nat → Nat} {j : Nat} {qf qt qm : Nat → Nat} (h : PTm K S j qf qt qm) : j ≤ 12 := by
  have h1 := un_pS j (fun i hi => (h i hi).1)
  have h2 := un_le S
  omega
theorem PTm.lt {K : Kn} {S : Nat → Nat} {j : Nat} {qf qt qm : Nat → Nat} (h : PTm K S j qf qt qm) (hj : nxo K (pS K S j) < 12) : j < 12 := plan_lt (fun i hi => (h i hi).1) hj
/-! the reference's choice of the next finding: by the best one's own worst -/
theorem nst_A {wf S : Nat → Nat} {o j : Nat} (ho : o = bO wf S j) (hol : o ≤ 12) (c : S j = 0) (d : toI o = (-9)) : j = bO wf S (j + 1) := bst_A ho hol c d
theorem nst_B {wf S : Nat → Nat} {o j : Nat} (ho : o = bO wf S j) (c : S j = 0) (e : wf j < wf o) : j = bO wf S (j + 1) := by rw [bO_yes ⟨c, Or.inr (by rw [← ho]; exact e)⟩]
theorem nst_C {wf S : Nat → Nat} {o j : Nat} (ho : o = bO wf S j) (hol : o ≤ 12) (d : ¬ toI o = (-9)) (e : wf o ≤ wf j) : o = bO wf S (j + 1) := by
  rw [bO_no (fun q => ?_)]
  · exact ho
  · rcases q.2 with r | r
    · rw [← ho] at r
      exact d ((toI_n hol).mpr r)
    · rw [← ho] at r
      omega
theorem toI_lt2 {o : Nat} (h : o ≤ 12) (d : ¬ toI o = (-9)) : o < 12 := by
  rcases Nat.lt_or_ge o 12 with q | q
  · exact q
  · exact absurd ((toI_n h).mpr (by omega)) d
theorem tkn_t {K : Kn} {S : Nat → Nat} (h : ¬ lfT K S (nxo K S) < lfA K S (nxo K S)) : nI 1 = nI (tkn K S).toNat := by
  unfold tkn
  rw [decide_eq_true (by omega)]
  rfl
theorem tkn_f {K : Kn} {S : Nat → Nat} (h : lfT K S (nxo K S) < lfA K S (nxo K S)) : nI 0 = nI (tkn K S).toNat := by
  unfold tkn
  rw [decide_eq_false (by omega)]
  rfl
