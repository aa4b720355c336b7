/-! the listing as it is kept; which finding to ask for; the plan; greatest divisors -/
def SK (K : Kn) (S : Nat → Nat) (g : Nat → Nat) : Prop := SortE K S (eS K S) ∧ ∀ k, k < nE K S → g k = key K (eS K S k)
theorem inj_key {K : Kn} {S : Nat → Nat} {ee g : Nat → Nat} (hp : PermE K S ee) (hg : ∀ k, k < nE K S → g k = key K (ee k)) : Inj (nE K S) g := by
  intro i j hi hj e
  rw [hg i hi, hg j hj] at e
  exact hp.2.2 i j hi hj (key_inj (hp.1 i hi).1 (hp.1 j hj).1 e)
theorem lt_key {K : Kn} {S : Nat → Nat} {ee g : Nat → Nat} (hK : KO K) (hg : ∀ k, k < nE K S → g k = key K (ee k)) : ∀ k, k < nE K S → g k < 2 ^ 63 := by
  intro k hk
  rw [hg k hk]
  have := key_lt hK (ee k)
  omega
theorem SK_of {K : Kn} {S : Nat → Nat} {ee g g' : Nat → Nat} (hp : PermE K S ee) (hg : ∀ k, k < nE K S → g k = key K (ee k)) (hs : Sam (nE K S) g g') (hi : Inj (nE K S) g') (hd : Dcr (nE K S) g') : SK K S g' := by
  obtain ⟨ee', h1, h2⟩ := sort_of hp hg hs hi hd
  obtain ⟨h3, h4⟩ := eS_spec h1
  exact ⟨h3, fun k hk => by rw [h2 k hk, h4 k hk]⟩
theorem SK.lt {K : Kn} {S : Nat → Nat} {g : Nat → Nat} (h : SK K S g) : ∀ k, k < nE K S → eS K S k < 1024 := fun k hk => (h.1.1.1 k hk).1
/-- the weights of explanations that foretell a finding so, together -/
def spl (K : Kn) (S : Nat → Nat) (fi v : Nat) : Nat := sm (fun x => if isE K S x then (if fort K x fi = v then wt K x else 0) else 0) 1024
theorem smF_perm {K : Kn} {S : Nat → Nat} {ee : Nat → Nat} (hp : PermE K S ee) (fi v : Nat) : smF K ee fi v (nE K S) = spl K S fi v := perm_sum hp (fun x => if fort K x fi = v then wt K x else 0)
theorem spl_le {K : Kn} {S : Nat → Nat} {ee : Nat → Nat} (hK : KO K) (hp : PermE K S ee) (fi v : Nat) : spl K S fi v ≤ 2580480000000000 := by
  rw [← smF_perm hp]
  have h1 := smF_le hK ee fi v (nE K S)
  have h2 := nE_le K S
  omega
theorem spl_lt {K : Kn} (hK : KO K) (S : Nat → Nat) (fi v : Nat) : spl K S fi v ≤ 2580480000000000 := spl_le hK (eU_perm K S) fi v
def lfT (K : Kn) (S : Nat → Nat) (fi : Nat) : Nat := spl K S fi 1 + spl K S fi 0
def lfA (K : Kn) (S : Nat → Nat) (fi : Nat) : Nat := spl K S fi 2 + spl K S fi 0
def wC (K : Kn) (S : Nat → Nat) (fi : Nat) : Nat := max (lfT K S fi) (lfA K S fi)
theorem lfT_lt {K : Kn} (hK : KO K) (S : Nat → Nat) (fi : Nat) : lfT K S fi < 2 ^ 62 := by
  have h1 := spl_lt hK S fi 1
  have h2 := spl_lt hK S fi 0
  unfold lfT
  omega
theorem lfA_lt {K : Kn} (hK : KO K) (S : Nat → Nat) (fi : Nat) : lfA K S fi < 2 ^ 62 := by
  have h1 := spl_lt hK S fi 2
  have h2 := spl_lt hK S fi 0
  unfold lfA
  omega
theorem wC_lt {K : Kn} (hK : KO K) (S : Nat → Nat) (fi : Nat) : wC K S fi < 2 ^ 62 := Nat.max_lt.mpr ⟨lfT_lt hK S fi, lfA_lt hK S fi⟩
/-- the best of the first j findings; 12: none -/
def bO (wf S : Nat → Nat) : Nat → Nat
  | 0 => 12
  | j + 1 => if S j = 0 ∧ (bO wf S j = 12 ∨ wf j < wf (bO wf S j)) then j else bO wf S j
def toI (o : Nat) : Int32 := if o < 12 then nI o else (-9)
theorem bO_in (wf S : Nat → Nat) : ∀ j, j ≤ 12 → bO wf S j = 12 ∨ (bO wf S j < j ∧ S (bO wf S j) = 0)
  | 0, _ => Or.inl rfl
  | j + 1, hj => by
    have ih := bO_in wf S j (by omega)
    rw [bO]
    by_cases h : S j = 0 ∧ (bO wf S j = 12 ∨ wf j < wf (bO wf S j))
    · rw [if_pos h]
      exact Or.inr ⟨by omega, h.1⟩
    · rw [if_neg h]
      rcases ih with q | q
      · exact Or.inl q
      · exact Or.inr ⟨by omega, q.2⟩
theorem bO_yes {wf S : Nat → Nat} {j : Nat} (h : S j = 0 ∧ (bO wf S j = 12 ∨ wf j < wf (bO wf S j))) : bO wf S (j + 1) = j := by rw [bO, if_pos h]
theorem bO_no {wf S : Nat → Nat} {j : Nat} (h : ¬ (S j = 0 ∧ (bO wf S j = 12 ∨ wf j < wf (bO wf S j)))) : bO wf S (j + 1) = bO wf S j := by rw [bO, if_neg h]
theorem bO_le (wf S : Nat → Nat) {j : Nat} (hj : j ≤ 12) : bO wf S j ≤ 12 := by
  rcases bO_in wf S j hj with h | h <;> omega
theorem toI_n {o : Nat} (h : o ≤ 12) : toI o = (-9) ↔ o = 12 := by
  unfold toI
  constructor
  · intro e
    rcases Nat.lt_or_ge o 12 with q | q
    · rw [if_pos q] at e
      exact absurd e ((by decide +kernel : ∀ o, o < 12 → ¬ nI o = (-9)) o q)
    · omega
  · intro e
    rw [e, if_neg (by decide)]
theorem toI_12 : toI 12 = (-9) := rfl
theorem toI_lt {o : Nat} (h : o < 12) : toI o = nI o := by unfold toI; rw [if_pos h]
def nxo (K : Kn) (S : Nat → Nat) : Nat := if nE K S < 2 then 12 else bO (wC K S) S 12
theorem nxo_in (K : Kn) (S : Nat → Nat) : nxo K S = 12 ∨ (nxo K S < 12 ∧ S (nxo K S) = 0) := by
  unfold nxo
  split
  · exact Or.inl rfl
  · exact bO_in _ _ 12 (Nat.le_refl _)
def tkn (K : Kn) (S : Nat → Nat) : Bool := decide (lfA K S (nxo K S) ≤ lfT K S (nxo K S))
def tkS (K : Kn) (S : Nat → Nat) : Nat := if tkn K S then 1 else 2
theorem tkS_le (K : Kn) (S : Nat → Nat) : tkS K S ≤ 2 := by unfold tkS; split <;> decide
/-- the findings on paper behind k steps of the plan -/
def pS (K : Kn) (S : Nat → Nat) : Nat → Nat → Nat
  | 0 => S
  | k + 1 => va_up (pS K S k) (nxo K (pS K S k)) (tkS K (pS K S k))
theorem pS_le {K : Kn} {S : Nat → Nat} (h : ∀ f, S f ≤ 2) : ∀ k f, pS K S k f ≤ 2
  | 0, f => h f
  | k + 1, f => by
    rw [pS]
    unfold va_up
    split
    · exact tkS_le _ _
    · exact pS_le h k f
def un (S : Nat → Nat) : Nat := ct (fun f => S f == 0) 12
theorem un_up {S : Nat → Nat} {f v : Nat} (hf : f < 12) (h0 : S f = 0) (hv : v ≠ 0) : un S = un (va_up S f v) + 1 := by
  unfold un
  have := ct_add (p := fun i => va_up S f v i == 0) (q := fun i => S i == 0) (v := f) (by simp [va_up, hv]) (fun i hi => by simp [va_up, hi]) 12 hf
  rw [this]
  simp [h0]
theorem tkS_ne (K : Kn) (S : Nat → Nat) : tkS K S ≠ 0 := by unfold tkS; split <;> decide
theorem un_pS {K : Kn} {S : Nat → Nat} : ∀ k, (∀ i, i < k → nxo K (pS K S i) < 12) → un (pS K S k) + k = un S
  | 0, _ => rfl
  | k + 1, h => by
    have ih := un_pS k (fun i hi => h i (by omega))
    have hk := h k (by omega)
    have h0 : pS K S k (nxo K (pS K S k)) = 0 := by
      rcases nxo_in K (pS K S k) with q | q
      · omega
      · exact q.2
    have := un_up hk h0 (tkS_ne K (pS K S k))
    rw [pS]
    omega
theorem un_le (S : Nat → Nat) : un S ≤ 12 := ct_le _ _
theorem un_pos {S : Nat → Nat} {f : Nat} (hf : f < 12) (h : S f = 0) : 0 < un S := ct_pos hf (by simp [h])
/-- a step that is due is one of twelve -/
theorem plan_lt {K : Kn} {S : Nat → Nat} {k : Nat} (h : ∀ i, i < k → nxo K (pS K S i) < 12) (hk : nxo K (pS K S k) < 12) : k < 12 := by
  have h1 := un_pS k h
  have h2 := un_le S
  have h3 : 0 < un (pS K S k) := un_pos hk (by
    rcases nxo_in K (pS K S k) with q | q
    · omega
    · exact q.2)
  omega
theorem plan_12 {K : Kn} {S : Nat → Nat} (h : ∀ i, i < 12 → nxo K (pS K S i) < 12) : nxo K (pS K S 12) = 12 := by
  rcases nxo_in K (pS K S 12) with q | q
  · exact q
  · have := plan_lt h q.1
    omega
/-- the plan has z steps -/
def PZ (K : Kn) (S : Nat → Nat) (z : Nat) : Prop := z ≤ 12 ∧ (∀ i, i < z → nxo K (pS K S i) < 12) ∧ nxo K (pS K S z) = 12
theorem PZ.uniq {K : Kn} {S : Nat → Nat} {y z : Nat} (hy : PZ K S y) (hz : PZ K S z) : y = z := by
  rcases Nat.lt_trichotomy y z with q | q | q
  · have := hz.2.1 y q
    have := hy.2.2
    omega
  · exact q
  · have := hy.2.1 z q
    have := hz.2.2
    omega
def PI (K : Kn) (S : Nat → Nat) (z : Nat) (pf pt pm : Nat → Nat) : Prop := PZ K S z ∧ ∀ k, k < z → pf k = nxo K (pS K S k) ∧ pt k = tkS K (pS K S k) ∧ pm k = nE K (pS K S (k + 1))
/-! greatest divisors -/
theorem gcd_step (a b : Nat) : Nat.gcd b (a % b) = Nat.gcd a b := by rw [Nat.gcd_comm a b, Nat.gcd_rec b a, Nat.gcd_comm]
def GI (j a b : Nat) : Prop := j = 0 ∨ (b < a ∧ a * b * 2 ^ (j - 1) < 2 ^ 124)
theorem GI.step {j a b : Nat} (h : GI j a b) (h0 : 0 < b) (hb : b < 2 ^ 62) : GI (j + 1) b (a % b) := by
  have hr : a % b < b := Nat.mod_lt _ h0
  refine Or.inr ⟨hr, ?_⟩
  rw [Nat.add_sub_cancel]
  rcases h with h | ⟨h1, h2⟩
  · subst h
    rw [Nat.pow_zero, Nat.mul_one]
    have : b * (a % b) < 2 ^ 62 * 2 ^ 62 := Nat.mul_lt_mul_of_lt_of_le hb (by omega) (by decide)
    exact this
  · have e := Nat.div_add_mod a b
    have hq : 1 ≤ a / b := Nat.div_pos (by omega) h0
    have hm : b * 1 ≤ b * (a / b) := Nat.mul_le_mul_left b hq
    have h3 : 2 * (a % b) ≤ a := by omega
    have h4 : 2 * (b * (a % b)) ≤ a * b := by
      have := Nat.mul_le_mul_left b h3
      rw [Nat.mul_comm a b, Nat.mul_left_comm]
      exact this
    have hj : j ≠ 0 ∨ j = 0 := by omega
    rcases hj with hj | hj
    · have e2 : 2 ^ j = 2 * 2 ^ (j - 1) := by
        obtain ⟨i, rfl⟩ : ∃ i, j = i + 1 := ⟨j - 1, by omega⟩
        rw [Nat.add_sub_cancel, Nat.pow_succ, Nat.mul_comm]
      rw [e2]
      have h5 : b * (a % b) * (2 * 2 ^ (j - 1)) = 2 * (b * (a % b)) * 2 ^ (j - 1) := by
        rw [← Nat.mul_assoc, Nat.mul_comm (b * (a % b)) 2]
      rw [h5]
      exact Nat.lt_of_le_of_lt (Nat.mul_le_mul_right _ h4) h2
    · subst hj
      rw [Nat.pow_zero, Nat.mul_one]
      have := Nat.le_trans (Nat.le_mul_of_pos_left (b * (a % b)) (by decide : 0 < 2)) h4
      rw [Nat.zero_sub, Nat.pow_zero, Nat.mul_one] at h2
      omega
theorem GI.done {a b : Nat} (h : GI 128 a b) : b = 0 := by
  rcases h with h | ⟨h1, h2⟩
  · omega
  · rcases Nat.eq_zero_or_pos b with q | q
    · exact q
    · exfalso
      have h3 : 1 ≤ a * b := Nat.mul_pos (by omega) q
      have h4 : 1 * 2 ^ 127 ≤ a * b * 2 ^ (128 - 1) := Nat.mul_le_mul_right _ h3
      have h5 : (2 : Nat) ^ 124 < 1 * 2 ^ 127 := by decide
      omega
def lstT (u d wh : Nat) : Nat := (if wh = 0 then u else d) / Nat.gcd u d
