/-! numbers and sets of bits -/
def mkN (p : Nat → Bool) : Nat → Nat
  | 0 => 0
  | n + 1 => mkN p n + (if p n then 2 ^ n else 0)
theorem or_pow {x n : Nat} (h : x < 2 ^ n) : x + 2 ^ n = x ||| 2 ^ n := by
  have e := Nat.two_pow_add_eq_or_of_lt h 1
  rw [Nat.mul_one] at e
  rw [Nat.add_comm, e, Nat.or_comm]
theorem mkN_lt (p : Nat → Bool) : ∀ n, mkN p n < 2 ^ n
  | 0 => Nat.zero_lt_one
  | n + 1 => by
    have h := mkN_lt p n
    rw [mkN, Nat.pow_succ]
    split <;> omega
theorem mkN_or (p : Nat → Bool) (n : Nat) : mkN p n ||| (if p n then 2 ^ n else 0) = mkN p (n + 1) := by
  rw [mkN]
  by_cases h : p n = true
  · rw [if_pos h, or_pow (mkN_lt p n)]
  · rw [if_neg h, Nat.or_zero, Nat.add_zero]
theorem mkN_bit (p : Nat → Bool) (i : Nat) : ∀ n, (mkN p n).testBit i = (decide (i < n) && p i)
  | 0 => by simp [mkN]
  | n + 1 => by
    have ih := mkN_bit p i n
    rw [← mkN_or, Nat.testBit_or, ih]
    by_cases h : p n = true
    · rw [if_pos h, Nat.testBit_two_pow]
      by_cases hi : n = i
      · subst hi; simp [h]
      · have e : decide (i < n + 1) = decide (i < n) := by
          rw [decide_eq_decide]; omega
        rw [e, decide_eq_false hi, Bool.or_false]
    · rw [if_neg h, Nat.zero_testBit, Bool.or_false]
      by_cases hi : n = i
      · subst hi
        have h2 : p n = false := by simpa using h
        simp [h2]
      · have e : decide (i < n + 1) = decide (i < n) := by
          rw [decide_eq_decide]; omega
        rw [e]
theorem mkN_ext {p q : Nat → Bool} {n : Nat} (h : ∀ i, i < n → p i = q i) : mkN p n = mkN q n := by
  apply Nat.eq_of_testBit_eq
  intro i
  rw [mkN_bit, mkN_bit]
  by_cases hi : i < n
  · rw [h i hi]
  · simp [hi]
theorem bits_ext {x y n : Nat} (hx : x < 2 ^ n) (hy : y < 2 ^ n) (h : ∀ i, i < n → x.testBit i = y.testBit i) : x = y := by
  apply Nat.eq_of_testBit_eq
  intro i
  by_cases hi : i < n
  · exact h i hi
  · have hp : 2 ^ n ≤ 2 ^ i := Nat.pow_le_pow_right (by decide) (by omega)
    rw [Nat.testBit_lt_two_pow (by omega), Nat.testBit_lt_two_pow (by omega)]
theorem mkN_eq {p : Nat → Bool} {n x : Nat} (hx : x < 2 ^ n) (h : ∀ i, i < n → x.testBit i = p i) : x = mkN p n := bits_ext hx (mkN_lt p n) (fun i hi => by rw [h i hi, mkN_bit, decide_eq_true hi, Bool.true_and])
def ndf (a b : Nat) : Nat := a ^^^ (a &&& b)
theorem ndf_bit (a b i : Nat) : (ndf a b).testBit i = (a.testBit i && !b.testBit i) := by
  unfold ndf
  rw [Nat.testBit_xor, Nat.testBit_and]
  cases a.testBit i <;> cases b.testBit i <;> rfl
theorem ndf_lt {a n : Nat} (b : Nat) (h : a < 2 ^ n) : ndf a b < 2 ^ n := Nat.xor_lt_two_pow h (Nat.lt_of_le_of_lt Nat.and_le_left h)
theorem bit_lt {x i n : Nat} (h : x < 2 ^ n) (hb : x.testBit i = true) : i < n := by
  rcases Nat.lt_or_ge i n with q | q
  · exact q
  · have hp : 2 ^ n ≤ 2 ^ i := Nat.pow_le_pow_right (by decide) q
    rw [Nat.testBit_lt_two_pow (by omega)] at hb
    cases hb
theorem z_and (a b : Nat) : nI a &&& nI b = nI (a &&& b) := by
  apply Int32.toBitVec_inj.1
  show BitVec.ofNat 32 a &&& BitVec.ofNat 32 b = BitVec.ofNat 32 (a &&& b)
  apply BitVec.eq_of_getLsbD_eq
  intro i hi
  simp [hi]
theorem z_or (a b : Nat) : nI a ||| nI b = nI (a ||| b) := by
  apply Int32.toBitVec_inj.1
  show BitVec.ofNat 32 a ||| BitVec.ofNat 32 b = BitVec.ofNat 32 (a ||| b)
  apply BitVec.eq_of_getLsbD_eq
  intro i hi
  simp [hi]
theorem z_ndf (a b : Nat) : nI a &&& (nI b ^^^ (-1)) = nI (ndf a b) := by
  apply Int32.toBitVec_inj.1
  have h1 : (-1 : Int32).toBitVec = BitVec.allOnes 32 := by decide
  show BitVec.ofNat 32 a &&& (BitVec.ofNat 32 b ^^^ (-1 : Int32).toBitVec) = BitVec.ofNat 32 (ndf a b)
  rw [h1]
  apply BitVec.eq_of_getLsbD_eq
  intro i hi
  rw [BitVec.getLsbD_and, BitVec.getLsbD_xor, BitVec.getLsbD_ofNat, BitVec.getLsbD_ofNat, BitVec.getLsbD_ofNat, BitVec.getLsbD_allOnes, ndf_bit]
  simp [hi]
theorem z_sl : ∀ n, n < 32 → ((nI n &&& 31).toBitVec.smod 32).toNat = n := by decide +kernel
theorem z_shl1 : ∀ {k : Nat}, k < 31 → nI 1 <<< (nI k &&& 31) = nI (2 ^ k) := by
  intro k h
  exact (by decide +kernel : ∀ k, k < 31 → nI 1 <<< (nI k &&& 31) = nI (2 ^ k)) k h
theorem z_shr {n k : Nat} (hn : n < 2 ^ 31) (hk : k < 32) : nI n >>> (nI k &&& 31) = nI (n >>> k) := by
  rw [pk_shrN hn _ k (z_sl k hk), Nat.shiftRight_eq_div_pow]
theorem z_bit (n k : Nat) : nI (n >>> k) &&& nI 1 = nI (n.testBit k).toNat := by
  rw [z_and, Nat.toNat_testBit, Nat.and_one_is_mod, Nat.shiftRight_eq_div_pow]
theorem z_lor (a b : Nat) : lN a ||| lN b = lN (a ||| b) := by
  apply Int64.toBitVec_inj.1
  show BitVec.ofNat 64 a ||| BitVec.ofNat 64 b = BitVec.ofNat 64 (a ||| b)
  apply BitVec.eq_of_getLsbD_eq
  intro i hi
  simp [hi]
theorem z_land (a b : Nat) : lN a &&& lN b = lN (a &&& b) := by
  apply Int64.toBitVec_inj.1
  show BitVec.ofNat 64 a &&& BitVec.ofNat 64 b = BitVec.ofNat 64 (a &&& b)
  apply BitVec.eq_of_getLsbD_eq
  intro i hi
  simp [hi]
def inR (x : Int32) (lo hi : Int) : Bool := decide (lo ≤ x.toInt ∧ x.toInt ≤ hi)
theorem inR_nat {x : Int32} {n : Nat} (h : inR x 0 (n : Int) = true) : ∃ j : Nat, j ≤ n ∧ x = nI j := by
  have h1 : 0 ≤ x.toInt ∧ x.toInt ≤ (n : Int) := by simpa [inR] using h
  refine ⟨x.toInt.toNat, by omega, ?_⟩
  apply Int32.toInt_inj.mp
  have hb := x.toInt_lt
  rw [nI_toInt (by omega)]
  omega
theorem inR_nI {j : Nat} (hj : j < 2 ^ 31) (lo hi : Int) : inR (nI j) lo hi = decide (lo ≤ (j : Int) ∧ (j : Int) ≤ hi) := by
  unfold inR
  rw [nI_toInt hj]
theorem toInt_lt {a b : Int32} : a < b ↔ a.toInt < b.toInt := Int32.lt_iff_toInt_lt
theorem toInt_le {a b : Int32} : a ≤ b ↔ a.toInt ≤ b.toInt := Int32.le_iff_toInt_le
