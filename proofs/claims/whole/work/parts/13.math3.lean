/-! weights, keys, what is counted over a row of explanations -/
def wtI (K : Kn) (x : Nat) : Nat → Nat
  | 0 => 1
  | i + 1 => wtI K x i * (if x.testBit i then K.1 i else K.2.1 i)
def wt (K : Kn) (x : Nat) : Nat := wtI K x 10
def key (K : Kn) (x : Nat) : Nat := (wt K x * 16 + (15 - pop x)) * 1024 + (1023 - x)
/-- odds are 1 .. 20 -/
def KO (K : Kn) : Prop := ∀ c, c < 10 → (1 ≤ K.1 c ∧ K.1 c ≤ 20) ∧ 1 ≤ K.2.1 c ∧ K.2.1 c ≤ 20
theorem wtI_le {K : Kn} (h : KO K) (x : Nat) : ∀ i, i ≤ 10 → 1 ≤ wtI K x i ∧ wtI K x i ≤ 20 ^ i
  | 0, _ => ⟨Nat.le_refl 1, Nat.le_refl 1⟩
  | i + 1, hi => by
    have ih := wtI_le h x i (by omega)
    have h1 := h i (by omega)
    have h2 : 1 ≤ (if x.testBit i then K.1 i else K.2.1 i) ∧ (if x.testBit i then K.1 i else K.2.1 i) ≤ 20 := by
      split
      · exact h1.1
      · exact h1.2
    refine ⟨Nat.mul_pos ih.1 h2.1, ?_⟩
    rw [Nat.pow_succ]
    exact Nat.mul_le_mul ih.2 h2.2
theorem wt_le {K : Kn} (h : KO K) (x : Nat) : 1 ≤ wt K x ∧ wt K x ≤ 10240000000000 := wtI_le h x 10 (Nat.le_refl _)
theorem key_lt {K : Kn} (h : KO K) (x : Nat) : key K x < 2 ^ 62 := by
  have := wt_le h x
  unfold key
  omega
theorem key_set (K : Kn) {x : Nat} (h : x < 1024) : 1023 - (key K x &&& 1023) = x := by
  have e : key K x &&& 1023 = key K x % 1024 := Nat.and_two_pow_sub_one_eq_mod (key K x) 10
  rw [e]
  unfold key
  omega
theorem key_wt (K : Kn) (x : Nat) : key K x / 2 ^ 14 = wt K x := by
  unfold key
  have : (2 : Nat) ^ 14 = 16384 := rfl
  omega
theorem pf_lI {a : Nat} (h : a < 2 ^ 63) : (lN a).toInt = (a : Int) := pk_lT h
theorem z_lshr {a d : Nat} {D : Int64} (hD : (D.toBitVec.smod 64).toNat = d) (h : a < 2 ^ 62) : lN a >>> D = lN (a / 2 ^ d) := by
  have hd : a / 2 ^ d ≤ a := Nat.div_le_self _ _
  apply Int64.toInt_inj.mp
  have e : (lN a >>> D).toInt = (lN a).toInt >>> d := by
    rw [← hD]
    exact BitVec.toInt_sshiftRight ..
  rw [e, Int.shiftRight_eq_div_pow, pf_lI (by omega), pf_lI (by omega)]
  rfl
theorem z_lshr14 {a : Nat} (h : a < 2 ^ 62) : lN a >>> ((nI 14).toInt64 &&& 63) = lN (a / 2 ^ 14) := z_lshr (by decide +kernel) h
theorem wb_tb (n : Nat) : (lN n).toBitVec = BitVec.ofNat 64 n := rfl
theorem wb_c : ∀ k, k < 64 → ((nI k).toInt64 &&& 63) = lN k := by decide +kernel
theorem wb_sm : ∀ k, k < 64 → (BitVec.ofNat 64 k).smod 64 = BitVec.ofNat 64 k := by decide +kernel
theorem wb_shl (n : Nat) {k : Nat} (hk : k < 64) : lN n <<< ((nI k).toInt64 &&& 63) = lN (n * 2 ^ k) := by
  rw [wb_c k hk]
  apply Int64.toBitVec_inj.1
  rw [Int64.toBitVec_shiftLeft, wb_tb, wb_tb, wb_tb, wb_sm k hk]
  apply BitVec.eq_of_toNat_eq
  rw [BitVec.shiftLeft_eq', BitVec.toNat_shiftLeft, BitVec.toNat_ofNat, BitVec.toNat_ofNat, BitVec.toNat_ofNat, Nat.mod_eq_of_lt (show k < 2 ^ 64 by omega), Nat.shiftLeft_eq, Nat.mul_mod, Nat.mod_mod, ← Nat.mul_mod]
theorem or4 (w : Nat) {d : Nat} (h : d < 16) : w * 2 ^ 4 ||| d = w * 16 + d := by
  have e := Nat.two_pow_add_eq_or_of_lt (i := 4) h w
  rw [Nat.mul_comm (2 ^ 4) w] at e
  exact e.symm
theorem or10 (w : Nat) {d : Nat} (h : d < 1024) : w * 2 ^ 10 ||| d = w * 1024 + d := by
  have e := Nat.two_pow_add_eq_or_of_lt (i := 10) h w
  rw [Nat.mul_comm (2 ^ 10) w] at e
  exact e.symm
def inN (x : Int32) (N : Nat) : Bool := decide (0 ≤ x.toInt ∧ x.toInt < (N : Int))
theorem inN_t {x : Int32} {N : Nat} (h1 : 0 ≤ x.toInt) (h2 : x.toInt < (N : Int)) : nI 1 = nI (inN x N).toNat := by
  unfold inN
  rw [decide_eq_true ⟨h1, h2⟩]
  rfl
theorem inN_f {x : Int32} {N : Nat} (h : ¬ (0 ≤ x.toInt ∧ x.toInt < (N : Int))) : nI 0 = nI (inN x N).toNat := by
  unfold inN
  rw [decide_eq_false h]
  rfl
theorem inN_nat {x : Int32} {N : Nat} (h : inN x N = true) : ∃ j : Nat, j < N ∧ x = nI j := by
  have h1 : 0 ≤ x.toInt ∧ x.toInt < (N : Int) := by simpa [inN] using h
  refine ⟨x.toInt.toNat, by omega, ?_⟩
  apply Int32.toInt_inj.mp
  have hb := x.toInt_lt
  rw [nI_toInt (by omega)]
  omega
def andN (ee : Nat → Nat) : Nat → Nat
  | 0 => 1023
  | n + 1 => andN ee n &&& ee n
def orN (ee : Nat → Nat) : Nat → Nat
  | 0 => 0
  | n + 1 => orN ee n ||| ee n
def minN (ee : Nat → Nat) : Nat → Nat
  | 0 => 10
  | n + 1 => min (minN ee n) (pop (ee n))
def maxN (ee : Nat → Nat) : Nat → Nat
  | 0 => 0
  | n + 1 => max (maxN ee n) (pop (ee n))
theorem minN_le (ee : Nat → Nat) : ∀ n, minN ee n ≤ 10
  | 0 => Nat.le_refl _
  | n + 1 => Nat.le_trans (Nat.min_le_left _ _) (minN_le ee n)
theorem maxN_le (ee : Nat → Nat) : ∀ n, maxN ee n ≤ 12
  | 0 => Nat.zero_le _
  | n + 1 => Nat.max_le.mpr ⟨maxN_le ee n, pop_le _⟩
theorem andN_ext {f g : Nat → Nat} {n : Nat} (h : ∀ i, i < n → f i = g i) : andN f n = andN g n := by
  induction n with
  | zero => rfl
  | succ n ih => rw [andN, andN, ih (fun i hi => h i (by omega)), h n (by omega)]
theorem orN_ext {f g : Nat → Nat} {n : Nat} (h : ∀ i, i < n → f i = g i) : orN f n = orN g n := by
  induction n with
  | zero => rfl
  | succ n ih => rw [orN, orN, ih (fun i hi => h i (by omega)), h n (by omega)]
theorem minN_ext {f g : Nat → Nat} {n : Nat} (h : ∀ i, i < n → f i = g i) : minN f n = minN g n := by
  induction n with
  | zero => rfl
  | succ n ih => rw [minN, minN, ih (fun i hi => h i (by omega)), h n (by omega)]
theorem maxN_ext {f g : Nat → Nat} {n : Nat} (h : ∀ i, i < n → f i = g i) : maxN f n = maxN g n := by
  induction n with
  | zero => rfl
  | succ n ih => rw [maxN, maxN, ih (fun i hi => h i (by omega)), h n (by omega)]
def smC (K : Kn) (ee : Nat → Nat) (ca n : Nat) : Nat := sm (fun k => if (ee k).testBit ca then wt K (ee k) else 0) n
def smF (K : Kn) (ee : Nat → Nat) (fi v n : Nat) : Nat := sm (fun k => if fort K (ee k) fi = v then wt K (ee k) else 0) n
theorem smC_le {K : Kn} (h : KO K) (ee : Nat → Nat) (ca n : Nat) : smC K ee ca n ≤ n * 10240000000000 := sm_le (fun i _ => by
  have := wt_le h (ee i)
  split <;> omega)
theorem smF_le {K : Kn} (h : KO K) (ee : Nat → Nat) (fi v n : Nat) : smF K ee fi v n ≤ n * 10240000000000 := sm_le (fun i _ => by
  have := wt_le h (ee i)
  split <;> omega)
theorem fort_le (K : Kn) (x f : Nat) : fort K x f ≤ 2 := by
  unfold fort
  split
  · split <;> decide
  · decide
