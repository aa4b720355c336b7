/-! findings told, what can be taken back, bits counted -/
theorem thM_up (S : Nat → Nat) {f : Nat} (v : Nat) (hf : f < 12) : thM (va_up S f v) = wth (thM S) f (v == 1) := by
  unfold thM
  refine (mkN_eq (wth_lt _ (mkN_lt _ _) hf) (fun i hi => ?_)).symm
  rw [wth_bit, mkN_bit, decide_eq_true hi, Bool.true_and]
  unfold va_up
  by_cases h : i = f
  · rw [if_pos h, if_pos h]
  · rw [if_neg h, if_neg h]
theorem abM_up (S : Nat → Nat) {f : Nat} (v : Nat) (hf : f < 12) : abM (va_up S f v) = wth (abM S) f (v == 2) := by
  unfold abM
  refine (mkN_eq (wth_lt _ (mkN_lt _ _) hf) (fun i hi => ?_)).symm
  rw [wth_bit, mkN_bit, decide_eq_true hi, Bool.true_and]
  unfold va_up
  by_cases h : i = f
  · rw [if_pos h, if_pos h]
  · rw [if_neg h, if_neg h]
theorem wth_t (x k : Nat) {d : Bool} (h : d = true) : ndf x (2 ^ k) ||| 2 ^ k = wth x k d := by
  apply Nat.eq_of_testBit_eq
  intro i
  rw [wth_bit, Nat.testBit_or, ndf_bit, Nat.testBit_two_pow, h]
  by_cases q : i = k
  · subst q; simp
  · simp [q, Ne.symm q]
theorem wth_f (x k : Nat) {d : Bool} (h : d = false) : ndf x (2 ^ k) = wth x k d := by rw [h]; rfl
theorem st_1 {S : Nat → Nat} {f : Nat} (hf : f < 12) (h : (thM S).testBit f = true) : nI 1 = nI (S f) := by
  rw [thM_bit S hf] at h
  rw [show S f = 1 by simpa using h]
theorem st_2 {S : Nat → Nat} {f : Nat} (hf : f < 12) (h : (abM S).testBit f = true) : nI 2 = nI (S f) := by
  rw [abM_bit S hf] at h
  rw [show S f = 2 by simpa using h]
theorem st_0 {S : Nat → Nat} {f : Nat} (hS : S f ≤ 2) (hf : f < 12) (h : (thM S).testBit f = false) (h2 : (abM S).testBit f = false) : nI 0 = nI (S f) := by
  rw [thM_bit S hf] at h
  rw [abM_bit S hf] at h2
  have e1 : S f ≠ 1 := by simpa using h
  have e2 : S f ≠ 2 := by simpa using h2
  rw [show S f = 0 by omega]
/-- a row moved down by one, as far as place i -/
def shI (g : Nat → Nat) (i : Nat) : Nat → Nat := fun j => if j + 1 < i then g (j + 1) else g j
theorem shI_1 (g : Nat → Nat) : shI g 1 = g := by
  funext j
  unfold shI
  rw [if_neg (by omega)]
theorem shI_step (g : Nat → Nat) {i : Nat} (h : 1 ≤ i) : va_up (shI g i) (i - 1) (shI g i i) = shI g (i + 1) := by
  funext j
  unfold va_up shI
  by_cases e : j = i - 1
  · rw [if_pos e, if_neg (by omega), if_pos (by omega), show j + 1 = i by omega]
  · rw [if_neg e]
    by_cases q : j + 1 < i
    · rw [if_pos q, if_pos (by omega)]
    · rw [if_neg q, if_neg (by omega)]
def hpN (q : Nat) : Nat := if q < 20 then q + 1 else 20
def hpF (q : Nat) (g : Nat → Nat) (v : Nat) : Nat → Nat := if q < 20 then va_up g q v else va_up (shI g 20) 19 v
/-- bits counted as the JDK counts them -/
def bc1 (x : Nat) : Nat := x - (x >>> 1 &&& 1431655765)
def bc2 (x : Nat) : Nat := (x &&& 858993459) + (x >>> 2 &&& 858993459)
def bc3 (x : Nat) : Nat := (x + x >>> 4) &&& 252645135
def bc4 (x : Nat) : Nat := x + x >>> 8
def bc5 (x : Nat) : Nat := x + x >>> 16
theorem bc_all : (List.range 4096).all (fun x => (bc5 (bc4 (bc3 (bc2 (bc1 x)))) &&& 63) == pop x) = true := by decide +kernel
theorem bc_pop {x : Nat} (h : x < 4096) : bc5 (bc4 (bc3 (bc2 (bc1 x)))) &&& 63 = pop x := by
  have := List.all_eq_true.mp bc_all x (List.mem_range.mpr h)
  simpa using this
theorem bc1_le (x : Nat) : x >>> 1 &&& 1431655765 ≤ x := Nat.le_trans Nat.and_le_left (Nat.shiftRight_le _ _)
theorem bc_lt {x : Nat} (h : x < 4096) : bc1 x < 2 ^ 29 ∧ bc2 (bc1 x) < 2 ^ 30 ∧ bc3 (bc2 (bc1 x)) < 2 ^ 28 ∧ bc4 (bc3 (bc2 (bc1 x))) < 2 ^ 29 ∧ bc5 (bc4 (bc3 (bc2 (bc1 x)))) < 2 ^ 30 := by
  have h1 : bc1 x ≤ x := Nat.sub_le _ _
  have h2 : bc2 (bc1 x) ≤ bc1 x + bc1 x := Nat.add_le_add Nat.and_le_left (Nat.le_trans Nat.and_le_left (Nat.shiftRight_le _ _))
  have h3 : bc3 (bc2 (bc1 x)) ≤ 252645135 := Nat.and_le_right
  have h4 : bc4 (bc3 (bc2 (bc1 x))) ≤ bc3 (bc2 (bc1 x)) + bc3 (bc2 (bc1 x)) := Nat.add_le_add_left (Nat.shiftRight_le _ _) _
  have h5 : bc5 (bc4 (bc3 (bc2 (bc1 x)))) ≤ bc4 (bc3 (bc2 (bc1 x))) + bc4 (bc3 (bc2 (bc1 x))) := Nat.add_le_add_left (Nat.shiftRight_le _ _) _
  omega
theorem z_su : ∀ n, n < 32 → (((nI n).toUInt32 &&& Int32.toUInt32 31).toBitVec % 32).toNat = n := by decide +kernel
theorem z_ushr {n k : Nat} (hn : n < 2 ^ 32) (hk : k < 32) : ((nI n).toUInt32 >>> ((nI k).toUInt32 &&& Int32.toUInt32 31)).toInt32 = nI (n >>> k) := by
  rw [pk_ushrN hn _ k (z_su k hk), Nat.shiftRight_eq_div_pow]
def cntL (K : Kn) (i : Nat) : Nat := sm (fun c => pop (lfM K c)) i
theorem pop_le (x : Nat) : pop x ≤ 12 := ct_le _ _
theorem cntL_le (K : Kn) (i : Nat) : cntL K i ≤ i * 12 := sm_le (fun c _ => pop_le _)
