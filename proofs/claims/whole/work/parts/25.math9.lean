/-! what each call answers, and what it makes of the bench: odds and links K, findings S, and q, hf, hs that can be taken back -/
def nn (x : Int32) : Nat := x.toNatClampNeg
theorem nn_nI {j : Nat} (h : j < 2 ^ 31) : nn (nI j) = j := nI_clamp h
abbrev Zt : Type := Kn × (Nat → Nat) × Nat × (Nat → Nat) × (Nat → Nat)
theorem inR_nat1 {x : Int32} {n : Nat} (h : inR x 1 (n : Int) = true) : ∃ j : Nat, 1 ≤ j ∧ j ≤ n ∧ x = nI j := by
  have h1 : 1 ≤ x.toInt ∧ x.toInt ≤ (n : Int) := by simpa [inR] using h
  refine ⟨x.toInt.toNat, by omega, by omega, ?_⟩
  apply Int32.toInt_inj.mp
  have hb := x.toInt_lt
  rw [nI_toInt (by omega)]
  omega
/-- the bench as it is kept holds together -/
def xI (K : Kn) (S : Nat → Nat) (q : Nat) (hf hs : Nat → Nat) (li pl : Bool) (N T : Nat) (g rc rcm : Nat → Nat) (z : Nat) (pf pt pm : Nat → Nat) : Prop := KO K ∧ (∀ f c, K.2.2 f c ≤ 2) ∧ (∀ f, S f ≤ 2) ∧ q ≤ 20 ∧ (∀ i, hf i < 12 ∧ hs i ≤ 2) ∧ rc 0 = 0 ∧ rcm 0 = 0 ∧ (li = true → N = nE K S ∧ T = tot K S ∧ SK K S g) ∧ (pl = true → PI K S z pf pt pm)
def aCause (a1 a2 a3 : Int32) : Int32 := if inR a1 0 9 then (if inR a2 1 20 && inR a3 1 20 then nI 1 else (-2)) else (-1)
def zCause (Z : Zt) (a1 a2 a3 : Int32) : Zt := if inR a1 0 9 && (inR a2 1 20 && inR a3 1 20) then ((va_up Z.1.1 (nn a1) (nn a2), va_up Z.1.2.1 (nn a1) (nn a3), Z.1.2.2), Z.2) else Z
def aLink (K : Kn) (a1 a2 a3 : Int32) : Int32 := if inR a1 0 11 && inR a2 0 9 then (if inR a3 0 2 then nI (K.2.2 (nn a1) (nn a2)) else (-2)) else (-1)
def zLink (Z : Zt) (a1 a2 a3 : Int32) : Zt := if (inR a1 0 11 && inR a2 0 9) && inR a3 0 2 then (setL Z.1 (nn a1) (nn a2) (nn a3), Z.2) else Z
noncomputable def aOfCause (K : Kn) (S : Nat → Nat) (a1 a2 : Int32) : Int32 := if inR a1 0 9 then (if a2 = nI 0 then nI (K.1 (nn a1)) else if a2 = nI 1 then nI (K.2.1 (nn a1)) else if a2 = nI 2 then nI (lfM K (nn a1)) else if a2 = nI 3 then nI (mfM K (nn a1)) else if a2 = nI 4 then nI (exc K S (nn a1)).toNat else if a2 = nI 5 then nI (ct (fun z => (eS K S z).testBit (nn a1)) (nE K S)) else (-2)) else (-1)
noncomputable def aOfFinding (K : Kn) (S : Nat → Nat) (a1 a2 : Int32) : Int32 := if inR a1 0 11 then (if a2 = nI 0 then nI (S (nn a1)) else if a2 = nI 1 then nI (lcM K (nn a1)) else if a2 = nI 2 then nI (mcM K (nn a1)) else if a2 = nI 3 then nI (ct (fun z => fort K (eS K S z) (nn a1) == 1) (nE K S)) else if a2 = nI 4 then nI (ct (fun z => fort K (eS K S z) (nn a1) == 2) (nE K S)) else (-2)) else (-1)
def tlS (a2 : Int32) : Nat := if a2 = nI 1 then 1 else 2
def aTell (K : Kn) (S : Nat → Nat) (a1 a2 : Int32) : Int32 := if inR a1 0 11 then (if inR a2 0 1 then nI (nE K (va_up S (nn a1) (tlS a2))) else (-2)) else (-1)
def zPut (Z : Zt) (f v : Nat) : Zt := (Z.1, va_up Z.2.1 f v, hpN Z.2.2.1, hpF Z.2.2.1 Z.2.2.2.1 f, hpF Z.2.2.1 Z.2.2.2.2 (Z.2.1 f))
def zTell (Z : Zt) (a1 a2 : Int32) : Zt := if inR a1 0 11 && inR a2 0 1 then zPut Z (nn a1) (tlS a2) else Z
def aWithdraw (K : Kn) (S : Nat → Nat) (a1 : Int32) : Int32 := if inR a1 0 11 then (if S (nn a1) = 0 then (-3) else nI (nE K (va_up S (nn a1) 0))) else (-1)
def zWithdraw (Z : Zt) (a1 : Int32) : Zt := if inR a1 0 11 ∧ Z.2.1 (nn a1) ≠ 0 then zPut Z (nn a1) 0 else Z
def aBack (K : Kn) (S : Nat → Nat) (q : Nat) (hf hs : Nat → Nat) : Int32 := if q = 0 then (-3) else nI (nE K (va_up S (hf (q - 1)) (hs (q - 1))))
def zBack (Z : Zt) : Zt := if Z.2.2.1 = 0 then Z else (Z.1, va_up Z.2.1 (Z.2.2.2.1 (Z.2.2.1 - 1)) (Z.2.2.2.2 (Z.2.2.1 - 1)), Z.2.2.1 - 1, Z.2.2.2)
def aAnew (S : Nat → Nat) : Int32 := nI (ct (fun f => S f == 1) 12 + ct (fun f => S f == 2) 12)
def zr (S : Nat → Nat) (j : Nat) : Nat → Nat := fun f => if f < j then 0 else S f
def zAnew (Z : Zt) : Zt := (Z.1, zr Z.2.1 12, 0, Z.2.2.2)
noncomputable def aExplanation (K : Kn) (S : Nat → Nat) (a1 a2 : Int32) : Int32 := if inN a1 (nE K S) then (if a2 = nI 0 then nI (eS K S (nn a1)) else if a2 = nI 1 then nI (pop (eS K S (nn a1))) else (-2)) else (-1)
noncomputable def aWeight (K : Kn) (S : Nat → Nat) (a1 : Int32) : Int64 := if inN a1 (nE K S) then lN (wt K (eS K S (nn a1))) else (-9223372036854775808)
noncomputable def aShare (K : Kn) (S : Nat → Nat) (a1 a2 : Int32) : Int64 := if inN a1 (nE K S) && inR a2 0 1 then lN (lstT (wt K (eS K S (nn a1))) (tot K S) (nn a2)) else (-9223372036854775808)
noncomputable def aNeeds (K : Kn) (S : Nat → Nat) (a1 a2 : Int32) : Int32 := if inN a1 (nE K S) && inR a2 0 9 then (if (eS K S (nn a1)).testBit (nn a2) then nI (need K (thM S) (eS K S (nn a1)) (nn a2)) else (-9)) else (-1)
noncomputable def aSets (K : Kn) (S : Nat → Nat) (a1 : Int32) : Int32 := if a1 = nI 0 then nI (andN (eS K S) (nE K S)) else if a1 = nI 1 then nI (orN (eS K S) (nE K S)) else if a1 = nI 2 then nI (exM K S) else (-2)
noncomputable def aBelief (K : Kn) (S : Nat → Nat) (a1 a2 : Int32) : Int64 := if inR a1 0 9 && inR a2 0 1 then (if nE K S = 0 then (-9223372036854775808) else lN (lstT (smC K (eS K S) (nn a1) (nE K S)) (tot K S) (nn a2))) else (-9223372036854775808)
noncomputable def aFewest (K : Kn) (S : Nat → Nat) (a1 : Int32) : Int32 := if inR a1 0 2 then (if nE K S = 0 then (-9) else if a1 = nI 0 then nI (minN (eS K S) (nE K S)) else if a1 = nI 1 then nI (maxN (eS K S) (nE K S)) else nI (ct (fun z => pop (eS K S z) == minN (eS K S) (nE K S)) (nE K S))) else (-2)
def aCovers (K : Kn) (S : Nat → Nat) (a1 : Int32) : Int32 := if inR a1 0 1023 then (if cov K S (nn a1) then (if spr K S (nn a1) then nI 1 else nI 2) else nI 0) else (-2)
def aUnex (K : Kn) (S : Nat → Nat) : Int32 := nI (mkN (fun f => S f == 1 && !isL K f (ndf 1023 (exM K S))) 12)
def aSplit (K : Kn) (S : Nat → Nat) (a1 a2 : Int32) : Int64 := if inR a1 0 11 && inR a2 0 3 then (if S (nn a1) = 0 then (if a2 = nI 0 then lN (spl K S (nn a1) 1) else if a2 = nI 1 then lN (spl K S (nn a1) 2) else if a2 = nI 2 then lN (spl K S (nn a1) 0) else lN (wC K S (nn a1))) else (-9223372036854775808)) else (-9223372036854775808)
def aNext (K : Kn) (S : Nat → Nat) : Int32 := toI (nxo K S)
def wdS (a2 : Int32) : Nat := if a2 = nI 1 then 1 else if a2 = nI 0 then 2 else 0
def aWould (K : Kn) (S : Nat → Nat) (a1 a2 : Int32) : Int32 := if inR a1 0 11 then (if inR a2 0 2 then nI (nE K (va_up S (nn a1) (wdS a2))) else (-2)) else (-1)
noncomputable def zN (K : Kn) (S : Nat → Nat) : Nat := by
  classical
  exact if h : ∃ z, PZ K S z then Classical.choose h else 0
theorem PZ_zN {K : Kn} {S : Nat → Nat} {z : Nat} (h : PZ K S z) : z = zN K S := by
  have hx : ∃ z, PZ K S z := ⟨z, h⟩
  have e : zN K S = Classical.choose hx := by
    unfold zN
    rw [dif_pos hx]
  rw [e]
  exact h.uniq (Classical.choose_spec hx)
noncomputable def aPlan (K : Kn) (S : Nat → Nat) (a1 a2 : Int32) : Int32 := if inR a1 0 11 && inR a2 0 2 then (if nn a1 < zN K S then (if a2 = nI 0 then nI (nxo K (pS K S (nn a1))) else if a2 = nI 1 then nI (tkn K (pS K S (nn a1))).toNat else nI (nE K (pS K S (nn a1 + 1)))) else (-9)) else (-2)
noncomputable def aMany (K : Kn) (S : Nat → Nat) (q : Nat) (a1 : Int32) : Int32 := if a1 = nI 0 then nI (nE K S) else if a1 = nI 1 then nI (ct (fun f => S f == 1) 12) else if a1 = nI 2 then nI (ct (fun f => S f == 2) 12) else if a1 = nI 3 then nI (cntL K 10) else if a1 = nI 4 then nI q else if a1 = nI 5 then nI (zN K S) else (-2)
theorem thM_0 (S : Nat → Nat) : thM (zr S 12) = 0 := (mkN_eq (by decide) (fun i hi => by rw [Nat.zero_testBit]; simp [zr, hi])).symm
theorem abM_0 (S : Nat → Nat) : abM (zr S 12) = 0 := (mkN_eq (by decide) (fun i hi => by rw [Nat.zero_testBit]; simp [zr, hi])).symm
theorem zr_le {S : Nat → Nat} (h : ∀ f, S f ≤ 2) (j : Nat) : ∀ f, zr S j f ≤ 2 := by
  intro f
  unfold zr
  split
  · exact Nat.zero_le _
  · exact h f
theorem pop_th (S : Nat → Nat) : pop (thM S) = ct (fun f => S f == 1) 12 := ct_ext (fun i hi => thM_bit S hi)
theorem pop_ab (S : Nat → Nat) : pop (abM S) = ct (fun f => S f == 2) 12 := ct_ext (fun i hi => abM_bit S hi)
theorem ct_disj {p q r : Nat → Bool} {n : Nat} (h : ∀ i, i < n → r i = (p i || q i)) (hd : ∀ i, i < n → ¬ (p i = true ∧ q i = true)) : ct r n = ct p n + ct q n := by
  induction n with
  | zero => rfl
  | succ n ih =>
    rw [ct, ct, ct, ih (fun i hi => h i (by omega)) (fun i hi => hd i (by omega)), h n (by omega)]
    have := hd n (by omega)
    cases hp : p n <;> cases hq : q n
    · simp
    · simp; omega
    · simp; omega
    · exact absurd ⟨hp, hq⟩ this
theorem pop_or (S : Nat → Nat) : pop (thM S ||| abM S) = ct (fun f => S f == 1) 12 + ct (fun f => S f == 2) 12 := by
  refine ct_disj (fun i hi => ?_) (fun i hi => ?_)
  · rw [Nat.testBit_or, thM_bit S hi, abM_bit S hi]
  · simp only [beq_iff_eq]
    omega
theorem hpN_le {q : Nat} (h : q ≤ 20) : hpN q ≤ 20 := by unfold hpN; split <;> omega
theorem hpF_lt {q B v : Nat} {g : Nat → Nat} (h : ∀ i, g i < B) (hv : v < B) : ∀ i, hpF q g v i < B := by
  intro i
  unfold hpF va_up shI
  split
  · show (if i = q then v else g i) < B
    split
    · exact hv
    · exact h i
  · show (if i = 19 then v else if i + 1 < 20 then g (i + 1) else g i) < B
    split
    · exact hv
    · split
      · exact h _
      · exact h i
theorem hh_put {q fi v : Nat} {hf hs : Nat → Nat} (h : ∀ i, hf i < 12 ∧ hs i ≤ 2) (hf1 : fi < 12) (hv : v ≤ 2) : ∀ i, hpF q hf fi i < 12 ∧ hpF q hs v i ≤ 2 := fun i => ⟨hpF_lt (fun i => (h i).1) hf1 i, Nat.lt_succ_iff.mp (hpF_lt (B := 3) (fun i => Nat.lt_succ_iff.mpr (h i).2) (by omega) i)⟩
theorem up_le {S : Nat → Nat} {f v : Nat} (h : ∀ f, S f ≤ 2) (hv : v ≤ 2) : ∀ i, va_up S f v i ≤ 2 := by
  intro i
  unfold va_up
  split
  · exact hv
  · exact h i
theorem tot_lt {K : Kn} (hK : KO K) (S : Nat → Nat) : tot K S < 2 ^ 62 := by
  have h1 := perm_sum (eU_perm K S) (fun x => wt K x)
  have h2 : sm (fun k => wt K (eU K S k)) (nE K S) ≤ nE K S * 10240000000000 := sm_le (fun i _ => (wt_le hK _).2)
  have h3 := nE_le K S
  unfold tot
  rw [← h1]
  omega
theorem tot_pos {K : Kn} (hK : KO K) {S : Nat → Nat} (h : 0 < nE K S) : 0 < tot K S := by
  have h1 := perm_sum (eU_perm K S) (fun x => wt K x)
  unfold tot
  rw [← h1]
  obtain ⟨n, hn⟩ : ∃ n, nE K S = n + 1 := ⟨nE K S - 1, by omega⟩
  rw [hn, sm]
  have := (wt_le hK (eU K S n)).1
  omega
theorem setL_le {K : Kn} {f c h : Nat} (hL : ∀ f c, K.2.2 f c ≤ 2) (hh : h ≤ 2) : ∀ f' c', (setL K f c h).2.2 f' c' ≤ 2 := by
  intro f' c'
  unfold setL
  show (if f' = f ∧ c' = c then h else K.2.2 f' c') ≤ 2
  split
  · exact hh
  · exact hL _ _
theorem KO_up {K : Kn} {c a b : Nat} (h : KO K) (ha : 1 ≤ a ∧ a ≤ 20) (hb : 1 ≤ b ∧ b ≤ 20) : KO (va_up K.1 c a, va_up K.2.1 c b, K.2.2) := by
  intro i hi
  show (1 ≤ va_up K.1 c a i ∧ va_up K.1 c a i ≤ 20) ∧ 1 ≤ va_up K.2.1 c b i ∧ va_up K.2.1 c b i ≤ 20
  unfold va_up
  split
  · exact ⟨ha, hb⟩
  · exact h i hi
theorem cov_and {K : Kn} {S : Nat → Nat} {x : Nat} (h1 : ¬ x &&& exM K S = 0) : cov K S x = false := by
  unfold cov
  rw [beq_eq_false_iff_ne.mpr h1]
  rfl
theorem fo_cov {K : Kn} {S : Nat → Nat} {x : Nat} (h1 : x &&& exM K S = 0) : cov K S x = decide (ndf (thM S) (foM K x) = 0) := by
  apply Bool.eq_iff_iff.mpr
  rw [decide_eq_true_eq, cov_iff, ndf0_iff]
  constructor
  · rintro ⟨-, h⟩ f hf
    have hf12 := bit_lt (thM_lt S) hf
    rw [thM_bit S hf12, beq_iff_eq] at hf
    rw [foM_bit K x hf12]
    exact h f hf12 hf
  · intro h
    refine ⟨fun c hc hb => ?_, fun f hf hS => ?_⟩
    · cases he : exc K S c
      · rfl
      · exact absurd ⟨hb, by rw [exM_bit K S hc]; exact he⟩ (and0_iff.mp h1 c)
    · have := h f (by rw [thM_bit S hf, hS]; rfl)
      rw [foM_bit K x hf] at this
      exact this
theorem sub_ndf {x c : Nat} (h : x.testBit c = true) : x - 2 ^ c = ndf x (2 ^ c) := by
  apply Nat.eq_of_testBit_eq
  intro i
  rw [sub_bit h, ndf_bit, Nat.testBit_two_pow]
  by_cases q : i = c
  · subst q; simp
  · simp [q, Ne.symm q]
theorem spare_spr {K : Kn} {S : Nat → Nat} {x : Nat} (hc : cov K S x = true) : anyN (fun z => x.testBit z && (need K (thM S) x z == 0)) 10 = spr K S x := by
  unfold spr
  apply anyN_ext
  intro c hc10
  cases hb : x.testBit c
  · rfl
  · rw [Bool.true_and, Bool.true_and, sub_ndf hb]
    have h1 : ndf x (2 ^ c) &&& exM K S = 0 := by
      rw [and0_iff]
      rintro i ⟨q1, q2⟩
      rw [ndf_bit, Bool.and_eq_true] at q1
      have hx : x &&& exM K S = 0 := by
        unfold cov at hc
        rw [Bool.and_eq_true, beq_iff_eq] at hc
        exact hc.1
      exact and0_iff.mp hx i ⟨q1.1, q2⟩
    rw [fo_cov h1]
    apply Bool.eq_iff_iff.mpr
    rw [beq_iff_eq, decide_eq_true_eq]
    unfold need
    rw [ndf0_iff, ndf0_iff]
    constructor
    · intro h f hf
      have hf12 := bit_lt (thM_lt S) hf
      by_cases hl : lk K f c = true
      · exact h f (by rw [Nat.testBit_and, hf, lfM_bit K c hf12, hl]; rfl)
      · have hS : S f = 1 := by rw [thM_bit S hf12] at hf; simpa using hf
        obtain ⟨d, hd, hxd, hld⟩ := isL_iff.mp ((cov_iff.mp hc).2 f hf12 hS)
        rw [foM_bit K _ hf12]
        refine anyN_true hd ?_
        have hdc : d ≠ c := fun e => hl (by rw [← e]; exact hld)
        rw [ndf_bit, hxd, Nat.testBit_two_pow, decide_eq_false (Ne.symm hdc), hld]
        rfl
    · intro h f hf
      rw [Nat.testBit_and, Bool.and_eq_true] at hf
      exact h f hf.1
theorem unex_eq (K : Kn) (S : Nat → Nat) (y : Nat) : ndf (thM S) (foM K y) = mkN (fun f => S f == 1 && !isL K f y) 12 := by
  refine mkN_eq (ndf_lt _ (thM_lt S)) (fun f hf => ?_)
  rw [ndf_bit, thM_bit S hf, foM_bit K y hf]
  rfl
theorem inR_no {x : Int32} {n : Nat} (h : ∀ j : Nat, j ≤ n → ¬ x = nI j) : inR x 0 (n : Int) = false := by
  cases e : inR x 0 (n : Int)
  · rfl
  · obtain ⟨j, hj, e2⟩ := inR_nat e
    exact absurd e2 (h j hj)
theorem inR_yes {j n : Nat} (h : j ≤ n) (hn : n < 2 ^ 31) : inR (nI j) 0 (n : Int) = true := by
  rw [inR_nI (by omega)]
  exact decide_eq_true (by omega)
theorem tl1 {j : Nat} (h : j = 1) : nI 1 = nI (tlS (nI j)) := by rw [h]; rfl
theorem tl2 {j : Nat} (h : ¬ j = 1) (hj : j ≤ 1) : nI 2 = nI (tlS (nI j)) := by rw [show j = 0 by omega]; rfl
theorem tlS_le (x : Int32) : tlS x ≤ 2 := by unfold tlS; split <;> decide
theorem wd1 {j : Nat} (h : j = 1) : nI 1 = nI (wdS (nI j)) := by rw [h]; rfl
theorem wd0 {j : Nat} (h : j = 0) : nI 2 = nI (wdS (nI j)) := by rw [h]; rfl
theorem wd2 {j : Nat} (h1 : ¬ j = 1) (h0 : ¬ j = 0) (hj : j ≤ 2) : nI 0 = nI (wdS (nI j)) := by rw [show j = 2 by omega]; rfl
theorem wdS_le (x : Int32) : wdS x ≤ 2 := by
  unfold wdS
  split
  · decide
  · split <;> decide
theorem tk1 {K : Kn} {S : Nat → Nat} (h : tkS K S = 1) : nI 1 = nI (tkn K S).toNat := by
  unfold tkS at h
  cases e : tkn K S
  · rw [e] at h; cases h
  · rfl
theorem tk0 {K : Kn} {S : Nat → Nat} (h : ¬ tkS K S = 1) : nI 0 = nI (tkn K S).toNat := by
  unfold tkS at h
  cases e : tkn K S
  · rfl
  · rw [e] at h; exact absurd rfl h
