/-! sets that cover, explanations, and how the search for them goes -/
def isL (K : Kn) (f x : Nat) : Bool := anyN (fun c => x.testBit c && lk K f c) 10
def isM (K : Kn) (f x : Nat) : Bool := anyN (fun c => x.testBit c && ms K f c) 10
def cov (K : Kn) (S : Nat → Nat) (x : Nat) : Bool := (x &&& exM K S == 0) && !anyN (fun f => S f == 1 && !isL K f x) 12
def spr (K : Kn) (S : Nat → Nat) (x : Nat) : Bool := anyN (fun c => x.testBit c && cov K S (x - 2 ^ c)) 10
def isE (K : Kn) (S : Nat → Nat) (x : Nat) : Bool := cov K S x && !spr K S x
def nE (K : Kn) (S : Nat → Nat) : Nat := ct (isE K S) 1024
def tot (K : Kn) (S : Nat → Nat) : Nat := sm (fun x => if isE K S x then wt K x else 0) 1024
def onM (K : Kn) (S : Nat → Nat) (x : Nat) : Nat := mkN (fun f => S f == 1 && (ct (fun c => x.testBit c && lk K f c) 10 == 1)) 12
def rch (K : Kn) (S : Nat → Nat) (i : Nat) : Nat := mkN (fun f => anyN (fun c => !exc K S c && lk K f c) i) 12
def alone (K : Kn) (x o : Nat) : Bool := !anyN (fun z => x.testBit z && (lfM K z &&& o == 0)) 10
/-- the row of the explanations among the sets below b -/
def Ginv (K : Kn) (S : Nat → Nat) (b N T : Nat) (g : Nat → Nat) : Prop := N = ct (isE K S) b ∧ T = sm (fun x => if isE K S x then wt K x else 0) b ∧ ∀ x, x < b → isE K S x = true → g (ct (isE K S) x) = key K x
theorem isL_iff {K : Kn} {f x : Nat} : isL K f x = true ↔ ∃ c, c < 10 ∧ x.testBit c = true ∧ lk K f c = true := by
  unfold isL
  rw [anyN_iff]
  constructor
  · rintro ⟨c, h, q⟩
    rw [Bool.and_eq_true] at q
    exact ⟨c, h, q⟩
  · rintro ⟨c, h, q⟩
    exact ⟨c, h, by rw [Bool.and_eq_true]; exact q⟩
theorem and0_iff {a b : Nat} : a &&& b = 0 ↔ ∀ i, ¬ (a.testBit i = true ∧ b.testBit i = true) := by
  constructor
  · intro h i q
    have : (a &&& b).testBit i = true := by rw [Nat.testBit_and, q.1, q.2]; rfl
    rw [h, Nat.zero_testBit] at this
    cases this
  · intro h
    apply Nat.eq_of_testBit_eq
    intro i
    rw [Nat.testBit_and, Nat.zero_testBit]
    cases ha : a.testBit i <;> cases hb : b.testBit i <;> first | rfl | exact absurd ⟨ha, hb⟩ (h i)
theorem ndf0_iff {a b : Nat} : ndf a b = 0 ↔ ∀ i, a.testBit i = true → b.testBit i = true := by
  constructor
  · intro h i ha
    have : (ndf a b).testBit i = false := by rw [h, Nat.zero_testBit]
    rw [ndf_bit, ha, Bool.true_and] at this
    simpa using this
  · intro h
    apply Nat.eq_of_testBit_eq
    intro i
    rw [ndf_bit, Nat.zero_testBit]
    cases ha : a.testBit i
    · rfl
    · rw [h i ha]; rfl
theorem cov_iff {K : Kn} {S : Nat → Nat} {x : Nat} : cov K S x = true ↔ (∀ c, c < 10 → x.testBit c = true → exc K S c = false) ∧ ∀ f, f < 12 → S f = 1 → isL K f x = true := by
  unfold cov
  rw [Bool.and_eq_true, beq_iff_eq, and0_iff, Bool.not_eq_true', anyN_false]
  constructor
  · rintro ⟨h1, h2⟩
    refine ⟨fun c hc hx => ?_, fun f hf hS => ?_⟩
    · cases he : exc K S c
      · rfl
      · exact absurd ⟨hx, by rw [exM_bit K S hc]; exact he⟩ (h1 c)
    · have := h2 f hf
      rw [Bool.and_eq_false_iff] at this
      rcases this with h | h
      · simp [hS] at h
      · simpa using h
  · rintro ⟨h1, h2⟩
    refine ⟨fun c q => ?_, fun f hf => ?_⟩
    · have hc := bit_lt (exM_lt K S) q.2
      rw [exM_bit K S hc, h1 c hc q.1] at q
      exact Bool.noConfusion q.2
    · by_cases hS : S f = 1
      · rw [h2 f hf hS]; simp
      · simp [hS]
theorem hi_bits {x y u i : Nat} (hd : x % 2 ^ u = 0) (h1 : x ≤ y) (h2 : y < x + 2 ^ u) (hi : u ≤ i) : y.testBit i = x.testBit i := by
  have hx : x = 2 ^ u * (x / 2 ^ u) + 0 := by have := Nat.div_add_mod x (2 ^ u); omega
  have hy : y = 2 ^ u * (x / 2 ^ u) + (y - x) := by omega
  rw [hy, hx, Nat.testBit_two_pow_mul_add _ (by omega), Nat.testBit_two_pow_mul_add _ (Nat.two_pow_pos u), if_neg (by omega), if_neg (by omega), ← hx]
theorem lo_bits {x u i : Nat} (hd : x % 2 ^ u = 0) (hi : i < u) : x.testBit i = false := by
  have hx : x = 2 ^ u * (x / 2 ^ u) + 0 := by have := Nat.div_add_mod x (2 ^ u); omega
  rw [hx, Nat.testBit_two_pow_mul_add _ (Nat.two_pow_pos u), if_pos hi, Nat.zero_testBit]
theorem top_bit {x y v : Nat} (hd : x % 2 ^ (v + 1) = 0) (h1 : x ≤ y) (h2 : y < x + 2 ^ v) : y.testBit v = false := by
  have e : x % 2 ^ v = 0 := Nat.mod_eq_zero_of_dvd (Nat.dvd_trans ⟨2, Nat.pow_succ 2 v⟩ (Nat.dvd_of_mod_eq_zero hd))
  rw [hi_bits e h1 h2 (Nat.le_refl _)]
  exact lo_bits hd (by omega)
theorem mod_v {x v : Nat} (hd : x % 2 ^ (v + 1) = 0) : x % 2 ^ v = 0 := Nat.mod_eq_zero_of_dvd (Nat.dvd_trans ⟨2, Nat.pow_succ 2 v⟩ (Nat.dvd_of_mod_eq_zero hd))
theorem or_v {x v : Nat} (hd : x % 2 ^ (v + 1) = 0) : x ||| 2 ^ v = x + 2 ^ v := by
  have hx : x = 2 ^ (v + 1) * (x / 2 ^ (v + 1)) := by have := Nat.div_add_mod x (2 ^ (v + 1)); omega
  rw [hx, Nat.two_pow_add_eq_or_of_lt (Nat.pow_lt_pow_right (by decide) (Nat.lt_succ_self v))]
theorem mod_v2 {x v : Nat} (hd : x % 2 ^ (v + 1) = 0) : (x + 2 ^ v) % 2 ^ v = 0 := by rw [Nat.add_mod_right, mod_v hd]
theorem bit_v {x y v : Nat} (hd : x % 2 ^ (v + 1) = 0) (h1 : x + 2 ^ v ≤ y) (h2 : y < x + 2 ^ v + 2 ^ v) : y.testBit v = true := by
  rw [hi_bits (mod_v2 hd) h1 h2 (Nat.le_refl _), ← or_v hd, Nat.testBit_or, Nat.testBit_two_pow]
  simp
/-- nothing more can be explained: no set here covers -/
theorem prune_reach {K : Kn} {S : Nat → Nat} {x u : Nat} (hd : x % 2 ^ u = 0) (h : ¬ ndf (ndf (thM S) (thM S &&& foM K x)) (rch K S u) = 0) {y : Nat} (h1 : x ≤ y) (h2 : y < x + 2 ^ u) : isE K S y = false := by
  cases hc : cov K S y
  · unfold isE; rw [hc]; rfl
  exfalso
  apply h
  obtain ⟨c1, c2⟩ := cov_iff.mp hc
  rw [ndf0_iff]
  intro f hf
  rw [ndf_bit, Bool.and_eq_true] at hf
  have hf12 := bit_lt (thM_lt S) hf.1
  have hS : S f = 1 := by have := hf.1; rw [thM_bit S hf12] at this; simpa using this
  obtain ⟨c, hc10, hyc, hl⟩ := isL_iff.mp (c2 f hf12 hS)
  rw [rch, mkN_bit, decide_eq_true hf12, Bool.true_and, anyN_iff]
  rcases Nat.lt_or_ge c u with q | q
  · exact ⟨c, q, by rw [c1 c hc10 hyc, hl]; rfl⟩
  · exfalso
    have hx : x.testBit c = true := by rw [← hi_bits hd h1 h2 q]; exact hyc
    have h3 := hf.2
    rw [Nat.testBit_and, hf.1, Bool.true_and, foM_bit K x hf12] at h3
    have : anyN (fun c => x.testBit c && lk K f c) 10 = true := anyN_true hc10 (by rw [hx, hl]; rfl)
    rw [this] at h3
    cases h3
theorem prune_exc {K : Kn} {S : Nat → Nat} {x v : Nat} (hv : v < 10) (hd : x % 2 ^ (v + 1) = 0) (h : (exM K S).testBit v = true) {y : Nat} (h1 : x + 2 ^ v ≤ y) (h2 : y < x + 2 ^ v + 2 ^ v) : isE K S y = false := by
  cases hc : cov K S y
  · unfold isE; rw [hc]; rfl
  exfalso
  have := (cov_iff.mp hc).1 v hv (bit_v hd h1 h2)
  rw [exM_bit K S hv, this] at h
  cases h
theorem ct_pos {p : Nat → Bool} {n i : Nat} (hi : i < n) (h : p i = true) : 0 < ct p n := by
  induction n with
  | zero => omega
  | succ n ih =>
    rw [ct]
    rcases Nat.lt_or_ge i n with q | q
    · have := ih q; omega
    · have e : i = n := by omega
      subst e
      rw [h]
      exact Nat.lt_of_lt_of_le (by decide : 0 < true.toNat) (Nat.le_add_left _ _)
/-- exactly one -/
theorem ct_one {p : Nat → Bool} {n i : Nat} (hi : i < n) (h : p i = true) (ho : ∀ j, j < n → j ≠ i → p j = false) : ct p n = 1 := by
  induction n with
  | zero => omega
  | succ n ih =>
    rw [ct]
    rcases Nat.lt_or_ge i n with q | q
    · rw [ih q (fun j hj => ho j (by omega)), ho n (by omega) (by omega)]; rfl
    · have e : i = n := by omega
      subst e
      have z : ∀ m, m ≤ i → ct p m = 0 := by
        intro m
        induction m with
        | zero => intro _; rfl
        | succ m ihm => intro hm; rw [ct, ihm (by omega), ho m (by omega) (by omega)]; rfl
      rw [z i (Nat.le_refl _), h]
      rfl
theorem ct_two {p : Nat → Bool} {n i : Nat} (hi : i < n) (h : p i = true) (h1 : ct p n ≠ 1) : ∃ j, j < n ∧ j ≠ i ∧ p j = true := by
  apply Classical.byContradiction
  intro hc
  apply h1
  apply ct_one hi h
  intro j hj hji
  cases hp : p j
  · rfl
  · exact absurd ⟨j, hj, hji, hp⟩ hc
theorem sub_form {x c : Nat} (h : x.testBit c = true) : ∃ q r, r < 2 ^ c ∧ x = 2 ^ (c + 1) * q + (2 ^ c + r) := by
  have e1 : x / 2 ^ c % 2 = 1 := by rw [Nat.testBit_eq_decide_div_mod_eq] at h; simpa using h
  refine ⟨x / 2 ^ (c + 1), x % 2 ^ c, Nat.mod_lt _ (Nat.two_pow_pos c), ?_⟩
  have a := Nat.div_add_mod x (2 ^ c)
  have b := Nat.div_add_mod (x / 2 ^ c) 2
  rw [Nat.div_div_eq_div_mul, ← Nat.pow_succ, e1] at b
  have c1 : 2 ^ c * (x / 2 ^ c) = 2 ^ (c + 1) * (x / 2 ^ (c + 1)) + 2 ^ c := by
    rw [← b, Nat.mul_add, Nat.mul_one, ← Nat.mul_assoc, ← Nat.pow_succ]
  omega
theorem sub_bit {x c : Nat} (h : x.testBit c = true) (i : Nat) : (x - 2 ^ c).testBit i = (x.testBit i && decide (i ≠ c)) := by
  obtain ⟨q, r, hr, hx⟩ := sub_form h
  have hp : 2 ^ (c + 1) = 2 ^ c + 2 ^ c := by rw [Nat.pow_succ]; omega
  have e : x - 2 ^ c = 2 ^ (c + 1) * q + r := by omega
  rw [e, hx, Nat.testBit_two_pow_mul_add _ (by omega), Nat.testBit_two_pow_mul_add _ (by omega)]
  by_cases hi : i < c + 1
  · rw [if_pos hi, if_pos hi]
    rcases Nat.lt_or_ge i c with q2 | q2
    · rw [Nat.testBit_two_pow_add_gt q2, decide_eq_true (by omega), Bool.and_true]
    · have e2 : i = c := by omega
      subst e2
      rw [Nat.testBit_lt_two_pow hr]
      simp
  · rw [if_neg hi, if_neg hi, decide_eq_true (by omega), Bool.and_true]
/-- a cause of the set that is alone for none can be spared, whatever comes to the set -/
theorem prune_alone {K : Kn} {S : Nat → Nat} {x v : Nat} (hv : v < 10) (hd : x % 2 ^ (v + 1) = 0) (h : alone K (x + 2 ^ v) (onM K S (x + 2 ^ v)) = false) {y : Nat} (h1 : x + 2 ^ v ≤ y) (h2 : y < x + 2 ^ v + 2 ^ v) : isE K S y = false := by
  unfold alone at h
  rw [Bool.not_eq_false', anyN_iff] at h
  obtain ⟨d, hd10, q⟩ := h
  rw [Bool.and_eq_true, beq_iff_eq, and0_iff] at q
  obtain ⟨hxd, hz⟩ := q
  have sup : ∀ i, (x + 2 ^ v).testBit i = true → y.testBit i = true := by
    intro i hi
    rcases Nat.lt_or_ge i v with q | q
    · rw [lo_bits (mod_v2 hd) q] at hi; cases hi
    · rw [hi_bits (mod_v2 hd) h1 h2 q]; exact hi
  cases hc : cov K S y
  · unfold isE; rw [hc]; rfl
  have hs : spr K S y = true := by
    refine anyN_true hd10 ?_
    rw [sup d hxd, Bool.true_and, cov_iff]
    obtain ⟨c1, c2⟩ := cov_iff.mp hc
    refine ⟨fun c hc10 hb => ?_, fun f hf hS => ?_⟩
    · rw [sub_bit (sup d hxd), Bool.and_eq_true] at hb
      exact c1 c hc10 hb.1
    · obtain ⟨c, hc10, hyc, hl⟩ := isL_iff.mp (c2 f hf hS)
      by_cases hcd : c = d
      · subst hcd
        have hno : ¬ (onM K S (x + 2 ^ v)).testBit f = true := fun q => hz f ⟨by rw [lfM_bit K c hf]; exact hl, q⟩
        have hne : ct (fun c => (x + 2 ^ v).testBit c && lk K f c) 10 ≠ 1 := by
          intro e
          apply hno
          rw [onM, mkN_bit, decide_eq_true hf, Bool.true_and, e, hS]
          rfl
        obtain ⟨j, hj, hji, hp⟩ := ct_two hc10 (by show ((x + 2 ^ v).testBit c && lk K f c) = true; rw [hxd, hl]; rfl) hne
        rw [Bool.and_eq_true] at hp
        exact isL_iff.mpr ⟨j, hj, by rw [sub_bit (sup c hxd), sup j hp.1, decide_eq_true hji]; rfl, hp.2⟩
      · exact isL_iff.mpr ⟨c, hc10, by rw [sub_bit (sup d hxd), hyc, decide_eq_true hcd]; rfl, hl⟩
  unfold isE
  rw [hs]
  simp
theorem leaf_isE {K : Kn} {S : Nat → Nat} {x : Nat} (hx : x < 1024) (hxe : x &&& exM K S = 0) (hal : alone K x (onM K S x) = true) (h : ndf (ndf (thM S) (thM S &&& foM K x)) (rch K S 0) = 0) : isE K S x = true := by
  have hcv : ∀ f, f < 12 → S f = 1 → isL K f x = true := by
    intro f hf hS
    have h0 := ndf0_iff.mp h f
    cases hl : isL K f x
    · exfalso
      have := h0 (by
        rw [ndf_bit, Nat.testBit_and, thM_bit S hf, foM_bit K x hf, hS]
        show (true && !(true && isL K f x)) = true
        rw [hl]
        rfl)
      rw [rch, mkN_bit] at this
      simp [anyN] at this
    · rfl
  have hc : cov K S x = true := by
    rw [cov_iff]
    refine ⟨fun c hc10 hb => ?_, hcv⟩
    cases he : exc K S c
    · rfl
    · exact absurd ⟨hb, by rw [exM_bit K S hc10]; exact he⟩ (and0_iff.mp hxe c)
  unfold isE
  rw [hc, Bool.true_and, Bool.not_eq_true']
  unfold spr
  rw [anyN_false]
  intro d hd10
  cases hb : x.testBit d
  · rfl
  · rw [Bool.true_and]
    cases hcd : cov K S (x - 2 ^ d)
    · rfl
    · exfalso
      have hal2 : anyN (fun z => x.testBit z && (lfM K z &&& onM K S x == 0)) 10 = false := by
        unfold alone at hal
        simpa using hal
      have h3 := anyN_false.mp hal2 d hd10
      rw [hb, Bool.true_and] at h3
      have h4 : lfM K d &&& onM K S x ≠ 0 := by simpa using h3
      apply h4
      rw [and0_iff]
      rintro f ⟨q1, q2⟩
      have hf := bit_lt (lfM_lt K d) q1
      rw [lfM_bit K d hf] at q1
      rw [onM, mkN_bit, decide_eq_true hf, Bool.true_and, Bool.and_eq_true, beq_iff_eq, beq_iff_eq] at q2
      obtain ⟨c, hc10, hyc, hl⟩ := isL_iff.mp ((cov_iff.mp hcd).2 f hf q2.1)
      rw [sub_bit hb, Bool.and_eq_true, decide_eq_true_eq] at hyc
      have hone : ∀ {i j : Nat}, i < 10 → j < 10 → i ≠ j → (x.testBit i && lk K f i) = true → (x.testBit j && lk K f j) = true → False := by
        intro i j hi hj hij pi pj
        have two : ∀ (p : Nat → Bool) (n a b : Nat), a < b → b < n → p a = true → p b = true → 2 ≤ ct p n := by
          intro p n
          induction n with
          | zero => intro a b _ h; omega
          | succ n ih =>
            intro a b hab hbn pa pb
            rw [ct]
            rcases Nat.lt_or_ge b n with q | q
            · have := ih a b hab q pa pb; omega
            · have e : b = n := by omega
              subst e
              have := ct_pos hab pa
              rw [pb]
              show 2 ≤ ct p b + 1
              omega
        rcases Nat.lt_or_ge i j with q | q
        · have := two (fun c => x.testBit c && lk K f c) 10 i j q hj pi pj; omega
        · have := two (fun c => x.testBit c && lk K f c) 10 j i (by omega) hi pj pi; omega
      exact hone hc10 hd10 hyc.2 (by rw [hyc.1, hl]; rfl) (by rw [hb, q1]; rfl)
