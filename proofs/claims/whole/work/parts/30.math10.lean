/-! the reference: links one by one, all sets tried, explanations put in their places -/
def lkA (K : Kn) (x : Nat) : Nat := K.2.2 (x / 10) (x % 10)
theorem lkA_at (K : Kn) (fi : Nat) {ca : Nat} (hc : ca < 10) : lkA K (10 * fi + ca) = K.2.2 fi ca := by
  unfold lkA
  rw [show (10 * fi + ca) / 10 = fi by omega, show (10 * fi + ca) % 10 = ca by omega]
theorem lkA_set (K : Kn) (fi : Nat) {ca : Nat} (h : Nat) (hc : ca < 10) : va_up (lkA K) (10 * fi + ca) h = lkA (setL K fi ca h) := by
  funext x
  unfold va_up lkA setL
  show (if x = 10 * fi + ca then h else K.2.2 (x / 10) (x % 10)) = if x / 10 = fi ∧ x % 10 = ca then h else K.2.2 (x / 10) (x % 10)
  by_cases e : x = 10 * fi + ca
  · rw [if_pos e, if_pos (by omega)]
  · rw [if_neg e, if_neg (by omega)]
theorem tn1 {b : Bool} (h : b.toNat = 1) : b = true := by cases b <;> simp_all
theorem tn0 {b : Bool} (h : ¬ b.toNat = 1) : b = false := by cases b <;> simp_all
def fo3 (K : Kn) (x f : Nat) : Nat := if isM K f x then 0 else if isL K f x then 2 else 1
def wv (w : Nat) : Nat := if w = 0 then 1 else if w = 1 then 2 else 0
theorem isM_and {K : Kn} {x f : Nat} : x &&& mcM K f = 0 ↔ isM K f x = false := by
  unfold isM
  rw [and0_iff, anyN_false]
  constructor
  · intro h c hc
    cases hx : x.testBit c
    · rfl
    · cases hm : ms K f c
      · rfl
      · exact absurd ⟨hx, by rw [mcM_bit K f hc]; exact hm⟩ (h c)
  · rintro h c ⟨q1, q2⟩
    have hc := bit_lt (mcM_lt K f) q2
    have := h c hc
    rw [mcM_bit K f hc] at q2
    rw [q1, q2] at this
    cases this
theorem isL_and {K : Kn} {x f : Nat} : x &&& lcM K f = 0 ↔ isL K f x = false := by
  unfold isL
  rw [and0_iff, anyN_false]
  constructor
  · intro h c hc
    cases hx : x.testBit c
    · rfl
    · cases hm : lk K f c
      · rfl
      · exact absurd ⟨hx, by rw [lcM_bit K f hc]; exact hm⟩ (h c)
  · rintro h c ⟨q1, q2⟩
    have hc := bit_lt (lcM_lt K f) q2
    have := h c hc
    rw [lcM_bit K f hc] at q2
    rw [q1, q2] at this
    cases this
theorem fo3_le (K : Kn) (x f : Nat) : fo3 K x f ≤ 2 := by
  unfold fo3
  split
  · decide
  · split <;> decide
theorem fo3_fort {K : Kn} {x f w : Nat} (hw : w ≤ 2) : fo3 K x f = w ↔ fort K x f = wv w := by
  unfold fo3 fort
  cases hm : isM K f x
  · rw [if_neg (by decide), if_pos (isM_and.mpr hm)]
    cases hl : isL K f x
    · rw [if_neg (by decide), if_pos (isL_and.mpr hl)]
      unfold wv
      rcases (show w = 0 ∨ w = 1 ∨ w = 2 by omega) with rfl | rfl | rfl <;> simp
    · rw [if_pos rfl, if_neg (fun h => by rw [isL_and.mp h] at hl; cases hl)]
      unfold wv
      rcases (show w = 0 ∨ w = 1 ∨ w = 2 by omega) with rfl | rfl | rfl <;> simp
  · rw [if_pos rfl, if_neg (fun h => by rw [isM_and.mp h] at hm; cases hm)]
    unfold wv
    rcases (show w = 0 ∨ w = 1 ∨ w = 2 by omega) with rfl | rfl | rfl <;> simp
def MKn (K : Kn) (S : Nat → Nat) (ex we : Nat → Nat) : Prop := SortE K S (eS K S) ∧ ∀ k, k < nE K S → ex k = eS K S k ∧ we k = wt K (eS K S k)
def mI (K : Kn) (S : Nat → Nat) (q : Nat) (hf hs : Nat → Nat) (mn : Nat) (ex we : Nat → Nat) (kn : Bool) (cv : Nat → Bool) : Prop := KO K ∧ (∀ f c, K.2.2 f c ≤ 2) ∧ (∀ f, S f ≤ 2) ∧ q ≤ 20 ∧ (∀ i, hf i < 12 ∧ hs i ≤ 2) ∧ (kn = true → mn = nE K S ∧ MKn K S ex we ∧ ∀ x, x < 1024 → cv x = cov K S x)
theorem MKn.lt {K : Kn} {S : Nat → Nat} {ex we : Nat → Nat} (h : MKn K S ex we) : ∀ k, k < nE K S → ex k < 1024 := fun k hk => by rw [(h.2 k hk).1]; exact (h.1.1.1 k hk).1
def Gm (K : Kn) (S : Nat → Nat) (j a : Nat) (h w : Nat → Nat) (cv : Nat → Bool) : Prop := a = ct (isE K S) j ∧ Dcr a (fun k => key K (h k)) ∧ (∀ k, k < a → h k < j ∧ isE K S (h k) = true ∧ w k = wt K (h k)) ∧ (∀ x, x < j → isE K S x = true → ∃ k, k < a ∧ h k = x) ∧ ∀ x, x < j → cv x = cov K S x
def Gh (K : Kn) (S : Nat → Nat) (j a i : Nat) (h w : Nat → Nat) : Prop := Srt (fun k => key K (h k)) i (key K j) a ∧ (∀ k, k ≤ a → k ≠ i → h k < j ∧ isE K S (h k) = true ∧ w k = wt K (h k)) ∧ ∀ x, x < j → isE K S x = true → ∃ k, k ≤ a ∧ k ≠ i ∧ h k = x
theorem Gm_0 (K : Kn) (S h w : Nat → Nat) (cv : Nat → Bool) : Gm K S 0 0 h w cv := ⟨rfl, fun i j _ hj => absurd hj (Nat.not_lt_zero _), fun k hk => absurd hk (Nat.not_lt_zero _), fun x hx => absurd hx (Nat.not_lt_zero _), fun x hx => absurd hx (Nat.not_lt_zero _)⟩
theorem Gm.le {K : Kn} {S : Nat → Nat} {j a : Nat} {h w : Nat → Nat} {cv : Nat → Bool} (G : Gm K S j a h w cv) (hj : j ≤ 1024) : a ≤ 252 := by
  have h1 := ct_mono (isE K S) hj
  have h2 := nE_le K S
  have h3 := G.1
  unfold nE at h2
  omega
theorem cv_up {K : Kn} {S : Nat → Nat} {j : Nat} {cv : Nat → Bool} (h : ∀ x, x < j → cv x = cov K S x) : ∀ x, x < j + 1 → va_up cv j (cov K S j) x = cov K S x := by
  intro x hx
  unfold va_up
  by_cases e : x = j
  · rw [if_pos e, e]
  · rw [if_neg e]
    exact h x (by omega)
theorem Gm.skip {K : Kn} {S : Nat → Nat} {j a : Nat} {h w : Nat → Nat} {cv : Nat → Bool} (G : Gm K S j a h w cv) (he : isE K S j = false) : Gm K S (j + 1) a h w (va_up cv j (cov K S j)) := by
  obtain ⟨g1, g2, g3, g4, g5⟩ := G
  refine ⟨by rw [ct, he, g1]; rfl, g2, fun k hk => ⟨by have := (g3 k hk).1; omega, (g3 k hk).2⟩, fun x hx hex => ?_, cv_up g5⟩
  rcases Nat.lt_or_ge x j with q | q
  · exact g4 x q hex
  · rw [show x = j by omega, he] at hex; cases hex
theorem Gm.hole {K : Kn} {S : Nat → Nat} {j a : Nat} {h w : Nat → Nat} {cv : Nat → Bool} (G : Gm K S j a h w cv) : Gh K S j a a h w := by
  obtain ⟨g1, g2, g3, g4, g5⟩ := G
  refine ⟨⟨fun x y hxy hy _ hya => g2 x y hxy (by omega), fun y h1 h2 => by omega⟩, fun k hk hka => g3 k (by omega), fun x hx hex => ?_⟩
  obtain ⟨k, hk, e⟩ := g4 x hx hex
  exact ⟨k, by omega, by omega, e⟩
theorem key_up {K : Kn} {h : Nat → Nat} {i v : Nat} : (fun k => key K (va_up h i v k)) = va_up (fun k => key K (h k)) i (key K v) := by
  funext k
  unfold va_up
  by_cases e : k = i
  · rw [if_pos e, if_pos e]
  · rw [if_neg e, if_neg e]
theorem Gh.step {K : Kn} {S : Nat → Nat} {j a i : Nat} {h w : Nat → Nat} (G : Gh K S j a i h w) (hi : 1 ≤ i) (hia : i ≤ a) (hk : key K (h (i - 1)) < key K j) : Gh K S j a (i - 1) (va_up h i (h (i - 1))) (va_up w i (w (i - 1))) := by
  obtain ⟨g1, g2, g3⟩ := G
  refine ⟨?_, fun k hka hki => ?_, fun x hx hex => ?_⟩
  · rw [key_up]
    exact g1.step hi hia hk
  · unfold va_up
    by_cases e : k = i
    · rw [if_pos e, if_pos e]
      exact g2 (i - 1) (by omega) (by omega)
    · rw [if_neg e, if_neg e]
      exact g2 k hka e
  · obtain ⟨k, h1, h2, h3⟩ := g3 x hx hex
    unfold va_up
    by_cases e : k = i - 1
    · exact ⟨i, hia, by omega, by rw [if_pos rfl, ← e]; exact h3⟩
    · exact ⟨k, h1, e, by rw [if_neg h2]; exact h3⟩
theorem Gh.fin {K : Kn} {S : Nat → Nat} {j a i : Nat} {h w : Nat → Nat} {cv : Nat → Bool} (G : Gh K S j a i h w) (hia : i ≤ a) (ha : a = ct (isE K S) j) (hj : j < 1024) (hcv : ∀ x, x < j → cv x = cov K S x) (he : isE K S j = true) (hend : i = 0 ∨ ¬ key K (h (i - 1)) < key K j) : Gm K S (j + 1) (a + 1) (va_up h i j) (va_up w i (wt K j)) (va_up cv j (cov K S j)) := by
  obtain ⟨g1, g2, g3⟩ := G
  refine ⟨by rw [ct_step he, ha], ?_, fun k hk => ?_, fun x hx hex => ?_, cv_up hcv⟩
  · rw [key_up]
    intro x y hxy hy
    unfold va_up
    by_cases e1 : y = i
    · rw [if_pos e1, if_neg (by omega)]
      rcases hend with q | q
      · omega
      · have hne : key K (h (i - 1)) ≠ key K j := fun e => by
          have hlt := (g2 (i - 1) (by omega) (by omega)).1
          have := key_inj (by omega) hj e
          omega
        by_cases e2 : x = i - 1
        · rw [e2]
          show key K j < key K (h (i - 1))
          omega
        · have : key K (h (i - 1)) < key K (h x) := g1.1 x (i - 1) (by omega) (by omega) (by omega) (by omega)
          show key K j < key K (h x)
          omega
    · rw [if_neg e1]
      by_cases e2 : x = i
      · rw [if_pos e2]
        exact g1.2 y (by omega) (by omega)
      · rw [if_neg e2]
        exact g1.1 x y hxy (by omega) e2 e1
  · unfold va_up
    by_cases e : k = i
    · rw [if_pos e, if_pos e]
      exact ⟨by omega, he, rfl⟩
    · rw [if_neg e, if_neg e]
      have := g2 k (by omega) e
      exact ⟨by omega, this.2⟩
  · unfold va_up
    rcases Nat.lt_or_ge x j with q | q
    · obtain ⟨k, h1, h2, h3⟩ := g3 x q hex
      exact ⟨k, by omega, by rw [if_neg h2]; exact h3⟩
    · exact ⟨i, by omega, by rw [if_pos rfl]; omega⟩
theorem Gm.known {K : Kn} {S : Nat → Nat} {a : Nat} {h w : Nat → Nat} {cv : Nat → Bool} (G : Gm K S 1024 a h w cv) : a = nE K S ∧ MKn K S h w ∧ ∀ x, x < 1024 → cv x = cov K S x := by
  obtain ⟨g1, g2, g3, g4, g5⟩ := G
  have e : a = nE K S := g1
  subst e
  have hs : SortE K S h := by
    refine ⟨⟨fun k hk => ⟨(g3 k hk).1, (g3 k hk).2.1⟩, g4, fun i j hi hj e => ?_⟩, g2⟩
    rcases Nat.lt_trichotomy i j with q | q | q
    · have : key K (h j) < key K (h i) := g2 i j q hj
      rw [e] at this
      omega
    · exact q
    · have : key K (h i) < key K (h j) := g2 j i q hi
      rw [e] at this
      omega
  obtain ⟨h1, h2⟩ := eS_spec hs
  exact ⟨rfl, ⟨h1, fun k hk => ⟨h2 k hk, by rw [(g3 k hk).2.2, h2 k hk]⟩⟩, g5⟩
theorem bit_le {x c : Nat} (h : x.testBit c = true) : 2 ^ c ≤ x := by
  obtain ⟨q, r, hr, hx⟩ := sub_form h
  omega
theorem spr_of {K : Kn} {S : Nat → Nat} {j : Nat} {cv : Nat → Bool} (hcv : ∀ x, x < j → cv x = cov K S x) : anyN (fun z => j.testBit z && va_up cv j (cov K S j) (j - 2 ^ z)) 10 = spr K S j := by
  unfold spr
  apply anyN_ext
  intro z hz
  cases hb : j.testBit z
  · rfl
  · have h1 := bit_le hb
    have h2 := Nat.two_pow_pos z
    rw [Bool.true_and, Bool.true_and]
    unfold va_up
    rw [if_neg (by omega), hcv _ (by omega)]
theorem spr_cv {K : Kn} {S : Nat → Nat} {x : Nat} {cv : Nat → Bool} (hx : x < 1024) (hcv : ∀ x, x < 1024 → cv x = cov K S x) : anyN (fun z => x.testBit z && cv (x - 2 ^ z)) 10 = spr K S x := by
  unfold spr
  apply anyN_ext
  intro z hz
  cases hb : x.testBit z
  · rfl
  · rw [Bool.true_and, Bool.true_and, hcv _ (Nat.lt_of_le_of_lt (Nat.sub_le _ _) hx)]
/-- which of two comes ahead -/
theorem ahead_w {K : Kn} {x y : Nat} (h : ¬ wt K x = wt K y) (hx : x < 1024) (hy : y < 1024) : (key K y < key K x) ↔ wt K y < wt K x := by
  have h1 := pop_le x
  have h2 := pop_le y
  unfold key
  omega
theorem ahead_p {K : Kn} {x y : Nat} (h : wt K x = wt K y) (hp : ¬ pop x = pop y) (hx : x < 1024) (hy : y < 1024) : (key K y < key K x) ↔ pop x < pop y := by
  have h1 := pop_le x
  have h2 := pop_le y
  unfold key
  omega
theorem ahead_s {K : Kn} {x y : Nat} (h : wt K x = wt K y) (hp : pop x = pop y) (hx : x < 1024) (hy : y < 1024) : (key K y < key K x) ↔ x < y := by
  have h1 := pop_le x
  have h2 := pop_le y
  unfold key
  omega
theorem sub_z {a b : Nat} (ha : a ≤ 12) (hb : b ≤ 12) : nI a - nI b = 0 ↔ a = b := by
  rw [toInt_eq, pk_sub_toInt (by omega) (by omega), tI0]
  omega
theorem sub_ge {a b : Nat} (ha : a ≤ 12) (hb : b ≤ 12) : 0 ≤ nI a - nI b ↔ b ≤ a := by
  rw [toInt_le, pk_sub_toInt (by omega) (by omega), tI0]
  omega
theorem dec_t {c : Prop} [Decidable c] (h : c) : nI 1 = nI (decide c).toNat := by rw [decide_eq_true h]; rfl
theorem dec_f {c : Prop} [Decidable c] (h : ¬ c) : nI 0 = nI (decide c).toNat := by rw [decide_eq_false h]; rfl
/-- sums over the row that is kept -/
theorem MK_spl {K : Kn} {S : Nat → Nat} {ex we : Nat → Nat} (h : MKn K S ex we) (fi : Nat) {w : Nat} (hw : w ≤ 2) : sm (fun k => if fo3 K (ex k) fi = w then we k else 0) (nE K S) = spl K S fi (wv w) := by
  rw [← smF_perm h.1.1]
  unfold smF
  apply sm_ext
  intro k hk
  rw [(h.2 k hk).1, (h.2 k hk).2]
  by_cases e : fo3 K (eS K S k) fi = w
  · rw [if_pos e, if_pos ((fo3_fort hw).mp e)]
  · rw [if_neg e, if_neg (fun q => e ((fo3_fort hw).mpr q))]
theorem MK_tot {K : Kn} {S : Nat → Nat} {ex we : Nat → Nat} (h : MKn K S ex we) : sm we (nE K S) = tot K S := by
  have h1 := perm_sum h.1.1 (fun x => wt K x)
  unfold tot
  rw [← h1]
  exact sm_ext (fun k hk => (h.2 k hk).2)
