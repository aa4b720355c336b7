/-! rows that hold the same, put in order -/
def Sam (N : Nat) (g h : Nat → Nat) : Prop := (∀ k, k < N → ∃ j, j < N ∧ h j = g k) ∧ ∀ j, j < N → ∃ k, k < N ∧ g k = h j
def Inj (N : Nat) (g : Nat → Nat) : Prop := ∀ i j, i < N → j < N → g i = g j → i = j
def Dcr (N : Nat) (g : Nat → Nat) : Prop := ∀ i j, i < j → j < N → g j < g i
theorem Sam.rf (N : Nat) (g : Nat → Nat) : Sam N g g := ⟨fun k h => ⟨k, h, rfl⟩, fun k h => ⟨k, h, rfl⟩⟩
theorem Sam.tr {N : Nat} {f g h : Nat → Nat} (a : Sam N f g) (b : Sam N g h) : Sam N f h := by
  refine ⟨fun k hk => ?_, fun k hk => ?_⟩
  · obtain ⟨j, hj, e⟩ := a.1 k hk
    obtain ⟨i, hi, e2⟩ := b.1 j hj
    exact ⟨i, hi, e2.trans e⟩
  · obtain ⟨j, hj, e⟩ := b.2 k hk
    obtain ⟨i, hi, e2⟩ := a.2 j hj
    exact ⟨i, hi, e2.trans e⟩
def swp (g : Nat → Nat) (i j : Nat) : Nat → Nat := va_up (va_up g i (g j)) j (g i)
theorem swp_at (g : Nat → Nat) (i j k : Nat) : swp g i j k = g (if k = j then i else if k = i then j else k) := by
  unfold swp va_up
  by_cases h : k = j
  · rw [if_pos h, if_pos h]
  · rw [if_neg h, if_neg h]
    by_cases q : k = i
    · rw [if_pos q, if_pos q]
    · rw [if_neg q, if_neg q]
theorem Sam.swap {N : Nat} (g : Nat → Nat) {i j : Nat} (hi : i < N) (hj : j < N) : Sam N g (swp g i j) := by
  refine ⟨fun k hk => ?_, fun k hk => ?_⟩
  · by_cases h : k = i
    · exact ⟨j, hj, by rw [swp_at, if_pos rfl, h]⟩
    · by_cases q : k = j
      · refine ⟨i, hi, ?_⟩
        rw [swp_at]
        by_cases r : i = j
        · rw [if_pos r, q, ← r]
        · rw [if_neg r, if_pos rfl, q]
      · exact ⟨k, hk, by rw [swp_at, if_neg q, if_neg h]⟩
  · refine ⟨if k = j then i else if k = i then j else k, ?_, (swp_at g i j k).symm⟩
    split
    · exact hi
    · split
      · exact hj
      · exact hk
theorem Inj.swap {N : Nat} {g : Nat → Nat} {i j : Nat} (hi : i < N) (hj : j < N) (h : Inj N g) : Inj N (swp g i j) := by
  intro a b ha hb e
  rw [swp_at, swp_at] at e
  have bd : ∀ k, k < N → (if k = j then i else if k = i then j else k) < N := by
    intro k hk
    split
    · exact hi
    · split
      · exact hj
      · exact hk
  have e2 := h _ _ (bd a ha) (bd b hb) e
  split at e2 <;> (try split at e2) <;> (try split at e2) <;> (try split at e2) <;> omega
theorem bf_step {h : Nat → Nat} {q r ky : Nat} (hqr : q ≠ r) : va_up (va_up h q (h r)) r ky = swp (va_up h q ky) q r := by
  funext k
  rw [swp_at]
  unfold va_up
  by_cases a : k = r
  · rw [if_pos a, if_pos a, if_pos rfl]
  · rw [if_neg a, if_neg a]
    by_cases b : k = q
    · rw [if_pos b, if_pos b, if_neg (Ne.symm hqr)]
    · rw [if_neg b, if_neg b, if_neg b]
def Srt (h : Nat → Nat) (q ky fr : Nat) : Prop := (∀ i j, i < j → j ≤ fr → i ≠ q → j ≠ q → h j < h i) ∧ ∀ j, q < j → j ≤ fr → h j < ky
theorem Srt.start {g : Nat → Nat} {fr : Nat} (h : Dcr fr g) : Srt g fr (g fr) fr := ⟨fun i j hij hj _ hjq => h i j hij (by omega), fun j h1 h2 => by omega⟩
theorem Srt.step {h : Nat → Nat} {q ky fr : Nat} (hS : Srt h q ky fr) (hq : 1 ≤ q) (hqf : q ≤ fr) (hk : h (q - 1) < ky) : Srt (va_up h q (h (q - 1))) (q - 1) ky fr := by
  refine ⟨fun i j hij hj hi1 hj1 => ?_, fun j h1 h2 => ?_⟩
  · unfold va_up
    by_cases a : j = q
    · rw [if_pos a, if_neg (by omega)]
      exact hS.1 i (q - 1) (by omega) (by omega) (by omega) (by omega)
    · rw [if_neg a]
      by_cases b : i = q
      · rw [if_pos b]
        exact hS.1 (q - 1) j (by omega) hj (by omega) a
      · rw [if_neg b]
        exact hS.1 i j hij hj b a
  · unfold va_up
    by_cases a : j = q
    · rw [if_pos a]; exact hk
    · rw [if_neg a]
      exact hS.2 j (by omega) h2
theorem Srt.fin {h : Nat → Nat} {q ky fr N : Nat} (hS : Srt h q ky fr) (hqf : q ≤ fr) (hfN : fr < N) (hI : Inj N (va_up h q ky)) (he : q = 0 ∨ ky ≤ h (q - 1)) : Dcr (fr + 1) (va_up h q ky) := by
  intro i j hij hj
  unfold va_up
  by_cases a : j = q
  · rw [if_pos a, if_neg (by omega)]
    rcases he with he | he
    · omega
    · have hne : ky ≠ h (q - 1) := by
        intro e
        have := hI q (q - 1) (by omega) (by omega) (by
          unfold va_up
          rw [if_pos rfl, if_neg (by omega)]
          exact e)
        omega
      by_cases b : i = q - 1
      · rw [b]; omega
      · have := hS.1 i (q - 1) (by omega) (by omega) (by omega) (by omega)
        omega
  · rw [if_neg a]
    by_cases b : i = q
    · rw [if_pos b]
      exact hS.2 j (by omega) (by omega)
    · rw [if_neg b]
      exact hS.1 i j hij (by omega) b a
/-! the explanations in a row -/
def PermE (K : Kn) (S : Nat → Nat) (ee : Nat → Nat) : Prop := (∀ k, k < nE K S → ee k < 1024 ∧ isE K S (ee k) = true) ∧ (∀ x, x < 1024 → isE K S x = true → ∃ k, k < nE K S ∧ ee k = x) ∧ Inj (nE K S) ee
def SortE (K : Kn) (S : Nat → Nat) (ee : Nat → Nat) : Prop := PermE K S ee ∧ Dcr (nE K S) (fun k => key K (ee k))
theorem eU_ex {K : Kn} {S : Nat → Nat} {k : Nat} (h : k < nE K S) : ∃ i, i < 1024 ∧ isE K S i = true ∧ ct (isE K S) i = k := ct_kth h
noncomputable def eU (K : Kn) (S : Nat → Nat) : Nat → Nat := fun k => if h : k < nE K S then Classical.choose (eU_ex h) else 0
theorem eU_spec {K : Kn} {S : Nat → Nat} {k : Nat} (h : k < nE K S) : eU K S k < 1024 ∧ isE K S (eU K S k) = true ∧ ct (isE K S) (eU K S k) = k := by
  unfold eU
  rw [dif_pos h]
  exact Classical.choose_spec (eU_ex h)
theorem eU_perm (K : Kn) (S : Nat → Nat) : PermE K S (eU K S) := by
  refine ⟨fun k hk => ⟨(eU_spec hk).1, (eU_spec hk).2.1⟩, fun x hx he => ?_, fun i j hi hj e => ?_⟩
  · have hk : ct (isE K S) x < nE K S := by
      have := ct_mono (isE K S) (show x + 1 ≤ 1024 by omega)
      rw [ct_step he] at this
      unfold nE
      omega
    exact ⟨_, hk, ct_inj (eU_spec hk).2.1 he (eU_spec hk).2.2⟩
  · have h1 := (eU_spec hi).2.2
    have h2 := (eU_spec hj).2.2
    rw [e] at h1
    omega
theorem Ginv.eU {K : Kn} {S : Nat → Nat} {N T : Nat} {g : Nat → Nat} (h : Ginv K S 1024 N T g) : ∀ k, k < nE K S → g k = key K (eU K S k) := by
  intro k hk
  have := h.2.2 _ (eU_spec hk).1 (eU_spec hk).2.1
  rw [(eU_spec hk).2.2] at this
  exact this
theorem key_inj {K : Kn} {x y : Nat} (hx : x < 1024) (hy : y < 1024) (h : key K x = key K y) : x = y := by rw [← key_set K hx, ← key_set K hy, h]
/-- the keys put in order are the explanations put in order -/
theorem sort_of {K : Kn} {S : Nat → Nat} {ee g g' : Nat → Nat} (hp : PermE K S ee) (hg : ∀ k, k < nE K S → g k = key K (ee k)) (hs : Sam (nE K S) g g') (hi : Inj (nE K S) g') (hd : Dcr (nE K S) g') : ∃ ee', SortE K S ee' ∧ ∀ k, k < nE K S → g' k = key K (ee' k) := by
  have at' : ∀ k, k < nE K S → ∃ j, j < nE K S ∧ g' k = key K (ee j) ∧ 1023 - (g' k &&& 1023) = ee j := by
    intro k hk
    obtain ⟨j, hj, e⟩ := hs.2 k hk
    have e2 : g' k = key K (ee j) := by rw [← e, hg j hj]
    exact ⟨j, hj, e2, by rw [e2, key_set K (hp.1 j hj).1]⟩
  refine ⟨fun k => 1023 - (g' k &&& 1023), ⟨⟨fun k hk => ?_, fun x hx he => ?_, fun i j hi1 hj1 e => ?_⟩, fun i j hij hj => ?_⟩, fun k hk => ?_⟩
  · obtain ⟨j, hj, -, e⟩ := at' k hk
    show 1023 - (g' k &&& 1023) < 1024 ∧ isE K S (1023 - (g' k &&& 1023)) = true
    rw [e]
    exact hp.1 j hj
  · obtain ⟨k, hk, e⟩ := hp.2.1 x hx he
    obtain ⟨j, hj, e2⟩ := hs.1 k hk
    refine ⟨j, hj, ?_⟩
    show 1023 - (g' j &&& 1023) = x
    rw [e2, hg k hk, e, key_set K hx]
  · obtain ⟨a, ha, e1, e2⟩ := at' i hi1
    obtain ⟨b, hb, e3, e4⟩ := at' j hj1
    apply hi i j hi1 hj1
    have e5 : ee a = ee b := by rw [← e2, ← e4]; exact e
    rw [e1, e3, e5]
  · obtain ⟨a, ha, e1, e2⟩ := at' i (by omega)
    obtain ⟨b, hb, e3, e4⟩ := at' j hj
    show key K (1023 - (g' j &&& 1023)) < key K (1023 - (g' i &&& 1023))
    rw [e2, e4, ← e1, ← e3]
    exact hd i j hij hj
  · obtain ⟨j, hj, e1, e2⟩ := at' k hk
    show g' k = key K (1023 - (g' k &&& 1023))
    rw [e2]
    exact e1
theorem SortE.uniq {K : Kn} {S : Nat → Nat} {a b : Nat → Nat} (ha : SortE K S a) (hb : SortE K S b) : ∀ k, k < nE K S → a k = b k := by
  intro k
  induction k using Nat.strongRecOn with
  | ind k ih =>
    intro hk
    obtain ⟨i, hi, ei⟩ := hb.1.2.1 (a k) (ha.1.1 k hk).1 (ha.1.1 k hk).2
    obtain ⟨j, hj, ej⟩ := ha.1.2.1 (b k) (hb.1.1 k hk).1 (hb.1.1 k hk).2
    have hik : k ≤ i := by
      rcases Nat.lt_or_ge i k with q | q
      · have := ih i q hi
        have := ha.1.2.2 i k hi hk (by rw [this, ei])
        omega
      · exact q
    have hjk : k ≤ j := by
      rcases Nat.lt_or_ge j k with q | q
      · have := ih j q hj
        have := hb.1.2.2 j k hj hk (by rw [← this, ej])
        omega
      · exact q
    rcases Nat.lt_or_ge k i with q | q
    · exfalso
      have h1 : key K (b i) < key K (b k) := hb.2 k i q hi
      rw [ei, ← ej] at h1
      rcases Nat.lt_or_ge k j with r | r
      · have h2 : key K (a j) < key K (a k) := ha.2 k j r hj
        omega
      · have e : j = k := by omega
        rw [e] at h1
        omega
    · have e : i = k := by omega
      rw [e] at ei
      exact ei.symm
noncomputable def eS (K : Kn) (S : Nat → Nat) : Nat → Nat := by
  classical
  exact if h : ∃ ee, SortE K S ee then Classical.choose h else fun _ => 0
theorem eS_spec {K : Kn} {S : Nat → Nat} {ee : Nat → Nat} (h : SortE K S ee) : SortE K S (eS K S) ∧ ∀ k, k < nE K S → ee k = eS K S k := by
  have hx : ∃ ee, SortE K S ee := ⟨ee, h⟩
  have e : eS K S = Classical.choose hx := by
    unfold eS
    rw [dif_pos hx]
  have h2 : SortE K S (eS K S) := by rw [e]; exact Classical.choose_spec hx
  exact ⟨h2, SortE.uniq h h2⟩
theorem sm_add {f g : Nat → Nat} {v : Nat} (hf : f v = 0) (h : ∀ i, i ≠ v → g i = f i) : ∀ n, v < n → sm g n = sm f n + g v := by
  have lo : ∀ n, n ≤ v → sm g n = sm f n := fun n hn => sm_ext (fun i hi => h i (by omega))
  intro n
  induction n with
  | zero => intro h; omega
  | succ n ih =>
    intro hv
    rw [sm, sm]
    rcases Nat.lt_or_ge v n with c | c
    · rw [ih c, h n (by omega)]; omega
    · have e : v = n := by omega
      subst e
      rw [lo v (Nat.le_refl _), hf]
      omega
/-- a sum over a row of all explanations doesn't depend on their order -/
theorem perm_sum {K : Kn} {S : Nat → Nat} {ee : Nat → Nat} (hp : PermE K S ee) (h : Nat → Nat) : sm (fun k => h (ee k)) (nE K S) = sm (fun x => if isE K S x then h x else 0) 1024 := by
  have key : ∀ n, n ≤ nE K S → sm (fun k => h (ee k)) n = sm (fun x => if anyN (fun k => ee k == x) n then h x else 0) 1024 := by
    intro n
    induction n with
    | zero =>
      intro _
      rw [sm_skip (a := 0) (b := 1024) (by omega) (fun y _ _ => by simp [anyN])]
      rfl
    | succ n ih =>
      intro hn
      have hno : anyN (fun k => ee k == ee n) n = false := by
        rw [anyN_false]
        intro i hi
        rw [beq_eq_false_iff_ne]
        intro e
        have := hp.2.2 i n (by omega) (by omega) e
        omega
      rw [sm, ih (by omega), sm_add (f := fun x => if anyN (fun k => ee k == x) n then h x else 0) (g := fun x => if anyN (fun k => ee k == x) (n + 1) then h x else 0) (v := ee n) (by simp [hno]) (fun i hi => by
        have : (ee n == i) = false := by rw [beq_eq_false_iff_ne]; exact Ne.symm hi
        simp only [anyN, this, Bool.or_false]) 1024 (hp.1 n (by omega)).1]
      simp [anyN]
  rw [key _ (Nat.le_refl _)]
  apply sm_ext
  intro x hx
  have e : anyN (fun k => ee k == x) (nE K S) = isE K S x := by
    apply Bool.eq_iff_iff.mpr
    rw [anyN_iff]
    constructor
    · rintro ⟨k, hk, e⟩
      rw [beq_iff_eq] at e
      rw [← e]
      exact (hp.1 k hk).2
    · intro he
      obtain ⟨k, hk, e⟩ := hp.2.1 x hx he
      exact ⟨k, hk, by rw [beq_iff_eq]; exact e⟩
  rw [e]
theorem smF_t {K : Kn} {ee : Nat → Nat} {fi v j : Nat} (h : fort K (ee j) fi = v) : smF K ee fi v j + wt K (ee j) = smF K ee fi v (j + 1) := by
  unfold smF
  rw [sm, if_pos h]
theorem smF_f {K : Kn} {ee : Nat → Nat} {fi v j : Nat} (h : ¬ fort K (ee j) fi = v) : smF K ee fi v j = smF K ee fi v (j + 1) := by
  unfold smF
  rw [sm, if_neg h]
  rfl
theorem rch_up {K : Kn} {S : Nat → Nat} {rr : Nat → Nat} {j : Nat} (h : ∀ i, i ≤ j → rr i = rch K S i) : ∀ i, i ≤ j + 1 → va_up rr (j + 1) (rr j ||| (if exc K S j then 0 else lfM K j)) i = rch K S i := by
  intro i hi
  unfold va_up
  by_cases q : i = j + 1
  · rw [if_pos q, q, h j (Nat.le_refl _), rch_step]
  · rw [if_neg q]
    exact h i (by omega)
theorem va_up_same (g : Nat → Nat) (k : Nat) : va_up g k (g k) = g := by
  funext j
  unfold va_up
  by_cases h : j = k
  · rw [if_pos h, h]
  · rw [if_neg h]
theorem up_lt {N B v q : Nat} {h : Nat → Nat} (hb : ∀ k, k < N → h k < B) (hv : v < B) : ∀ k, k < N → va_up h q v k < B := by
  intro k hk
  unfold va_up
  split
  · exact hv
  · exact hb k hk
theorem Sam.lt {N B : Nat} {g h : Nat → Nat} (hs : Sam N g h) (hb : ∀ k, k < N → g k < B) : ∀ k, k < N → h k < B := by
  intro k hk
  obtain ⟨j, hj, e⟩ := hs.2 k hk
  rw [← e]
  exact hb j hj
theorem Dcr.mono {N M : Nat} {h : Nat → Nat} (hd : Dcr M h) (hN : N ≤ M) : Dcr N h := fun i j hij hj => hd i j hij (by omega)
def gpN (j : Nat) : Nat := if j = 0 then 57 else if j = 1 then 23 else if j = 2 then 10 else if j = 3 then 4 else 1
theorem gpN_in (j : Nat) : 1 ≤ gpN j ∧ gpN j ≤ 57 := by
  unfold gpN
  split
  · decide
  · split
    · decide
    · split
      · decide
      · split <;> decide
section XG
variable {p : Program} {l : Launch} {e : Env} {R : Room} {s : State} {m : MethodId} {args : Array Value} {below : List Frame} {meth : Method} {c : Code} {H : Heap} {locs : List Loc} {cells slots : Nat} {Q : State → Prop}
variable {cc : ByteArray} {pc : Nat} {ls : Array Slot} {rest : List Value} {A : Nat → Prop} {ga gb : Nat}
theorem x_gapl (hx : p.tables.exec = Jvm.exec) (hb : c.code = cc) (hG : gF ga gb s s.heap) (hS : va_S A s.heap H locs) (hA : ¬ A gb) (hdg : decode cc pc = .ok (.arraylength, 1)) (k : W p l e R s m args below meth c H locs cells slots Q (F0 m (pc + 1) ls (.int (nI 5) :: rest))) : W p l e R s m args below meth c H locs cells slots Q (F0 m pc ls (.ref gb :: rest)) := va_tlen hx hb (hG.2.narrow (fun q hq e => hA (e ▸ hq))) hS rfl hdg k
theorem x_gap (hx : p.tables.exec = Jvm.exec) (hb : c.code = cc) (hG : gF ga gb s s.heap) (hS : va_S A s.heap H locs) (hA : ¬ A gb) {j : Nat} (hj : j < 5) (hdg : decode cc pc = .ok (.iaload, 1)) (k : W p l e R s m args below meth c H locs cells slots Q (F0 m (pc + 1) ls (.int (nI (gpN j)) :: rest))) : W p l e R s m args below meth c H locs cells slots Q (F0 m pc ls (.int (nI j) :: .ref gb :: rest)) := va_ti hx hb (hG.2.narrow (fun q hq e => hA (e ▸ hq))) hS (vp_in_nI hj (by decide)) (v := .int (nI (gpN j))) (by rw [nI_clamp (Nat.lt_trans hj (by decide))]; rfl) hdg k
end XG
