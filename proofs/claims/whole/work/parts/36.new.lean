/-! rows for what is made anew: arrays of zeros, objects of defaults, constructors -/
def fz : Nat → Nat := fun _ => 0
def fzB : Nat → Bool := fun _ => false
def on1 (j : Nat) : Nat → Nat := fun i => if i < j then 1 else 0
theorem on1_0 : on1 0 = fz := by
  funext i
  simp [on1, fz]
theorem on1_step (j : Nat) : va_up (on1 j) j 1 = on1 (j + 1) := by
  funext i
  unfold va_up on1
  by_cases h : i = j
  · subst h
    rw [if_pos rfl, if_pos (by omega)]
  · rw [if_neg h]
    by_cases h2 : i < j
    · rw [if_pos h2, if_pos (by omega)]
    · rw [if_neg h2, if_neg (by omega)]
def K0 : Kn := (on1 10, on1 10, fun _ _ => 0)
theorem mk0 {g : Nat → Bool} {n : Nat} (h : ∀ i, i < n → g i = false) : mkN g n = 0 := (mkN_eq (Nat.two_pow_pos _) (fun i hi => by rw [Nat.zero_testBit]; exact (h i hi).symm)).symm
theorem lf0 : lfM K0 = fz := by funext q; exact mk0 (fun i _ => by simp [lk, K0])
theorem mf0 : mfM K0 = fz := by funext q; exact mk0 (fun i _ => by simp [ms, K0])
theorem lc0 : lcM K0 = fz := by funext q; exact mk0 (fun i _ => by simp [lk, K0])
theorem mc0 : mcM K0 = fz := by funext q; exact mk0 (fun i _ => by simp [ms, K0])
theorem lkA0 : lkA K0 = fz := rfl
theorem th0 : thM fz = 0 := mk0 (fun i _ => rfl)
theorem ab0 : abM fz = 0 := mk0 (fun i _ => rfl)
def cN (D : va_G) (cI cJ cZ : ClassId) (av : List Value) (ws : va_W) (sz : Nat) : Array Value → State → Prop := va_Pc av (fun U => U.heap.size = sz ∧ va_P D vwCl ws U.heap ∧ kk_K D cI cJ cZ U)
def nxK (U : State) : Prop := va_Nw (.methodLinkNest RX6 20 yX5_init RX6) U ∧ va_Nw (.methodLinkNest RX6 27 yX0_init RX6) U ∧ va_Nw (.methodLinkNest RX6 49 yX3_init RX6) U ∧ va_Nw (.methodLinkNest RX6 56 yX4_init RX6) U
theorem nxK.warm {s U : State} (hW : s.WarmedH U.vm) (h : nxK s) : nxK U := ⟨va_Nw.warmM hW h.1, va_Nw.warmM hW h.2.1, va_Nw.warmM hW h.2.2.1, va_Nw.warmM hW h.2.2.2⟩
theorem nxK.same {s U : State} (hv : s.vm = U.vm) (h : nxK s) : nxK U := ⟨va_Nw.same rfl hv h.1, va_Nw.same rfl hv h.2.1, va_Nw.same rfl hv h.2.2.1, va_Nw.same rfl hv h.2.2.2⟩
def cNx (D : va_G) (cI cJ cZ : ClassId) (av : List Value) (ws : va_W) (sz : Nat) : Array Value → State → Prop := va_Pc av (fun U => U.heap.size = sz ∧ va_P D vwCl ws U.heap ∧ kk_K D cI cJ cZ U ∧ nxK U)
theorem cN_S {D : va_G} {cI cJ cZ : ClassId} {As : List Value} {ws : va_W} {s : State} {H : Heap} (hK : kk_K D cI cJ cZ s) (hP : va_P D vwCl ws H) : PreS s H (cN D cI cJ cZ As ws H.size) As := ⟨fun _ U _ _ q => ⟨q.1, q.2.1, q.2.2.1, kk_K.same (s := U) rfl q.2.2.2⟩, fun U hU hW => ⟨rfl, by rw [hU], by rw [hU]; exact hP, hK.warm hW⟩⟩
theorem cNx_S {D : va_G} {cI cJ cZ : ClassId} {As : List Value} {ws : va_W} {s : State} {H : Heap} (hK : kk_K D cI cJ cZ s) (hn : nxK s) (hP : va_P D vwCl ws H) : PreS s H (cNx D cI cJ cZ As ws H.size) As := ⟨fun _ U _ _ q => ⟨q.1, q.2.1, q.2.2.1, kk_K.same (s := U) rfl q.2.2.2.1, nxK.same (s := U) rfl q.2.2.2.2⟩, fun U hU hW => ⟨rfl, by rw [hU], by rw [hU]; exact hP, hK.warm hW, hn.warm hW⟩⟩
theorem va_D1 {A : Nat → Prop} {a : Nat} {x : va_E} (h : A a) : va_D A [(a, x)] := by
  have key : ∀ (k : Nat) (q : Nat × va_E), [(a, x)][k]? = some q → k = 0 ∧ q = (a, x) := by
    intro k q hk
    have hz : k < 1 := (List.getElem?_eq_some_iff.mp hk).1
    have h0 : k = 0 := by omega
    subst h0
    cases hk
    exact ⟨rfl, rfl⟩
  refine ⟨fun i j u v hi hj _ => ?_, fun k q hk => ?_⟩
  · rw [(key i u hi).1, (key j v hj).1]
  · rw [(key k q hk).2]; exact h
theorem D_nd {A : Nat → Prop} {ws : va_W} (h : va_D A ws) : (ws.map Prod.fst).Nodup := by
  refine List.pairwise_iff_getElem.mpr (fun i j hi hj hij e0 => ?_)
  rw [List.length_map] at hi hj
  rw [List.getElem_map, List.getElem_map] at e0
  have := h.1 i j ws[i] ws[j] (List.getElem?_eq_getElem hi) (List.getElem?_eq_getElem hj) e0
  omega
theorem cb_le {N k : Nat} (h : k ≤ 8) (hN : N ≤ 2000) : N * k ≤ 536870912 := Nat.le_trans (Nat.mul_le_mul hN h) (Nat.le_of_ble_eq_true rfl)
section XN
variable {p : Program} {l : Launch} {e : Env} {R : Room} {s : State} {m : MethodId} {args : Array Value} {below : List Frame} {meth : Method} {c : Code} {H : Heap} {locs : List Loc} {cells slots : Nat} {Q : State → Prop}
variable {cc : ByteArray} {pc : Nat} {ls : Array Slot} {rest st0 : List Value} {D : va_G} {cl : List vw_C} {A : Nat → Prop} {ws : va_W} {H0 : Heap} {cI cJ cZ : ClassId}
theorem arrcls {tys : List (ClassId × FieldType)} {cA cT : ClassId} {ty : FieldType} {t0 : Nat} (h0 : va_K D cl tys s) (h : va_K D cl (tys ++ [(cA, ty)]) s) (ht : tys[t0]? = some (cT, ty)) (hp : ty = .int ∨ ty = .long ∨ ty = .boolean) : cA = cT := by
  have h1 := (h0.2 t0 _ ht).2
  have h2 := (h.2 tys.length (cA, ty) (by rw [List.getElem?_append_right (Nat.le_refl _), Nat.sub_self]; rfl)).2
  rcases hp with rfl | rfl | rfl
  · exact Option.some.inj (h2.symm.trans h1)
  · exact Option.some.inj (h2.symm.trans h1)
  · exact Option.some.inj (h2.symm.trans h1)
theorem x_newI (hx : p.tables.exec = Jvm.exec) (hb : c.code = cc) (harr : (Cond.arrayClass .int).before args s = true) (hK : va_K D cl (tysA cI cJ cZ) s) (hP : va_P D cl ws H) (hD : va_D A ws) (hS : va_S A H0 H locs) (hA : ∀ q, H0.size ≤ q → A q) {N c1 s1 : Nat} (hN : N ≤ 2000) (hc : cells + 1 = c1) (hs : slots + N = s1) (hcR : c1 ≤ R.cells) (hsR : s1 ≤ R.slots) (hdg : decode cc pc = .ok (.newarray .int, 2))
    (kk : ∀ (q : Nat) (H1 : Heap), va_P D cl (ws ++ [(q, .inl (cI, N, .inl (fN fz)))]) H1 → va_D A (ws ++ [(q, .inl (cI, N, .inl (fN fz)))]) → va_S A H0 H1 locs → W p l e R s m args below meth c H1 locs c1 s1 Q (F0 m (pc + 2) ls (.ref q :: rest))) : W p l e R s m args below meth c H locs cells slots Q (F0 m pc ls (.int (nI N) :: rest)) := by
  subst hc; subst hs
  refine va_newa (atype := .int) (ty := .int) (N' := N) (a0 := (N, .inl (fN fz))) hx hb harr rfl hK hP hD hS hA (fun cA => by rw [vp_cell_i]; rfl) (nI_pos (by omega)) (nI_clamp (by omega)) (cb_le (show componentBytes .int ≤ 8 from Nat.le_of_ble_eq_true rfl) hN) hcR hsR hdg (fun q cA H1 hK1 hP1 hD1 hS1 => ?_)
  have hcc := arrcls (t0 := 0) hK hK1 rfl (Or.inl rfl)
  subst hcc
  exact kk q H1 hP1 hD1 hS1
theorem x_newJ (hx : p.tables.exec = Jvm.exec) (hb : c.code = cc) (harr : (Cond.arrayClass .long).before args s = true) (hK : va_K D cl (tysA cI cJ cZ) s) (hP : va_P D cl ws H) (hD : va_D A ws) (hS : va_S A H0 H locs) (hA : ∀ q, H0.size ≤ q → A q) {N c1 s1 : Nat} (hN : N ≤ 2000) (hc : cells + 1 = c1) (hs : slots + N = s1) (hcR : c1 ≤ R.cells) (hsR : s1 ≤ R.slots) (hdg : decode cc pc = .ok (.newarray .long, 2))
    (kk : ∀ (q : Nat) (H1 : Heap), va_P D cl (ws ++ [(q, .inl (cJ, N, .inr (.inl (fL fz))))]) H1 → va_D A (ws ++ [(q, .inl (cJ, N, .inr (.inl (fL fz))))]) → va_S A H0 H1 locs → W p l e R s m args below meth c H1 locs c1 s1 Q (F0 m (pc + 2) ls (.ref q :: rest))) : W p l e R s m args below meth c H locs cells slots Q (F0 m pc ls (.int (nI N) :: rest)) := by
  subst hc; subst hs
  refine va_newa (atype := .long) (ty := .long) (N' := N) (a0 := (N, .inr (.inl (fL fz)))) hx hb harr rfl hK hP hD hS hA (fun cA => by rw [vp_cell_l]; rfl) (nI_pos (by omega)) (nI_clamp (by omega)) (cb_le (show componentBytes .long ≤ 8 from Nat.le_of_ble_eq_true rfl) hN) hcR hsR hdg (fun q cA H1 hK1 hP1 hD1 hS1 => ?_)
  have hcc := arrcls (t0 := 1) hK hK1 rfl (Or.inr (Or.inl rfl))
  subst hcc
  exact kk q H1 hP1 hD1 hS1
theorem x_newZ (hx : p.tables.exec = Jvm.exec) (hb : c.code = cc) (harr : (Cond.arrayClass .boolean).before args s = true) (hK : va_K D cl (tysA cI cJ cZ) s) (hP : va_P D cl ws H) (hD : va_D A ws) (hS : va_S A H0 H locs) (hA : ∀ q, H0.size ≤ q → A q) {N c1 s1 : Nat} (hN : N ≤ 2000) (hc : cells + 1 = c1) (hs : slots + N = s1) (hcR : c1 ≤ R.cells) (hsR : s1 ≤ R.slots) (hdg : decode cc pc = .ok (.newarray .boolean, 2))
    (kk : ∀ (q : Nat) (H1 : Heap), va_P D cl (ws ++ [(q, .inl (cZ, N, .inl (fB fzB)))]) H1 → va_D A (ws ++ [(q, .inl (cZ, N, .inl (fB fzB)))]) → va_S A H0 H1 locs → W p l e R s m args below meth c H1 locs c1 s1 Q (F0 m (pc + 2) ls (.ref q :: rest))) : W p l e R s m args below meth c H locs cells slots Q (F0 m pc ls (.int (nI N) :: rest)) := by
  subst hc; subst hs
  refine va_newa (atype := .boolean) (ty := .boolean) (N' := N) (a0 := (N, .inl (fB fzB))) hx hb harr rfl hK hP hD hS hA (fun cA => by rw [vp_cell_i]; rfl) (nI_pos (by omega)) (nI_clamp (by omega)) (cb_le (show componentBytes .boolean ≤ 8 from Nat.le_of_ble_eq_true rfl) hN) hcR hsR hdg (fun q cA H1 hK1 hP1 hD1 hS1 => ?_)
  have hcc := arrcls (t0 := 2) hK hK1 rfl (Or.inr (Or.inr rfl))
  subst hcc
  exact kk q H1 hP1 hD1 hS1
theorem mc_n {mc ms c1 s1 : Nat} {post : Heap → Prop} {wc : va_W} {a : Array Value} {A0 : Nat → Prop} (hr : va_Run p l e R s m args below meth c H locs cells slots mc ms (F0 m pc ls st0) rest (va_Qv post mB (va_A wc H.size) a) (va_A wc H.size)) (hc : cells + mc = c1) (hs : slots + ms = s1) (hS : va_S A0 H0 H locs) (hF : ∀ q, va_A wc H.size q → A0 q)
    (kk : ∀ (H1 : Heap) (locs1 : List Loc), post H1 → (∀ q : Nat, q < H.size → ¬ va_A wc H.size q → H1[q]? = H[q]?) → va_S A0 H0 H1 locs1 → W p l e R s m args below meth c H1 locs1 c1 s1 Q (F0 m (pc + 3) ls rest)) : W p l e R s m args below meth c H locs cells slots Q (F0 m pc ls st0) := by
  subst hc; subst hs
  exact va_callv hr hS (fun q _ h => hF q h) hF (fun u t H1 locs1 ht _ hp hB _ hk hS1 => by
    have e : H1 = u := ht.symm.trans hB
    subst e
    exact kk H1 locs1 hp hk hS1)
end XN
