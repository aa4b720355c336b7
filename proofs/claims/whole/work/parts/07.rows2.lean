/-! arrays of numbers, as the walks hold them -/
def fN (g : Nat → Nat) : Nat → Int32 := fun x => nI (g x)
def fL (g : Nat → Nat) : Nat → Int64 := fun x => lN (g x)
def fB (g : Nat → Bool) : Nat → Int32 := fun x => nI (g x).toNat
theorem fN_up (g : Nat → Nat) (j v : Nat) : upd (fN g) j (nI v) = fN (va_up g j v) := by
  funext x
  unfold upd fN va_up
  split <;> rfl
theorem fL_up (g : Nat → Nat) (j v : Nat) : vp_updL (fL g) j (lN v) = fL (va_up g j v) := by
  funext x
  unfold vp_updL fL va_up
  split <;> rfl
theorem narB (b : Bool) : narrow .boolean (.int (nI b.toNat)) = .int (nI b.toNat) := by cases b <;> rfl
theorem nar0 (b : Bool) : vp_nar .boolean (nI b.toNat) = nI b.toNat := by cases b <;> rfl
theorem fB_up (g : Nat → Bool) (j : Nat) (v : Bool) : upd (fB g) j (vp_nar .boolean (nI v.toNat)) = fB (va_up g j v) := by
  funext x
  rw [nar0]
  unfold upd fB va_up
  split <;> rfl
theorem bt31 (b : Bool) : b.toNat < 2 ^ 31 := by cases b <;> decide
theorem lN_ne0 {a : Nat} (h0 : 0 < a) (h : a < 2 ^ 63) : ¬ lN a = 0 := fun q => by
  have := (pk_lEQ h (by decide : 0 < 2 ^ 63)).mp (q.trans (rfl : (0 : Int64) = lN 0))
  omega
theorem x_inc1 (a : Nat) : nI a + Int32.ofInt 1 = nI (a + 1) := nI_1 a
theorem x_inc4 (a : Nat) : nI a + Int32.ofInt 4 = nI (a + 4) := nI_add a 4
theorem x_dec1 {a : Nat} (h : 0 < a) : nI a + Int32.ofInt (-1) = nI (a - 1) := by
  obtain ⟨b, rfl⟩ : ∃ b, a = b + 1 := ⟨a - 1, by omega⟩
  exact pk_m1 b
theorem tsw_out {x : Int32} (n : Nat) (h : ∀ j : Nat, j ≤ n → ¬ x = nI j) : x.toInt < 0 ∨ (n : Int) < x.toInt := by
  rcases Int.lt_or_le x.toInt 0 with q | q
  · exact Or.inl q
  · rcases Int.lt_or_le (n : Int) x.toInt with q2 | q2
    · exact Or.inr q2
    · obtain ⟨j, hj, e⟩ := inR_nat (x := x) (n := n) (by simp [inR, q, q2])
      exact absurd e (h j hj)
theorem aA_sub {l l' : List Nat} (is : List Nat) (hs : is.map (fun i => l[i]?) = l'.map some) : ∀ q ∈ l', aA l q := by
  intro q hq
  obtain ⟨k, hk⟩ := List.getElem?_of_mem hq
  have h1 : (is.map (fun i => l[i]?))[k]? = some (some q) := by rw [hs, List.getElem?_map, hk]; rfl
  rw [List.getElem?_map] at h1
  cases hx : is[k]? with
  | none => rw [hx] at h1; cases h1
  | some x => rw [hx] at h1; exact List.mem_of_getElem? (Option.some.inj h1)
theorem maxI {a b : Nat} (ha : a < 2 ^ 31) (hb : b < 2 ^ 31) : (if nI a < nI b then nI b else nI a) = nI (max a b) := by
  by_cases h : a < b
  · rw [if_pos ((nI_ltI ha hb).mpr h), Nat.max_eq_right (by omega)]
  · rw [if_neg (fun q => h ((nI_ltI ha hb).mp q)), Nat.max_eq_left (by omega)]
theorem minI {a b : Nat} (ha : a < 2 ^ 31) (hb : b < 2 ^ 31) : (if nI b < nI a then nI b else nI a) = nI (min a b) := by
  by_cases h : b < a
  · rw [if_pos ((nI_ltI hb ha).mpr h), Nat.min_eq_right (by omega)]
  · rw [if_neg (fun q => h ((nI_ltI hb ha).mp q)), Nat.min_eq_left (by omega)]
theorem maxJ {a b : Nat} (ha : a < 2 ^ 63) (hb : b < 2 ^ 63) : (if lN b < lN a then lN a else lN b) = lN (max a b) := by
  by_cases h : b < a
  · rw [if_pos ((pk_lLT hb ha).mpr h), Nat.max_eq_left (by omega)]
  · rw [if_neg (fun q => h ((pk_lLT hb ha).mp q)), Nat.max_eq_right (by omega)]
section XR2
variable {p : Program} {l : Launch} {e : Env} {R : Room} {s : State} {m : MethodId} {args : Array Value} {below : List Frame} {meth : Method} {c : Code} {H : Heap} {locs : List Loc} {cells slots : Nat} {Q : State → Prop}
variable {cc : ByteArray} {pc : Nat} {ls : Array Slot} {rest : List Value}
theorem x_max (hx : p.tables.exec = Jvm.exec) (hb : c.code = cc) (hml : c.maxLocals = ls.size) {own : String} {index : Nat} (hown : s.vm.findClass own = some m.cls) (hlink : (Cond.methodLink own index Lib.Math.max.name).before args s = true) (hstat : (Cond.static Lib.Math.max.name).before args s = true) (hini : (Cond.initialized "java/lang/Math").before args s = true) (hcode : (Cond.code Lib.Math.max.name Lib.Math.max.code 2 (some .int)).before args s = true)
    (hframes : 1 ≤ R.frames) (hlocals : (rest.map fun v => v.category).sum + 13 ≤ R.locals) (hc : cells ≤ R.cells) (hs : slots ≤ R.slots) {a b : Nat} (ha : a < 2 ^ 31) (hq : b < 2 ^ 31) (hdg : decode cc pc = .ok (.invokestatic index, 3))
    (k : W p l e R s m args below meth c H locs cells slots Q (F0 m (pc + 3) ls (.int (nI (max a b)) :: rest))) : W p l e R s m args below meth c H locs cells slots Q (F0 m pc ls (.int (nI b) :: .int (nI a) :: rest)) :=
  va_mmax hx hb hml hown hlink hstat hini hcode hframes hlocals hc hs hdg (by rw [maxI ha hq]; exact k)
theorem x_min (hx : p.tables.exec = Jvm.exec) (hb : c.code = cc) (hml : c.maxLocals = ls.size) {own : String} {index : Nat} (hown : s.vm.findClass own = some m.cls) (hlink : (Cond.methodLink own index Lib.Math.min.name).before args s = true) (hstat : (Cond.static Lib.Math.min.name).before args s = true) (hini : (Cond.initialized "java/lang/Math").before args s = true) (hcode : (Cond.code Lib.Math.min.name Lib.Math.min.code 2 (some .int)).before args s = true)
    (hframes : 1 ≤ R.frames) (hlocals : (rest.map fun v => v.category).sum + 13 ≤ R.locals) (hc : cells ≤ R.cells) (hs : slots ≤ R.slots) {a b : Nat} (ha : a < 2 ^ 31) (hq : b < 2 ^ 31) (hdg : decode cc pc = .ok (.invokestatic index, 3))
    (k : W p l e R s m args below meth c H locs cells slots Q (F0 m (pc + 3) ls (.int (nI (min a b)) :: rest))) : W p l e R s m args below meth c H locs cells slots Q (F0 m pc ls (.int (nI b) :: .int (nI a) :: rest)) :=
  va_mmin hx hb hml hown hlink hstat hini hcode hframes hlocals hc hs hdg (by rw [minI ha hq]; exact k)
theorem x_maxL (hx : p.tables.exec = Jvm.exec) (hb : c.code = cc) (hml : c.maxLocals = ls.size) {own : String} {index : Nat} (hown : s.vm.findClass own = some m.cls) (hlink : (Cond.methodLink own index Lib.MathLoose.max_long.x).before args s = true) (hstat : (Cond.static Lib.MathLoose.max_long.x).before args s = true) (hini : (Cond.initialized "java/lang/Math").before args s = true) (hcode : (Cond.code Lib.MathLoose.max_long.x Lib.MathLoose.max_long.code 4 (some .long)).before args s = true)
    (hframes : 1 ≤ R.frames) (hlocals : (rest.map fun v => v.category).sum + 15 ≤ R.locals) (hc : cells ≤ R.cells) (hs : slots ≤ R.slots) {a b : Nat} (ha : a < 2 ^ 63) (hq : b < 2 ^ 63) (hdg : decode cc pc = .ok (.invokestatic index, 3))
    (k : W p l e R s m args below meth c H locs cells slots Q (F0 m (pc + 3) ls (.long (lN (max a b)) :: rest))) : W p l e R s m args below meth c H locs cells slots Q (F0 m pc ls (.long (lN b) :: .long (lN a) :: rest)) :=
  va_mmax_long hx hb hml hown hlink hstat hini hcode hframes hlocals hc hs hdg (by rw [maxJ ha hq]; exact k)
variable {D : va_G} {cl : List vw_C} {A : Nat → Prop} {a : Nat} {tys : List (ClassId × FieldType)} {ws : va_W} {H0 : Heap}
theorem x_ildN (hx : p.tables.exec = Jvm.exec) (hb : c.code = cc) (hK : va_K D cl tys s) (hP : va_P D cl ws H) (q0 t0 : Nat) {cA : ClassId} {n j : Nat} {g : Nat → Nat} (ha : ws[q0]? = some (a, .inl (cA, n, .inl (fN g)))) (ht : tys[t0]? = some (cA, .int)) (hj : j < n) (hn : n < 2 ^ 31) (hdg : decode cc pc = .ok (.iaload, 1)) (k : W p l e R s m args below meth c H locs cells slots Q (F0 m (pc + 1) ls (.int (nI (g j)) :: rest))) : W p l e R s m args below meth c H locs cells slots Q (F0 m pc ls (.int (nI j) :: .ref a :: rest)) := x_ild hx hb hK hP q0 t0 ha ht hj hn hdg k
theorem x_lldL (hx : p.tables.exec = Jvm.exec) (hb : c.code = cc) (hK : va_K D cl tys s) (hP : va_P D cl ws H) (q0 t0 : Nat) {cA : ClassId} {n j : Nat} {g : Nat → Nat} (ha : ws[q0]? = some (a, .inl (cA, n, .inr (.inl (fL g))))) (ht : tys[t0]? = some (cA, .long)) (hj : j < n) (hn : n < 2 ^ 31) (hdg : decode cc pc = .ok (.laload, 1)) (k : W p l e R s m args below meth c H locs cells slots Q (F0 m (pc + 1) ls (.long (lN (g j)) :: rest))) : W p l e R s m args below meth c H locs cells slots Q (F0 m pc ls (.int (nI j) :: .ref a :: rest)) := x_lld hx hb hK hP q0 t0 ha ht hj hn hdg k
theorem x_zldB (hx : p.tables.exec = Jvm.exec) (hb : c.code = cc) (hK : va_K D cl tys s) (hP : va_P D cl ws H) (q0 t0 : Nat) {cA : ClassId} {n j : Nat} {g : Nat → Bool} (ha : ws[q0]? = some (a, .inl (cA, n, .inl (fB g)))) (ht : tys[t0]? = some (cA, .boolean)) (hj : j < n) (hn : n < 2 ^ 31) (hdg : decode cc pc = .ok (.baload, 1)) (k : W p l e R s m args below meth c H locs cells slots Q (F0 m (pc + 1) ls (.int (nI (g j).toNat) :: rest))) : W p l e R s m args below meth c H locs cells slots Q (F0 m pc ls (.int (nI j) :: .ref a :: rest)) := x_zld hx hb hK hP q0 t0 ha ht hj hn hdg k
theorem x_istN (hx : p.tables.exec = Jvm.exec) (hb : c.code = cc) (hK : va_K D cl tys s) (hP : va_P D cl ws H) (hD : va_D A ws) (hS : va_S A H0 H locs) (q0 t0 : Nat) {cA : ClassId} {n j v : Nat} {g : Nat → Nat} (ha : ws[q0]? = some (a, .inl (cA, n, .inl (fN g)))) (ht : tys[t0]? = some (cA, .int)) (hj : j < n) (hn : n < 2 ^ 31) (hdg : decode cc pc = .ok (.iastore, 1)) (kk : ∀ (H1 : Heap) (locs1 : List Loc), va_P D cl (ws.set q0 (a, .inl (cA, n, .inl (fN (va_up g j v))))) H1 → va_D A (ws.set q0 (a, .inl (cA, n, .inl (fN (va_up g j v))))) → va_S A H0 H1 locs1 → W p l e R s m args below meth c H1 locs1 cells slots Q (F0 m (pc + 1) ls rest)) : W p l e R s m args below meth c H locs cells slots Q (F0 m pc ls (.int (nI v) :: .int (nI j) :: .ref a :: rest)) := by
  refine x_ist hx hb hK hP hD hS q0 t0 ha ht hj hn hdg ?_
  rw [fN_up]
  exact kk
theorem x_lstL (hx : p.tables.exec = Jvm.exec) (hb : c.code = cc) (hK : va_K D cl tys s) (hP : va_P D cl ws H) (hD : va_D A ws) (hS : va_S A H0 H locs) (q0 t0 : Nat) {cA : ClassId} {n j v : Nat} {g : Nat → Nat} (ha : ws[q0]? = some (a, .inl (cA, n, .inr (.inl (fL g))))) (ht : tys[t0]? = some (cA, .long)) (hj : j < n) (hn : n < 2 ^ 31) (hdg : decode cc pc = .ok (.lastore, 1)) (kk : ∀ (H1 : Heap) (locs1 : List Loc), va_P D cl (ws.set q0 (a, .inl (cA, n, .inr (.inl (fL (va_up g j v)))))) H1 → va_D A (ws.set q0 (a, .inl (cA, n, .inr (.inl (fL (va_up g j v)))))) → va_S A H0 H1 locs1 → W p l e R s m args below meth c H1 locs1 cells slots Q (F0 m (pc + 1) ls rest)) : W p l e R s m args below meth c H locs cells slots Q (F0 m pc ls (.long (lN v) :: .int (nI j) :: .ref a :: rest)) := by
  refine x_lst hx hb hK hP hD hS q0 t0 ha ht hj hn hdg ?_
  rw [fL_up]
  exact kk
theorem x_zstB (hx : p.tables.exec = Jvm.exec) (hb : c.code = cc) (hK : va_K D cl tys s) (hP : va_P D cl ws H) (hD : va_D A ws) (hS : va_S A H0 H locs) (q0 t0 : Nat) {cA : ClassId} {n j : Nat} {v : Bool} {g : Nat → Bool} (ha : ws[q0]? = some (a, .inl (cA, n, .inl (fB g)))) (ht : tys[t0]? = some (cA, .boolean)) (hj : j < n) (hn : n < 2 ^ 31) (hdg : decode cc pc = .ok (.bastore, 1)) (kk : ∀ (H1 : Heap) (locs1 : List Loc), va_P D cl (ws.set q0 (a, .inl (cA, n, .inl (fB (va_up g j v))))) H1 → va_D A (ws.set q0 (a, .inl (cA, n, .inl (fB (va_up g j v))))) → va_S A H0 H1 locs1 → W p l e R s m args below meth c H1 locs1 cells slots Q (F0 m (pc + 1) ls rest)) : W p l e R s m args below meth c H locs cells slots Q (F0 m pc ls (.int (nI v.toNat) :: .int (nI j) :: .ref a :: rest)) := by
  refine x_zst hx hb hK hP hD hS q0 t0 ha ht hj hn hdg ?_
  rw [fB_up]
  exact kk
end XR2
