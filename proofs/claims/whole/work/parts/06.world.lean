/-! what every method takes as given of the tables; its start, its end, its calls -/
abbrev tysA (cI cJ cZ : ClassId) : List (ClassId × FieldType) := [(cI, .int), (cJ, .long), (cZ, .boolean)]
def kk_K (D : va_G) (cI cJ cZ : ClassId) (U : State) : Prop := va_K D vwCl (tysA cI cJ cZ) U ∧ va_Nw (.methodLinkNest RX1 30 yX6_has RX6) U ∧ va_Nw (.methodLinkNest RX2 51 yX6_has RX6) U ∧ va_Nw (.methodLinkNest RX5 15 yX6_has RX6) U
theorem kk_K.warm {D : va_G} {cI cJ cZ : ClassId} {s U : State} (hW : s.WarmedH U.vm) (h : kk_K D cI cJ cZ s) : kk_K D cI cJ cZ U := ⟨va_K.moved hW.alike h.1, va_Nw.warmM hW h.2.1, va_Nw.warmM hW h.2.2.1, va_Nw.warmM hW h.2.2.2⟩
theorem kk_K.same {D : va_G} {cI cJ cZ : ClassId} {s U : State} (hv : s.vm = U.vm) (h : kk_K D cI cJ cZ s) : kk_K D cI cJ cZ U := ⟨va_K.moved (by rw [hv]; exact Vm.Alike.refl _) h.1, va_Nw.same rfl hv h.2.1, va_Nw.same rfl hv h.2.2.1, va_Nw.same rfl hv h.2.2.2⟩
/-- the gaps of the sorting: a static array that nobody writes, at gb; its holder at ga -/
def gapF (j : Nat) : Value := .int (nI (if j = 0 then 57 else if j = 1 then 23 else if j = 2 then 10 else if j = 3 then 4 else 1))
def gF (ga gb : Nat) (U : State) (H : Heap) : Prop := va_Z RX2 "GAPS" "[I" (.ref gb) (fun q => q ≠ ga) U H ∧ va_T .int gb 5 gapF (fun q => q ≠ gb) U H
theorem gF.kept {ga gb : Nat} {U : State} {H H1 : Heap} (h : gF ga gb U H) (h1 : H1[ga]? = H[ga]?) (h2 : H1[gb]? = H[gb]?) : gF ga gb U H1 := ⟨h.1.kept (fun a _ ha => by rw [show a = ga from Classical.not_not.mp ha]; exact h1), h.2.kept (fun a _ ha => by rw [show a = gb from Classical.not_not.mp ha]; exact h2)⟩
theorem gF.moved {ga gb : Nat} {u U : State} {H : Heap} (hvm : u.vm.Alike U.vm) (h : gF ga gb u H) : gF ga gb U H := ⟨h.1.moved hvm, h.2.moved hvm⟩
def aA (l : List Nat) : Nat → Prop := fun q => q ∈ l
/-- a method's start: arguments, cells, tables -/
def cP (D : va_G) (cI cJ cZ : ClassId) (av : List Value) (ws : va_W) : Array Value → State → Prop := va_Pc av (fun U => va_P D vwCl ws U.heap ∧ kk_K D cI cJ cZ U)
def cG (D : va_G) (cI cJ cZ : ClassId) (ga gb : Nat) (av : List Value) (ws : va_W) : Array Value → State → Prop := va_Pc av (fun U => va_P D vwCl ws U.heap ∧ kk_K D cI cJ cZ U ∧ gF ga gb U U.heap)
theorem cP_blind {D : va_G} {cI cJ cZ : ClassId} {av : List Value} {ws : va_W} : FrameBlind (cP D cI cJ cZ av ws) := fun _ U _ _ q => ⟨q.1, q.2.1, kk_K.same (s := U) rfl q.2.2⟩
theorem cG_blind {D : va_G} {cI cJ cZ : ClassId} {ga gb : Nat} {av : List Value} {ws : va_W} : FrameBlind (cG D cI cJ cZ ga gb av ws) := fun _ U _ _ q => ⟨q.1, q.2.1, kk_K.same (s := U) rfl q.2.2.1, q.2.2.2.moved (u := U) (Vm.Alike.refl U.vm)⟩
theorem cP_S {D : va_G} {cI cJ cZ : ClassId} {As : List Value} {ws : va_W} {s : State} {H : Heap} (hK : kk_K D cI cJ cZ s) (hP : va_P D vwCl ws H) : PreS s H (cP D cI cJ cZ As ws) As := ⟨cP_blind, fun U hU hW => ⟨rfl, by rw [hU]; exact hP, hK.warm hW⟩⟩
theorem cP_V {D : va_G} {cI cJ cZ : ClassId} {As : List Value} {ws : va_W} {s : State} {H : Heap} {b q0 ci : Nat} {q : vw_C} {fs : List Value} (hK : kk_K D cI cJ cZ s) (hP : va_P D vwCl ws H) (hc : vwCl[ci]? = some q) (he : ws[q0]? = some (b, .inr (ci, fs))) : PreV s H q.1 b (cP D cI cJ cZ (.ref b :: As) ws) As := ⟨cP_blind, va_recv hK.1 hP hc he, fun U hU hW => ⟨rfl, by rw [hU]; exact hP, hK.warm hW⟩⟩
theorem cG_V {D : va_G} {cI cJ cZ : ClassId} {ga gb : Nat} {As : List Value} {ws : va_W} {s : State} {H : Heap} {b q0 ci : Nat} {q : vw_C} {fs : List Value} (hK : kk_K D cI cJ cZ s) (hP : va_P D vwCl ws H) (hG : gF ga gb s H) (hc : vwCl[ci]? = some q) (he : ws[q0]? = some (b, .inr (ci, fs))) : PreV s H q.1 b (cG D cI cJ cZ ga gb (.ref b :: As) ws) As := ⟨cG_blind, va_recv hK.1 hP hc he, fun U hU hW => ⟨rfl, by rw [hU]; exact hP, hK.warm hW, by rw [hU]; exact hG.moved hW.alike⟩⟩
theorem gF.now {ga gb : Nat} {s : State} {A : Nat → Prop} {H : Heap} {locs : List Loc} (h : gF ga gb s s.heap) (hS : va_S A s.heap H locs) (h1 : ¬ A ga) (h2 : ¬ A gb) : gF ga gb s H := by
  obtain ⟨cf, kf, fi, f, a, cell, x1, x2, x3, x4, x5, x6, x7, x8⟩ := h.1
  have ha : a = ga := Classical.not_not.mp x8
  obtain ⟨c2, y1, y2⟩ := h.2
  refine h.kept (hS.2.1 ga ?_ h1) (hS.2.1 gb (Array.getElem?_eq_some_iff.mp y1).1 h2)
  rw [← ha]
  exact (Array.getElem?_eq_some_iff.mp x5).1
/-- a changing method's end: 'post answer heap', and nothing changed but the cells of l -/
def mB (u : Heap) (t : State) : Prop := t.heap = u
theorem nd_D {l : List Nat} (hN : l.Nodup) {ws : va_W} (h : ws.map Prod.fst = l) : va_D (aA l) ws := by
  subst h
  refine ⟨fun i j x y hi hj hxy => ?_, fun k q hk => List.mem_map_of_mem (List.mem_of_getElem? hk)⟩
  have h1 : (ws.map Prod.fst)[i]? = some x.1 := by rw [List.getElem?_map, hi]; rfl
  have h2 : (ws.map Prod.fst)[j]? = some x.1 := by rw [List.getElem?_map, hj, hxy]; rfl
  obtain ⟨l1, e1⟩ := List.getElem?_eq_some_iff.mp h1
  obtain ⟨l2, e2⟩ := List.getElem?_eq_some_iff.mp h2
  exact (List.getElem_inj hN).mp (e1.trans e2.symm)
theorem nd_sub {l l' : List Nat} (hN : l.Nodup) (is : List Nat) (hn : va_nd is = true) (hs : is.map (fun i => l[i]?) = l'.map some) : l'.Nodup := by
  have key : ∀ k, k < l'.length → ∃ x, is[k]? = some x ∧ l[x]? = l'[k]? := by
    intro k hk
    have h1 : (is.map (fun i => l[i]?))[k]? = some l'[k]? := by rw [hs, List.getElem?_map, List.getElem?_eq_getElem hk]; rfl
    rw [List.getElem?_map] at h1
    cases hx : is[k]? with
    | none => rw [hx] at h1; cases h1
    | some x => rw [hx] at h1; exact ⟨x, rfl, Option.some.inj h1⟩
  refine List.pairwise_iff_getElem.mpr (fun i j hi hj hij e0 => ?_)
  obtain ⟨x, hx, hx2⟩ := key i hi
  obtain ⟨y, hy, hy2⟩ := key j hj
  have e : l[x]? = l[y]? := by rw [hx2, hy2, List.getElem?_eq_getElem hi, List.getElem?_eq_getElem hj, e0]
  have hyl : l[y]? = some l'[j] := by rw [hy2, List.getElem?_eq_getElem hj]
  obtain ⟨l1, -⟩ := List.getElem?_eq_some_iff.mp hyl
  obtain ⟨l2, -⟩ := List.getElem?_eq_some_iff.mp (e.trans hyl)
  have hxy : x = y := by
    rw [List.getElem?_eq_getElem l2, List.getElem?_eq_getElem l1] at e
    exact (List.getElem_inj hN).mp (Option.some.inj e)
  subst hxy
  have := va_nd_inj is hn i j x hx hy
  omega
theorem va_D.re {A : Nat → Prop} {ws ws' : va_W} (hD : va_D A ws) (is : List Nat) (hn : va_nd is = true) (hs : is.map (fun i => (ws[i]?).map Prod.fst) = ws'.map (fun x => some x.1)) : va_D A ws' := by
  have key : ∀ (k : Nat) (q : Nat × va_E), ws'[k]? = some q → ∃ i q0, is[k]? = some i ∧ ws[i]? = some q0 ∧ q0.1 = q.1 := by
    intro k q hk
    have h1 : (is.map (fun i => (ws[i]?).map Prod.fst))[k]? = some (some q.1) := by rw [hs, List.getElem?_map, hk]; rfl
    rw [List.getElem?_map] at h1
    cases hi : is[k]? with
    | none => rw [hi] at h1; cases h1
    | some i =>
      rw [hi] at h1
      have h2 : (ws[i]?).map Prod.fst = some q.1 := Option.some.inj h1
      cases hw : ws[i]? with
      | none => rw [hw] at h2; cases h2
      | some q0 => rw [hw] at h2; exact ⟨i, q0, rfl, hw, Option.some.inj h2⟩
  refine ⟨fun i j x y hi hj hxy => ?_, fun k q hk => ?_⟩
  · obtain ⟨a, x0, h1, h2, h3⟩ := key i x hi
    obtain ⟨b, y0, h4, h5, h6⟩ := key j y hj
    have hab := hD.1 a b x0 y0 h2 h5 (by rw [h3, h6]; exact hxy)
    subst hab
    exact va_nd_inj is hn i j a h1 h4
  · obtain ⟨a, q0, -, h2, h3⟩ := key k q hk
    rw [← h3]
    exact hD.2 a q0 h2
/-- behind a call: the callee's cells as it left them, the others as they were -/
theorem pj {A0 : Nat → Prop} {D : va_G} {cl : List vw_C} {ws wr w1 : va_W} {lc : List Nat} {H H1 : Heap} (hP : va_P D cl ws H) (hD : va_D A0 ws) (isC isR : List Nat) (hC : isC.map (fun i => (ws[i]?).map Prod.fst) = lc.map some) (hR : isR.map (fun i => ws[i]?) = wr.map some) (hdis : ∀ i ∈ isR, i ∉ isC)
    (hk : ∀ q : Nat, q < H.size → q ∉ lc → H1[q]? = H[q]?) (hP1 : va_P D cl w1 H1) : va_P D cl (wr ++ w1) H1 := by
  refine va_P.app (fun k q hq => ?_) hP1
  have h1 : (isR.map (fun i => ws[i]?))[k]? = some (some q) := by rw [hR, List.getElem?_map, hq]; rfl
  rw [List.getElem?_map] at h1
  cases hi : isR[k]? with
  | none => rw [hi] at h1; cases h1
  | some i =>
    rw [hi] at h1
    have h2 : ws[i]? = some q := Option.some.inj h1
    refine (hP i q h2).kept (hk q.1 (hP i q h2).lt (fun hm => ?_))
    obtain ⟨j, hj⟩ := List.getElem?_of_mem hm
    have h3 : (isC.map (fun i => (ws[i]?).map Prod.fst))[j]? = some (some q.1) := by rw [hC, List.getElem?_map, hj]; rfl
    rw [List.getElem?_map] at h3
    cases hi2 : isC[j]? with
    | none => rw [hi2] at h3; cases h3
    | some i2 =>
      rw [hi2] at h3
      have h4 : (ws[i2]?).map Prod.fst = some q.1 := Option.some.inj h3
      cases hw : ws[i2]? with
      | none => rw [hw] at h4; cases h4
      | some q2 =>
        rw [hw] at h4
        have h5 : q2.1 = q.1 := Option.some.inj h4
        have := hD.1 i i2 q q2 h2 hw h5.symm
        subst this
        exact hdis i (List.mem_of_getElem? hi) (List.mem_of_getElem? hi2)
section XC
variable {p : Program} {l : Launch} {e : Env} {R : Room} {s : State} {m : MethodId} {args : Array Value} {below : List Frame} {meth : Method} {c : Code} {H : Heap} {locs : List Loc} {cells slots : Nat} {Q : State → Prop}
variable {pc : Nat} {ls : Array Slot} {rest st0 : List Value} {a : Array Value} {A0 : Nat → Prop} {H0 : Heap} {lc : List Nat}
theorem mc_i {post : Int32 → Heap → Prop} (hr : va_Run p l e R s m args below meth c H locs cells slots 0 0 (F0 m pc ls st0) rest (va_Qi post mB (aA lc) a) (aA lc)) (hS : va_S A0 H0 H locs) (hA : ∀ q ∈ lc, A0 q)
    (kk : ∀ (r : Int32) (H1 : Heap) (locs1 : List Loc), post r H1 → (∀ q : Nat, q < H.size → q ∉ lc → H1[q]? = H[q]?) → va_S A0 H0 H1 locs1 → W p l e R s m args below meth c H1 locs1 cells slots Q (F0 m (pc + 3) ls (.int r :: rest))) : W p l e R s m args below meth c H locs cells slots Q (F0 m pc ls st0) :=
  va_calli hr hS (fun q _ h => hA q h) (fun q h => hA q h) (fun r u t H1 locs1 ht _ hp hB _ hk hS1 => by
    have e : H1 = u := ht.symm.trans hB
    subst e
    exact kk r H1 locs1 hp hk hS1)
theorem mc_l {post : Int64 → Heap → Prop} (hr : va_Run p l e R s m args below meth c H locs cells slots 0 0 (F0 m pc ls st0) rest (va_Ql post mB (aA lc) a) (aA lc)) (hS : va_S A0 H0 H locs) (hA : ∀ q ∈ lc, A0 q)
    (kk : ∀ (r : Int64) (H1 : Heap) (locs1 : List Loc), post r H1 → (∀ q : Nat, q < H.size → q ∉ lc → H1[q]? = H[q]?) → va_S A0 H0 H1 locs1 → W p l e R s m args below meth c H1 locs1 cells slots Q (F0 m (pc + 3) ls (.long r :: rest))) : W p l e R s m args below meth c H locs cells slots Q (F0 m pc ls st0) :=
  va_calll hr hS (fun q _ h => hA q h) (fun q h => hA q h) (fun r u t H1 locs1 ht _ hp hB _ hk hS1 => by
    have e : H1 = u := ht.symm.trans hB
    subst e
    exact kk r H1 locs1 hp hk hS1)
theorem mc_v {post : Heap → Prop} (hr : va_Run p l e R s m args below meth c H locs cells slots 0 0 (F0 m pc ls st0) rest (va_Qv post mB (aA lc) a) (aA lc)) (hS : va_S A0 H0 H locs) (hA : ∀ q ∈ lc, A0 q)
    (kk : ∀ (H1 : Heap) (locs1 : List Loc), post H1 → (∀ q : Nat, q < H.size → q ∉ lc → H1[q]? = H[q]?) → va_S A0 H0 H1 locs1 → W p l e R s m args below meth c H1 locs1 cells slots Q (F0 m (pc + 3) ls rest)) : W p l e R s m args below meth c H locs cells slots Q (F0 m pc ls st0) :=
  va_callv hr hS (fun q _ h => hA q h) (fun q h => hA q h) (fun u t H1 locs1 ht _ hp hB _ hk hS1 => by
    have e : H1 = u := ht.symm.trans hB
    subst e
    exact kk H1 locs1 hp hk hS1)
/-- a call that changes cells and hands back the cell b -/
def mR (b : Nat) (u : Heap) (q : Nat) (t : State) : Prop := q = b ∧ t.heap = u
theorem mc_r {post : Heap → Prop} {b : Nat} (hr : va_Run p l e R s m args below meth c H locs cells slots 0 0 (F0 m pc ls st0) rest (va_Qr post (mR b) (aA lc) a) (aA lc)) (hS : va_S A0 H0 H locs) (hA : ∀ q ∈ lc, A0 q)
    (kk : ∀ (H1 : Heap) (locs1 : List Loc), post H1 → (∀ q : Nat, q < H.size → q ∉ lc → H1[q]? = H[q]?) → va_S A0 H0 H1 locs1 → W p l e R s m args below meth c H1 locs1 cells slots Q (F0 m (pc + 3) ls (.ref b :: rest))) : W p l e R s m args below meth c H locs cells slots Q (F0 m pc ls st0) :=
  va_callr hr hS (fun q _ h => hA q h) (fun q h => hA q h) (fun u ra t H1 locs1 ht _ hp hB _ hk hS1 => by
    obtain ⟨hb, hB⟩ := hB
    have e : H1 = u := ht.symm.trans hB
    subst e
    subst hb
    exact kk H1 locs1 hp hk hS1)
/-- the top of the stack by another name -/
theorem x_top {x y : Int32} (h : x = y) (k : W p l e R s m args below meth c H locs cells slots Q (F0 m pc ls (.int y :: rest))) : W p l e R s m args below meth c H locs cells slots Q (F0 m pc ls (.int x :: rest)) := by subst h; exact k
theorem x_topL {x y : Int64} (h : x = y) (k : W p l e R s m args below meth c H locs cells slots Q (F0 m pc ls (.long y :: rest))) : W p l e R s m args below meth c H locs cells slots Q (F0 m pc ls (.long x :: rest)) := by subst h; exact k
end XC
