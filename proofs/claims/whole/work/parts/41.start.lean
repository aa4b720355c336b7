set_option maxHeartbeats 4000000 in
theorem law_loop {p : Program} {l : Launch} {e : Env} {s : State} {m : MethodId} {below : List Frame} {meth : Method} {c : Code} {b L : Nat} {xs : Nat → Int32} {D : va_G} {cI cJ cZ : ClassId} {ga gb : Nat} {fa ra : List Nat} {ox oy : Nat} {cells slots : Nat} (C : lwC p s m meth c b L xs D cI cJ cZ ga gb) (hN : lwN fa ra s.heap.size) (hc : cells ≤ 600000) (hs0 : slots ≤ 7302250) : ∀ (n i : Nat) (Z : Zt) (H : Heap) (locs : List Loc) (ls : Array Slot), i ≤ L → L + 1 ≤ i + n → XO D cI cJ cZ fa ox Z H → MO D cI cJ cZ ra oy Z H → va_S (AN s) s.heap H locs → lv_has ls 4 [(0, .ref b), (1, .ref ox), (2, .ref oy), (3, .int (nI i))] → W p l e room_1 s m #[Value.ref b] below meth c H locs cells slots (lw_Z below #[Value.ref b] s) (F0 m 18 ls []) := by
  obtain ⟨hx, hb, hml, hown, hts, hK, hG, hga, hgb, hXs, hbl, hL, hr, hlocks⟩ := id C
  have hbA : ¬ AN s b := Nat.not_le.mpr hbl
  intro n
  induction n with
  | zero =>
    intro i Z H locs ls h1 h2
    exact absurd h2 (by omega)
  | succ n ih =>
    intro i Z H locs ls hi hin hX hM hS hl
    refine lv_iload_n hx hb dL_law_18 rfl (lv_at hl 3 rfl) ?_
    refine lv_aload_n hx hb dL_law_19 rfl (lv_at hl 0 rfl) ?_
    refine va_slen hx hb hXs hbl hbA hS dL_law_20 ?_
    refine lv_iconst (v := nI 4) hx hb dL_law_21 (by decide) ?_
    refine x_isub (x := nI L) (z := nI L - nI 4) hx hb dL_law_22 rfl ?_
    refine lv_icmp_gt (x := nI i) (y := nI L - nI 4) (tgt := 752) hx hb dL_law_23 (by decide) (fun c0 => ?_) (fun c0 => ?_)
    · refine lv_iconst (v := 1) hx hb dL_law_752 (by decide) ?_
      refine va_forget (fun q hq => hS.2.2 q hq) ?_
      refine W.widen (k := 600000) (n := 7302250) hc hs0 ?_
      exact lw_ret hx hb hr hlocks dL_law_753
    · have hi4 : i + 4 ≤ L := ge4 hi hL c0
      have go : ∀ (Z1 : Zt) (H1 : Heap) (locs1 : List Loc), XO D cI cJ cZ fa ox Z1 H1 → MO D cI cJ cZ ra oy Z1 H1 → va_S (AN s) s.heap H1 locs1 → W p l e room_1 s m #[Value.ref b] below meth c H1 locs1 cells slots (lw_Z below #[Value.ref b] s) (F0 m 746 ls []) := by
        intro Z1 H1 locs1 hX1 hM1 hS1
        refine lv_iinc (v := nI (i + 4)) (lv' := [(3, .int (nI (i + 4))), (0, .ref b), (1, .ref ox), (2, .ref oy)]) hx hb dL_law_746 hl (k := 3) rfl (nI_add i 4) (by decide) rfl (fun ls hl => ?_)
        refine lv_goto (tgt := 18) hx hb dL_law_749 (by decide) ?_
        exact ih (i + 4) Z1 H1 locs1 ls hi4 (by omega) hX1 hM1 hS1 (lv_sub hl [1, 2, 3, 0] rfl)
      refine lv_aload_n hx hb dL_law_26 rfl (lv_at hl 0 rfl) ?_
      refine lv_iload_n hx hb dL_law_27 rfl (lv_at hl 3 rfl) ?_
      refine x_sld hx hb hXs hbl hbA hS (show i < L by omega) hL dL_law_28 ?_
      refine lv_bipush (v := nI 31) hx hb dL_law_29 (by decide) ?_
      refine x_iand (z := xs i &&& nI 31) hx hb dL_law_31 rfl ?_
      refine lv_topi (fun v ev => ?_)
      by_cases hv0 : v = nI 0
      · rw [hv0]
        refine lv_tableIn (x := nI 0) (off := 104) (tgt := 136) hx hb dL_law_32 (by decide) (by decide) (by decide) (by decide) ?_
        exact st_cause C hN hc hs0 hi4 hX hM hS hl go
      by_cases hv1 : v = nI 1
      · rw [hv1]
        refine lv_tableIn (x := nI 1) (off := 147) (tgt := 179) hx hb dL_law_32 (by decide) (by decide) (by decide) (by decide) ?_
        exact st_link C hN hc hs0 hi4 hX hM hS hl go
      by_cases hv2 : v = nI 2
      · rw [hv2]
        refine lv_tableIn (x := nI 2) (off := 190) (tgt := 222) hx hb dL_law_32 (by decide) (by decide) (by decide) (by decide) ?_
        exact st_ofCause C hN hc hs0 hi4 hX hM hS hl go
      by_cases hv3 : v = nI 3
      · rw [hv3]
        refine lv_tableIn (x := nI 3) (off := 223) (tgt := 255) hx hb dL_law_32 (by decide) (by decide) (by decide) (by decide) ?_
        exact st_ofFinding C hN hc hs0 hi4 hX hM hS hl go
      by_cases hv4 : v = nI 4
      · rw [hv4]
        refine lv_tableIn (x := nI 4) (off := 256) (tgt := 288) hx hb dL_law_32 (by decide) (by decide) (by decide) (by decide) ?_
        exact st_tell C hN hc hs0 hi4 hX hM hS hl go
      by_cases hv5 : v = nI 5
      · rw [hv5]
        refine lv_tableIn (x := nI 5) (off := 289) (tgt := 321) hx hb dL_law_32 (by decide) (by decide) (by decide) (by decide) ?_
        exact st_withdraw C hN hc hs0 hi4 hX hM hS hl go
      by_cases hv6 : v = nI 6
      · rw [hv6]
        refine lv_tableIn (x := nI 6) (off := 312) (tgt := 344) hx hb dL_law_32 (by decide) (by decide) (by decide) (by decide) ?_
        exact st_back C hN hc hs0 hi4 hX hM hS hl go
      by_cases hv7 : v = nI 7
      · rw [hv7]
        refine lv_tableIn (x := nI 7) (off := 325) (tgt := 357) hx hb dL_law_32 (by decide) (by decide) (by decide) (by decide) ?_
        exact st_anew C hN hc hs0 hi4 hX hM hS hl go
      by_cases hv8 : v = nI 8
      · rw [hv8]
        refine lv_tableIn (x := nI 8) (off := 338) (tgt := 370) hx hb dL_law_32 (by decide) (by decide) (by decide) (by decide) ?_
        exact st_explanation C hN hc hs0 hi4 hX hM hS hl go
      by_cases hv9 : v = nI 9
      · rw [hv9]
        refine lv_tableIn (x := nI 9) (off := 371) (tgt := 403) hx hb dL_law_32 (by decide) (by decide) (by decide) (by decide) ?_
        exact st_weight C hN hc hs0 hi4 hX hM hS hl go
      by_cases hv10 : v = nI 10
      · rw [hv10]
        refine lv_tableIn (x := nI 10) (off := 395) (tgt := 427) hx hb dL_law_32 (by decide) (by decide) (by decide) (by decide) ?_
        exact st_share C hN hc hs0 hi4 hX hM hS hl go
      by_cases hv11 : v = nI 11
      · rw [hv11]
        refine lv_tableIn (x := nI 11) (off := 429) (tgt := 461) hx hb dL_law_32 (by decide) (by decide) (by decide) (by decide) ?_
        exact st_needs C hN hc hs0 hi4 hX hM hS hl go
      by_cases hv12 : v = nI 12
      · rw [hv12]
        refine lv_tableIn (x := nI 12) (off := 462) (tgt := 494) hx hb dL_law_32 (by decide) (by decide) (by decide) (by decide) ?_
        exact st_sets C hN hc hs0 hi4 hX hM hS hl go
      by_cases hv13 : v = nI 13
      · rw [hv13]
        refine lv_tableIn (x := nI 13) (off := 485) (tgt := 517) hx hb dL_law_32 (by decide) (by decide) (by decide) (by decide) ?_
        exact st_belief C hN hc hs0 hi4 hX hM hS hl go
      by_cases hv14 : v = nI 14
      · rw [hv14]
        refine lv_tableIn (x := nI 14) (off := 519) (tgt := 551) hx hb dL_law_32 (by decide) (by decide) (by decide) (by decide) ?_
        exact st_fewest C hN hc hs0 hi4 hX hM hS hl go
      by_cases hv15 : v = nI 15
      · rw [hv15]
        refine lv_tableIn (x := nI 15) (off := 542) (tgt := 574) hx hb dL_law_32 (by decide) (by decide) (by decide) (by decide) ?_
        exact st_covers C hN hc hs0 hi4 hX hM hS hl go
      by_cases hv16 : v = nI 16
      · rw [hv16]
        refine lv_tableIn (x := nI 16) (off := 565) (tgt := 597) hx hb dL_law_32 (by decide) (by decide) (by decide) (by decide) ?_
        exact st_unexplained C hN hc hs0 hi4 hX hM hS hl go
      by_cases hv17 : v = nI 17
      · rw [hv17]
        refine lv_tableIn (x := nI 17) (off := 578) (tgt := 610) hx hb dL_law_32 (by decide) (by decide) (by decide) (by decide) ?_
        exact st_split C hN hc hs0 hi4 hX hM hS hl go
      by_cases hv18 : v = nI 18
      · rw [hv18]
        refine lv_tableIn (x := nI 18) (off := 612) (tgt := 644) hx hb dL_law_32 (by decide) (by decide) (by decide) (by decide) ?_
        exact st_next C hN hc hs0 hi4 hX hM hS hl go
      by_cases hv19 : v = nI 19
      · rw [hv19]
        refine lv_tableIn (x := nI 19) (off := 625) (tgt := 657) hx hb dL_law_32 (by decide) (by decide) (by decide) (by decide) ?_
        exact st_would C hN hc hs0 hi4 hX hM hS hl go
      by_cases hv20 : v = nI 20
      · rw [hv20]
        refine lv_tableIn (x := nI 20) (off := 658) (tgt := 690) hx hb dL_law_32 (by decide) (by decide) (by decide) (by decide) ?_
        exact st_plan C hN hc hs0 hi4 hX hM hS hl go
      by_cases hv21 : v = nI 21
      · rw [hv21]
        refine lv_tableIn (x := nI 21) (off := 691) (tgt := 723) hx hb dL_law_32 (by decide) (by decide) (by decide) (by decide) ?_
        exact st_many C hN hc hs0 hi4 hX hM hS hl go
      refine lv_tableOut (tgt := 746) hx hb dL_law_32 (tsw_out 21 (fun j hj => by rcases (show j = 0 ∨ j = 1 ∨ j = 2 ∨ j = 3 ∨ j = 4 ∨ j = 5 ∨ j = 6 ∨ j = 7 ∨ j = 8 ∨ j = 9 ∨ j = 10 ∨ j = 11 ∨ j = 12 ∨ j = 13 ∨ j = 14 ∨ j = 15 ∨ j = 16 ∨ j = 17 ∨ j = 18 ∨ j = 19 ∨ j = 20 ∨ j = 21 by omega) with rfl | rfl | rfl | rfl | rfl | rfl | rfl | rfl | rfl | rfl | rfl | rfl | rfl | rfl | rfl | rfl | rfl | rfl | rfl | rfl | rfl | rfl <;> assumption)) (by decide) ?_
      exact go Z H locs hX hM hS
theorem xI0 : xI K0 fz 0 fz fz false false 0 0 fz fz fz 0 fz fz fz := by
  refine ⟨fun i hi => ?_, fun _ _ => Nat.zero_le _, fun _ => Nat.zero_le _, Nat.zero_le _, fun _ => ⟨Nat.zero_lt_succ _, Nat.zero_le _⟩, rfl, rfl, fun h => ?_, fun h => ?_⟩
  · have e : on1 10 i = 1 := by simp [on1, hi]
    show (1 ≤ on1 10 i ∧ on1 10 i ≤ 20) ∧ 1 ≤ on1 10 i ∧ on1 10 i ≤ 20
    rw [e]
    decide
  · cases h
  · cases h
theorem mI0 : mI K0 fz 0 fz fz 0 fz fz false fzB := by
  obtain ⟨h1, h2, h3, h4, h5, -⟩ := xI0
  exact ⟨h1, h2, h3, h4, h5, fun h => by cases h⟩
theorem arrIds {s : State} {args : Array Value} {ty : FieldType} (h : (Cond.arrayClass ty).before args s = true) (hp : ty = .int ∨ ty = .long ∨ ty = .boolean) : ∃ cA : ClassId, ArrOfT s cA ty ∧ va_RA s cA ty := by
  obtain ⟨cA, kA, comp, h1, h2, h3⟩ := Cond.arrayClass_spec h
  refine ⟨cA, fun n z => ⟨fun k h => (by cases h), kA, h2, comp, h3⟩, ?_⟩
  rcases hp with rfl | rfl | rfl <;> exact h1
theorem gapsOf {s : State} {b : Nat} (hl : (Cond.laysStatic RX2 "GAPS" "[I").before #[Value.ref b] s = true) (hi : (Cond.initialized RX2).before #[Value.ref b] s = true) (hgv : (Jvm.Cond.and given_1 narrow_1).before #[Value.ref b] s = true) : ∃ ga gb : Nat, gF ga gb s s.heap ∧ ga < s.heap.size ∧ gb < s.heap.size := by
  have hq := flat_of_before _ hgv
  have harr : (Cond.arrayOf (.static "FewestCauses$Listing" "GAPS" "[I") .int).before #[Value.ref b] s = true := hq _ (by decide +kernel)
  have hlen : (Cond.eq (.length (.static "FewestCauses$Listing" "GAPS" "[I")) (.int 5)).before #[Value.ref b] s = true := hq _ (by decide +kernel)
  have e0 : (Cond.eq (.elem (.static "FewestCauses$Listing" "GAPS" "[I") (.int 0)) (.int 57)).before #[Value.ref b] s = true := hq _ (by decide +kernel)
  have e1 : (Cond.eq (.elem (.static "FewestCauses$Listing" "GAPS" "[I") (.int 1)) (.int 23)).before #[Value.ref b] s = true := hq _ (by decide +kernel)
  have e2 : (Cond.eq (.elem (.static "FewestCauses$Listing" "GAPS" "[I") (.int 2)) (.int 10)).before #[Value.ref b] s = true := hq _ (by decide +kernel)
  have e3 : (Cond.eq (.elem (.static "FewestCauses$Listing" "GAPS" "[I") (.int 3)) (.int 4)).before #[Value.ref b] s = true := hq _ (by decide +kernel)
  have e4 : (Cond.eq (.elem (.static "FewestCauses$Listing" "GAPS" "[I") (.int 4)) (.int 1)).before #[Value.ref b] s = true := hq _ (by decide +kernel)
  obtain ⟨gb, hgb, hT⟩ := va_Tof (f := gapF) (A := fun _ => False) (N := 5) (by decide) harr (va_eqt hlen) (fun j hj => by
    rcases (show j = 0 ∨ j = 1 ∨ j = 2 ∨ j = 3 ∨ j = 4 by omega) with rfl | rfl | rfl | rfl | rfl
    · exact va_eqt e0
    · exact va_eqt e1
    · exact va_eqt e2
    · exact va_eqt e3
    · exact va_eqt e4) (fun _ _ h => h)
  obtain ⟨cf, kf, fi, f, ga, cell, x1, x2, x3, x4, x5, x6, x7, -⟩ := va_Zof (A := fun _ => False) hl hi hgb (fun _ _ h => h)
  obtain ⟨c2, y1, y2, y3, y4, y5, y6, -⟩ := hT
  exact ⟨ga, gb, ⟨⟨cf, kf, fi, f, ga, cell, x1, x2, x3, x4, x5, x6, x7, fun h => h rfl⟩, ⟨c2, y1, y2, y3, y4, y5, y6, fun h => h rfl⟩⟩, (Array.getElem?_eq_some_iff.mp x5).1, (Array.getElem?_eq_some_iff.mp y1).1⟩
theorem nw_1 : Cond.methodLinkNest RX1 30 yX6_has RX6 ∈ lw_tbl := by decide +kernel
theorem nw_2 : Cond.methodLinkNest RX2 51 yX6_has RX6 ∈ lw_tbl := by decide +kernel
theorem nw_3 : Cond.methodLinkNest RX5 15 yX6_has RX6 ∈ lw_tbl := by decide +kernel
theorem nw_4 : Cond.methodLinkNest RX6 20 yX5_init RX6 ∈ lw_tbl := by decide +kernel
theorem nw_5 : Cond.methodLinkNest RX6 27 yX0_init RX6 ∈ lw_tbl := by decide +kernel
theorem nw_6 : Cond.methodLinkNest RX6 49 yX3_init RX6 ∈ lw_tbl := by decide +kernel
theorem nw_7 : Cond.methodLinkNest RX6 56 yX4_init RX6 ∈ lw_tbl := by decide +kernel
set_option maxHeartbeats 4000000 in
set_option maxRecDepth 100000 in
theorem whole_start {p : Program} {e : Env} {s : State} {m : MethodId} {below : List Frame} {meth : Method} {c : Code} (l : Launch) (hflags : l.flags = flags0) {b L : Nat} {xs : Nat → Int32} (hL : L ≤ 2048) (C0 : lw_At p s m meth c b L xs) : W p l e room_1 s m #[Value.ref b] below meth c s.heap [] 0 0 (lw_Z below #[Value.ref b] s) (entryFrame m ([Value.ref b] : List Value).toArray 4) := by
  obtain ⟨hx, hb, hr, hml, hown0, hts0, hX, hbl, hlocks, hgv⟩ := id C0
  have hts : ∀ w ∈ wsAll, w.before #[Value.ref b] s = true := fun w hw => hts0 w (wsAll_tbl w hw)
  have hown : s.vm.findClass RL = some m.cls := hown0
  have hb : c.code = cL_law := hb
  have hA : ∀ q : Nat, s.heap.size ≤ q → AN s q := fun _ h => h
  obtain ⟨c0, iS0, hKn0⟩ := u_known (C := RX0) (T := TX0) (N := 3) (n := 3) hts inA0 (hts _ kz_RX0)
  obtain ⟨c1, iS1, hKn1⟩ := u_known (C := RX1) (T := TX1) (N := 6) (n := 6) hts inA1 (hts _ kz_RX1)
  obtain ⟨c2, iS2, hKn2⟩ := u_known (C := RX2) (T := TX2) (N := 7) (n := 7) hts inA2 (hts _ kz_RX2)
  obtain ⟨c3, iS3, hKn3⟩ := u_known (C := RX3) (T := TX3) (N := 3) (n := 3) hts inA3 (hts _ kz_RX3)
  obtain ⟨c4, iS4, hKn4⟩ := u_known (C := RX4) (T := TX4) (N := 4) (n := 4) hts inA4 (hts _ kz_RX4)
  obtain ⟨c5, iS5, hKn5⟩ := u_known (C := RX5) (T := TX5) (N := 2) (n := 2) hts inA5 (hts _ kz_RX5)
  obtain ⟨c6, iS6, hKn6⟩ := u_known (C := RX6) (T := TX6) (N := 10) (n := 10) hts inA6 (hts _ kz_RX6)
  obtain ⟨c7, iS7, hKn7⟩ := u_known (C := RX7) (T := TX7) (N := 17) (n := 17) hts inA7 (hts _ kz_RX7)
  obtain ⟨cI, hI1, hI2⟩ := arrIds (hts _ ka_int) (Or.inl rfl)
  obtain ⟨cJ, hJ1, hJ2⟩ := arrIds (hts _ ka_long) (Or.inr (Or.inl rfl))
  obtain ⟨cZ, hZ1, hZ2⟩ := arrIds (hts _ ka_boolean) (Or.inr (Or.inr rfl))
  obtain ⟨D, hKc⟩ : ∃ D : va_G, ∀ (k : Nat) (q : vw_C), vwCl[k]? = some q → u_Kn s q.1 q.2.1 q.2.2 (D.1 k) (D.2 k) := by
    refine ⟨(fun k => if k = 0 then c0 else if k = 1 then c1 else if k = 2 then c2 else if k = 3 then c3 else if k = 4 then c4 else if k = 5 then c5 else if k = 6 then c6 else c7, fun k => if k = 0 then iS0 else if k = 1 then iS1 else if k = 2 then iS2 else if k = 3 then iS3 else if k = 4 then iS4 else if k = 5 then iS5 else if k = 6 then iS6 else iS7), ?_⟩
    intro k q hq
    match k, hq with
    | 0, hq => cases hq; exact hKn0
    | 1, hq => cases hq; exact hKn1
    | 2, hq => cases hq; exact hKn2
    | 3, hq => cases hq; exact hKn3
    | 4, hq => cases hq; exact hKn4
    | 5, hq => cases hq; exact hKn5
    | 6, hq => cases hq; exact hKn6
    | 7, hq => cases hq; exact hKn7
    | k + 8, hq => simp [vwCl] at hq
  have hK1 : va_K D vwCl (tysA cI cJ cZ) s := by
    refine ⟨hKc, fun k q hq => ?_⟩
    match k, hq with
    | 0, hq => cases hq; exact ⟨hI1, hI2⟩
    | 1, hq => cases hq; exact ⟨hJ1, hJ2⟩
    | 2, hq => cases hq; exact ⟨hZ1, hZ2⟩
    | k + 3, hq => simp [tysA] at hq
  have hK : kk_K D cI cJ cZ s := ⟨hK1, va_Nw.of rfl (hts0 _ nw_1), va_Nw.of rfl (hts0 _ nw_2), va_Nw.of rfl (hts0 _ nw_3)⟩
  have hnx : nxK s := ⟨va_Nw.of rfl (hts0 _ nw_4), va_Nw.of rfl (hts0 _ nw_5), va_Nw.of rfl (hts0 _ nw_6), va_Nw.of rfl (hts0 _ nw_7)⟩
  obtain ⟨ga, gb, hG, hga, hgb⟩ := gapsOf (hts0 _ kY_static) (hts _ kn_RX2) hgv
  have hS : va_S (AN s) s.heap s.heap [] := va_S.rf
  have hP : va_P D vwCl [] s.heap := fun k q h => by simp at h
  have hD : va_D (AN s) [] := ⟨fun i j p q h => by simp at h, fun k q h => by simp at h⟩
  have hl := lv_entry ([.ref b]) (n := 4) (Nat.le_of_ble_eq_true rfl)
  rw [lg_entry_eq]
  generalize (lg_sl ([.ref b]) ++ List.replicate (4 - (lg_sl ([.ref b])).length) Slot.unset).toArray = ls at hl ⊢
  have hl : lv_has ls 4 [(0, .ref b)] := hl
  refine va_new (ci := 6) (fs := [.null, .null, .null, .null, .int (nI false.toNat), .null, .null, .null, .null, .int (nI false.toNat)]) (C := RX6) (T := TX6) (N := 10) hx hb hts inA6 tyX6 tyX6_ok hown (hts _ kx_RL_7) (hts _ kz_RX6) (hts _ kn_RX6) hK.1 hP hD hS hA rfl (fun j hj => by rcases (show j = 0 ∨ j = 1 ∨ j = 2 ∨ j = 3 ∨ j = 4 ∨ j = 5 ∨ j = 6 ∨ j = 7 ∨ j = 8 ∨ j = 9 by omega) with rfl | rfl | rfl | rfl | rfl | rfl | rfl | rfl | rfl | rfl <;> rfl) (Nat.le_of_ble_eq_true rfl) (Nat.le_of_ble_eq_true rfl) dL_law_0 (fun x0 H hP hD hS => ?_)
  refine W.widen (k := 1) (n := 10) (Nat.le_of_ble_eq_true rfl) (Nat.le_of_ble_eq_true rfl) ?_
  have hP : va_P D vwCl [(x0, .inr (6, [.null, .null, .null, .null, .int (nI false.toNat), .null, .null, .null, .null, .int (nI false.toNat)]))] H := hP
  have hD : va_D (AN s) [(x0, .inr (6, [.null, .null, .null, .null, .int (nI false.toNat), .null, .null, .null, .null, .int (nI false.toNat)]))] := hD
  refine lv_dup hx hb dL_law_3 rfl ?_
  have hF_ := va_free (wc := [(x0, .inr (6, [.null, .null, .null, .null, .int (nI false.toNat), .null, .null, .null, .null, .int (nI false.toNat)]))]) hD hS hA [0] rfl
  have hP1_ := hP.sub (ws' := [(x0, .inr (6, [.null, .null, .null, .null, .int (nI false.toNat), .null, .null, .null, .null, .int (nI false.toNat)]))]) [0] rfl
  refine mc_n (c1 := 24) (s1 := 710) (va_runI (As := []) (rest := [.ref x0]) ⟨hx, hb, hml, hown, hts⟩ (mt_X6_init l D cI cJ cZ x0 H.size) (cwI 0 hts (aW_good kc_yX6_init) rfl rfl rfl (hts _ kn_RX6) (hts _ km_RL_9) (hts _ ki_yX6_init) rfl (by decide +kernel) ⟨Nat.le_of_ble_eq_true rfl, Nat.le_of_ble_eq_true rfl⟩) (cNx_S hK hnx hP1_) rfl rfl hl.1 rfl (lv_room (Nat.le_of_ble_eq_true rfl)) dL_law_4 ⟨Nat.le_of_ble_eq_true rfl, Nat.le_of_ble_eq_true rfl⟩) rfl rfl hS hF_ (fun H locs hp_ hk_ hS => ?_)
  obtain ⟨k0, k1, k2, k3, k4, k5, k6, t0, h0, h1, h2, l0, l1, l2, u0, m0, m1, m2, w0, p0, p1, p2, p3, hP1, hD1⟩ := hp_
  obtain ⟨hP, hD⟩ := va_join (wr := []) (w1 := [(x0, .inr (6, [.ref k0, .ref t0, .ref h0, .ref l0, .int (nI false.toNat), .ref u0, .ref m0, .ref w0, .ref p0, .int (nI false.toNat)])), (k0, .inr (1, [.ref k1, .ref k2, .ref k3, .ref k4, .ref k5, .ref k6])), (k1, .inl (cI, 10, .inl (fN K0.1))), (k2, .inl (cI, 10, .inl (fN K0.2.1))), (k3, .inl (cI, 10, .inl (fN (lfM K0)))), (k4, .inl (cI, 10, .inl (fN (mfM K0)))), (k5, .inl (cI, 12, .inl (fN (lcM K0)))), (k6, .inl (cI, 12, .inl (fN (mcM K0)))), (t0, .inr (5, [.int (nI (thM fz)), .int (nI (abM fz))])), (h0, .inr (0, [.ref h1, .ref h2, .int (nI 0)])), (h1, .inl (cI, 20, .inl (fN fz))), (h2, .inl (cI, 20, .inl (fN fz))), (l0, .inr (2, [.ref k0, .ref l1, .int (nI 0), .long (lN 0), .ref l2, .int (nI 0), .int (nI 0)])), (l1, .inl (cJ, 252, .inr (.inl (fL fz)))), (l2, .inl (cI, 11, .inl (fN fz))), (u0, .inr (5, [.int (nI (thM fz)), .int (nI (abM fz))])), (m0, .inr (2, [.ref k0, .ref m1, .int (nI 0), .long (lN 0), .ref m2, .int (nI 0), .int (nI 0)])), (m1, .inl (cJ, 252, .inr (.inl (fL fz)))), (m2, .inl (cI, 11, .inl (fN fz))), (w0, .inr (3, [.long (lN 0), .long (lN 0), .long (lN 0)])), (p0, .inr (4, [.ref p1, .ref p2, .ref p3, .int (nI 0)])), (p1, .inl (cI, 12, .inl (fN fz))), (p2, .inl (cI, 12, .inl (fN fz))), (p3, .inl (cI, 12, .inl (fN fz)))]) hP hD [0] [] rfl rfl (by decide) (by decide) hk_ hF_ hP1 hD1
  clear hP1 hD1 hk_ hF_ hP1_
  have hP : va_P D vwCl [(x0, .inr (6, [.ref k0, .ref t0, .ref h0, .ref l0, .int (nI false.toNat), .ref u0, .ref m0, .ref w0, .ref p0, .int (nI false.toNat)])), (k0, .inr (1, [.ref k1, .ref k2, .ref k3, .ref k4, .ref k5, .ref k6])), (k1, .inl (cI, 10, .inl (fN K0.1))), (k2, .inl (cI, 10, .inl (fN K0.2.1))), (k3, .inl (cI, 10, .inl (fN (lfM K0)))), (k4, .inl (cI, 10, .inl (fN (mfM K0)))), (k5, .inl (cI, 12, .inl (fN (lcM K0)))), (k6, .inl (cI, 12, .inl (fN (mcM K0)))), (t0, .inr (5, [.int (nI (thM fz)), .int (nI (abM fz))])), (h0, .inr (0, [.ref h1, .ref h2, .int (nI 0)])), (h1, .inl (cI, 20, .inl (fN fz))), (h2, .inl (cI, 20, .inl (fN fz))), (l0, .inr (2, [.ref k0, .ref l1, .int (nI 0), .long (lN 0), .ref l2, .int (nI 0), .int (nI 0)])), (l1, .inl (cJ, 252, .inr (.inl (fL fz)))), (l2, .inl (cI, 11, .inl (fN fz))), (u0, .inr (5, [.int (nI (thM fz)), .int (nI (abM fz))])), (m0, .inr (2, [.ref k0, .ref m1, .int (nI 0), .long (lN 0), .ref m2, .int (nI 0), .int (nI 0)])), (m1, .inl (cJ, 252, .inr (.inl (fL fz)))), (m2, .inl (cI, 11, .inl (fN fz))), (w0, .inr (3, [.long (lN 0), .long (lN 0), .long (lN 0)])), (p0, .inr (4, [.ref p1, .ref p2, .ref p3, .int (nI 0)])), (p1, .inl (cI, 12, .inl (fN fz))), (p2, .inl (cI, 12, .inl (fN fz))), (p3, .inl (cI, 12, .inl (fN fz)))] H := hP
  have hD : va_D (AN s) [(x0, .inr (6, [.ref k0, .ref t0, .ref h0, .ref l0, .int (nI false.toNat), .ref u0, .ref m0, .ref w0, .ref p0, .int (nI false.toNat)])), (k0, .inr (1, [.ref k1, .ref k2, .ref k3, .ref k4, .ref k5, .ref k6])), (k1, .inl (cI, 10, .inl (fN K0.1))), (k2, .inl (cI, 10, .inl (fN K0.2.1))), (k3, .inl (cI, 10, .inl (fN (lfM K0)))), (k4, .inl (cI, 10, .inl (fN (mfM K0)))), (k5, .inl (cI, 12, .inl (fN (lcM K0)))), (k6, .inl (cI, 12, .inl (fN (mcM K0)))), (t0, .inr (5, [.int (nI (thM fz)), .int (nI (abM fz))])), (h0, .inr (0, [.ref h1, .ref h2, .int (nI 0)])), (h1, .inl (cI, 20, .inl (fN fz))), (h2, .inl (cI, 20, .inl (fN fz))), (l0, .inr (2, [.ref k0, .ref l1, .int (nI 0), .long (lN 0), .ref l2, .int (nI 0), .int (nI 0)])), (l1, .inl (cJ, 252, .inr (.inl (fL fz)))), (l2, .inl (cI, 11, .inl (fN fz))), (u0, .inr (5, [.int (nI (thM fz)), .int (nI (abM fz))])), (m0, .inr (2, [.ref k0, .ref m1, .int (nI 0), .long (lN 0), .ref m2, .int (nI 0), .int (nI 0)])), (m1, .inl (cJ, 252, .inr (.inl (fL fz)))), (m2, .inl (cI, 11, .inl (fN fz))), (w0, .inr (3, [.long (lN 0), .long (lN 0), .long (lN 0)])), (p0, .inr (4, [.ref p1, .ref p2, .ref p3, .int (nI 0)])), (p1, .inl (cI, 12, .inl (fN fz))), (p2, .inl (cI, 12, .inl (fN fz))), (p3, .inl (cI, 12, .inl (fN fz)))] := hD
  refine lv_astore_n (lv' := [(1, .ref x0), (0, .ref b)]) hx hb dL_law_7 rfl hl (by decide) rfl (fun ls hl => ?_)
  refine va_new (ci := 7) (fs := [.null, .null, .null, .null, .int (nI 0), .null, .null, .int (nI 0), .null, .null, .int (nI false.toNat), .null, .int (nI 0), .null, .null, .null, .null]) (C := RX7) (T := TX7) (N := 17) hx hb hts inA7 tyX7 tyX7_ok hown (hts _ kx_RL_10) (hts _ kz_RX7) (hts _ kn_RX7) hK.1 hP hD hS hA rfl (fun j hj => by rcases (show j = 0 ∨ j = 1 ∨ j = 2 ∨ j = 3 ∨ j = 4 ∨ j = 5 ∨ j = 6 ∨ j = 7 ∨ j = 8 ∨ j = 9 ∨ j = 10 ∨ j = 11 ∨ j = 12 ∨ j = 13 ∨ j = 14 ∨ j = 15 ∨ j = 16 by omega) with rfl | rfl | rfl | rfl | rfl | rfl | rfl | rfl | rfl | rfl | rfl | rfl | rfl | rfl | rfl | rfl | rfl <;> rfl) (Nat.le_of_ble_eq_true rfl) (Nat.le_of_ble_eq_true rfl) dL_law_8 (fun r0 H hP hD hS => ?_)
  refine W.widen (k := 25) (n := 727) (Nat.le_of_ble_eq_true rfl) (Nat.le_of_ble_eq_true rfl) ?_
  have hP : va_P D vwCl [(x0, .inr (6, [.ref k0, .ref t0, .ref h0, .ref l0, .int (nI false.toNat), .ref u0, .ref m0, .ref w0, .ref p0, .int (nI false.toNat)])), (k0, .inr (1, [.ref k1, .ref k2, .ref k3, .ref k4, .ref k5, .ref k6])), (k1, .inl (cI, 10, .inl (fN K0.1))), (k2, .inl (cI, 10, .inl (fN K0.2.1))), (k3, .inl (cI, 10, .inl (fN (lfM K0)))), (k4, .inl (cI, 10, .inl (fN (mfM K0)))), (k5, .inl (cI, 12, .inl (fN (lcM K0)))), (k6, .inl (cI, 12, .inl (fN (mcM K0)))), (t0, .inr (5, [.int (nI (thM fz)), .int (nI (abM fz))])), (h0, .inr (0, [.ref h1, .ref h2, .int (nI 0)])), (h1, .inl (cI, 20, .inl (fN fz))), (h2, .inl (cI, 20, .inl (fN fz))), (l0, .inr (2, [.ref k0, .ref l1, .int (nI 0), .long (lN 0), .ref l2, .int (nI 0), .int (nI 0)])), (l1, .inl (cJ, 252, .inr (.inl (fL fz)))), (l2, .inl (cI, 11, .inl (fN fz))), (u0, .inr (5, [.int (nI (thM fz)), .int (nI (abM fz))])), (m0, .inr (2, [.ref k0, .ref m1, .int (nI 0), .long (lN 0), .ref m2, .int (nI 0), .int (nI 0)])), (m1, .inl (cJ, 252, .inr (.inl (fL fz)))), (m2, .inl (cI, 11, .inl (fN fz))), (w0, .inr (3, [.long (lN 0), .long (lN 0), .long (lN 0)])), (p0, .inr (4, [.ref p1, .ref p2, .ref p3, .int (nI 0)])), (p1, .inl (cI, 12, .inl (fN fz))), (p2, .inl (cI, 12, .inl (fN fz))), (p3, .inl (cI, 12, .inl (fN fz))), (r0, .inr (7, [.null, .null, .null, .null, .int (nI 0), .null, .null, .int (nI 0), .null, .null, .int (nI false.toNat), .null, .int (nI 0), .null, .null, .null, .null]))] H := hP
  have hD : va_D (AN s) [(x0, .inr (6, [.ref k0, .ref t0, .ref h0, .ref l0, .int (nI false.toNat), .ref u0, .ref m0, .ref w0, .ref p0, .int (nI false.toNat)])), (k0, .inr (1, [.ref k1, .ref k2, .ref k3, .ref k4, .ref k5, .ref k6])), (k1, .inl (cI, 10, .inl (fN K0.1))), (k2, .inl (cI, 10, .inl (fN K0.2.1))), (k3, .inl (cI, 10, .inl (fN (lfM K0)))), (k4, .inl (cI, 10, .inl (fN (mfM K0)))), (k5, .inl (cI, 12, .inl (fN (lcM K0)))), (k6, .inl (cI, 12, .inl (fN (mcM K0)))), (t0, .inr (5, [.int (nI (thM fz)), .int (nI (abM fz))])), (h0, .inr (0, [.ref h1, .ref h2, .int (nI 0)])), (h1, .inl (cI, 20, .inl (fN fz))), (h2, .inl (cI, 20, .inl (fN fz))), (l0, .inr (2, [.ref k0, .ref l1, .int (nI 0), .long (lN 0), .ref l2, .int (nI 0), .int (nI 0)])), (l1, .inl (cJ, 252, .inr (.inl (fL fz)))), (l2, .inl (cI, 11, .inl (fN fz))), (u0, .inr (5, [.int (nI (thM fz)), .int (nI (abM fz))])), (m0, .inr (2, [.ref k0, .ref m1, .int (nI 0), .long (lN 0), .ref m2, .int (nI 0), .int (nI 0)])), (m1, .inl (cJ, 252, .inr (.inl (fL fz)))), (m2, .inl (cI, 11, .inl (fN fz))), (w0, .inr (3, [.long (lN 0), .long (lN 0), .long (lN 0)])), (p0, .inr (4, [.ref p1, .ref p2, .ref p3, .int (nI 0)])), (p1, .inl (cI, 12, .inl (fN fz))), (p2, .inl (cI, 12, .inl (fN fz))), (p3, .inl (cI, 12, .inl (fN fz))), (r0, .inr (7, [.null, .null, .null, .null, .int (nI 0), .null, .null, .int (nI 0), .null, .null, .int (nI false.toNat), .null, .int (nI 0), .null, .null, .null, .null]))] := hD
  refine lv_dup hx hb dL_law_11 rfl ?_
  have hF_ := va_free (wc := [(r0, .inr (7, [.null, .null, .null, .null, .int (nI 0), .null, .null, .int (nI 0), .null, .null, .int (nI false.toNat), .null, .int (nI 0), .null, .null, .null, .null]))]) hD hS hA [24] rfl
  have hP1_ := hP.sub (ws' := [(r0, .inr (7, [.null, .null, .null, .null, .int (nI 0), .null, .null, .int (nI 0), .null, .null, .int (nI false.toNat), .null, .int (nI 0), .null, .null, .null, .null]))]) [24] rfl
  refine mc_n (c1 := 38) (s1 := 4039) (va_runI (As := []) (rest := [.ref r0]) ⟨hx, hb, hml, hown, hts⟩ (mt_X7_init l D cI cJ cZ r0 H.size) (cwI 0 hts (aW_good kc_yX7_init) rfl rfl rfl (hts _ kn_RX7) (hts _ km_RL_12) (hts _ ki_yX7_init) rfl (by decide +kernel) ⟨Nat.le_of_ble_eq_true rfl, Nat.le_of_ble_eq_true rfl⟩) (cN_S hK hP1_) rfl rfl hl.1 rfl (lv_room (Nat.le_of_ble_eq_true rfl)) dL_law_12 ⟨Nat.le_of_ble_eq_true rfl, Nat.le_of_ble_eq_true rfl⟩) rfl rfl hS hF_ (fun H locs hp_ hk_ hS => ?_)
  obtain ⟨r1, r2, r3, r4, r5, r6, r7, r8, r9, r10, r11, r12, r13, hP1, hD1⟩ := hp_
  obtain ⟨hP, hD⟩ := va_join (wr := [(x0, .inr (6, [.ref k0, .ref t0, .ref h0, .ref l0, .int (nI false.toNat), .ref u0, .ref m0, .ref w0, .ref p0, .int (nI false.toNat)])), (k0, .inr (1, [.ref k1, .ref k2, .ref k3, .ref k4, .ref k5, .ref k6])), (k1, .inl (cI, 10, .inl (fN K0.1))), (k2, .inl (cI, 10, .inl (fN K0.2.1))), (k3, .inl (cI, 10, .inl (fN (lfM K0)))), (k4, .inl (cI, 10, .inl (fN (mfM K0)))), (k5, .inl (cI, 12, .inl (fN (lcM K0)))), (k6, .inl (cI, 12, .inl (fN (mcM K0)))), (t0, .inr (5, [.int (nI (thM fz)), .int (nI (abM fz))])), (h0, .inr (0, [.ref h1, .ref h2, .int (nI 0)])), (h1, .inl (cI, 20, .inl (fN fz))), (h2, .inl (cI, 20, .inl (fN fz))), (l0, .inr (2, [.ref k0, .ref l1, .int (nI 0), .long (lN 0), .ref l2, .int (nI 0), .int (nI 0)])), (l1, .inl (cJ, 252, .inr (.inl (fL fz)))), (l2, .inl (cI, 11, .inl (fN fz))), (u0, .inr (5, [.int (nI (thM fz)), .int (nI (abM fz))])), (m0, .inr (2, [.ref k0, .ref m1, .int (nI 0), .long (lN 0), .ref m2, .int (nI 0), .int (nI 0)])), (m1, .inl (cJ, 252, .inr (.inl (fL fz)))), (m2, .inl (cI, 11, .inl (fN fz))), (w0, .inr (3, [.long (lN 0), .long (lN 0), .long (lN 0)])), (p0, .inr (4, [.ref p1, .ref p2, .ref p3, .int (nI 0)])), (p1, .inl (cI, 12, .inl (fN fz))), (p2, .inl (cI, 12, .inl (fN fz))), (p3, .inl (cI, 12, .inl (fN fz)))]) (w1 := [(r0, .inr (7, [.ref r1, .ref r2, .ref r3, .ref r4, .int (nI 0), .ref r5, .ref r6, .int (nI 0), .ref r7, .ref r8, .int (nI false.toNat), .ref r9, .int (nI 0), .ref r10, .ref r11, .ref r12, .ref r13])), (r1, .inl (cI, 10, .inl (fN K0.1))), (r2, .inl (cI, 10, .inl (fN K0.2.1))), (r3, .inl (cI, 120, .inl (fN (lkA K0)))), (r4, .inl (cI, 12, .inl (fN fz))), (r5, .inl (cI, 20, .inl (fN fz))), (r6, .inl (cI, 20, .inl (fN fz))), (r7, .inl (cI, 1024, .inl (fN fz))), (r8, .inl (cJ, 1024, .inr (.inl (fL fz)))), (r9, .inl (cZ, 1024, .inl (fB fzB))), (r10, .inl (cI, 12, .inl (fN fz))), (r11, .inl (cI, 12, .inl (fN fz))), (r12, .inl (cI, 12, .inl (fN fz))), (r13, .inl (cI, 12, .inl (fN fz)))]) hP hD [24] [0, 1, 2, 3, 4, 5, 6, 7, 8, 9, 10, 11, 12, 13, 14, 15, 16, 17, 18, 19, 20, 21, 22, 23] rfl rfl (by decide) (by decide) hk_ hF_ hP1 hD1
  clear hP1 hD1 hk_ hF_ hP1_
  have hP : va_P D vwCl [(x0, .inr (6, [.ref k0, .ref t0, .ref h0, .ref l0, .int (nI false.toNat), .ref u0, .ref m0, .ref w0, .ref p0, .int (nI false.toNat)])), (k0, .inr (1, [.ref k1, .ref k2, .ref k3, .ref k4, .ref k5, .ref k6])), (k1, .inl (cI, 10, .inl (fN K0.1))), (k2, .inl (cI, 10, .inl (fN K0.2.1))), (k3, .inl (cI, 10, .inl (fN (lfM K0)))), (k4, .inl (cI, 10, .inl (fN (mfM K0)))), (k5, .inl (cI, 12, .inl (fN (lcM K0)))), (k6, .inl (cI, 12, .inl (fN (mcM K0)))), (t0, .inr (5, [.int (nI (thM fz)), .int (nI (abM fz))])), (h0, .inr (0, [.ref h1, .ref h2, .int (nI 0)])), (h1, .inl (cI, 20, .inl (fN fz))), (h2, .inl (cI, 20, .inl (fN fz))), (l0, .inr (2, [.ref k0, .ref l1, .int (nI 0), .long (lN 0), .ref l2, .int (nI 0), .int (nI 0)])), (l1, .inl (cJ, 252, .inr (.inl (fL fz)))), (l2, .inl (cI, 11, .inl (fN fz))), (u0, .inr (5, [.int (nI (thM fz)), .int (nI (abM fz))])), (m0, .inr (2, [.ref k0, .ref m1, .int (nI 0), .long (lN 0), .ref m2, .int (nI 0), .int (nI 0)])), (m1, .inl (cJ, 252, .inr (.inl (fL fz)))), (m2, .inl (cI, 11, .inl (fN fz))), (w0, .inr (3, [.long (lN 0), .long (lN 0), .long (lN 0)])), (p0, .inr (4, [.ref p1, .ref p2, .ref p3, .int (nI 0)])), (p1, .inl (cI, 12, .inl (fN fz))), (p2, .inl (cI, 12, .inl (fN fz))), (p3, .inl (cI, 12, .inl (fN fz))), (r0, .inr (7, [.ref r1, .ref r2, .ref r3, .ref r4, .int (nI 0), .ref r5, .ref r6, .int (nI 0), .ref r7, .ref r8, .int (nI false.toNat), .ref r9, .int (nI 0), .ref r10, .ref r11, .ref r12, .ref r13])), (r1, .inl (cI, 10, .inl (fN K0.1))), (r2, .inl (cI, 10, .inl (fN K0.2.1))), (r3, .inl (cI, 120, .inl (fN (lkA K0)))), (r4, .inl (cI, 12, .inl (fN fz))), (r5, .inl (cI, 20, .inl (fN fz))), (r6, .inl (cI, 20, .inl (fN fz))), (r7, .inl (cI, 1024, .inl (fN fz))), (r8, .inl (cJ, 1024, .inr (.inl (fL fz)))), (r9, .inl (cZ, 1024, .inl (fB fzB))), (r10, .inl (cI, 12, .inl (fN fz))), (r11, .inl (cI, 12, .inl (fN fz))), (r12, .inl (cI, 12, .inl (fN fz))), (r13, .inl (cI, 12, .inl (fN fz)))] H := hP
  have hD : va_D (AN s) [(x0, .inr (6, [.ref k0, .ref t0, .ref h0, .ref l0, .int (nI false.toNat), .ref u0, .ref m0, .ref w0, .ref p0, .int (nI false.toNat)])), (k0, .inr (1, [.ref k1, .ref k2, .ref k3, .ref k4, .ref k5, .ref k6])), (k1, .inl (cI, 10, .inl (fN K0.1))), (k2, .inl (cI, 10, .inl (fN K0.2.1))), (k3, .inl (cI, 10, .inl (fN (lfM K0)))), (k4, .inl (cI, 10, .inl (fN (mfM K0)))), (k5, .inl (cI, 12, .inl (fN (lcM K0)))), (k6, .inl (cI, 12, .inl (fN (mcM K0)))), (t0, .inr (5, [.int (nI (thM fz)), .int (nI (abM fz))])), (h0, .inr (0, [.ref h1, .ref h2, .int (nI 0)])), (h1, .inl (cI, 20, .inl (fN fz))), (h2, .inl (cI, 20, .inl (fN fz))), (l0, .inr (2, [.ref k0, .ref l1, .int (nI 0), .long (lN 0), .ref l2, .int (nI 0), .int (nI 0)])), (l1, .inl (cJ, 252, .inr (.inl (fL fz)))), (l2, .inl (cI, 11, .inl (fN fz))), (u0, .inr (5, [.int (nI (thM fz)), .int (nI (abM fz))])), (m0, .inr (2, [.ref k0, .ref m1, .int (nI 0), .long (lN 0), .ref m2, .int (nI 0), .int (nI 0)])), (m1, .inl (cJ, 252, .inr (.inl (fL fz)))), (m2, .inl (cI, 11, .inl (fN fz))), (w0, .inr (3, [.long (lN 0), .long (lN 0), .long (lN 0)])), (p0, .inr (4, [.ref p1, .ref p2, .ref p3, .int (nI 0)])), (p1, .inl (cI, 12, .inl (fN fz))), (p2, .inl (cI, 12, .inl (fN fz))), (p3, .inl (cI, 12, .inl (fN fz))), (r0, .inr (7, [.ref r1, .ref r2, .ref r3, .ref r4, .int (nI 0), .ref r5, .ref r6, .int (nI 0), .ref r7, .ref r8, .int (nI false.toNat), .ref r9, .int (nI 0), .ref r10, .ref r11, .ref r12, .ref r13])), (r1, .inl (cI, 10, .inl (fN K0.1))), (r2, .inl (cI, 10, .inl (fN K0.2.1))), (r3, .inl (cI, 120, .inl (fN (lkA K0)))), (r4, .inl (cI, 12, .inl (fN fz))), (r5, .inl (cI, 20, .inl (fN fz))), (r6, .inl (cI, 20, .inl (fN fz))), (r7, .inl (cI, 1024, .inl (fN fz))), (r8, .inl (cJ, 1024, .inr (.inl (fL fz)))), (r9, .inl (cZ, 1024, .inl (fB fzB))), (r10, .inl (cI, 12, .inl (fN fz))), (r11, .inl (cI, 12, .inl (fN fz))), (r12, .inl (cI, 12, .inl (fN fz))), (r13, .inl (cI, 12, .inl (fN fz)))] := hD
  refine lv_astore_n (lv' := [(2, .ref r0), (1, .ref x0), (0, .ref b)]) hx hb dL_law_15 rfl hl (by decide) rfl (fun ls hl => ?_)
  refine lv_iconst (v := nI 0) hx hb dL_law_16 (by decide) ?_
  refine lv_istore_n (lv' := [(3, .int (nI 0)), (2, .ref r0), (1, .ref x0), (0, .ref b)]) hx hb dL_law_17 rfl hl (by decide) rfl (fun ls hl => ?_)
  have hnd : ([x0, k0, k1, k2, k3, k4, k5, k6, t0, h0, h1, h2, l0, l1, l2, u0, m0, m1, m2, w0, p0, p1, p2, p3] ++ [r0, r1, r2, r3, r4, r5, r6, r7, r8, r9, r10, r11, r12, r13]).Nodup := D_nd hD
  have hall : ∀ a ∈ ([x0, k0, k1, k2, k3, k4, k5, k6, t0, h0, h1, h2, l0, l1, l2, u0, m0, m1, m2, w0, p0, p1, p2, p3] ++ [r0, r1, r2, r3, r4, r5, r6, r7, r8, r9, r10, r11, r12, r13] : List Nat), s.heap.size ≤ a := fun a ha => by
    obtain ⟨k, hk⟩ := List.getElem?_of_mem (show a ∈ List.map Prod.fst ([(x0, .inr (6, [.ref k0, .ref t0, .ref h0, .ref l0, .int (nI false.toNat), .ref u0, .ref m0, .ref w0, .ref p0, .int (nI false.toNat)])), (k0, .inr (1, [.ref k1, .ref k2, .ref k3, .ref k4, .ref k5, .ref k6])), (k1, .inl (cI, 10, .inl (fN K0.1))), (k2, .inl (cI, 10, .inl (fN K0.2.1))), (k3, .inl (cI, 10, .inl (fN (lfM K0)))), (k4, .inl (cI, 10, .inl (fN (mfM K0)))), (k5, .inl (cI, 12, .inl (fN (lcM K0)))), (k6, .inl (cI, 12, .inl (fN (mcM K0)))), (t0, .inr (5, [.int (nI (thM fz)), .int (nI (abM fz))])), (h0, .inr (0, [.ref h1, .ref h2, .int (nI 0)])), (h1, .inl (cI, 20, .inl (fN fz))), (h2, .inl (cI, 20, .inl (fN fz))), (l0, .inr (2, [.ref k0, .ref l1, .int (nI 0), .long (lN 0), .ref l2, .int (nI 0), .int (nI 0)])), (l1, .inl (cJ, 252, .inr (.inl (fL fz)))), (l2, .inl (cI, 11, .inl (fN fz))), (u0, .inr (5, [.int (nI (thM fz)), .int (nI (abM fz))])), (m0, .inr (2, [.ref k0, .ref m1, .int (nI 0), .long (lN 0), .ref m2, .int (nI 0), .int (nI 0)])), (m1, .inl (cJ, 252, .inr (.inl (fL fz)))), (m2, .inl (cI, 11, .inl (fN fz))), (w0, .inr (3, [.long (lN 0), .long (lN 0), .long (lN 0)])), (p0, .inr (4, [.ref p1, .ref p2, .ref p3, .int (nI 0)])), (p1, .inl (cI, 12, .inl (fN fz))), (p2, .inl (cI, 12, .inl (fN fz))), (p3, .inl (cI, 12, .inl (fN fz))), (r0, .inr (7, [.ref r1, .ref r2, .ref r3, .ref r4, .int (nI 0), .ref r5, .ref r6, .int (nI 0), .ref r7, .ref r8, .int (nI false.toNat), .ref r9, .int (nI 0), .ref r10, .ref r11, .ref r12, .ref r13])), (r1, .inl (cI, 10, .inl (fN K0.1))), (r2, .inl (cI, 10, .inl (fN K0.2.1))), (r3, .inl (cI, 120, .inl (fN (lkA K0)))), (r4, .inl (cI, 12, .inl (fN fz))), (r5, .inl (cI, 20, .inl (fN fz))), (r6, .inl (cI, 20, .inl (fN fz))), (r7, .inl (cI, 1024, .inl (fN fz))), (r8, .inl (cJ, 1024, .inr (.inl (fL fz)))), (r9, .inl (cZ, 1024, .inl (fB fzB))), (r10, .inl (cI, 12, .inl (fN fz))), (r11, .inl (cI, 12, .inl (fN fz))), (r12, .inl (cI, 12, .inl (fN fz))), (r13, .inl (cI, 12, .inl (fN fz)))] : va_W) from ha)
    rw [List.getElem?_map] at hk
    obtain ⟨q, hq, e⟩ := Option.map_eq_some_iff.mp hk
    rw [← e]
    exact hD.2 k q hq
  have hnd2 := List.nodup_append.mp hnd
  have hlw : lwN [x0, k0, k1, k2, k3, k4, k5, k6, t0, h0, h1, h2, l0, l1, l2, u0, m0, m1, m2, w0, p0, p1, p2, p3] [r0, r1, r2, r3, r4, r5, r6, r7, r8, r9, r10, r11, r12, r13] s.heap.size := ⟨hnd2.1, hnd2.2.1, fun a h => hall a (List.mem_append_left _ h), fun a h => hall a (List.mem_append_right _ h), fun a h1 h2 => hnd2.2.2 a h1 a h2 rfl⟩
  have hC : lwC p s m meth c b L xs D cI cJ cZ ga gb := ⟨hx, hb, hml, hown, hts, hK, hG, hga, hgb, hX, hbl, hL, hr, hlocks⟩
  have hXO : XO D cI cJ cZ [x0, k0, k1, k2, k3, k4, k5, k6, t0, h0, h1, h2, l0, l1, l2, u0, m0, m1, m2, w0, p0, p1, p2, p3] x0 (K0, fz, 0, fz, fz) H := ⟨x0, t0, h0, h1, h2, l0, l1, l2, u0, m0, m1, m2, w0, p0, p1, p2, p3, k0, k1, k2, k3, k4, k5, k6, K0, fz, 0, fz, fz, false, false, fz, 0, 0, 0, 0, fz, fz, 0, 0, 0, 0, fz, fz, 0, 0, 0, 0, fz, fz, fz, rfl, rfl, rfl, xI0, hP.sub [0, 1, 2, 3, 4, 5, 6, 7, 8, 9, 10, 11, 12, 13, 14, 15, 16, 17, 18, 19, 20, 21, 22, 23] rfl⟩
  have hMO : MO D cI cJ cZ [r0, r1, r2, r3, r4, r5, r6, r7, r8, r9, r10, r11, r12, r13] r0 (K0, fz, 0, fz, fz) H := ⟨r0, r1, r2, r3, r4, r5, r6, r7, r8, r9, r10, r11, r12, r13, K0, fz, 0, fz, fz, 0, fz, fz, false, fzB, 0, fz, fz, fz, fz, rfl, rfl, rfl, mI0, hP.sub [24, 25, 26, 27, 28, 29, 30, 31, 32, 33, 34, 35, 36, 37] rfl⟩
  exact law_loop hC hlw (cells := 38) (slots := 4039) (Nat.le_of_ble_eq_true rfl) (Nat.le_of_ble_eq_true rfl) (L + 1) 0 (K0, fz, 0, fz, fz) H locs ls (Nat.zero_le L) (by omega) hXO hMO hS (lv_sub hl [3, 2, 1, 0] rfl)
