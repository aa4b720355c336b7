set_option maxHeartbeats 4000000 in
set_option maxRecDepth 100000 in
theorem mt_X7_sets (l : Launch) (D : va_G) (cI cJ cZ : ClassId) (r0 : Nat) (r1 : Nat) (r2 : Nat) (r3 : Nat) (r4 : Nat) (r5 : Nat) (r6 : Nat) (r7 : Nat) (r8 : Nat) (r9 : Nat) (r10 : Nat) (r11 : Nat) (r12 : Nat) (r13 : Nat) (K : Kn) (S : Nat → Nat) (q : Nat) (hf : Nat → Nat) (hs : Nat → Nat) (mn : Nat) (ex : Nat → Nat) (we : Nat → Nat) (kn : Bool) (cv : Nat → Bool) (z : Nat) (ya : Nat → Nat) (yb : Nat → Nat) (yc : Nat → Nat) (ks : Nat → Nat) (a1 : Int32) (hN : [r0, r1, r2, r3, r4, r5, r6, r7, r8, r9, r10, r11, r12, r13].Nodup) (hI : mI K S q hf hs mn ex we kn cv) : Met l yX7_sets (aW yX7_sets cX7_sets 5 (some .int)) { frames := 4, cells := 0, slots := 0, locals := 93 } (cP D cI cJ cZ [.ref r0, .int a1] [(r0, .inr (7, [.ref r1, .ref r2, .ref r3, .ref r4, .int (nI q), .ref r5, .ref r6, .int (nI mn), .ref r7, .ref r8, .int (nI kn.toNat), .ref r9, .int (nI z), .ref r10, .ref r11, .ref r12, .ref r13])), (r1, .inl (cI, 10, .inl (fN K.1))), (r2, .inl (cI, 10, .inl (fN K.2.1))), (r3, .inl (cI, 120, .inl (fN (lkA K)))), (r4, .inl (cI, 12, .inl (fN S))), (r5, .inl (cI, 20, .inl (fN hf))), (r6, .inl (cI, 20, .inl (fN hs))), (r7, .inl (cI, 1024, .inl (fN ex))), (r8, .inl (cJ, 1024, .inr (.inl (fL we)))), (r9, .inl (cZ, 1024, .inl (fB cv))), (r10, .inl (cI, 12, .inl (fN ya))), (r11, .inl (cI, 12, .inl (fN yb))), (r12, .inl (cI, 12, .inl (fN yc))), (r13, .inl (cI, 12, .inl (fN ks)))]) (va_Qi (fun (r : Int32) (H1 : Heap) => ∃ (K1 : Kn) (S1 : Nat → Nat) (q1 : Nat) (hf1 : Nat → Nat) (hs1 : Nat → Nat) (mn1 : Nat) (ex1 : Nat → Nat) (we1 : Nat → Nat) (kn1 : Bool) (cv1 : Nat → Bool) (z1 : Nat) (ya1 : Nat → Nat) (yb1 : Nat → Nat) (yc1 : Nat → Nat) (ks1 : Nat → Nat), r = aSets K S a1 ∧ ((K1, S1, q1, hf1, hs1) = (K, S, q, hf, hs)) ∧ (mI K1 S1 q1 hf1 hs1 mn1 ex1 we1 kn1 cv1) ∧ va_P D vwCl [(r0, .inr (7, [.ref r1, .ref r2, .ref r3, .ref r4, .int (nI q1), .ref r5, .ref r6, .int (nI mn1), .ref r7, .ref r8, .int (nI kn1.toNat), .ref r9, .int (nI z1), .ref r10, .ref r11, .ref r12, .ref r13])), (r1, .inl (cI, 10, .inl (fN K1.1))), (r2, .inl (cI, 10, .inl (fN K1.2.1))), (r3, .inl (cI, 120, .inl (fN (lkA K1)))), (r4, .inl (cI, 12, .inl (fN S1))), (r5, .inl (cI, 20, .inl (fN hf1))), (r6, .inl (cI, 20, .inl (fN hs1))), (r7, .inl (cI, 1024, .inl (fN ex1))), (r8, .inl (cJ, 1024, .inr (.inl (fL we1)))), (r9, .inl (cZ, 1024, .inl (fB cv1))), (r10, .inl (cI, 12, .inl (fN ya1))), (r11, .inl (cI, 12, .inl (fN yb1))), (r12, .inl (cI, 12, .inl (fN yc1))), (r13, .inl (cI, 12, .inl (fN ks1)))] H1) mB (aA [r0, r1, r2, r3, r4, r5, r6, r7, r8, r9, r10, r11, r12, r13])) 0 0 (aA [r0, r1, r2, r3, r4, r5, r6, r7, r8, r9, r10, r11, r12, r13]) := by
  refine Met.ofW (cc := cX7_sets) (maxL := 5) (ret := (some .int)) (by decide) rfl ?_
  intro p e s m args below meth c s₁ B hml hv
  obtain ⟨hav, hP, hK⟩ := hv
  have hx := B.exec
  have hb := B.bytes
  have hr := B.returns
  have hts := aW_in (atoms_spec (ws := aW yX7_sets cX7_sets 5 (some .int)) B.pre)
  have hown : s.vm.findClass RX7 = some m.cls := findClass_of_methodNamed B.named
  have hlocks := B.notSynchronized
  obtain ⟨R, hR⟩ : ∃ R, R = (headSpec (aW yX7_sets cX7_sets 5 (some .int)) { frames := 4, cells := 0, slots := 0, locals := 93 }).room := ⟨_, rfl⟩
  rw [← hR]
  obtain ⟨Q, hQ⟩ : ∃ Q, Q = MQ below (va_Qi (fun (r : Int32) (H1 : Heap) => ∃ (K1 : Kn) (S1 : Nat → Nat) (q1 : Nat) (hf1 : Nat → Nat) (hs1 : Nat → Nat) (mn1 : Nat) (ex1 : Nat → Nat) (we1 : Nat → Nat) (kn1 : Bool) (cv1 : Nat → Bool) (z1 : Nat) (ya1 : Nat → Nat) (yb1 : Nat → Nat) (yc1 : Nat → Nat) (ks1 : Nat → Nat), r = aSets K S a1 ∧ ((K1, S1, q1, hf1, hs1) = (K, S, q, hf, hs)) ∧ (mI K1 S1 q1 hf1 hs1 mn1 ex1 we1 kn1 cv1) ∧ va_P D vwCl [(r0, .inr (7, [.ref r1, .ref r2, .ref r3, .ref r4, .int (nI q1), .ref r5, .ref r6, .int (nI mn1), .ref r7, .ref r8, .int (nI kn1.toNat), .ref r9, .int (nI z1), .ref r10, .ref r11, .ref r12, .ref r13])), (r1, .inl (cI, 10, .inl (fN K1.1))), (r2, .inl (cI, 10, .inl (fN K1.2.1))), (r3, .inl (cI, 120, .inl (fN (lkA K1)))), (r4, .inl (cI, 12, .inl (fN S1))), (r5, .inl (cI, 20, .inl (fN hf1))), (r6, .inl (cI, 20, .inl (fN hs1))), (r7, .inl (cI, 1024, .inl (fN ex1))), (r8, .inl (cJ, 1024, .inr (.inl (fL we1)))), (r9, .inl (cZ, 1024, .inl (fB cv1))), (r10, .inl (cI, 12, .inl (fN ya1))), (r11, .inl (cI, 12, .inl (fN yb1))), (r12, .inl (cI, 12, .inl (fN yc1))), (r13, .inl (cI, 12, .inl (fN ks1)))] H1) mB (aA [r0, r1, r2, r3, r4, r5, r6, r7, r8, r9, r10, r11, r12, r13])) args s 0 0 (aA [r0, r1, r2, r3, r4, r5, r6, r7, r8, r9, r10, r11, r12, r13]) := ⟨_, rfl⟩
  rw [← hQ]
  have hl := lv_entry [.ref r0, .int a1] (n := 5) (Nat.le_of_ble_eq_true rfl)
  have hent := lg_entry_eq m [.ref r0, .int a1] 5
  rw [← hav] at hent
  rw [hent]
  generalize (lg_sl [.ref r0, .int a1] ++ List.replicate (5 - (lg_sl [.ref r0, .int a1]).length) Slot.unset).toArray = ls at hl ⊢
  have hl : lv_has ls 5 [(0, .ref r0), (1, .int a1)] := hl
  have hD : va_D (aA [r0, r1, r2, r3, r4, r5, r6, r7, r8, r9, r10, r11, r12, r13]) [(r0, .inr (7, [.ref r1, .ref r2, .ref r3, .ref r4, .int (nI q), .ref r5, .ref r6, .int (nI mn), .ref r7, .ref r8, .int (nI kn.toNat), .ref r9, .int (nI z), .ref r10, .ref r11, .ref r12, .ref r13])), (r1, .inl (cI, 10, .inl (fN K.1))), (r2, .inl (cI, 10, .inl (fN K.2.1))), (r3, .inl (cI, 120, .inl (fN (lkA K)))), (r4, .inl (cI, 12, .inl (fN S))), (r5, .inl (cI, 20, .inl (fN hf))), (r6, .inl (cI, 20, .inl (fN hs))), (r7, .inl (cI, 1024, .inl (fN ex))), (r8, .inl (cJ, 1024, .inr (.inl (fL we)))), (r9, .inl (cZ, 1024, .inl (fB cv))), (r10, .inl (cI, 12, .inl (fN ya))), (r11, .inl (cI, 12, .inl (fN yb))), (r12, .inl (cI, 12, .inl (fN yc))), (r13, .inl (cI, 12, .inl (fN ks)))] := nd_D hN rfl
  have hS : va_S (aA [r0, r1, r2, r3, r4, r5, r6, r7, r8, r9, r10, r11, r12, r13]) s.heap s.heap [] := va_S.rf
  have hP : va_P D vwCl [(r0, .inr (7, [.ref r1, .ref r2, .ref r3, .ref r4, .int (nI q), .ref r5, .ref r6, .int (nI mn), .ref r7, .ref r8, .int (nI kn.toNat), .ref r9, .int (nI z), .ref r10, .ref r11, .ref r12, .ref r13])), (r1, .inl (cI, 10, .inl (fN K.1))), (r2, .inl (cI, 10, .inl (fN K.2.1))), (r3, .inl (cI, 120, .inl (fN (lkA K)))), (r4, .inl (cI, 12, .inl (fN S))), (r5, .inl (cI, 20, .inl (fN hf))), (r6, .inl (cI, 20, .inl (fN hs))), (r7, .inl (cI, 1024, .inl (fN ex))), (r8, .inl (cJ, 1024, .inr (.inl (fL we)))), (r9, .inl (cZ, 1024, .inl (fB cv))), (r10, .inl (cI, 12, .inl (fN ya))), (r11, .inl (cI, 12, .inl (fN yb))), (r12, .inl (cI, 12, .inl (fN yc))), (r13, .inl (cI, 12, .inl (fN ks)))] s.heap := hP
  obtain ⟨H, hH⟩ : ∃ H, H = s.heap := ⟨_, rfl⟩
  rw [← hH] at hP
  obtain ⟨locs, hlocs⟩ : ∃ q : List Loc, q = [] := ⟨_, rfl⟩
  have hS : va_S (aA [r0, r1, r2, r3, r4, r5, r6, r7, r8, r9, r10, r11, r12, r13]) s.heap H locs := by rw [hH, hlocs]; exact hS
  rw [← hH, ← hlocs]
  clear hH hlocs
  obtain ⟨hKO, hL2, hS2, hq, hh, hkn⟩ := id hI
  refine lv_iload_n hx hb dX7_sets_0 rfl (lv_at hl 1 rfl) ?_
  refine lv_iconst (v := nI 0) hx hb dX7_sets_1 (by decide) ?_
  refine lv_iconst (v := nI 2) hx hb dX7_sets_2 (by decide) ?_
  refine vp_callSi (va_Run.run (va_runS (As := [.int a1, .int (nI 0), .int (nI 2)]) (rest := []) ⟨hx, hb, hml, hown, hts⟩ (mt_X7_within l D cI cJ cZ a1 (nI 0) (nI 2)) (va_cwS 3 hts (gS km_RX7_51 ks_yX7_within kn_RX7 kc_yX7_within) rfl rfl rfl (by decide +kernel) (by rw [hR]; exact ⟨Nat.le_of_ble_eq_true rfl, Nat.le_of_ble_eq_true rfl⟩)) (cP_S hK (fun k q h => by simp at h)) rfl rfl hl.1 rfl (lv_room (Nat.le_of_ble_eq_true rfl)) dX7_sets_3 ⟨Nat.zero_le _, Nat.zero_le _⟩)) (fun r_ hr_ => ?_)
  subst hr_
  refine x_top (show nI (inR a1 ((nI 0)).toInt ((nI 2)).toInt).toNat = nI (inR a1 0 2).toNat from rfl) ?_
  refine x_bne (tgt := 12) hx hb dX7_sets_6 (by decide) (fun c6 => ?_) (fun c6 => ?_)
  · obtain ⟨j1, hj1, rfl⟩ := inR_nat (n := 2) c6
    refine lv_aload_n hx hb dX7_sets_12 rfl (lv_at hl 0 rfl) ?_
    refine mc_i (va_runV (As := []) (rest := []) ⟨hx, hb, hml, hown, hts⟩ (mt_X7_explanations l D cI cJ cZ r0 r1 r2 r3 r4 r5 r6 r7 r8 r9 r10 r11 r12 r13 K S q hf hs mn ex we kn cv z ya yb yc ks (nd_sub hN [0, 1, 2, 3, 4, 5, 6, 7, 8, 9, 10, 11, 12, 13] (by decide) rfl) (by first | assumption | omega) (by first | assumption | omega) (by first | assumption | omega) (by first | assumption | omega)) (cwV 0 hts (gV km_RX7_78 ki_yX7_explanations kl_yX7_explanations kn_RX7 kc_yX7_explanations) rfl rfl rfl (by decide +kernel) (by rw [hR]; exact ⟨Nat.le_of_ble_eq_true rfl, Nat.le_of_ble_eq_true rfl⟩)) (cP_V (q0 := 0) (ci := 7) hK (hP.sub [0, 1, 2, 3, 4, 5, 6, 7, 8, 9, 10, 11, 12, 13] rfl) rfl rfl) rfl rfl hl.1 rfl (lv_room (Nat.le_of_ble_eq_true rfl)) dX7_sets_13 ⟨Nat.zero_le _, Nat.zero_le _⟩) hS (aA_sub [0, 1, 2, 3, 4, 5, 6, 7, 8, 9, 10, 11, 12, 13] rfl) (fun r_ H locs hp_ hk_ hS => ?_)
    obtain ⟨eX, wX, cX, hr_, hMX, hcX, hP1⟩ := hp_
    subst hr_
    have hP := pj (wr := []) (w1 := [(r0, .inr (7, [.ref r1, .ref r2, .ref r3, .ref r4, .int (nI q), .ref r5, .ref r6, .int (nI (nE K S)), .ref r7, .ref r8, .int (nI true.toNat), .ref r9, .int (nI z), .ref r10, .ref r11, .ref r12, .ref r13])), (r1, .inl (cI, 10, .inl (fN K.1))), (r2, .inl (cI, 10, .inl (fN K.2.1))), (r3, .inl (cI, 120, .inl (fN (lkA K)))), (r4, .inl (cI, 12, .inl (fN S))), (r5, .inl (cI, 20, .inl (fN hf))), (r6, .inl (cI, 20, .inl (fN hs))), (r7, .inl (cI, 1024, .inl (fN eX))), (r8, .inl (cJ, 1024, .inr (.inl (fL wX)))), (r9, .inl (cZ, 1024, .inl (fB cX))), (r10, .inl (cI, 12, .inl (fN ya))), (r11, .inl (cI, 12, .inl (fN yb))), (r12, .inl (cI, 12, .inl (fN yc))), (r13, .inl (cI, 12, .inl (fN ks)))]) (lc := [r0, r1, r2, r3, r4, r5, r6, r7, r8, r9, r10, r11, r12, r13]) hP hD [0, 1, 2, 3, 4, 5, 6, 7, 8, 9, 10, 11, 12, 13] [] rfl rfl (by decide) hk_ hP1
    have hP : va_P D vwCl [(r0, .inr (7, [.ref r1, .ref r2, .ref r3, .ref r4, .int (nI q), .ref r5, .ref r6, .int (nI (nE K S)), .ref r7, .ref r8, .int (nI true.toNat), .ref r9, .int (nI z), .ref r10, .ref r11, .ref r12, .ref r13])), (r1, .inl (cI, 10, .inl (fN K.1))), (r2, .inl (cI, 10, .inl (fN K.2.1))), (r3, .inl (cI, 120, .inl (fN (lkA K)))), (r4, .inl (cI, 12, .inl (fN S))), (r5, .inl (cI, 20, .inl (fN hf))), (r6, .inl (cI, 20, .inl (fN hs))), (r7, .inl (cI, 1024, .inl (fN eX))), (r8, .inl (cJ, 1024, .inr (.inl (fL wX)))), (r9, .inl (cZ, 1024, .inl (fB cX))), (r10, .inl (cI, 12, .inl (fN ya))), (r11, .inl (cI, 12, .inl (fN yb))), (r12, .inl (cI, 12, .inl (fN yc))), (r13, .inl (cI, 12, .inl (fN ks)))] H := hP
    have hD : va_D (aA [r0, r1, r2, r3, r4, r5, r6, r7, r8, r9, r10, r11, r12, r13]) [(r0, .inr (7, [.ref r1, .ref r2, .ref r3, .ref r4, .int (nI q), .ref r5, .ref r6, .int (nI (nE K S)), .ref r7, .ref r8, .int (nI true.toNat), .ref r9, .int (nI z), .ref r10, .ref r11, .ref r12, .ref r13])), (r1, .inl (cI, 10, .inl (fN K.1))), (r2, .inl (cI, 10, .inl (fN K.2.1))), (r3, .inl (cI, 120, .inl (fN (lkA K)))), (r4, .inl (cI, 12, .inl (fN S))), (r5, .inl (cI, 20, .inl (fN hf))), (r6, .inl (cI, 20, .inl (fN hs))), (r7, .inl (cI, 1024, .inl (fN eX))), (r8, .inl (cJ, 1024, .inr (.inl (fL wX)))), (r9, .inl (cZ, 1024, .inl (fB cX))), (r10, .inl (cI, 12, .inl (fN ya))), (r11, .inl (cI, 12, .inl (fN yb))), (r12, .inl (cI, 12, .inl (fN yc))), (r13, .inl (cI, 12, .inl (fN ks)))] := hD.re [0, 1, 2, 3, 4, 5, 6, 7, 8, 9, 10, 11, 12, 13] (by decide) rfl
    refine lv_pop hx hb dX7_sets_16 rfl ?_
    have hnE := nE_le K S
    refine lv_sipush (v := nI 1023) hx hb dX7_sets_17 (by decide) ?_
    refine lv_istore_n (lv' := [(2, .int (nI 1023)), (0, .ref r0), (1, .int (nI j1))]) hx hb dX7_sets_20 rfl hl (by decide) rfl (fun ls hl => ?_)
    refine lv_iconst (v := nI 0) hx hb dX7_sets_21 (by decide) ?_
    refine lv_istore_n (lv' := [(3, .int (nI 0)), (2, .int (nI 1023)), (0, .ref r0), (1, .int (nI j1))]) hx hb dX7_sets_22 rfl hl (by decide) rfl (fun ls hl => ?_)
    refine lv_iconst (v := nI 0) hx hb dX7_sets_23 (by decide) ?_
    refine lv_istore (lv' := [(4, .int (nI 0)), (3, .int (nI 0)), (2, .int (nI 1023)), (0, .ref r0), (1, .int (nI j1))]) hx hb dX7_sets_24 hl (by decide) rfl (fun ls hl => ?_)
    have lp26 : ∀ (n : Nat) (j : Nat) (a : Nat) (d : Nat) (H : Heap) (locs : List Loc) (ls : Array Slot), (j + n = nE K S) → (a = andN eX j) → (d = orN eX j) → va_P D vwCl [(r0, .inr (7, [.ref r1, .ref r2, .ref r3, .ref r4, .int (nI q), .ref r5, .ref r6, .int (nI (nE K S)), .ref r7, .ref r8, .int (nI true.toNat), .ref r9, .int (nI z), .ref r10, .ref r11, .ref r12, .ref r13])), (r1, .inl (cI, 10, .inl (fN K.1))), (r2, .inl (cI, 10, .inl (fN K.2.1))), (r3, .inl (cI, 120, .inl (fN (lkA K)))), (r4, .inl (cI, 12, .inl (fN S))), (r5, .inl (cI, 20, .inl (fN hf))), (r6, .inl (cI, 20, .inl (fN hs))), (r7, .inl (cI, 1024, .inl (fN eX))), (r8, .inl (cJ, 1024, .inr (.inl (fL wX)))), (r9, .inl (cZ, 1024, .inl (fB cX))), (r10, .inl (cI, 12, .inl (fN ya))), (r11, .inl (cI, 12, .inl (fN yb))), (r12, .inl (cI, 12, .inl (fN yc))), (r13, .inl (cI, 12, .inl (fN ks)))] H → va_D (aA [r0, r1, r2, r3, r4, r5, r6, r7, r8, r9, r10, r11, r12, r13]) [(r0, .inr (7, [.ref r1, .ref r2, .ref r3, .ref r4, .int (nI q), .ref r5, .ref r6, .int (nI (nE K S)), .ref r7, .ref r8, .int (nI true.toNat), .ref r9, .int (nI z), .ref r10, .ref r11, .ref r12, .ref r13])), (r1, .inl (cI, 10, .inl (fN K.1))), (r2, .inl (cI, 10, .inl (fN K.2.1))), (r3, .inl (cI, 120, .inl (fN (lkA K)))), (r4, .inl (cI, 12, .inl (fN S))), (r5, .inl (cI, 20, .inl (fN hf))), (r6, .inl (cI, 20, .inl (fN hs))), (r7, .inl (cI, 1024, .inl (fN eX))), (r8, .inl (cJ, 1024, .inr (.inl (fL wX)))), (r9, .inl (cZ, 1024, .inl (fB cX))), (r10, .inl (cI, 12, .inl (fN ya))), (r11, .inl (cI, 12, .inl (fN yb))), (r12, .inl (cI, 12, .inl (fN yc))), (r13, .inl (cI, 12, .inl (fN ks)))] → va_S (aA [r0, r1, r2, r3, r4, r5, r6, r7, r8, r9, r10, r11, r12, r13]) s.heap H locs → lv_has ls 5 [(4, .int (nI j)), (3, .int (nI d)), (2, .int (nI a)), (0, .ref r0), (1, .int (nI j1))] → W p l e R s m args below meth c H locs 0 0 Q (F0 m 26 ls []) := by
      intro n
      induction n with
      | zero =>
        intro j a d H locs ls hn ha hd hP hD hS hl
        refine lv_iload hx hb dX7_sets_26 (lv_at hl 0 rfl) ?_
        refine lv_aload_n hx hb dX7_sets_28 rfl (lv_at hl 3 rfl) ?_
        refine va_get (D := D) (ci := 7) (v := .int (nI (nE K S))) (C := RX7) (T := TX7) (N := 17) hx hb hts inA7 hown hK.1 hP 0 rfl rfl 7 (by decide) (hts _ kf_RX7_99) (fun _ h9 => h9) rfl dX7_sets_29 ?_
        refine x_cge (a := j) (b := nE K S) (tgt := 61) hx hb (by first | assumption | omega) (by first | assumption | omega) dX7_sets_32 (by decide) (fun c32 => ?_) (fun c32 => (by omega))
        refine lv_iload_n hx hb dX7_sets_61 rfl (lv_at hl 4 rfl) ?_
        refine x_zne (tgt := 69) hx hb (by first | assumption | omega) dX7_sets_62 (by decide) (fun c62 => ?_) (fun c62 => ?_)
        · refine lv_iload_n hx hb dX7_sets_69 rfl (lv_at hl 4 rfl) ?_
          refine lv_iconst (v := nI 1) hx hb dX7_sets_70 (by decide) ?_
          refine x_cne (a := j1) (b := 1) (tgt := 78) hx hb (by first | assumption | omega) (by decide) dX7_sets_71 (by decide) (fun c71 => ?_) (fun c71 => ?_)
          · refine lv_aload_n hx hb dX7_sets_78 rfl (lv_at hl 3 rfl) ?_
            refine vp_callSi (va_Run.run (va_runV (As := []) (rest := []) ⟨hx, hb, hml, hown, hts⟩ (mt_X7_excluded l D cI cJ cZ r0 r1 r2 r3 r4 r5 r6 r7 r8 r9 r10 r11 r12 r13 K S q hf hs (nE K S) eX wX true cX z ya yb yc ks (by first | assumption | omega) (by first | assumption | omega)) (cwV 0 hts (gV km_RX7_102 ki_yX7_excluded kl_yX7_excluded kn_RX7 kc_yX7_excluded) rfl rfl rfl (by decide +kernel) (by rw [hR]; exact ⟨Nat.le_of_ble_eq_true rfl, Nat.le_of_ble_eq_true rfl⟩)) (cP_V (q0 := 0) (ci := 7) hK (hP.sub [0, 1, 2, 3, 4, 5, 6, 7, 8, 9, 10, 11, 12, 13] rfl) rfl rfl) rfl rfl hl.1 rfl (lv_room (Nat.le_of_ble_eq_true rfl)) dX7_sets_79 ⟨Nat.zero_le _, Nat.zero_le _⟩)) (fun r_ hr_ => ?_)
            subst hr_
            rw [hQ]
            exact W.iret (v := nI (exM K S)) hx hb hr (fun t ht hW => ⟨⟨_, H, rfl, ⟨K, S, q, hf, hs, (nE K S), eX, wX, true, cX, z, ya, yb, yc, ks, by first | (rw [c62, ha, show j = nE K S by omega, andN_ext (MK_pop hMX), aSets]; rfl) | (rw [c71, hd, show j = nE K S by omega, orN_ext (MK_pop hMX), aSets]; rfl) | (rw [show j1 = 2 by omega, aSets]; rfl), rfl, ⟨hKO, hL2, hS2, hq, hh, (fun _ => ⟨rfl, hMX, hcX⟩)⟩, hP.sub [0, 1, 2, 3, 4, 5, 6, 7, 8, 9, 10, 11, 12, 13] rfl⟩, ht⟩, hS.F ht⟩) hS.2.2 dX7_sets_82
          · refine lv_iload_n hx hb dX7_sets_74 rfl (lv_at hl 1 rfl) ?_
            refine lv_goto (tgt := 82) hx hb dX7_sets_75 (by decide) ?_
            rw [hQ]
            exact W.iret (v := nI d) hx hb hr (fun t ht hW => ⟨⟨_, H, rfl, ⟨K, S, q, hf, hs, (nE K S), eX, wX, true, cX, z, ya, yb, yc, ks, by first | (rw [c62, ha, show j = nE K S by omega, andN_ext (MK_pop hMX), aSets]; rfl) | (rw [c71, hd, show j = nE K S by omega, orN_ext (MK_pop hMX), aSets]; rfl) | (rw [show j1 = 2 by omega, aSets]; rfl), rfl, ⟨hKO, hL2, hS2, hq, hh, (fun _ => ⟨rfl, hMX, hcX⟩)⟩, hP.sub [0, 1, 2, 3, 4, 5, 6, 7, 8, 9, 10, 11, 12, 13] rfl⟩, ht⟩, hS.F ht⟩) hS.2.2 dX7_sets_82
        · refine lv_iload_n hx hb dX7_sets_65 rfl (lv_at hl 2 rfl) ?_
          refine lv_goto (tgt := 82) hx hb dX7_sets_66 (by decide) ?_
          rw [hQ]
          exact W.iret (v := nI a) hx hb hr (fun t ht hW => ⟨⟨_, H, rfl, ⟨K, S, q, hf, hs, (nE K S), eX, wX, true, cX, z, ya, yb, yc, ks, by first | (rw [c62, ha, show j = nE K S by omega, andN_ext (MK_pop hMX), aSets]; rfl) | (rw [c71, hd, show j = nE K S by omega, orN_ext (MK_pop hMX), aSets]; rfl) | (rw [show j1 = 2 by omega, aSets]; rfl), rfl, ⟨hKO, hL2, hS2, hq, hh, (fun _ => ⟨rfl, hMX, hcX⟩)⟩, hP.sub [0, 1, 2, 3, 4, 5, 6, 7, 8, 9, 10, 11, 12, 13] rfl⟩, ht⟩, hS.F ht⟩) hS.2.2 dX7_sets_82
      | succ n ih26 =>
        intro j a d H locs ls hn ha hd hP hD hS hl
        refine lv_iload hx hb dX7_sets_26 (lv_at hl 0 rfl) ?_
        refine lv_aload_n hx hb dX7_sets_28 rfl (lv_at hl 3 rfl) ?_
        refine va_get (D := D) (ci := 7) (v := .int (nI (nE K S))) (C := RX7) (T := TX7) (N := 17) hx hb hts inA7 hown hK.1 hP 0 rfl rfl 7 (by decide) (hts _ kf_RX7_99) (fun _ h9 => h9) rfl dX7_sets_29 ?_
        refine x_cge (a := j) (b := nE K S) (tgt := 61) hx hb (by first | assumption | omega) (by first | assumption | omega) dX7_sets_32 (by decide) (fun c32 => (by omega)) (fun c32 => ?_)
        refine lv_iload_n hx hb dX7_sets_35 rfl (lv_at hl 2 rfl) ?_
        refine lv_aload_n hx hb dX7_sets_36 rfl (lv_at hl 3 rfl) ?_
        refine va_get (D := D) (ci := 7) (v := .ref r7) (C := RX7) (T := TX7) (N := 17) hx hb hts inA7 hown hK.1 hP 0 rfl rfl 8 (by decide) (hts _ kf_RX7_28) (fun _ h9 => h9) rfl dX7_sets_37 ?_
        refine lv_iload hx hb dX7_sets_40 (lv_at hl 0 rfl) ?_
        refine x_ildN hx hb hK.1 hP 7 0 rfl rfl (by first | assumption | omega) (by decide) dX7_sets_42 ?_
        refine x_iand (z := nI (a &&& (eX j))) hx hb dX7_sets_43 (z_and _ _) ?_
        refine lv_istore_n (lv' := [(2, .int (nI (a &&& (eX j)))), (4, .int (nI j)), (3, .int (nI d)), (0, .ref r0), (1, .int (nI j1))]) hx hb dX7_sets_44 rfl hl (by decide) rfl (fun ls hl => ?_)
        refine lv_iload_n hx hb dX7_sets_45 rfl (lv_at hl 2 rfl) ?_
        refine lv_aload_n hx hb dX7_sets_46 rfl (lv_at hl 3 rfl) ?_
        refine va_get (D := D) (ci := 7) (v := .ref r7) (C := RX7) (T := TX7) (N := 17) hx hb hts inA7 hown hK.1 hP 0 rfl rfl 8 (by decide) (hts _ kf_RX7_28) (fun _ h9 => h9) rfl dX7_sets_47 ?_
        refine lv_iload hx hb dX7_sets_50 (lv_at hl 1 rfl) ?_
        refine x_ildN hx hb hK.1 hP 7 0 rfl rfl (by first | assumption | omega) (by decide) dX7_sets_52 ?_
        refine x_ior (z := nI (d ||| (eX j))) hx hb dX7_sets_53 (z_or _ _) ?_
        refine lv_istore_n (lv' := [(3, .int (nI (d ||| (eX j)))), (2, .int (nI (a &&& (eX j)))), (4, .int (nI j)), (0, .ref r0), (1, .int (nI j1))]) hx hb dX7_sets_54 rfl hl (by decide) rfl (fun ls hl => ?_)
        refine lv_iinc (v := nI (j + 1)) (lv' := [(4, .int (nI (j + 1))), (3, .int (nI (d ||| (eX j)))), (2, .int (nI (a &&& (eX j)))), (0, .ref r0), (1, .int (nI j1))]) hx hb dX7_sets_55 hl (k := 2) rfl (x_inc1 _) (by decide) rfl (fun ls hl => ?_)
        refine lv_goto (tgt := 26) hx hb dX7_sets_58 (by decide) ?_
        exact ih26 (j + 1) (a &&& (eX j)) (d ||| (eX j)) _ _ ls (by omega) (by rw [ha]; rfl) (by rw [hd]; rfl) (hP.sub [0, 1, 2, 3, 4, 5, 6, 7, 8, 9, 10, 11, 12, 13] rfl) (hD.re [0, 1, 2, 3, 4, 5, 6, 7, 8, 9, 10, 11, 12, 13] (by decide) rfl) hS (lv_sub hl [0, 1, 2, 3, 4] rfl)
    exact lp26 (nE K S) 0 1023 0 _ _ ls (by omega) (rfl) (rfl) (hP.sub [0, 1, 2, 3, 4, 5, 6, 7, 8, 9, 10, 11, 12, 13] rfl) (hD.re [0, 1, 2, 3, 4, 5, 6, 7, 8, 9, 10, 11, 12, 13] (by decide) rfl) hS (lv_sub hl [0, 1, 2, 3, 4] rfl)
  · refine lv_bipush (v := (-2)) hx hb dX7_sets_9 (by decide) ?_
    rw [hQ]
    exact W.iret (v := (-2)) hx hb hr (fun t ht hW => ⟨⟨_, H, rfl, ⟨K, S, q, hf, hs, mn, ex, we, kn, cv, z, ya, yb, yc, ks, by rw [aSets, if_neg (inR_ne (n := 2) c6 (by decide) (by decide)), if_neg (inR_ne (n := 2) c6 (by decide) (by decide)), if_neg (inR_ne (n := 2) c6 (by decide) (by decide))], rfl, ⟨hKO, hL2, hS2, hq, hh, hkn⟩, hP.sub [0, 1, 2, 3, 4, 5, 6, 7, 8, 9, 10, 11, 12, 13] rfl⟩, ht⟩, hS.F ht⟩) hS.2.2 dX7_sets_11

set_option maxHeartbeats 4000000 in
set_option maxRecDepth 100000 in
theorem mt_X7_belief (l : Launch) (D : va_G) (cI cJ cZ : ClassId) (r0 : Nat) (r1 : Nat) (r2 : Nat) (r3 : Nat) (r4 : Nat) (r5 : Nat) (r6 : Nat) (r7 : Nat) (r8 : Nat) (r9 : Nat) (r10 : Nat) (r11 : Nat) (r12 : Nat) (r13 : Nat) (K : Kn) (S : Nat → Nat) (q : Nat) (hf : Nat → Nat) (hs : Nat → Nat) (mn : Nat) (ex : Nat → Nat) (we : Nat → Nat) (kn : Bool) (cv : Nat → Bool) (z : Nat) (ya : Nat → Nat) (yb : Nat → Nat) (yc : Nat → Nat) (ks : Nat → Nat) (a1 : Int32) (a2 : Int32) (hN : [r0, r1, r2, r3, r4, r5, r6, r7, r8, r9, r10, r11, r12, r13].Nodup) (hI : mI K S q hf hs mn ex we kn cv) : Met l yX7_belief (aW yX7_belief cX7_belief 6 (some .long)) { frames := 4, cells := 0, slots := 0, locals := 93 } (cP D cI cJ cZ [.ref r0, .int a1, .int a2] [(r0, .inr (7, [.ref r1, .ref r2, .ref r3, .ref r4, .int (nI q), .ref r5, .ref r6, .int (nI mn), .ref r7, .ref r8, .int (nI kn.toNat), .ref r9, .int (nI z), .ref r10, .ref r11, .ref r12, .ref r13])), (r1, .inl (cI, 10, .inl (fN K.1))), (r2, .inl (cI, 10, .inl (fN K.2.1))), (r3, .inl (cI, 120, .inl (fN (lkA K)))), (r4, .inl (cI, 12, .inl (fN S))), (r5, .inl (cI, 20, .inl (fN hf))), (r6, .inl (cI, 20, .inl (fN hs))), (r7, .inl (cI, 1024, .inl (fN ex))), (r8, .inl (cJ, 1024, .inr (.inl (fL we)))), (r9, .inl (cZ, 1024, .inl (fB cv))), (r10, .inl (cI, 12, .inl (fN ya))), (r11, .inl (cI, 12, .inl (fN yb))), (r12, .inl (cI, 12, .inl (fN yc))), (r13, .inl (cI, 12, .inl (fN ks)))]) (va_Ql (fun (r : Int64) (H1 : Heap) => ∃ (K1 : Kn) (S1 : Nat → Nat) (q1 : Nat) (hf1 : Nat → Nat) (hs1 : Nat → Nat) (mn1 : Nat) (ex1 : Nat → Nat) (we1 : Nat → Nat) (kn1 : Bool) (cv1 : Nat → Bool) (z1 : Nat) (ya1 : Nat → Nat) (yb1 : Nat → Nat) (yc1 : Nat → Nat) (ks1 : Nat → Nat), r = aBelief K S a1 a2 ∧ ((K1, S1, q1, hf1, hs1) = (K, S, q, hf, hs)) ∧ (mI K1 S1 q1 hf1 hs1 mn1 ex1 we1 kn1 cv1) ∧ va_P D vwCl [(r0, .inr (7, [.ref r1, .ref r2, .ref r3, .ref r4, .int (nI q1), .ref r5, .ref r6, .int (nI mn1), .ref r7, .ref r8, .int (nI kn1.toNat), .ref r9, .int (nI z1), .ref r10, .ref r11, .ref r12, .ref r13])), (r1, .inl (cI, 10, .inl (fN K1.1))), (r2, .inl (cI, 10, .inl (fN K1.2.1))), (r3, .inl (cI, 120, .inl (fN (lkA K1)))), (r4, .inl (cI, 12, .inl (fN S1))), (r5, .inl (cI, 20, .inl (fN hf1))), (r6, .inl (cI, 20, .inl (fN hs1))), (r7, .inl (cI, 1024, .inl (fN ex1))), (r8, .inl (cJ, 1024, .inr (.inl (fL we1)))), (r9, .inl (cZ, 1024, .inl (fB cv1))), (r10, .inl (cI, 12, .inl (fN ya1))), (r11, .inl (cI, 12, .inl (fN yb1))), (r12, .inl (cI, 12, .inl (fN yc1))), (r13, .inl (cI, 12, .inl (fN ks1)))] H1) mB (aA [r0, r1, r2, r3, r4, r5, r6, r7, r8, r9, r10, r11, r12, r13])) 0 0 (aA [r0, r1, r2, r3, r4, r5, r6, r7, r8, r9, r10, r11, r12, r13]) := by
  refine Met.ofW (cc := cX7_belief) (maxL := 6) (ret := (some .long)) (by decide) rfl ?_
  intro p e s m args below meth c s₁ B hml hv
  obtain ⟨hav, hP, hK⟩ := hv
  have hx := B.exec
  have hb := B.bytes
  have hr := B.returns
  have hts := aW_in (atoms_spec (ws := aW yX7_belief cX7_belief 6 (some .long)) B.pre)
  have hown : s.vm.findClass RX7 = some m.cls := findClass_of_methodNamed B.named
  have hlocks := B.notSynchronized
  obtain ⟨R, hR⟩ : ∃ R, R = (headSpec (aW yX7_belief cX7_belief 6 (some .long)) { frames := 4, cells := 0, slots := 0, locals := 93 }).room := ⟨_, rfl⟩
  rw [← hR]
  obtain ⟨Q, hQ⟩ : ∃ Q, Q = MQ below (va_Ql (fun (r : Int64) (H1 : Heap) => ∃ (K1 : Kn) (S1 : Nat → Nat) (q1 : Nat) (hf1 : Nat → Nat) (hs1 : Nat → Nat) (mn1 : Nat) (ex1 : Nat → Nat) (we1 : Nat → Nat) (kn1 : Bool) (cv1 : Nat → Bool) (z1 : Nat) (ya1 : Nat → Nat) (yb1 : Nat → Nat) (yc1 : Nat → Nat) (ks1 : Nat → Nat), r = aBelief K S a1 a2 ∧ ((K1, S1, q1, hf1, hs1) = (K, S, q, hf, hs)) ∧ (mI K1 S1 q1 hf1 hs1 mn1 ex1 we1 kn1 cv1) ∧ va_P D vwCl [(r0, .inr (7, [.ref r1, .ref r2, .ref r3, .ref r4, .int (nI q1), .ref r5, .ref r6, .int (nI mn1), .ref r7, .ref r8, .int (nI kn1.toNat), .ref r9, .int (nI z1), .ref r10, .ref r11, .ref r12, .ref r13])), (r1, .inl (cI, 10, .inl (fN K1.1))), (r2, .inl (cI, 10, .inl (fN K1.2.1))), (r3, .inl (cI, 120, .inl (fN (lkA K1)))), (r4, .inl (cI, 12, .inl (fN S1))), (r5, .inl (cI, 20, .inl (fN hf1))), (r6, .inl (cI, 20, .inl (fN hs1))), (r7, .inl (cI, 1024, .inl (fN ex1))), (r8, .inl (cJ, 1024, .inr (.inl (fL we1)))), (r9, .inl (cZ, 1024, .inl (fB cv1))), (r10, .inl (cI, 12, .inl (fN ya1))), (r11, .inl (cI, 12, .inl (fN yb1))), (r12, .inl (cI, 12, .inl (fN yc1))), (r13, .inl (cI, 12, .inl (fN ks1)))] H1) mB (aA [r0, r1, r2, r3, r4, r5, r6, r7, r8, r9, r10, r11, r12, r13])) args s 0 0 (aA [r0, r1, r2, r3, r4, r5, r6, r7, r8, r9, r10, r11, r12, r13]) := ⟨_, rfl⟩
  rw [← hQ]
  have hl := lv_entry [.ref r0, .int a1, .int a2] (n := 6) (Nat.le_of_ble_eq_true rfl)
  have hent := lg_entry_eq m [.ref r0, .int a1, .int a2] 6
  rw [← hav] at hent
  rw [hent]
  generalize (lg_sl [.ref r0, .int a1, .int a2] ++ List.replicate (6 - (lg_sl [.ref r0, .int a1, .int a2]).length) Slot.unset).toArray = ls at hl ⊢
  have hl : lv_has ls 6 [(0, .ref r0), (1, .int a1), (2, .int a2)] := hl
  have hD : va_D (aA [r0, r1, r2, r3, r4, r5, r6, r7, r8, r9, r10, r11, r12, r13]) [(r0, .inr (7, [.ref r1, .ref r2, .ref r3, .ref r4, .int (nI q), .ref r5, .ref r6, .int (nI mn), .ref r7, .ref r8, .int (nI kn.toNat), .ref r9, .int (nI z), .ref r10, .ref r11, .ref r12, .ref r13])), (r1, .inl (cI, 10, .inl (fN K.1))), (r2, .inl (cI, 10, .inl (fN K.2.1))), (r3, .inl (cI, 120, .inl (fN (lkA K)))), (r4, .inl (cI, 12, .inl (fN S))), (r5, .inl (cI, 20, .inl (fN hf))), (r6, .inl (cI, 20, .inl (fN hs))), (r7, .inl (cI, 1024, .inl (fN ex))), (r8, .inl (cJ, 1024, .inr (.inl (fL we)))), (r9, .inl (cZ, 1024, .inl (fB cv))), (r10, .inl (cI, 12, .inl (fN ya))), (r11, .inl (cI, 12, .inl (fN yb))), (r12, .inl (cI, 12, .inl (fN yc))), (r13, .inl (cI, 12, .inl (fN ks)))] := nd_D hN rfl
  have hS : va_S (aA [r0, r1, r2, r3, r4, r5, r6, r7, r8, r9, r10, r11, r12, r13]) s.heap s.heap [] := va_S.rf
  have hP : va_P D vwCl [(r0, .inr (7, [.ref r1, .ref r2, .ref r3, .ref r4, .int (nI q), .ref r5, .ref r6, .int (nI mn), .ref r7, .ref r8, .int (nI kn.toNat), .ref r9, .int (nI z), .ref r10, .ref r11, .ref r12, .ref r13])), (r1, .inl (cI, 10, .inl (fN K.1))), (r2, .inl (cI, 10, .inl (fN K.2.1))), (r3, .inl (cI, 120, .inl (fN (lkA K)))), (r4, .inl (cI, 12, .inl (fN S))), (r5, .inl (cI, 20, .inl (fN hf))), (r6, .inl (cI, 20, .inl (fN hs))), (r7, .inl (cI, 1024, .inl (fN ex))), (r8, .inl (cJ, 1024, .inr (.inl (fL we)))), (r9, .inl (cZ, 1024, .inl (fB cv))), (r10, .inl (cI, 12, .inl (fN ya))), (r11, .inl (cI, 12, .inl (fN yb))), (r12, .inl (cI, 12, .inl (fN yc))), (r13, .inl (cI, 12, .inl (fN ks)))] s.heap := hP
  obtain ⟨H, hH⟩ : ∃ H, H = s.heap := ⟨_, rfl⟩
  rw [← hH] at hP
  obtain ⟨locs, hlocs⟩ : ∃ q : List Loc, q = [] := ⟨_, rfl⟩
  have hS : va_S (aA [r0, r1, r2, r3, r4, r5, r6, r7, r8, r9, r10, r11, r12, r13]) s.heap H locs := by rw [hH, hlocs]; exact hS
  rw [← hH, ← hlocs]
  clear hH hlocs
  obtain ⟨hKO, hL2, hS2, hq, hh, hkn⟩ := id hI
  refine lv_iload_n hx hb dX7_belief_0 rfl (lv_at hl 1 rfl) ?_
  refine vp_callSi (va_Run.run (va_runS (As := [.int a1]) (rest := []) ⟨hx, hb, hml, hown, hts⟩ (mt_X7_isCause l D cI cJ cZ a1) (va_cwS 1 hts (gS km_RX7_55 ks_yX7_isCause kn_RX7 kc_yX7_isCause) rfl rfl rfl (by decide +kernel) (by rw [hR]; exact ⟨Nat.le_of_ble_eq_true rfl, Nat.le_of_ble_eq_true rfl⟩)) (cP_S hK (fun k q h => by simp at h)) rfl rfl hl.1 rfl (lv_room (Nat.le_of_ble_eq_true rfl)) dX7_belief_1 ⟨Nat.zero_le _, Nat.zero_le _⟩)) (fun r_ hr_ => ?_)
  subst hr_
  refine x_beq (tgt := 23) hx hb dX7_belief_4 (by decide) (fun c4 => ?_) (fun c4 => ?_)
  · refine lv_ldc2 (v := -9223372036854775808) hx hb hown (hts _ kk_RX7_122) dX7_belief_23 ?_
    rw [hQ]
    exact W.lret (v := (-9223372036854775808)) hx hb hr (fun t ht hW => ⟨⟨_, H, rfl, ⟨K, S, q, hf, hs, mn, ex, we, kn, cv, z, ya, yb, yc, ks, by first | (rw [aBelief, c4]; rfl) | (rw [aBelief, c4, c13]; rfl) | (rw [aBelief, c4, c13]; simp only [Bool.and_self, if_true]; rw [if_pos c20]), rfl, ⟨hKO, hL2, hS2, hq, hh, hkn⟩, hP.sub [0, 1, 2, 3, 4, 5, 6, 7, 8, 9, 10, 11, 12, 13] rfl⟩, ht⟩, hS.F ht⟩) hS.2.2 dX7_belief_26
  · refine lv_iload_n hx hb dX7_belief_7 rfl (lv_at hl 2 rfl) ?_
    refine lv_iconst (v := nI 0) hx hb dX7_belief_8 (by decide) ?_
    refine lv_iconst (v := nI 1) hx hb dX7_belief_9 (by decide) ?_
    refine vp_callSi (va_Run.run (va_runS (As := [.int a2, .int (nI 0), .int (nI 1)]) (rest := []) ⟨hx, hb, hml, hown, hts⟩ (mt_X7_within l D cI cJ cZ a2 (nI 0) (nI 1)) (va_cwS 3 hts (gS km_RX7_51 ks_yX7_within kn_RX7 kc_yX7_within) rfl rfl rfl (by decide +kernel) (by rw [hR]; exact ⟨Nat.le_of_ble_eq_true rfl, Nat.le_of_ble_eq_true rfl⟩)) (cP_S hK (fun k q h => by simp at h)) rfl rfl hl.1 rfl (lv_room (Nat.le_of_ble_eq_true rfl)) dX7_belief_10 ⟨Nat.zero_le _, Nat.zero_le _⟩)) (fun r_ hr_ => ?_)
    subst hr_
    refine x_top (show nI (inR a2 ((nI 0)).toInt ((nI 1)).toInt).toNat = nI (inR a2 0 1).toNat from rfl) ?_
    refine x_beq (tgt := 23) hx hb dX7_belief_13 (by decide) (fun c13 => ?_) (fun c13 => ?_)
    · refine lv_ldc2 (v := -9223372036854775808) hx hb hown (hts _ kk_RX7_122) dX7_belief_23 ?_
      rw [hQ]
      exact W.lret (v := (-9223372036854775808)) hx hb hr (fun t ht hW => ⟨⟨_, H, rfl, ⟨K, S, q, hf, hs, mn, ex, we, kn, cv, z, ya, yb, yc, ks, by first | (rw [aBelief, c4]; rfl) | (rw [aBelief, c4, c13]; rfl) | (rw [aBelief, c4, c13]; simp only [Bool.and_self, if_true]; rw [if_pos c20]), rfl, ⟨hKO, hL2, hS2, hq, hh, hkn⟩, hP.sub [0, 1, 2, 3, 4, 5, 6, 7, 8, 9, 10, 11, 12, 13] rfl⟩, ht⟩, hS.F ht⟩) hS.2.2 dX7_belief_26
    · refine lv_aload_n hx hb dX7_belief_16 rfl (lv_at hl 0 rfl) ?_
      refine mc_i (va_runV (As := []) (rest := []) ⟨hx, hb, hml, hown, hts⟩ (mt_X7_explanations l D cI cJ cZ r0 r1 r2 r3 r4 r5 r6 r7 r8 r9 r10 r11 r12 r13 K S q hf hs mn ex we kn cv z ya yb yc ks (nd_sub hN [0, 1, 2, 3, 4, 5, 6, 7, 8, 9, 10, 11, 12, 13] (by decide) rfl) (by first | assumption | omega) (by first | assumption | omega) (by first | assumption | omega) (by first | assumption | omega)) (cwV 0 hts (gV km_RX7_78 ki_yX7_explanations kl_yX7_explanations kn_RX7 kc_yX7_explanations) rfl rfl rfl (by decide +kernel) (by rw [hR]; exact ⟨Nat.le_of_ble_eq_true rfl, Nat.le_of_ble_eq_true rfl⟩)) (cP_V (q0 := 0) (ci := 7) hK (hP.sub [0, 1, 2, 3, 4, 5, 6, 7, 8, 9, 10, 11, 12, 13] rfl) rfl rfl) rfl rfl hl.1 rfl (lv_room (Nat.le_of_ble_eq_true rfl)) dX7_belief_17 ⟨Nat.zero_le _, Nat.zero_le _⟩) hS (aA_sub [0, 1, 2, 3, 4, 5, 6, 7, 8, 9, 10, 11, 12, 13] rfl) (fun r_ H locs hp_ hk_ hS => ?_)
      obtain ⟨eX, wX, cX, hr_, hMX, hcX, hP1⟩ := hp_
      subst hr_
      have hP := pj (wr := []) (w1 := [(r0, .inr (7, [.ref r1, .ref r2, .ref r3, .ref r4, .int (nI q), .ref r5, .ref r6, .int (nI (nE K S)), .ref r7, .ref r8, .int (nI true.toNat), .ref r9, .int (nI z), .ref r10, .ref r11, .ref r12, .ref r13])), (r1, .inl (cI, 10, .inl (fN K.1))), (r2, .inl (cI, 10, .inl (fN K.2.1))), (r3, .inl (cI, 120, .inl (fN (lkA K)))), (r4, .inl (cI, 12, .inl (fN S))), (r5, .inl (cI, 20, .inl (fN hf))), (r6, .inl (cI, 20, .inl (fN hs))), (r7, .inl (cI, 1024, .inl (fN eX))), (r8, .inl (cJ, 1024, .inr (.inl (fL wX)))), (r9, .inl (cZ, 1024, .inl (fB cX))), (r10, .inl (cI, 12, .inl (fN ya))), (r11, .inl (cI, 12, .inl (fN yb))), (r12, .inl (cI, 12, .inl (fN yc))), (r13, .inl (cI, 12, .inl (fN ks)))]) (lc := [r0, r1, r2, r3, r4, r5, r6, r7, r8, r9, r10, r11, r12, r13]) hP hD [0, 1, 2, 3, 4, 5, 6, 7, 8, 9, 10, 11, 12, 13] [] rfl rfl (by decide) hk_ hP1
      have hP : va_P D vwCl [(r0, .inr (7, [.ref r1, .ref r2, .ref r3, .ref r4, .int (nI q), .ref r5, .ref r6, .int (nI (nE K S)), .ref r7, .ref r8, .int (nI true.toNat), .ref r9, .int (nI z), .ref r10, .ref r11, .ref r12, .ref r13])), (r1, .inl (cI, 10, .inl (fN K.1))), (r2, .inl (cI, 10, .inl (fN K.2.1))), (r3, .inl (cI, 120, .inl (fN (lkA K)))), (r4, .inl (cI, 12, .inl (fN S))), (r5, .inl (cI, 20, .inl (fN hf))), (r6, .inl (cI, 20, .inl (fN hs))), (r7, .inl (cI, 1024, .inl (fN eX))), (r8, .inl (cJ, 1024, .inr (.inl (fL wX)))), (r9, .inl (cZ, 1024, .inl (fB cX))), (r10, .inl (cI, 12, .inl (fN ya))), (r11, .inl (cI, 12, .inl (fN yb))), (r12, .inl (cI, 12, .inl (fN yc))), (r13, .inl (cI, 12, .inl (fN ks)))] H := hP
      have hD : va_D (aA [r0, r1, r2, r3, r4, r5, r6, r7, r8, r9, r10, r11, r12, r13]) [(r0, .inr (7, [.ref r1, .ref r2, .ref r3, .ref r4, .int (nI q), .ref r5, .ref r6, .int (nI (nE K S)), .ref r7, .ref r8, .int (nI true.toNat), .ref r9, .int (nI z), .ref r10, .ref r11, .ref r12, .ref r13])), (r1, .inl (cI, 10, .inl (fN K.1))), (r2, .inl (cI, 10, .inl (fN K.2.1))), (r3, .inl (cI, 120, .inl (fN (lkA K)))), (r4, .inl (cI, 12, .inl (fN S))), (r5, .inl (cI, 20, .inl (fN hf))), (r6, .inl (cI, 20, .inl (fN hs))), (r7, .inl (cI, 1024, .inl (fN eX))), (r8, .inl (cJ, 1024, .inr (.inl (fL wX)))), (r9, .inl (cZ, 1024, .inl (fB cX))), (r10, .inl (cI, 12, .inl (fN ya))), (r11, .inl (cI, 12, .inl (fN yb))), (r12, .inl (cI, 12, .inl (fN yc))), (r13, .inl (cI, 12, .inl (fN ks)))] := hD.re [0, 1, 2, 3, 4, 5, 6, 7, 8, 9, 10, 11, 12, 13] (by decide) rfl
      refine x_zne (tgt := 27) hx hb (Nat.lt_of_le_of_lt (nE_le K S) (by decide)) dX7_belief_20 (by decide) (fun c20 => ?_) (fun c20 => ?_)
      · obtain ⟨j1, hj1, rfl⟩ := inR_nat (n := 9) c4
        obtain ⟨j2, hj2, rfl⟩ := inR_nat (n := 1) c13
        have hnE := nE_le K S
        refine lv_lconst (v := lN 0) hx hb dX7_belief_27 rfl ?_
        refine lv_lstore_n (lv' := [(3, .long (lN 0)), (0, .ref r0), (1, .int (nI j1)), (2, .int (nI j2))]) hx hb dX7_belief_28 rfl hl (by decide) rfl (fun ls hl => ?_)
        refine lv_iconst (v := nI 0) hx hb dX7_belief_29 (by decide) ?_
        refine lv_istore (lv' := [(5, .int (nI 0)), (3, .long (lN 0)), (0, .ref r0), (1, .int (nI j1)), (2, .int (nI j2))]) hx hb dX7_belief_30 hl (by decide) rfl (fun ls hl => ?_)
        have lp32 : ∀ (n : Nat) (j : Nat) (a : Nat) (H : Heap) (locs : List Loc) (ls : Array Slot), (j + n = nE K S) → (a = sm (fun k => if (eX k).testBit j1 then wX k else 0) j) → va_P D vwCl [(r0, .inr (7, [.ref r1, .ref r2, .ref r3, .ref r4, .int (nI q), .ref r5, .ref r6, .int (nI (nE K S)), .ref r7, .ref r8, .int (nI true.toNat), .ref r9, .int (nI z), .ref r10, .ref r11, .ref r12, .ref r13])), (r1, .inl (cI, 10, .inl (fN K.1))), (r2, .inl (cI, 10, .inl (fN K.2.1))), (r3, .inl (cI, 120, .inl (fN (lkA K)))), (r4, .inl (cI, 12, .inl (fN S))), (r5, .inl (cI, 20, .inl (fN hf))), (r6, .inl (cI, 20, .inl (fN hs))), (r7, .inl (cI, 1024, .inl (fN eX))), (r8, .inl (cJ, 1024, .inr (.inl (fL wX)))), (r9, .inl (cZ, 1024, .inl (fB cX))), (r10, .inl (cI, 12, .inl (fN ya))), (r11, .inl (cI, 12, .inl (fN yb))), (r12, .inl (cI, 12, .inl (fN yc))), (r13, .inl (cI, 12, .inl (fN ks)))] H → va_D (aA [r0, r1, r2, r3, r4, r5, r6, r7, r8, r9, r10, r11, r12, r13]) [(r0, .inr (7, [.ref r1, .ref r2, .ref r3, .ref r4, .int (nI q), .ref r5, .ref r6, .int (nI (nE K S)), .ref r7, .ref r8, .int (nI true.toNat), .ref r9, .int (nI z), .ref r10, .ref r11, .ref r12, .ref r13])), (r1, .inl (cI, 10, .inl (fN K.1))), (r2, .inl (cI, 10, .inl (fN K.2.1))), (r3, .inl (cI, 120, .inl (fN (lkA K)))), (r4, .inl (cI, 12, .inl (fN S))), (r5, .inl (cI, 20, .inl (fN hf))), (r6, .inl (cI, 20, .inl (fN hs))), (r7, .inl (cI, 1024, .inl (fN eX))), (r8, .inl (cJ, 1024, .inr (.inl (fL wX)))), (r9, .inl (cZ, 1024, .inl (fB cX))), (r10, .inl (cI, 12, .inl (fN ya))), (r11, .inl (cI, 12, .inl (fN yb))), (r12, .inl (cI, 12, .inl (fN yc))), (r13, .inl (cI, 12, .inl (fN ks)))] → va_S (aA [r0, r1, r2, r3, r4, r5, r6, r7, r8, r9, r10, r11, r12, r13]) s.heap H locs → lv_has ls 6 [(5, .int (nI j)), (3, .long (lN a)), (0, .ref r0), (1, .int (nI j1)), (2, .int (nI j2))] → W p l e R s m args below meth c H locs 0 0 Q (F0 m 32 ls []) := by
          intro n
          induction n with
          | zero =>
            intro j a H locs ls hn ha hP hD hS hl
            refine lv_iload hx hb dX7_belief_32 (lv_at hl 0 rfl) ?_
            refine lv_aload_n hx hb dX7_belief_34 rfl (lv_at hl 2 rfl) ?_
            refine va_get (D := D) (ci := 7) (v := .int (nI (nE K S))) (C := RX7) (T := TX7) (N := 17) hx hb hts inA7 hown hK.1 hP 0 rfl rfl 7 (by decide) (hts _ kf_RX7_99) (fun _ h9 => h9) rfl dX7_belief_35 ?_
            refine x_cge (a := j) (b := nE K S) (tgt := 75) hx hb (by first | assumption | omega) (by first | assumption | omega) dX7_belief_38 (by decide) (fun c38 => ?_) (fun c38 => (by omega))
            refine lv_lload_n hx hb dX7_belief_75 rfl (lv_at hl 1 rfl) ?_
            refine lv_aload_n hx hb dX7_belief_76 rfl (lv_at hl 2 rfl) ?_
            refine vp_callSl (va_Run.run (va_runV (As := []) (rest := [.long (lN a)]) ⟨hx, hb, hml, hown, hts⟩ (mt_X7_allWeights l D cI cJ cZ r0 r1 r2 r3 r4 r5 r6 r7 r8 r9 r10 r11 r12 r13 K S q hf hs eX wX cX z ya yb yc ks (hMX)) (cwV 0 hts (gV km_RX7_124 ki_yX7_allWeights kl_yX7_allWeights kn_RX7 kc_yX7_allWeights) rfl rfl rfl (by decide +kernel) (by rw [hR]; exact ⟨Nat.le_of_ble_eq_true rfl, Nat.le_of_ble_eq_true rfl⟩)) (cP_V (q0 := 0) (ci := 7) hK (hP.sub [0, 1, 2, 3, 4, 5, 6, 7, 8, 9, 10, 11, 12, 13] rfl) rfl rfl) rfl rfl hl.1 rfl (lv_room (Nat.le_of_ble_eq_true rfl)) dX7_belief_77 ⟨Nat.zero_le _, Nat.zero_le _⟩)) (fun r_ hr_ => ?_)
            subst hr_
            refine lv_iload_n hx hb dX7_belief_80 rfl (lv_at hl 4 rfl) ?_
            refine vp_callSl (va_Run.run (va_runS (As := [.long (lN a), .long (lN (tot K S)), .int (nI j2)]) (rest := []) ⟨hx, hb, hml, hown, hts⟩ (mt_X7_inLeastTerms l D cI cJ cZ a (tot K S) j2 (by rw [ha, show j = nE K S by omega, MK_smC hMX]; exact Nat.lt_of_le_of_lt (smC_le hKO _ _ _) (by omega)) (tot_lt hKO S) (tot_pos hKO (by omega)) (by first | assumption | omega)) (va_cwS 3 hts (gS km_RX7_128 ks_yX7_inLeastTerms kn_RX7 kc_yX7_inLeastTerms) rfl rfl rfl (by decide +kernel) (by rw [hR]; exact ⟨Nat.le_of_ble_eq_true rfl, Nat.le_of_ble_eq_true rfl⟩)) (cP_S hK (fun k q h => by simp at h)) rfl rfl hl.1 rfl (lv_room (Nat.le_of_ble_eq_true rfl)) dX7_belief_81 ⟨Nat.zero_le _, Nat.zero_le _⟩)) (fun r_ hr_ => ?_)
            subst hr_
            rw [hQ]
            exact W.lret (v := lN (lstT a (tot K S) j2)) hx hb hr (fun t ht hW => ⟨⟨_, H, rfl, ⟨K, S, q, hf, hs, (nE K S), eX, wX, true, cX, z, ya, yb, yc, ks, by rw [aBelief, c4, c13, nn_nI (by omega), nn_nI (by omega)]; simp only [Bool.and_self, if_true]; rw [if_neg c20, ha, show j = nE K S by omega, MK_smC hMX], rfl, ⟨hKO, hL2, hS2, hq, hh, (fun _ => ⟨rfl, hMX, hcX⟩)⟩, hP.sub [0, 1, 2, 3, 4, 5, 6, 7, 8, 9, 10, 11, 12, 13] rfl⟩, ht⟩, hS.F ht⟩) hS.2.2 dX7_belief_84
          | succ n ih32 =>
            intro j a H locs ls hn ha hP hD hS hl
            refine lv_iload hx hb dX7_belief_32 (lv_at hl 0 rfl) ?_
            refine lv_aload_n hx hb dX7_belief_34 rfl (lv_at hl 2 rfl) ?_
            refine va_get (D := D) (ci := 7) (v := .int (nI (nE K S))) (C := RX7) (T := TX7) (N := 17) hx hb hts inA7 hown hK.1 hP 0 rfl rfl 7 (by decide) (hts _ kf_RX7_99) (fun _ h9 => h9) rfl dX7_belief_35 ?_
            refine x_cge (a := j) (b := nE K S) (tgt := 75) hx hb (by first | assumption | omega) (by first | assumption | omega) dX7_belief_38 (by decide) (fun c38 => (by omega)) (fun c38 => ?_)
            refine lv_lload_n hx hb dX7_belief_41 rfl (lv_at hl 1 rfl) ?_
            refine lv_aload_n hx hb dX7_belief_42 rfl (lv_at hl 2 rfl) ?_
            refine va_get (D := D) (ci := 7) (v := .ref r7) (C := RX7) (T := TX7) (N := 17) hx hb hts inA7 hown hK.1 hP 0 rfl rfl 8 (by decide) (hts _ kf_RX7_28) (fun _ h9 => h9) rfl dX7_belief_43 ?_
            refine lv_iload hx hb dX7_belief_46 (lv_at hl 0 rfl) ?_
            refine x_ildN hx hb hK.1 hP 7 0 rfl rfl (by first | assumption | omega) (by decide) dX7_belief_48 ?_
            refine lv_iload_n hx hb dX7_belief_49 rfl (lv_at hl 3 rfl) ?_
            refine vp_callSi (va_Run.run (va_runS (As := [.int (nI (eX j)), .int (nI j1)]) (rest := [.long (lN a)]) ⟨hx, hb, hml, hown, hts⟩ (mt_X7_isIn l D cI cJ cZ (eX j) j1 (Nat.lt_trans (hMX.lt _ (by omega)) (by decide)) (by omega)) (va_cwS 2 hts (gS km_RX7_86 ks_yX7_isIn kn_RX7 kc_yX7_isIn) rfl rfl rfl (by decide +kernel) (by rw [hR]; exact ⟨Nat.le_of_ble_eq_true rfl, Nat.le_of_ble_eq_true rfl⟩)) (cP_S hK (fun k q h => by simp at h)) rfl rfl hl.1 rfl (lv_room (Nat.le_of_ble_eq_true rfl)) dX7_belief_50 ⟨Nat.zero_le _, Nat.zero_le _⟩)) (fun r_ hr_ => ?_)
            subst hr_
            have j67 : W p l e R s m args below meth c H locs 0 0 Q (F0 m 67 ls [.long (lN (if (eX j).testBit j1 then wX j else 0)), .long (lN a)]) := by
              refine x_ladd (z := lN (a + (if (eX j).testBit j1 then wX j else 0))) hx hb dX7_belief_67 (lN_add _ _) ?_
              refine lv_lstore_n (lv' := [(3, .long (lN (a + (if (eX j).testBit j1 then wX j else 0)))), (5, .int (nI j)), (0, .ref r0), (1, .int (nI j1)), (2, .int (nI j2))]) hx hb dX7_belief_68 rfl hl (by decide) rfl (fun ls hl => ?_)
              refine lv_iinc (v := nI (j + 1)) (lv' := [(5, .int (nI (j + 1))), (3, .long (lN (a + (if (eX j).testBit j1 then wX j else 0)))), (0, .ref r0), (1, .int (nI j1)), (2, .int (nI j2))]) hx hb dX7_belief_69 hl (k := 1) rfl (x_inc1 _) (by decide) rfl (fun ls hl => ?_)
              refine lv_goto (tgt := 32) hx hb dX7_belief_72 (by decide) ?_
              exact ih32 (j + 1) (a + (if (eX j).testBit j1 then wX j else 0)) _ _ ls (by omega) (by rw [ha]; rfl) (hP.sub [0, 1, 2, 3, 4, 5, 6, 7, 8, 9, 10, 11, 12, 13] rfl) (hD.re [0, 1, 2, 3, 4, 5, 6, 7, 8, 9, 10, 11, 12, 13] (by decide) rfl) hS (lv_sub hl [0, 1, 2, 3, 4] rfl)
            refine x_beq (tgt := 66) hx hb dX7_belief_53 (by decide) (fun c53 => ?_) (fun c53 => ?_)
            · refine lv_lconst (v := lN 0) hx hb dX7_belief_66 rfl ?_
              refine x_topL (show lN 0 = lN (if (eX j).testBit j1 then wX j else 0) from by rw [c53]; rfl) ?_
              exact j67
            · refine lv_aload_n hx hb dX7_belief_56 rfl (lv_at hl 2 rfl) ?_
              refine va_get (D := D) (ci := 7) (v := .ref r8) (C := RX7) (T := TX7) (N := 17) hx hb hts inA7 hown hK.1 hP 0 rfl rfl 9 (by decide) (hts _ kf_RX7_31) (fun _ h9 => h9) rfl dX7_belief_57 ?_
              refine lv_iload hx hb dX7_belief_60 (lv_at hl 0 rfl) ?_
              refine x_lldL hx hb hK.1 hP 8 1 rfl rfl (by first | assumption | omega) (by decide) dX7_belief_62 ?_
              refine lv_goto (tgt := 67) hx hb dX7_belief_63 (by decide) ?_
              refine x_topL (show lN (wX j) = lN (if (eX j).testBit j1 then wX j else 0) from by rw [c53]; rfl) ?_
              exact j67
        exact lp32 (nE K S) 0 0 _ _ ls (by omega) (rfl) (hP.sub [0, 1, 2, 3, 4, 5, 6, 7, 8, 9, 10, 11, 12, 13] rfl) (hD.re [0, 1, 2, 3, 4, 5, 6, 7, 8, 9, 10, 11, 12, 13] (by decide) rfl) hS (lv_sub hl [0, 1, 2, 3, 4] rfl)
      · refine lv_ldc2 (v := -9223372036854775808) hx hb hown (hts _ kk_RX7_122) dX7_belief_23 ?_
        rw [hQ]
        exact W.lret (v := (-9223372036854775808)) hx hb hr (fun t ht hW => ⟨⟨_, H, rfl, ⟨K, S, q, hf, hs, (nE K S), eX, wX, true, cX, z, ya, yb, yc, ks, by first | (rw [aBelief, c4]; rfl) | (rw [aBelief, c4, c13]; rfl) | (rw [aBelief, c4, c13]; simp only [Bool.and_self, if_true]; rw [if_pos c20]), rfl, ⟨hKO, hL2, hS2, hq, hh, (fun _ => ⟨rfl, hMX, hcX⟩)⟩, hP.sub [0, 1, 2, 3, 4, 5, 6, 7, 8, 9, 10, 11, 12, 13] rfl⟩, ht⟩, hS.F ht⟩) hS.2.2 dX7_belief_26

set_option maxHeartbeats 4000000 in
set_option maxRecDepth 100000 in
theorem mt_X7_fewest (l : Launch) (D : va_G) (cI cJ cZ : ClassId) (r0 : Nat) (r1 : Nat) (r2 : Nat) (r3 : Nat) (r4 : Nat) (r5 : Nat) (r6 : Nat) (r7 : Nat) (r8 : Nat) (r9 : Nat) (r10 : Nat) (r11 : Nat) (r12 : Nat) (r13 : Nat) (K : Kn) (S : Nat → Nat) (q : Nat) (hf : Nat → Nat) (hs : Nat → Nat) (mn : Nat) (ex : Nat → Nat) (we : Nat → Nat) (kn : Bool) (cv : Nat → Bool) (z : Nat) (ya : Nat → Nat) (yb : Nat → Nat) (yc : Nat → Nat) (ks : Nat → Nat) (a1 : Int32) (hN : [r0, r1, r2, r3, r4, r5, r6, r7, r8, r9, r10, r11, r12, r13].Nodup) (hI : mI K S q hf hs mn ex we kn cv) : Met l yX7_fewest (aW yX7_fewest cX7_fewest 7 (some .int)) { frames := 4, cells := 0, slots := 0, locals := 93 } (cP D cI cJ cZ [.ref r0, .int a1] [(r0, .inr (7, [.ref r1, .ref r2, .ref r3, .ref r4, .int (nI q), .ref r5, .ref r6, .int (nI mn), .ref r7, .ref r8, .int (nI kn.toNat), .ref r9, .int (nI z), .ref r10, .ref r11, .ref r12, .ref r13])), (r1, .inl (cI, 10, .inl (fN K.1))), (r2, .inl (cI, 10, .inl (fN K.2.1))), (r3, .inl (cI, 120, .inl (fN (lkA K)))), (r4, .inl (cI, 12, .inl (fN S))), (r5, .inl (cI, 20, .inl (fN hf))), (r6, .inl (cI, 20, .inl (fN hs))), (r7, .inl (cI, 1024, .inl (fN ex))), (r8, .inl (cJ, 1024, .inr (.inl (fL we)))), (r9, .inl (cZ, 1024, .inl (fB cv))), (r10, .inl (cI, 12, .inl (fN ya))), (r11, .inl (cI, 12, .inl (fN yb))), (r12, .inl (cI, 12, .inl (fN yc))), (r13, .inl (cI, 12, .inl (fN ks)))]) (va_Qi (fun (r : Int32) (H1 : Heap) => ∃ (K1 : Kn) (S1 : Nat → Nat) (q1 : Nat) (hf1 : Nat → Nat) (hs1 : Nat → Nat) (mn1 : Nat) (ex1 : Nat → Nat) (we1 : Nat → Nat) (kn1 : Bool) (cv1 : Nat → Bool) (z1 : Nat) (ya1 : Nat → Nat) (yb1 : Nat → Nat) (yc1 : Nat → Nat) (ks1 : Nat → Nat), r = aFewest K S a1 ∧ ((K1, S1, q1, hf1, hs1) = (K, S, q, hf, hs)) ∧ (mI K1 S1 q1 hf1 hs1 mn1 ex1 we1 kn1 cv1) ∧ va_P D vwCl [(r0, .inr (7, [.ref r1, .ref r2, .ref r3, .ref r4, .int (nI q1), .ref r5, .ref r6, .int (nI mn1), .ref r7, .ref r8, .int (nI kn1.toNat), .ref r9, .int (nI z1), .ref r10, .ref r11, .ref r12, .ref r13])), (r1, .inl (cI, 10, .inl (fN K1.1))), (r2, .inl (cI, 10, .inl (fN K1.2.1))), (r3, .inl (cI, 120, .inl (fN (lkA K1)))), (r4, .inl (cI, 12, .inl (fN S1))), (r5, .inl (cI, 20, .inl (fN hf1))), (r6, .inl (cI, 20, .inl (fN hs1))), (r7, .inl (cI, 1024, .inl (fN ex1))), (r8, .inl (cJ, 1024, .inr (.inl (fL we1)))), (r9, .inl (cZ, 1024, .inl (fB cv1))), (r10, .inl (cI, 12, .inl (fN ya1))), (r11, .inl (cI, 12, .inl (fN yb1))), (r12, .inl (cI, 12, .inl (fN yc1))), (r13, .inl (cI, 12, .inl (fN ks1)))] H1) mB (aA [r0, r1, r2, r3, r4, r5, r6, r7, r8, r9, r10, r11, r12, r13])) 0 0 (aA [r0, r1, r2, r3, r4, r5, r6, r7, r8, r9, r10, r11, r12, r13]) := by
  refine Met.ofW (cc := cX7_fewest) (maxL := 7) (ret := (some .int)) (by decide) rfl ?_
  intro p e s m args below meth c s₁ B hml hv
  obtain ⟨hav, hP, hK⟩ := hv
  have hx := B.exec
  have hb := B.bytes
  have hr := B.returns
  have hts := aW_in (atoms_spec (ws := aW yX7_fewest cX7_fewest 7 (some .int)) B.pre)
  have hown : s.vm.findClass RX7 = some m.cls := findClass_of_methodNamed B.named
  have hlocks := B.notSynchronized
  obtain ⟨R, hR⟩ : ∃ R, R = (headSpec (aW yX7_fewest cX7_fewest 7 (some .int)) { frames := 4, cells := 0, slots := 0, locals := 93 }).room := ⟨_, rfl⟩
  rw [← hR]
  obtain ⟨Q, hQ⟩ : ∃ Q, Q = MQ below (va_Qi (fun (r : Int32) (H1 : Heap) => ∃ (K1 : Kn) (S1 : Nat → Nat) (q1 : Nat) (hf1 : Nat → Nat) (hs1 : Nat → Nat) (mn1 : Nat) (ex1 : Nat → Nat) (we1 : Nat → Nat) (kn1 : Bool) (cv1 : Nat → Bool) (z1 : Nat) (ya1 : Nat → Nat) (yb1 : Nat → Nat) (yc1 : Nat → Nat) (ks1 : Nat → Nat), r = aFewest K S a1 ∧ ((K1, S1, q1, hf1, hs1) = (K, S, q, hf, hs)) ∧ (mI K1 S1 q1 hf1 hs1 mn1 ex1 we1 kn1 cv1) ∧ va_P D vwCl [(r0, .inr (7, [.ref r1, .ref r2, .ref r3, .ref r4, .int (nI q1), .ref r5, .ref r6, .int (nI mn1), .ref r7, .ref r8, .int (nI kn1.toNat), .ref r9, .int (nI z1), .ref r10, .ref r11, .ref r12, .ref r13])), (r1, .inl (cI, 10, .inl (fN K1.1))), (r2, .inl (cI, 10, .inl (fN K1.2.1))), (r3, .inl (cI, 120, .inl (fN (lkA K1)))), (r4, .inl (cI, 12, .inl (fN S1))), (r5, .inl (cI, 20, .inl (fN hf1))), (r6, .inl (cI, 20, .inl (fN hs1))), (r7, .inl (cI, 1024, .inl (fN ex1))), (r8, .inl (cJ, 1024, .inr (.inl (fL we1)))), (r9, .inl (cZ, 1024, .inl (fB cv1))), (r10, .inl (cI, 12, .inl (fN ya1))), (r11, .inl (cI, 12, .inl (fN yb1))), (r12, .inl (cI, 12, .inl (fN yc1))), (r13, .inl (cI, 12, .inl (fN ks1)))] H1) mB (aA [r0, r1, r2, r3, r4, r5, r6, r7, r8, r9, r10, r11, r12, r13])) args s 0 0 (aA [r0, r1, r2, r3, r4, r5, r6, r7, r8, r9, r10, r11, r12, r13]) := ⟨_, rfl⟩
  rw [← hQ]
  have hl := lv_entry [.ref r0, .int a1] (n := 7) (Nat.le_of_ble_eq_true rfl)
  have hent := lg_entry_eq m [.ref r0, .int a1] 7
  rw [← hav] at hent
  rw [hent]
  generalize (lg_sl [.ref r0, .int a1] ++ List.replicate (7 - (lg_sl [.ref r0, .int a1]).length) Slot.unset).toArray = ls at hl ⊢
  have hl : lv_has ls 7 [(0, .ref r0), (1, .int a1)] := hl
  have hD : va_D (aA [r0, r1, r2, r3, r4, r5, r6, r7, r8, r9, r10, r11, r12, r13]) [(r0, .inr (7, [.ref r1, .ref r2, .ref r3, .ref r4, .int (nI q), .ref r5, .ref r6, .int (nI mn), .ref r7, .ref r8, .int (nI kn.toNat), .ref r9, .int (nI z), .ref r10, .ref r11, .ref r12, .ref r13])), (r1, .inl (cI, 10, .inl (fN K.1))), (r2, .inl (cI, 10, .inl (fN K.2.1))), (r3, .inl (cI, 120, .inl (fN (lkA K)))), (r4, .inl (cI, 12, .inl (fN S))), (r5, .inl (cI, 20, .inl (fN hf))), (r6, .inl (cI, 20, .inl (fN hs))), (r7, .inl (cI, 1024, .inl (fN ex))), (r8, .inl (cJ, 1024, .inr (.inl (fL we)))), (r9, .inl (cZ, 1024, .inl (fB cv))), (r10, .inl (cI, 12, .inl (fN ya))), (r11, .inl (cI, 12, .inl (fN yb))), (r12, .inl (cI, 12, .inl (fN yc))), (r13, .inl (cI, 12, .inl (fN ks)))] := nd_D hN rfl
  have hS : va_S (aA [r0, r1, r2, r3, r4, r5, r6, r7, r8, r9, r10, r11, r12, r13]) s.heap s.heap [] := va_S.rf
  have hP : va_P D vwCl [(r0, .inr (7, [.ref r1, .ref r2, .ref r3, .ref r4, .int (nI q), .ref r5, .ref r6, .int (nI mn), .ref r7, .ref r8, .int (nI kn.toNat), .ref r9, .int (nI z), .ref r10, .ref r11, .ref r12, .ref r13])), (r1, .inl (cI, 10, .inl (fN K.1))), (r2, .inl (cI, 10, .inl (fN K.2.1))), (r3, .inl (cI, 120, .inl (fN (lkA K)))), (r4, .inl (cI, 12, .inl (fN S))), (r5, .inl (cI, 20, .inl (fN hf))), (r6, .inl (cI, 20, .inl (fN hs))), (r7, .inl (cI, 1024, .inl (fN ex))), (r8, .inl (cJ, 1024, .inr (.inl (fL we)))), (r9, .inl (cZ, 1024, .inl (fB cv))), (r10, .inl (cI, 12, .inl (fN ya))), (r11, .inl (cI, 12, .inl (fN yb))), (r12, .inl (cI, 12, .inl (fN yc))), (r13, .inl (cI, 12, .inl (fN ks)))] s.heap := hP
  obtain ⟨H, hH⟩ : ∃ H, H = s.heap := ⟨_, rfl⟩
  rw [← hH] at hP
  obtain ⟨locs, hlocs⟩ : ∃ q : List Loc, q = [] := ⟨_, rfl⟩
  have hS : va_S (aA [r0, r1, r2, r3, r4, r5, r6, r7, r8, r9, r10, r11, r12, r13]) s.heap H locs := by rw [hH, hlocs]; exact hS
  rw [← hH, ← hlocs]
  clear hH hlocs
  obtain ⟨hKO, hL2, hS2, hq, hh, hkn⟩ := id hI
  refine lv_iload_n hx hb dX7_fewest_0 rfl (lv_at hl 1 rfl) ?_
  refine lv_iconst (v := nI 0) hx hb dX7_fewest_1 (by decide) ?_
  refine lv_iconst (v := nI 2) hx hb dX7_fewest_2 (by decide) ?_
  refine vp_callSi (va_Run.run (va_runS (As := [.int a1, .int (nI 0), .int (nI 2)]) (rest := []) ⟨hx, hb, hml, hown, hts⟩ (mt_X7_within l D cI cJ cZ a1 (nI 0) (nI 2)) (va_cwS 3 hts (gS km_RX7_51 ks_yX7_within kn_RX7 kc_yX7_within) rfl rfl rfl (by decide +kernel) (by rw [hR]; exact ⟨Nat.le_of_ble_eq_true rfl, Nat.le_of_ble_eq_true rfl⟩)) (cP_S hK (fun k q h => by simp at h)) rfl rfl hl.1 rfl (lv_room (Nat.le_of_ble_eq_true rfl)) dX7_fewest_3 ⟨Nat.zero_le _, Nat.zero_le _⟩)) (fun r_ hr_ => ?_)
  subst hr_
  refine x_top (show nI (inR a1 ((nI 0)).toInt ((nI 2)).toInt).toNat = nI (inR a1 0 2).toNat from rfl) ?_
  refine x_bne (tgt := 12) hx hb dX7_fewest_6 (by decide) (fun c6 => ?_) (fun c6 => ?_)
  · obtain ⟨j1, hj1, rfl⟩ := inR_nat (n := 2) c6
    refine lv_aload_n hx hb dX7_fewest_12 rfl (lv_at hl 0 rfl) ?_
    refine mc_i (va_runV (As := []) (rest := []) ⟨hx, hb, hml, hown, hts⟩ (mt_X7_explanations l D cI cJ cZ r0 r1 r2 r3 r4 r5 r6 r7 r8 r9 r10 r11 r12 r13 K S q hf hs mn ex we kn cv z ya yb yc ks (nd_sub hN [0, 1, 2, 3, 4, 5, 6, 7, 8, 9, 10, 11, 12, 13] (by decide) rfl) (by first | assumption | omega) (by first | assumption | omega) (by first | assumption | omega) (by first | assumption | omega)) (cwV 0 hts (gV km_RX7_78 ki_yX7_explanations kl_yX7_explanations kn_RX7 kc_yX7_explanations) rfl rfl rfl (by decide +kernel) (by rw [hR]; exact ⟨Nat.le_of_ble_eq_true rfl, Nat.le_of_ble_eq_true rfl⟩)) (cP_V (q0 := 0) (ci := 7) hK (hP.sub [0, 1, 2, 3, 4, 5, 6, 7, 8, 9, 10, 11, 12, 13] rfl) rfl rfl) rfl rfl hl.1 rfl (lv_room (Nat.le_of_ble_eq_true rfl)) dX7_fewest_13 ⟨Nat.zero_le _, Nat.zero_le _⟩) hS (aA_sub [0, 1, 2, 3, 4, 5, 6, 7, 8, 9, 10, 11, 12, 13] rfl) (fun r_ H locs hp_ hk_ hS => ?_)
    obtain ⟨eX, wX, cX, hr_, hMX, hcX, hP1⟩ := hp_
    subst hr_
    have hP := pj (wr := []) (w1 := [(r0, .inr (7, [.ref r1, .ref r2, .ref r3, .ref r4, .int (nI q), .ref r5, .ref r6, .int (nI (nE K S)), .ref r7, .ref r8, .int (nI true.toNat), .ref r9, .int (nI z), .ref r10, .ref r11, .ref r12, .ref r13])), (r1, .inl (cI, 10, .inl (fN K.1))), (r2, .inl (cI, 10, .inl (fN K.2.1))), (r3, .inl (cI, 120, .inl (fN (lkA K)))), (r4, .inl (cI, 12, .inl (fN S))), (r5, .inl (cI, 20, .inl (fN hf))), (r6, .inl (cI, 20, .inl (fN hs))), (r7, .inl (cI, 1024, .inl (fN eX))), (r8, .inl (cJ, 1024, .inr (.inl (fL wX)))), (r9, .inl (cZ, 1024, .inl (fB cX))), (r10, .inl (cI, 12, .inl (fN ya))), (r11, .inl (cI, 12, .inl (fN yb))), (r12, .inl (cI, 12, .inl (fN yc))), (r13, .inl (cI, 12, .inl (fN ks)))]) (lc := [r0, r1, r2, r3, r4, r5, r6, r7, r8, r9, r10, r11, r12, r13]) hP hD [0, 1, 2, 3, 4, 5, 6, 7, 8, 9, 10, 11, 12, 13] [] rfl rfl (by decide) hk_ hP1
    have hP : va_P D vwCl [(r0, .inr (7, [.ref r1, .ref r2, .ref r3, .ref r4, .int (nI q), .ref r5, .ref r6, .int (nI (nE K S)), .ref r7, .ref r8, .int (nI true.toNat), .ref r9, .int (nI z), .ref r10, .ref r11, .ref r12, .ref r13])), (r1, .inl (cI, 10, .inl (fN K.1))), (r2, .inl (cI, 10, .inl (fN K.2.1))), (r3, .inl (cI, 120, .inl (fN (lkA K)))), (r4, .inl (cI, 12, .inl (fN S))), (r5, .inl (cI, 20, .inl (fN hf))), (r6, .inl (cI, 20, .inl (fN hs))), (r7, .inl (cI, 1024, .inl (fN eX))), (r8, .inl (cJ, 1024, .inr (.inl (fL wX)))), (r9, .inl (cZ, 1024, .inl (fB cX))), (r10, .inl (cI, 12, .inl (fN ya))), (r11, .inl (cI, 12, .inl (fN yb))), (r12, .inl (cI, 12, .inl (fN yc))), (r13, .inl (cI, 12, .inl (fN ks)))] H := hP
    have hD : va_D (aA [r0, r1, r2, r3, r4, r5, r6, r7, r8, r9, r10, r11, r12, r13]) [(r0, .inr (7, [.ref r1, .ref r2, .ref r3, .ref r4, .int (nI q), .ref r5, .ref r6, .int (nI (nE K S)), .ref r7, .ref r8, .int (nI true.toNat), .ref r9, .int (nI z), .ref r10, .ref r11, .ref r12, .ref r13])), (r1, .inl (cI, 10, .inl (fN K.1))), (r2, .inl (cI, 10, .inl (fN K.2.1))), (r3, .inl (cI, 120, .inl (fN (lkA K)))), (r4, .inl (cI, 12, .inl (fN S))), (r5, .inl (cI, 20, .inl (fN hf))), (r6, .inl (cI, 20, .inl (fN hs))), (r7, .inl (cI, 1024, .inl (fN eX))), (r8, .inl (cJ, 1024, .inr (.inl (fL wX)))), (r9, .inl (cZ, 1024, .inl (fB cX))), (r10, .inl (cI, 12, .inl (fN ya))), (r11, .inl (cI, 12, .inl (fN yb))), (r12, .inl (cI, 12, .inl (fN yc))), (r13, .inl (cI, 12, .inl (fN ks)))] := hD.re [0, 1, 2, 3, 4, 5, 6, 7, 8, 9, 10, 11, 12, 13] (by decide) rfl
    refine x_zne (tgt := 22) hx hb (Nat.lt_of_le_of_lt (nE_le K S) (by decide)) dX7_fewest_16 (by decide) (fun c16 => ?_) (fun c16 => ?_)
    · have hnE := nE_le K S
      refine lv_bipush (v := nI 10) hx hb dX7_fewest_22 (by decide) ?_
      refine lv_istore_n (lv' := [(2, .int (nI 10)), (0, .ref r0), (1, .int (nI j1))]) hx hb dX7_fewest_24 rfl hl (by decide) rfl (fun ls hl => ?_)
      refine lv_iconst (v := nI 0) hx hb dX7_fewest_25 (by decide) ?_
      refine lv_istore_n (lv' := [(3, .int (nI 0)), (2, .int (nI 10)), (0, .ref r0), (1, .int (nI j1))]) hx hb dX7_fewest_26 rfl hl (by decide) rfl (fun ls hl => ?_)
      refine lv_iconst (v := nI 0) hx hb dX7_fewest_27 (by decide) ?_
      refine lv_istore (lv' := [(4, .int (nI 0)), (3, .int (nI 0)), (2, .int (nI 10)), (0, .ref r0), (1, .int (nI j1))]) hx hb dX7_fewest_28 hl (by decide) rfl (fun ls hl => ?_)
      refine lv_iconst (v := nI 0) hx hb dX7_fewest_30 (by decide) ?_
      refine lv_istore (lv' := [(5, .int (nI 0)), (4, .int (nI 0)), (3, .int (nI 0)), (2, .int (nI 10)), (0, .ref r0), (1, .int (nI j1))]) hx hb dX7_fewest_31 hl (by decide) rfl (fun ls hl => ?_)
      have lp33 : ∀ (n : Nat) (j : Nat) (a : Nat) (d : Nat) (k : Nat) (H : Heap) (locs : List Loc) (ls : Array Slot), (j + n = nE K S) → (a = minN eX j) → (d = maxN eX j) → (k = ct (fun z => pop (eX z) == minN eX j) j) → va_P D vwCl [(r0, .inr (7, [.ref r1, .ref r2, .ref r3, .ref r4, .int (nI q), .ref r5, .ref r6, .int (nI (nE K S)), .ref r7, .ref r8, .int (nI true.toNat), .ref r9, .int (nI z), .ref r10, .ref r11, .ref r12, .ref r13])), (r1, .inl (cI, 10, .inl (fN K.1))), (r2, .inl (cI, 10, .inl (fN K.2.1))), (r3, .inl (cI, 120, .inl (fN (lkA K)))), (r4, .inl (cI, 12, .inl (fN S))), (r5, .inl (cI, 20, .inl (fN hf))), (r6, .inl (cI, 20, .inl (fN hs))), (r7, .inl (cI, 1024, .inl (fN eX))), (r8, .inl (cJ, 1024, .inr (.inl (fL wX)))), (r9, .inl (cZ, 1024, .inl (fB cX))), (r10, .inl (cI, 12, .inl (fN ya))), (r11, .inl (cI, 12, .inl (fN yb))), (r12, .inl (cI, 12, .inl (fN yc))), (r13, .inl (cI, 12, .inl (fN ks)))] H → va_D (aA [r0, r1, r2, r3, r4, r5, r6, r7, r8, r9, r10, r11, r12, r13]) [(r0, .inr (7, [.ref r1, .ref r2, .ref r3, .ref r4, .int (nI q), .ref r5, .ref r6, .int (nI (nE K S)), .ref r7, .ref r8, .int (nI true.toNat), .ref r9, .int (nI z), .ref r10, .ref r11, .ref r12, .ref r13])), (r1, .inl (cI, 10, .inl (fN K.1))), (r2, .inl (cI, 10, .inl (fN K.2.1))), (r3, .inl (cI, 120, .inl (fN (lkA K)))), (r4, .inl (cI, 12, .inl (fN S))), (r5, .inl (cI, 20, .inl (fN hf))), (r6, .inl (cI, 20, .inl (fN hs))), (r7, .inl (cI, 1024, .inl (fN eX))), (r8, .inl (cJ, 1024, .inr (.inl (fL wX)))), (r9, .inl (cZ, 1024, .inl (fB cX))), (r10, .inl (cI, 12, .inl (fN ya))), (r11, .inl (cI, 12, .inl (fN yb))), (r12, .inl (cI, 12, .inl (fN yc))), (r13, .inl (cI, 12, .inl (fN ks)))] → va_S (aA [r0, r1, r2, r3, r4, r5, r6, r7, r8, r9, r10, r11, r12, r13]) s.heap H locs → lv_has ls 7 [(5, .int (nI j)), (4, .int (nI k)), (3, .int (nI d)), (2, .int (nI a)), (0, .ref r0), (1, .int (nI j1))] → W p l e R s m args below meth c H locs 0 0 Q (F0 m 33 ls []) := by
        intro n
        induction n with
        | zero =>
          intro j a d k H locs ls hn ha hd hk hP hD hS hl
          refine lv_iload hx hb dX7_fewest_33 (lv_at hl 0 rfl) ?_
          refine lv_aload_n hx hb dX7_fewest_35 rfl (lv_at hl 4 rfl) ?_
          refine va_get (D := D) (ci := 7) (v := .int (nI (nE K S))) (C := RX7) (T := TX7) (N := 17) hx hb hts inA7 hown hK.1 hP 0 rfl rfl 7 (by decide) (hts _ kf_RX7_99) (fun _ h9 => h9) rfl dX7_fewest_36 ?_
          refine x_cge (a := j) (b := nE K S) (tgt := 116) hx hb (by first | assumption | omega) (by first | assumption | omega) dX7_fewest_39 (by decide) (fun c39 => ?_) (fun c39 => (by omega))
          refine lv_iload_n hx hb dX7_fewest_116 rfl (lv_at hl 5 rfl) ?_
          refine x_zne (tgt := 124) hx hb (by first | assumption | omega) dX7_fewest_117 (by decide) (fun c117 => ?_) (fun c117 => ?_)
          · refine lv_iload_n hx hb dX7_fewest_124 rfl (lv_at hl 5 rfl) ?_
            refine lv_iconst (v := nI 1) hx hb dX7_fewest_125 (by decide) ?_
            refine x_cne (a := j1) (b := 1) (tgt := 133) hx hb (by first | assumption | omega) (by decide) dX7_fewest_126 (by decide) (fun c126 => ?_) (fun c126 => ?_)
            · refine lv_iload hx hb dX7_fewest_133 (lv_at hl 1 rfl) ?_
              rw [hQ]
              exact W.iret (v := nI k) hx hb hr (fun t ht hW => ⟨⟨_, H, rfl, ⟨K, S, q, hf, hs, (nE K S), eX, wX, true, cX, z, ya, yb, yc, ks, by first | (rw [c117, ha, show j = nE K S by omega, minN_ext (MK_pop hMX), aFewest, if_neg c16]; rfl) | (rw [c126, hd, show j = nE K S by omega, maxN_ext (MK_pop hMX), aFewest, if_neg c16]; rfl) | (rw [show j1 = 2 by omega, hk, show j = nE K S by omega, MK_ctP hMX, aFewest, if_neg c16]; rfl), rfl, ⟨hKO, hL2, hS2, hq, hh, (fun _ => ⟨rfl, hMX, hcX⟩)⟩, hP.sub [0, 1, 2, 3, 4, 5, 6, 7, 8, 9, 10, 11, 12, 13] rfl⟩, ht⟩, hS.F ht⟩) hS.2.2 dX7_fewest_135
            · refine lv_iload_n hx hb dX7_fewest_129 rfl (lv_at hl 2 rfl) ?_
              refine lv_goto (tgt := 135) hx hb dX7_fewest_130 (by decide) ?_
              rw [hQ]
              exact W.iret (v := nI d) hx hb hr (fun t ht hW => ⟨⟨_, H, rfl, ⟨K, S, q, hf, hs, (nE K S), eX, wX, true, cX, z, ya, yb, yc, ks, by first | (rw [c117, ha, show j = nE K S by omega, minN_ext (MK_pop hMX), aFewest, if_neg c16]; rfl) | (rw [c126, hd, show j = nE K S by omega, maxN_ext (MK_pop hMX), aFewest, if_neg c16]; rfl) | (rw [show j1 = 2 by omega, hk, show j = nE K S by omega, MK_ctP hMX, aFewest, if_neg c16]; rfl), rfl, ⟨hKO, hL2, hS2, hq, hh, (fun _ => ⟨rfl, hMX, hcX⟩)⟩, hP.sub [0, 1, 2, 3, 4, 5, 6, 7, 8, 9, 10, 11, 12, 13] rfl⟩, ht⟩, hS.F ht⟩) hS.2.2 dX7_fewest_135
          · refine lv_iload_n hx hb dX7_fewest_120 rfl (lv_at hl 3 rfl) ?_
            refine lv_goto (tgt := 135) hx hb dX7_fewest_121 (by decide) ?_
            rw [hQ]
            exact W.iret (v := nI a) hx hb hr (fun t ht hW => ⟨⟨_, H, rfl, ⟨K, S, q, hf, hs, (nE K S), eX, wX, true, cX, z, ya, yb, yc, ks, by first | (rw [c117, ha, show j = nE K S by omega, minN_ext (MK_pop hMX), aFewest, if_neg c16]; rfl) | (rw [c126, hd, show j = nE K S by omega, maxN_ext (MK_pop hMX), aFewest, if_neg c16]; rfl) | (rw [show j1 = 2 by omega, hk, show j = nE K S by omega, MK_ctP hMX, aFewest, if_neg c16]; rfl), rfl, ⟨hKO, hL2, hS2, hq, hh, (fun _ => ⟨rfl, hMX, hcX⟩)⟩, hP.sub [0, 1, 2, 3, 4, 5, 6, 7, 8, 9, 10, 11, 12, 13] rfl⟩, ht⟩, hS.F ht⟩) hS.2.2 dX7_fewest_135
        | succ n ih33 =>
          intro j a d k H locs ls hn ha hd hk hP hD hS hl
          have hpj := pop_le (eX j)
          have ha12 : a ≤ 10 := by rw [ha]; exact minN_le _ _
          have hd12 : d ≤ 12 := by rw [hd]; exact maxN_le _ _
          refine lv_iload hx hb dX7_fewest_33 (lv_at hl 0 rfl) ?_
          refine lv_aload_n hx hb dX7_fewest_35 rfl (lv_at hl 4 rfl) ?_
          refine va_get (D := D) (ci := 7) (v := .int (nI (nE K S))) (C := RX7) (T := TX7) (N := 17) hx hb hts inA7 hown hK.1 hP 0 rfl rfl 7 (by decide) (hts _ kf_RX7_99) (fun _ h9 => h9) rfl dX7_fewest_36 ?_
          refine x_cge (a := j) (b := nE K S) (tgt := 116) hx hb (by first | assumption | omega) (by first | assumption | omega) dX7_fewest_39 (by decide) (fun c39 => (by omega)) (fun c39 => ?_)
          refine lv_aload_n hx hb dX7_fewest_42 rfl (lv_at hl 4 rfl) ?_
          refine va_get (D := D) (ci := 7) (v := .ref r7) (C := RX7) (T := TX7) (N := 17) hx hb hts inA7 hown hK.1 hP 0 rfl rfl 8 (by decide) (hts _ kf_RX7_28) (fun _ h9 => h9) rfl dX7_fewest_43 ?_
          refine lv_iload hx hb dX7_fewest_46 (lv_at hl 0 rfl) ?_
          refine x_ildN hx hb hK.1 hP 7 0 rfl rfl (by first | assumption | omega) (by decide) dX7_fewest_48 ?_
          refine vp_callSi (va_Run.run (va_runS (As := [.int (nI (eX j))]) (rest := []) ⟨hx, hb, hml, hown, hts⟩ (mt_X7_size l D cI cJ cZ (eX j) (Nat.lt_trans (hMX.lt _ (by omega)) (by decide))) (va_cwS 1 hts (gS km_RX7_96 ks_yX7_size kn_RX7 kc_yX7_size) rfl rfl rfl (by decide +kernel) (by rw [hR]; exact ⟨Nat.le_of_ble_eq_true rfl, Nat.le_of_ble_eq_true rfl⟩)) (cP_S hK (fun k q h => by simp at h)) rfl rfl hl.1 rfl (lv_room (Nat.le_of_ble_eq_true rfl)) dX7_fewest_49 ⟨Nat.zero_le _, Nat.zero_le _⟩)) (fun r_ hr_ => ?_)
          subst hr_
          refine lv_istore (lv' := [(6, .int (nI (pop (eX j)))), (5, .int (nI j)), (4, .int (nI k)), (3, .int (nI d)), (2, .int (nI a)), (0, .ref r0), (1, .int (nI j1))]) hx hb dX7_fewest_52 hl (by decide) rfl (fun ls hl => ?_)
          refine lv_iload hx hb dX7_fewest_54 (lv_at hl 0 rfl) ?_
          refine lv_iload_n hx hb dX7_fewest_56 rfl (lv_at hl 4 rfl) ?_
          have j66 : W p l e R s m args below meth c H locs 0 0 Q (F0 m 66 ls [.int (nI (if pop (eX j) < a then 0 else k))]) := by
            refine lv_istore (lv' := [(4, .int (nI (if pop (eX j) < a then 0 else k))), (6, .int (nI (pop (eX j)))), (5, .int (nI j)), (3, .int (nI d)), (2, .int (nI a)), (0, .ref r0), (1, .int (nI j1))]) hx hb dX7_fewest_66 hl (by decide) rfl (fun ls hl => ?_)
            refine lv_iload hx hb dX7_fewest_68 (lv_at hl 1 rfl) ?_
            refine lv_iload_n hx hb dX7_fewest_70 rfl (lv_at hl 4 rfl) ?_
            have j80 : W p l e R s m args below meth c H locs 0 0 Q (F0 m 80 ls [.int (nI (if pop (eX j) < a then pop (eX j) else a))]) := by
              refine lv_istore_n (lv' := [(2, .int (nI (if pop (eX j) < a then pop (eX j) else a))), (4, .int (nI (if pop (eX j) < a then 0 else k))), (6, .int (nI (pop (eX j)))), (5, .int (nI j)), (3, .int (nI d)), (0, .ref r0), (1, .int (nI j1))]) hx hb dX7_fewest_80 rfl hl (by decide) rfl (fun ls hl => ?_)
              refine lv_iload hx hb dX7_fewest_81 (lv_at hl 1 rfl) ?_
              refine lv_iload hx hb dX7_fewest_83 (lv_at hl 2 rfl) ?_
              refine lv_iload_n hx hb dX7_fewest_85 rfl (lv_at hl 0 rfl) ?_
              have j94 : W p l e R s m args below meth c H locs 0 0 Q (F0 m 94 ls [.int (nI (pop (eX j) == (if pop (eX j) < a then pop (eX j) else a)).toNat), .int (nI (if pop (eX j) < a then 0 else k))]) := by
                refine x_iadd (z := nI ((if pop (eX j) < a then 0 else k) + ((pop (eX j) == (if pop (eX j) < a then pop (eX j) else a)).toNat))) hx hb dX7_fewest_94 (nI_add _ _) ?_
                refine lv_istore (lv' := [(4, .int (nI ((if pop (eX j) < a then 0 else k) + ((pop (eX j) == (if pop (eX j) < a then pop (eX j) else a)).toNat)))), (2, .int (nI (if pop (eX j) < a then pop (eX j) else a))), (6, .int (nI (pop (eX j)))), (5, .int (nI j)), (3, .int (nI d)), (0, .ref r0), (1, .int (nI j1))]) hx hb dX7_fewest_95 hl (by decide) rfl (fun ls hl => ?_)
                refine lv_iload hx hb dX7_fewest_97 (lv_at hl 2 rfl) ?_
                refine lv_iload_n hx hb dX7_fewest_99 rfl (lv_at hl 4 rfl) ?_
                have j109 : W p l e R s m args below meth c H locs 0 0 Q (F0 m 109 ls [.int (nI (if d < pop (eX j) then pop (eX j) else d))]) := by
                  refine lv_istore_n (lv' := [(3, .int (nI (if d < pop (eX j) then pop (eX j) else d))), (4, .int (nI ((if pop (eX j) < a then 0 else k) + ((pop (eX j) == (if pop (eX j) < a then pop (eX j) else a)).toNat)))), (2, .int (nI (if pop (eX j) < a then pop (eX j) else a))), (6, .int (nI (pop (eX j)))), (5, .int (nI j)), (0, .ref r0), (1, .int (nI j1))]) hx hb dX7_fewest_109 rfl hl (by decide) rfl (fun ls hl => ?_)
                  refine lv_iinc (v := nI (j + 1)) (lv' := [(5, .int (nI (j + 1))), (3, .int (nI (if d < pop (eX j) then pop (eX j) else d))), (4, .int (nI ((if pop (eX j) < a then 0 else k) + ((pop (eX j) == (if pop (eX j) < a then pop (eX j) else a)).toNat)))), (2, .int (nI (if pop (eX j) < a then pop (eX j) else a))), (6, .int (nI (pop (eX j)))), (0, .ref r0), (1, .int (nI j1))]) hx hb dX7_fewest_110 hl (k := 4) rfl (x_inc1 _) (by decide) rfl (fun ls hl => ?_)
                  refine lv_goto (tgt := 33) hx hb dX7_fewest_113 (by decide) ?_
                  exact ih33 (j + 1) (if pop (eX j) < a then pop (eX j) else a) (if d < pop (eX j) then pop (eX j) else d) ((if pop (eX j) < a then 0 else k) + ((pop (eX j) == (if pop (eX j) < a then pop (eX j) else a)).toNat)) _ _ ls (by omega) (fw_min ha) (fw_max hd) (fw_ct ha hk) (hP.sub [0, 1, 2, 3, 4, 5, 6, 7, 8, 9, 10, 11, 12, 13] rfl) (hD.re [0, 1, 2, 3, 4, 5, 6, 7, 8, 9, 10, 11, 12, 13] (by decide) rfl) hS (lv_sub hl [0, 2, 1, 3, 5, 6] rfl)
                refine x_cle (a := pop (eX j)) (b := d) (tgt := 108) hx hb (by first | assumption | omega) (by first | assumption | omega) dX7_fewest_100 (by decide) (fun c100 => ?_) (fun c100 => ?_)
                · refine lv_iload_n hx hb dX7_fewest_108 rfl (lv_at hl 4 rfl) ?_
                  refine x_top (show nI d = nI (if d < pop (eX j) then pop (eX j) else d) from by first | (rw [if_pos (by omega)]; done) | (rw [if_neg (by omega)]; done)) ?_
                  exact j109
                · refine lv_iload hx hb dX7_fewest_103 (lv_at hl 2 rfl) ?_
                  refine lv_goto (tgt := 109) hx hb dX7_fewest_105 (by decide) ?_
                  refine x_top (show nI (pop (eX j)) = nI (if d < pop (eX j) then pop (eX j) else d) from by first | (rw [if_pos (by omega)]; done) | (rw [if_neg (by omega)]; done)) ?_
                  exact j109
              refine x_cne (a := pop (eX j)) (b := if pop (eX j) < a then pop (eX j) else a) (tgt := 93) hx hb (by first | assumption | omega) (by split <;> omega) dX7_fewest_86 (by decide) (fun c86 => ?_) (fun c86 => ?_)
              · refine lv_iconst (v := nI 0) hx hb dX7_fewest_93 (by decide) ?_
                refine x_top (show nI 0 = nI (pop (eX j) == (if pop (eX j) < a then pop (eX j) else a)).toNat from by first | exact b_1 (by simpa using c86) | exact b_0 (by simpa using c86)) ?_
                exact j94
              · refine lv_iconst (v := nI 1) hx hb dX7_fewest_89 (by decide) ?_
                refine lv_goto (tgt := 94) hx hb dX7_fewest_90 (by decide) ?_
                refine x_top (show nI 1 = nI (pop (eX j) == (if pop (eX j) < a then pop (eX j) else a)).toNat from by first | exact b_1 (by simpa using c86) | exact b_0 (by simpa using c86)) ?_
                exact j94
            refine x_cge (a := pop (eX j)) (b := a) (tgt := 79) hx hb (by first | assumption | omega) (by first | assumption | omega) dX7_fewest_71 (by decide) (fun c71 => ?_) (fun c71 => ?_)
            · refine lv_iload_n hx hb dX7_fewest_79 rfl (lv_at hl 4 rfl) ?_
              refine x_top (show nI a = nI (if pop (eX j) < a then pop (eX j) else a) from by first | (rw [if_pos (by omega)]; done) | (rw [if_neg (by omega)]; done)) ?_
              exact j80
            · refine lv_iload hx hb dX7_fewest_74 (lv_at hl 1 rfl) ?_
              refine lv_goto (tgt := 80) hx hb dX7_fewest_76 (by decide) ?_
              refine x_top (show nI (pop (eX j)) = nI (if pop (eX j) < a then pop (eX j) else a) from by first | (rw [if_pos (by omega)]; done) | (rw [if_neg (by omega)]; done)) ?_
              exact j80
          refine x_cge (a := pop (eX j)) (b := a) (tgt := 64) hx hb (by first | assumption | omega) (by first | assumption | omega) dX7_fewest_57 (by decide) (fun c57 => ?_) (fun c57 => ?_)
          · refine lv_iload hx hb dX7_fewest_64 (lv_at hl 2 rfl) ?_
            refine x_top (show nI k = nI (if pop (eX j) < a then 0 else k) from by first | (rw [if_pos (by omega)]; done) | (rw [if_neg (by omega)]; done)) ?_
            exact j66
          · refine lv_iconst (v := nI 0) hx hb dX7_fewest_60 (by decide) ?_
            refine lv_goto (tgt := 66) hx hb dX7_fewest_61 (by decide) ?_
            refine x_top (show nI 0 = nI (if pop (eX j) < a then 0 else k) from by first | (rw [if_pos (by omega)]; done) | (rw [if_neg (by omega)]; done)) ?_
            exact j66
      exact lp33 (nE K S) 0 10 0 0 _ _ ls (by omega) (rfl) (rfl) (rfl) (hP.sub [0, 1, 2, 3, 4, 5, 6, 7, 8, 9, 10, 11, 12, 13] rfl) (hD.re [0, 1, 2, 3, 4, 5, 6, 7, 8, 9, 10, 11, 12, 13] (by decide) rfl) hS (lv_sub hl [0, 1, 2, 3, 4, 5] rfl)
    · refine lv_bipush (v := (-9)) hx hb dX7_fewest_19 (by decide) ?_
      rw [hQ]
      exact W.iret (v := (-9)) hx hb hr (fun t ht hW => ⟨⟨_, H, rfl, ⟨K, S, q, hf, hs, (nE K S), eX, wX, true, cX, z, ya, yb, yc, ks, by rw [aFewest, c6, if_pos rfl, if_pos c16], rfl, ⟨hKO, hL2, hS2, hq, hh, (fun _ => ⟨rfl, hMX, hcX⟩)⟩, hP.sub [0, 1, 2, 3, 4, 5, 6, 7, 8, 9, 10, 11, 12, 13] rfl⟩, ht⟩, hS.F ht⟩) hS.2.2 dX7_fewest_21
  · refine lv_bipush (v := (-2)) hx hb dX7_fewest_9 (by decide) ?_
    rw [hQ]
    exact W.iret (v := (-2)) hx hb hr (fun t ht hW => ⟨⟨_, H, rfl, ⟨K, S, q, hf, hs, mn, ex, we, kn, cv, z, ya, yb, yc, ks, by rw [aFewest, c6]; rfl, rfl, ⟨hKO, hL2, hS2, hq, hh, hkn⟩, hP.sub [0, 1, 2, 3, 4, 5, 6, 7, 8, 9, 10, 11, 12, 13] rfl⟩, ht⟩, hS.F ht⟩) hS.2.2 dX7_fewest_11

set_option maxHeartbeats 4000000 in
set_option maxRecDepth 100000 in
theorem mt_X7_covers (l : Launch) (D : va_G) (cI cJ cZ : ClassId) (r0 : Nat) (r1 : Nat) (r2 : Nat) (r3 : Nat) (r4 : Nat) (r5 : Nat) (r6 : Nat) (r7 : Nat) (r8 : Nat) (r9 : Nat) (r10 : Nat) (r11 : Nat) (r12 : Nat) (r13 : Nat) (K : Kn) (S : Nat → Nat) (q : Nat) (hf : Nat → Nat) (hs : Nat → Nat) (mn : Nat) (ex : Nat → Nat) (we : Nat → Nat) (kn : Bool) (cv : Nat → Bool) (z : Nat) (ya : Nat → Nat) (yb : Nat → Nat) (yc : Nat → Nat) (ks : Nat → Nat) (a1 : Int32) (hN : [r0, r1, r2, r3, r4, r5, r6, r7, r8, r9, r10, r11, r12, r13].Nodup) (hI : mI K S q hf hs mn ex we kn cv) : Met l yX7_covers (aW yX7_covers cX7_covers 2 (some .int)) { frames := 4, cells := 0, slots := 0, locals := 93 } (cP D cI cJ cZ [.ref r0, .int a1] [(r0, .inr (7, [.ref r1, .ref r2, .ref r3, .ref r4, .int (nI q), .ref r5, .ref r6, .int (nI mn), .ref r7, .ref r8, .int (nI kn.toNat), .ref r9, .int (nI z), .ref r10, .ref r11, .ref r12, .ref r13])), (r1, .inl (cI, 10, .inl (fN K.1))), (r2, .inl (cI, 10, .inl (fN K.2.1))), (r3, .inl (cI, 120, .inl (fN (lkA K)))), (r4, .inl (cI, 12, .inl (fN S))), (r5, .inl (cI, 20, .inl (fN hf))), (r6, .inl (cI, 20, .inl (fN hs))), (r7, .inl (cI, 1024, .inl (fN ex))), (r8, .inl (cJ, 1024, .inr (.inl (fL we)))), (r9, .inl (cZ, 1024, .inl (fB cv))), (r10, .inl (cI, 12, .inl (fN ya))), (r11, .inl (cI, 12, .inl (fN yb))), (r12, .inl (cI, 12, .inl (fN yc))), (r13, .inl (cI, 12, .inl (fN ks)))]) (va_Qi (fun (r : Int32) (H1 : Heap) => ∃ (K1 : Kn) (S1 : Nat → Nat) (q1 : Nat) (hf1 : Nat → Nat) (hs1 : Nat → Nat) (mn1 : Nat) (ex1 : Nat → Nat) (we1 : Nat → Nat) (kn1 : Bool) (cv1 : Nat → Bool) (z1 : Nat) (ya1 : Nat → Nat) (yb1 : Nat → Nat) (yc1 : Nat → Nat) (ks1 : Nat → Nat), r = aCovers K S a1 ∧ ((K1, S1, q1, hf1, hs1) = (K, S, q, hf, hs)) ∧ (mI K1 S1 q1 hf1 hs1 mn1 ex1 we1 kn1 cv1) ∧ va_P D vwCl [(r0, .inr (7, [.ref r1, .ref r2, .ref r3, .ref r4, .int (nI q1), .ref r5, .ref r6, .int (nI mn1), .ref r7, .ref r8, .int (nI kn1.toNat), .ref r9, .int (nI z1), .ref r10, .ref r11, .ref r12, .ref r13])), (r1, .inl (cI, 10, .inl (fN K1.1))), (r2, .inl (cI, 10, .inl (fN K1.2.1))), (r3, .inl (cI, 120, .inl (fN (lkA K1)))), (r4, .inl (cI, 12, .inl (fN S1))), (r5, .inl (cI, 20, .inl (fN hf1))), (r6, .inl (cI, 20, .inl (fN hs1))), (r7, .inl (cI, 1024, .inl (fN ex1))), (r8, .inl (cJ, 1024, .inr (.inl (fL we1)))), (r9, .inl (cZ, 1024, .inl (fB cv1))), (r10, .inl (cI, 12, .inl (fN ya1))), (r11, .inl (cI, 12, .inl (fN yb1))), (r12, .inl (cI, 12, .inl (fN yc1))), (r13, .inl (cI, 12, .inl (fN ks1)))] H1) mB (aA [r0, r1, r2, r3, r4, r5, r6, r7, r8, r9, r10, r11, r12, r13])) 0 0 (aA [r0, r1, r2, r3, r4, r5, r6, r7, r8, r9, r10, r11, r12, r13]) := by
  refine Met.ofW (cc := cX7_covers) (maxL := 2) (ret := (some .int)) (by decide) rfl ?_
  intro p e s m args below meth c s₁ B hml hv
  obtain ⟨hav, hP, hK⟩ := hv
  have hx := B.exec
  have hb := B.bytes
  have hr := B.returns
  have hts := aW_in (atoms_spec (ws := aW yX7_covers cX7_covers 2 (some .int)) B.pre)
  have hown : s.vm.findClass RX7 = some m.cls := findClass_of_methodNamed B.named
  have hlocks := B.notSynchronized
  obtain ⟨R, hR⟩ : ∃ R, R = (headSpec (aW yX7_covers cX7_covers 2 (some .int)) { frames := 4, cells := 0, slots := 0, locals := 93 }).room := ⟨_, rfl⟩
  rw [← hR]
  obtain ⟨Q, hQ⟩ : ∃ Q, Q = MQ below (va_Qi (fun (r : Int32) (H1 : Heap) => ∃ (K1 : Kn) (S1 : Nat → Nat) (q1 : Nat) (hf1 : Nat → Nat) (hs1 : Nat → Nat) (mn1 : Nat) (ex1 : Nat → Nat) (we1 : Nat → Nat) (kn1 : Bool) (cv1 : Nat → Bool) (z1 : Nat) (ya1 : Nat → Nat) (yb1 : Nat → Nat) (yc1 : Nat → Nat) (ks1 : Nat → Nat), r = aCovers K S a1 ∧ ((K1, S1, q1, hf1, hs1) = (K, S, q, hf, hs)) ∧ (mI K1 S1 q1 hf1 hs1 mn1 ex1 we1 kn1 cv1) ∧ va_P D vwCl [(r0, .inr (7, [.ref r1, .ref r2, .ref r3, .ref r4, .int (nI q1), .ref r5, .ref r6, .int (nI mn1), .ref r7, .ref r8, .int (nI kn1.toNat), .ref r9, .int (nI z1), .ref r10, .ref r11, .ref r12, .ref r13])), (r1, .inl (cI, 10, .inl (fN K1.1))), (r2, .inl (cI, 10, .inl (fN K1.2.1))), (r3, .inl (cI, 120, .inl (fN (lkA K1)))), (r4, .inl (cI, 12, .inl (fN S1))), (r5, .inl (cI, 20, .inl (fN hf1))), (r6, .inl (cI, 20, .inl (fN hs1))), (r7, .inl (cI, 1024, .inl (fN ex1))), (r8, .inl (cJ, 1024, .inr (.inl (fL we1)))), (r9, .inl (cZ, 1024, .inl (fB cv1))), (r10, .inl (cI, 12, .inl (fN ya1))), (r11, .inl (cI, 12, .inl (fN yb1))), (r12, .inl (cI, 12, .inl (fN yc1))), (r13, .inl (cI, 12, .inl (fN ks1)))] H1) mB (aA [r0, r1, r2, r3, r4, r5, r6, r7, r8, r9, r10, r11, r12, r13])) args s 0 0 (aA [r0, r1, r2, r3, r4, r5, r6, r7, r8, r9, r10, r11, r12, r13]) := ⟨_, rfl⟩
  rw [← hQ]
  have hl := lv_entry [.ref r0, .int a1] (n := 2) (Nat.le_of_ble_eq_true rfl)
  have hent := lg_entry_eq m [.ref r0, .int a1] 2
  rw [← hav] at hent
  rw [hent]
  generalize (lg_sl [.ref r0, .int a1] ++ List.replicate (2 - (lg_sl [.ref r0, .int a1]).length) Slot.unset).toArray = ls at hl ⊢
  have hl : lv_has ls 2 [(0, .ref r0), (1, .int a1)] := hl
  have hD : va_D (aA [r0, r1, r2, r3, r4, r5, r6, r7, r8, r9, r10, r11, r12, r13]) [(r0, .inr (7, [.ref r1, .ref r2, .ref r3, .ref r4, .int (nI q), .ref r5, .ref r6, .int (nI mn), .ref r7, .ref r8, .int (nI kn.toNat), .ref r9, .int (nI z), .ref r10, .ref r11, .ref r12, .ref r13])), (r1, .inl (cI, 10, .inl (fN K.1))), (r2, .inl (cI, 10, .inl (fN K.2.1))), (r3, .inl (cI, 120, .inl (fN (lkA K)))), (r4, .inl (cI, 12, .inl (fN S))), (r5, .inl (cI, 20, .inl (fN hf))), (r6, .inl (cI, 20, .inl (fN hs))), (r7, .inl (cI, 1024, .inl (fN ex))), (r8, .inl (cJ, 1024, .inr (.inl (fL we)))), (r9, .inl (cZ, 1024, .inl (fB cv))), (r10, .inl (cI, 12, .inl (fN ya))), (r11, .inl (cI, 12, .inl (fN yb))), (r12, .inl (cI, 12, .inl (fN yc))), (r13, .inl (cI, 12, .inl (fN ks)))] := nd_D hN rfl
  have hS : va_S (aA [r0, r1, r2, r3, r4, r5, r6, r7, r8, r9, r10, r11, r12, r13]) s.heap s.heap [] := va_S.rf
  have hP : va_P D vwCl [(r0, .inr (7, [.ref r1, .ref r2, .ref r3, .ref r4, .int (nI q), .ref r5, .ref r6, .int (nI mn), .ref r7, .ref r8, .int (nI kn.toNat), .ref r9, .int (nI z), .ref r10, .ref r11, .ref r12, .ref r13])), (r1, .inl (cI, 10, .inl (fN K.1))), (r2, .inl (cI, 10, .inl (fN K.2.1))), (r3, .inl (cI, 120, .inl (fN (lkA K)))), (r4, .inl (cI, 12, .inl (fN S))), (r5, .inl (cI, 20, .inl (fN hf))), (r6, .inl (cI, 20, .inl (fN hs))), (r7, .inl (cI, 1024, .inl (fN ex))), (r8, .inl (cJ, 1024, .inr (.inl (fL we)))), (r9, .inl (cZ, 1024, .inl (fB cv))), (r10, .inl (cI, 12, .inl (fN ya))), (r11, .inl (cI, 12, .inl (fN yb))), (r12, .inl (cI, 12, .inl (fN yc))), (r13, .inl (cI, 12, .inl (fN ks)))] s.heap := hP
  obtain ⟨H, hH⟩ : ∃ H, H = s.heap := ⟨_, rfl⟩
  rw [← hH] at hP
  obtain ⟨locs, hlocs⟩ : ∃ q : List Loc, q = [] := ⟨_, rfl⟩
  have hS : va_S (aA [r0, r1, r2, r3, r4, r5, r6, r7, r8, r9, r10, r11, r12, r13]) s.heap H locs := by rw [hH, hlocs]; exact hS
  rw [← hH, ← hlocs]
  clear hH hlocs
  obtain ⟨hKO, hL2, hS2, hq, hh, hkn⟩ := id hI
  refine lv_iload_n hx hb dX7_covers_0 rfl (lv_at hl 1 rfl) ?_
  refine lv_iconst (v := nI 0) hx hb dX7_covers_1 (by decide) ?_
  refine lv_sipush (v := nI 1023) hx hb dX7_covers_2 (by decide) ?_
  refine vp_callSi (va_Run.run (va_runS (As := [.int a1, .int (nI 0), .int (nI 1023)]) (rest := []) ⟨hx, hb, hml, hown, hts⟩ (mt_X7_within l D cI cJ cZ a1 (nI 0) (nI 1023)) (va_cwS 3 hts (gS km_RX7_51 ks_yX7_within kn_RX7 kc_yX7_within) rfl rfl rfl (by decide +kernel) (by rw [hR]; exact ⟨Nat.le_of_ble_eq_true rfl, Nat.le_of_ble_eq_true rfl⟩)) (cP_S hK (fun k q h => by simp at h)) rfl rfl hl.1 rfl (lv_room (Nat.le_of_ble_eq_true rfl)) dX7_covers_5 ⟨Nat.zero_le _, Nat.zero_le _⟩)) (fun r_ hr_ => ?_)
  subst hr_
  refine x_top (show nI (inR a1 ((nI 0)).toInt ((nI 1023)).toInt).toNat = nI (inR a1 0 1023).toNat from rfl) ?_
  refine x_bne (tgt := 14) hx hb dX7_covers_8 (by decide) (fun c8 => ?_) (fun c8 => ?_)
  · obtain ⟨j1, hj1, rfl⟩ := inR_nat (n := 1023) c8
    refine lv_aload_n hx hb dX7_covers_14 rfl (lv_at hl 0 rfl) ?_
    refine mc_i (va_runV (As := []) (rest := []) ⟨hx, hb, hml, hown, hts⟩ (mt_X7_explanations l D cI cJ cZ r0 r1 r2 r3 r4 r5 r6 r7 r8 r9 r10 r11 r12 r13 K S q hf hs mn ex we kn cv z ya yb yc ks (nd_sub hN [0, 1, 2, 3, 4, 5, 6, 7, 8, 9, 10, 11, 12, 13] (by decide) rfl) (by first | assumption | omega) (by first | assumption | omega) (by first | assumption | omega) (by first | assumption | omega)) (cwV 0 hts (gV km_RX7_78 ki_yX7_explanations kl_yX7_explanations kn_RX7 kc_yX7_explanations) rfl rfl rfl (by decide +kernel) (by rw [hR]; exact ⟨Nat.le_of_ble_eq_true rfl, Nat.le_of_ble_eq_true rfl⟩)) (cP_V (q0 := 0) (ci := 7) hK (hP.sub [0, 1, 2, 3, 4, 5, 6, 7, 8, 9, 10, 11, 12, 13] rfl) rfl rfl) rfl rfl hl.1 rfl (lv_room (Nat.le_of_ble_eq_true rfl)) dX7_covers_15 ⟨Nat.zero_le _, Nat.zero_le _⟩) hS (aA_sub [0, 1, 2, 3, 4, 5, 6, 7, 8, 9, 10, 11, 12, 13] rfl) (fun r_ H locs hp_ hk_ hS => ?_)
    obtain ⟨eX, wX, cX, hr_, hMX, hcX, hP1⟩ := hp_
    subst hr_
    have hP := pj (wr := []) (w1 := [(r0, .inr (7, [.ref r1, .ref r2, .ref r3, .ref r4, .int (nI q), .ref r5, .ref r6, .int (nI (nE K S)), .ref r7, .ref r8, .int (nI true.toNat), .ref r9, .int (nI z), .ref r10, .ref r11, .ref r12, .ref r13])), (r1, .inl (cI, 10, .inl (fN K.1))), (r2, .inl (cI, 10, .inl (fN K.2.1))), (r3, .inl (cI, 120, .inl (fN (lkA K)))), (r4, .inl (cI, 12, .inl (fN S))), (r5, .inl (cI, 20, .inl (fN hf))), (r6, .inl (cI, 20, .inl (fN hs))), (r7, .inl (cI, 1024, .inl (fN eX))), (r8, .inl (cJ, 1024, .inr (.inl (fL wX)))), (r9, .inl (cZ, 1024, .inl (fB cX))), (r10, .inl (cI, 12, .inl (fN ya))), (r11, .inl (cI, 12, .inl (fN yb))), (r12, .inl (cI, 12, .inl (fN yc))), (r13, .inl (cI, 12, .inl (fN ks)))]) (lc := [r0, r1, r2, r3, r4, r5, r6, r7, r8, r9, r10, r11, r12, r13]) hP hD [0, 1, 2, 3, 4, 5, 6, 7, 8, 9, 10, 11, 12, 13] [] rfl rfl (by decide) hk_ hP1
    have hP : va_P D vwCl [(r0, .inr (7, [.ref r1, .ref r2, .ref r3, .ref r4, .int (nI q), .ref r5, .ref r6, .int (nI (nE K S)), .ref r7, .ref r8, .int (nI true.toNat), .ref r9, .int (nI z), .ref r10, .ref r11, .ref r12, .ref r13])), (r1, .inl (cI, 10, .inl (fN K.1))), (r2, .inl (cI, 10, .inl (fN K.2.1))), (r3, .inl (cI, 120, .inl (fN (lkA K)))), (r4, .inl (cI, 12, .inl (fN S))), (r5, .inl (cI, 20, .inl (fN hf))), (r6, .inl (cI, 20, .inl (fN hs))), (r7, .inl (cI, 1024, .inl (fN eX))), (r8, .inl (cJ, 1024, .inr (.inl (fL wX)))), (r9, .inl (cZ, 1024, .inl (fB cX))), (r10, .inl (cI, 12, .inl (fN ya))), (r11, .inl (cI, 12, .inl (fN yb))), (r12, .inl (cI, 12, .inl (fN yc))), (r13, .inl (cI, 12, .inl (fN ks)))] H := hP
    have hD : va_D (aA [r0, r1, r2, r3, r4, r5, r6, r7, r8, r9, r10, r11, r12, r13]) [(r0, .inr (7, [.ref r1, .ref r2, .ref r3, .ref r4, .int (nI q), .ref r5, .ref r6, .int (nI (nE K S)), .ref r7, .ref r8, .int (nI true.toNat), .ref r9, .int (nI z), .ref r10, .ref r11, .ref r12, .ref r13])), (r1, .inl (cI, 10, .inl (fN K.1))), (r2, .inl (cI, 10, .inl (fN K.2.1))), (r3, .inl (cI, 120, .inl (fN (lkA K)))), (r4, .inl (cI, 12, .inl (fN S))), (r5, .inl (cI, 20, .inl (fN hf))), (r6, .inl (cI, 20, .inl (fN hs))), (r7, .inl (cI, 1024, .inl (fN eX))), (r8, .inl (cJ, 1024, .inr (.inl (fL wX)))), (r9, .inl (cZ, 1024, .inl (fB cX))), (r10, .inl (cI, 12, .inl (fN ya))), (r11, .inl (cI, 12, .inl (fN yb))), (r12, .inl (cI, 12, .inl (fN yc))), (r13, .inl (cI, 12, .inl (fN ks)))] := hD.re [0, 1, 2, 3, 4, 5, 6, 7, 8, 9, 10, 11, 12, 13] (by decide) rfl
    refine lv_pop hx hb dX7_covers_18 rfl ?_
    refine lv_aload_n hx hb dX7_covers_19 rfl (lv_at hl 0 rfl) ?_
    refine va_get (D := D) (ci := 7) (v := .ref r9) (C := RX7) (T := TX7) (N := 17) hx hb hts inA7 hown hK.1 hP 0 rfl rfl 11 (by decide) (hts _ kf_RX7_35) (fun _ h9 => h9) rfl dX7_covers_20 ?_
    refine lv_iload_n hx hb dX7_covers_23 rfl (lv_at hl 1 rfl) ?_
    refine x_zldB hx hb hK.1 hP 9 2 rfl rfl (by first | assumption | omega) (by decide) dX7_covers_24 ?_
    refine x_top (show nI (cX j1).toNat = nI (cov K S j1).toNat from by rw [hcX j1 (by omega)]) ?_
    refine x_bne (tgt := 32) hx hb dX7_covers_25 (by decide) (fun c25 => ?_) (fun c25 => ?_)
    · refine lv_aload_n hx hb dX7_covers_32 rfl (lv_at hl 0 rfl) ?_
      refine lv_iload_n hx hb dX7_covers_33 rfl (lv_at hl 1 rfl) ?_
      refine vp_callSi (va_Run.run (va_runV (As := [.int (nI j1)]) (rest := []) ⟨hx, hb, hml, hown, hts⟩ (mt_X7_isSpared l D cI cJ cZ r0 r1 r2 r3 r4 r5 r6 r7 r8 r9 r10 r11 r12 r13 K S q hf hs (nE K S) eX wX true cX z ya yb yc ks j1 (by omega)) (cwV 1 hts (gV km_RX7_108 ki_yX7_isSpared kl_yX7_isSpared kn_RX7 kc_yX7_isSpared) rfl rfl rfl (by decide +kernel) (by rw [hR]; exact ⟨Nat.le_of_ble_eq_true rfl, Nat.le_of_ble_eq_true rfl⟩)) (cP_V (q0 := 0) (ci := 7) hK (hP.sub [0, 1, 2, 3, 4, 5, 6, 7, 8, 9, 10, 11, 12, 13] rfl) rfl rfl) rfl rfl hl.1 rfl (lv_room (Nat.le_of_ble_eq_true rfl)) dX7_covers_34 ⟨Nat.zero_le _, Nat.zero_le _⟩)) (fun r_ hr_ => ?_)
      subst hr_
      refine x_top (show nI (anyN (fun z => j1.testBit z && cX (j1 - 2 ^ z)) 10).toNat = nI (spr K S j1).toNat from by rw [spr_cv (by omega) hcX]) ?_
      refine x_beq (tgt := 44) hx hb dX7_covers_37 (by decide) (fun c37 => ?_) (fun c37 => ?_)
      · refine lv_iconst (v := nI 2) hx hb dX7_covers_44 (by decide) ?_
        rw [hQ]
        exact W.iret (v := nI 2) hx hb hr (fun t ht hW => ⟨⟨_, H, rfl, ⟨K, S, q, hf, hs, (nE K S), eX, wX, true, cX, z, ya, yb, yc, ks, by rw [aCovers, c8, nn_nI (by omega)]; first | (rw [c25]; rfl) | (rw [c25, c37]; rfl), rfl, ⟨hKO, hL2, hS2, hq, hh, (fun _ => ⟨rfl, hMX, hcX⟩)⟩, hP.sub [0, 1, 2, 3, 4, 5, 6, 7, 8, 9, 10, 11, 12, 13] rfl⟩, ht⟩, hS.F ht⟩) hS.2.2 dX7_covers_45
      · refine lv_iconst (v := nI 1) hx hb dX7_covers_40 (by decide) ?_
        refine lv_goto (tgt := 45) hx hb dX7_covers_41 (by decide) ?_
        rw [hQ]
        exact W.iret (v := nI 1) hx hb hr (fun t ht hW => ⟨⟨_, H, rfl, ⟨K, S, q, hf, hs, (nE K S), eX, wX, true, cX, z, ya, yb, yc, ks, by rw [aCovers, c8, nn_nI (by omega)]; first | (rw [c25]; rfl) | (rw [c25, c37]; rfl), rfl, ⟨hKO, hL2, hS2, hq, hh, (fun _ => ⟨rfl, hMX, hcX⟩)⟩, hP.sub [0, 1, 2, 3, 4, 5, 6, 7, 8, 9, 10, 11, 12, 13] rfl⟩, ht⟩, hS.F ht⟩) hS.2.2 dX7_covers_45
    · refine lv_iconst (v := nI 0) hx hb dX7_covers_28 (by decide) ?_
      refine lv_goto (tgt := 45) hx hb dX7_covers_29 (by decide) ?_
      rw [hQ]
      exact W.iret (v := nI 0) hx hb hr (fun t ht hW => ⟨⟨_, H, rfl, ⟨K, S, q, hf, hs, (nE K S), eX, wX, true, cX, z, ya, yb, yc, ks, by rw [aCovers, c8, nn_nI (by omega)]; first | (rw [c25]; rfl) | (rw [c25, c37]; rfl), rfl, ⟨hKO, hL2, hS2, hq, hh, (fun _ => ⟨rfl, hMX, hcX⟩)⟩, hP.sub [0, 1, 2, 3, 4, 5, 6, 7, 8, 9, 10, 11, 12, 13] rfl⟩, ht⟩, hS.F ht⟩) hS.2.2 dX7_covers_45
  · refine lv_bipush (v := (-2)) hx hb dX7_covers_11 (by decide) ?_
    rw [hQ]
    exact W.iret (v := (-2)) hx hb hr (fun t ht hW => ⟨⟨_, H, rfl, ⟨K, S, q, hf, hs, mn, ex, we, kn, cv, z, ya, yb, yc, ks, by rw [aCovers, c8]; rfl, rfl, ⟨hKO, hL2, hS2, hq, hh, hkn⟩, hP.sub [0, 1, 2, 3, 4, 5, 6, 7, 8, 9, 10, 11, 12, 13] rfl⟩, ht⟩, hS.F ht⟩) hS.2.2 dX7_covers_13

set_option maxHeartbeats 4000000 in
set_option maxRecDepth 100000 in
theorem mt_X7_unexplained (l : Launch) (D : va_G) (cI cJ cZ : ClassId) (r0 : Nat) (r1 : Nat) (r2 : Nat) (r3 : Nat) (r4 : Nat) (r5 : Nat) (r6 : Nat) (r7 : Nat) (r8 : Nat) (r9 : Nat) (r10 : Nat) (r11 : Nat) (r12 : Nat) (r13 : Nat) (K : Kn) (S : Nat → Nat) (q : Nat) (hf : Nat → Nat) (hs : Nat → Nat) (mn : Nat) (ex : Nat → Nat) (we : Nat → Nat) (kn : Bool) (cv : Nat → Bool) (z : Nat) (ya : Nat → Nat) (yb : Nat → Nat) (yc : Nat → Nat) (ks : Nat → Nat) (hN : [r0, r1, r2, r3, r4, r5, r6, r7, r8, r9, r10, r11, r12, r13].Nodup) (hI : mI K S q hf hs mn ex we kn cv) : Met l yX7_unexplained (aW yX7_unexplained cX7_unexplained 3 (some .int)) { frames := 3, cells := 0, slots := 0, locals := 66 } (cP D cI cJ cZ [.ref r0] [(r0, .inr (7, [.ref r1, .ref r2, .ref r3, .ref r4, .int (nI q), .ref r5, .ref r6, .int (nI mn), .ref r7, .ref r8, .int (nI kn.toNat), .ref r9, .int (nI z), .ref r10, .ref r11, .ref r12, .ref r13])), (r1, .inl (cI, 10, .inl (fN K.1))), (r2, .inl (cI, 10, .inl (fN K.2.1))), (r3, .inl (cI, 120, .inl (fN (lkA K)))), (r4, .inl (cI, 12, .inl (fN S))), (r5, .inl (cI, 20, .inl (fN hf))), (r6, .inl (cI, 20, .inl (fN hs))), (r7, .inl (cI, 1024, .inl (fN ex))), (r8, .inl (cJ, 1024, .inr (.inl (fL we)))), (r9, .inl (cZ, 1024, .inl (fB cv))), (r10, .inl (cI, 12, .inl (fN ya))), (r11, .inl (cI, 12, .inl (fN yb))), (r12, .inl (cI, 12, .inl (fN yc))), (r13, .inl (cI, 12, .inl (fN ks)))]) (va_Qi (fun (r : Int32) (H1 : Heap) => ∃ (K1 : Kn) (S1 : Nat → Nat) (q1 : Nat) (hf1 : Nat → Nat) (hs1 : Nat → Nat) (mn1 : Nat) (ex1 : Nat → Nat) (we1 : Nat → Nat) (kn1 : Bool) (cv1 : Nat → Bool) (z1 : Nat) (ya1 : Nat → Nat) (yb1 : Nat → Nat) (yc1 : Nat → Nat) (ks1 : Nat → Nat), r = aUnex K S ∧ ((K1, S1, q1, hf1, hs1) = (K, S, q, hf, hs)) ∧ (mI K1 S1 q1 hf1 hs1 mn1 ex1 we1 kn1 cv1) ∧ va_P D vwCl [(r0, .inr (7, [.ref r1, .ref r2, .ref r3, .ref r4, .int (nI q1), .ref r5, .ref r6, .int (nI mn1), .ref r7, .ref r8, .int (nI kn1.toNat), .ref r9, .int (nI z1), .ref r10, .ref r11, .ref r12, .ref r13])), (r1, .inl (cI, 10, .inl (fN K1.1))), (r2, .inl (cI, 10, .inl (fN K1.2.1))), (r3, .inl (cI, 120, .inl (fN (lkA K1)))), (r4, .inl (cI, 12, .inl (fN S1))), (r5, .inl (cI, 20, .inl (fN hf1))), (r6, .inl (cI, 20, .inl (fN hs1))), (r7, .inl (cI, 1024, .inl (fN ex1))), (r8, .inl (cJ, 1024, .inr (.inl (fL we1)))), (r9, .inl (cZ, 1024, .inl (fB cv1))), (r10, .inl (cI, 12, .inl (fN ya1))), (r11, .inl (cI, 12, .inl (fN yb1))), (r12, .inl (cI, 12, .inl (fN yc1))), (r13, .inl (cI, 12, .inl (fN ks1)))] H1) mB (aA [r0, r1, r2, r3, r4, r5, r6, r7, r8, r9, r10, r11, r12, r13])) 0 0 (aA [r0, r1, r2, r3, r4, r5, r6, r7, r8, r9, r10, r11, r12, r13]) := by
  refine Met.ofW (cc := cX7_unexplained) (maxL := 3) (ret := (some .int)) (by decide) rfl ?_
  intro p e s m args below meth c s₁ B hml hv
  obtain ⟨hav, hP, hK⟩ := hv
  have hx := B.exec
  have hb := B.bytes
  have hr := B.returns
  have hts := aW_in (atoms_spec (ws := aW yX7_unexplained cX7_unexplained 3 (some .int)) B.pre)
  have hown : s.vm.findClass RX7 = some m.cls := findClass_of_methodNamed B.named
  have hlocks := B.notSynchronized
  obtain ⟨R, hR⟩ : ∃ R, R = (headSpec (aW yX7_unexplained cX7_unexplained 3 (some .int)) { frames := 3, cells := 0, slots := 0, locals := 66 }).room := ⟨_, rfl⟩
  rw [← hR]
  obtain ⟨Q, hQ⟩ : ∃ Q, Q = MQ below (va_Qi (fun (r : Int32) (H1 : Heap) => ∃ (K1 : Kn) (S1 : Nat → Nat) (q1 : Nat) (hf1 : Nat → Nat) (hs1 : Nat → Nat) (mn1 : Nat) (ex1 : Nat → Nat) (we1 : Nat → Nat) (kn1 : Bool) (cv1 : Nat → Bool) (z1 : Nat) (ya1 : Nat → Nat) (yb1 : Nat → Nat) (yc1 : Nat → Nat) (ks1 : Nat → Nat), r = aUnex K S ∧ ((K1, S1, q1, hf1, hs1) = (K, S, q, hf, hs)) ∧ (mI K1 S1 q1 hf1 hs1 mn1 ex1 we1 kn1 cv1) ∧ va_P D vwCl [(r0, .inr (7, [.ref r1, .ref r2, .ref r3, .ref r4, .int (nI q1), .ref r5, .ref r6, .int (nI mn1), .ref r7, .ref r8, .int (nI kn1.toNat), .ref r9, .int (nI z1), .ref r10, .ref r11, .ref r12, .ref r13])), (r1, .inl (cI, 10, .inl (fN K1.1))), (r2, .inl (cI, 10, .inl (fN K1.2.1))), (r3, .inl (cI, 120, .inl (fN (lkA K1)))), (r4, .inl (cI, 12, .inl (fN S1))), (r5, .inl (cI, 20, .inl (fN hf1))), (r6, .inl (cI, 20, .inl (fN hs1))), (r7, .inl (cI, 1024, .inl (fN ex1))), (r8, .inl (cJ, 1024, .inr (.inl (fL we1)))), (r9, .inl (cZ, 1024, .inl (fB cv1))), (r10, .inl (cI, 12, .inl (fN ya1))), (r11, .inl (cI, 12, .inl (fN yb1))), (r12, .inl (cI, 12, .inl (fN yc1))), (r13, .inl (cI, 12, .inl (fN ks1)))] H1) mB (aA [r0, r1, r2, r3, r4, r5, r6, r7, r8, r9, r10, r11, r12, r13])) args s 0 0 (aA [r0, r1, r2, r3, r4, r5, r6, r7, r8, r9, r10, r11, r12, r13]) := ⟨_, rfl⟩
  rw [← hQ]
  have hl := lv_entry [.ref r0] (n := 3) (Nat.le_of_ble_eq_true rfl)
  have hent := lg_entry_eq m [.ref r0] 3
  rw [← hav] at hent
  rw [hent]
  generalize (lg_sl [.ref r0] ++ List.replicate (3 - (lg_sl [.ref r0]).length) Slot.unset).toArray = ls at hl ⊢
  have hl : lv_has ls 3 [(0, .ref r0)] := hl
  have hD : va_D (aA [r0, r1, r2, r3, r4, r5, r6, r7, r8, r9, r10, r11, r12, r13]) [(r0, .inr (7, [.ref r1, .ref r2, .ref r3, .ref r4, .int (nI q), .ref r5, .ref r6, .int (nI mn), .ref r7, .ref r8, .int (nI kn.toNat), .ref r9, .int (nI z), .ref r10, .ref r11, .ref r12, .ref r13])), (r1, .inl (cI, 10, .inl (fN K.1))), (r2, .inl (cI, 10, .inl (fN K.2.1))), (r3, .inl (cI, 120, .inl (fN (lkA K)))), (r4, .inl (cI, 12, .inl (fN S))), (r5, .inl (cI, 20, .inl (fN hf))), (r6, .inl (cI, 20, .inl (fN hs))), (r7, .inl (cI, 1024, .inl (fN ex))), (r8, .inl (cJ, 1024, .inr (.inl (fL we)))), (r9, .inl (cZ, 1024, .inl (fB cv))), (r10, .inl (cI, 12, .inl (fN ya))), (r11, .inl (cI, 12, .inl (fN yb))), (r12, .inl (cI, 12, .inl (fN yc))), (r13, .inl (cI, 12, .inl (fN ks)))] := nd_D hN rfl
  have hS : va_S (aA [r0, r1, r2, r3, r4, r5, r6, r7, r8, r9, r10, r11, r12, r13]) s.heap s.heap [] := va_S.rf
  have hP : va_P D vwCl [(r0, .inr (7, [.ref r1, .ref r2, .ref r3, .ref r4, .int (nI q), .ref r5, .ref r6, .int (nI mn), .ref r7, .ref r8, .int (nI kn.toNat), .ref r9, .int (nI z), .ref r10, .ref r11, .ref r12, .ref r13])), (r1, .inl (cI, 10, .inl (fN K.1))), (r2, .inl (cI, 10, .inl (fN K.2.1))), (r3, .inl (cI, 120, .inl (fN (lkA K)))), (r4, .inl (cI, 12, .inl (fN S))), (r5, .inl (cI, 20, .inl (fN hf))), (r6, .inl (cI, 20, .inl (fN hs))), (r7, .inl (cI, 1024, .inl (fN ex))), (r8, .inl (cJ, 1024, .inr (.inl (fL we)))), (r9, .inl (cZ, 1024, .inl (fB cv))), (r10, .inl (cI, 12, .inl (fN ya))), (r11, .inl (cI, 12, .inl (fN yb))), (r12, .inl (cI, 12, .inl (fN yc))), (r13, .inl (cI, 12, .inl (fN ks)))] s.heap := hP
  obtain ⟨H, hH⟩ : ∃ H, H = s.heap := ⟨_, rfl⟩
  rw [← hH] at hP
  obtain ⟨locs, hlocs⟩ : ∃ q : List Loc, q = [] := ⟨_, rfl⟩
  have hS : va_S (aA [r0, r1, r2, r3, r4, r5, r6, r7, r8, r9, r10, r11, r12, r13]) s.heap H locs := by rw [hH, hlocs]; exact hS
  rw [← hH, ← hlocs]
  clear hH hlocs
  obtain ⟨hKO, hL2, hS2, hq, hh, hkn⟩ := id hI
  refine lv_iconst (v := nI 0) hx hb dX7_unexplained_0 (by decide) ?_
  refine lv_istore_n (lv' := [(1, .int (nI 0)), (0, .ref r0)]) hx hb dX7_unexplained_1 rfl hl (by decide) rfl (fun ls hl => ?_)
  refine lv_iconst (v := nI 0) hx hb dX7_unexplained_2 (by decide) ?_
  refine lv_istore_n (lv' := [(2, .int (nI 0)), (1, .int (nI 0)), (0, .ref r0)]) hx hb dX7_unexplained_3 rfl hl (by decide) rfl (fun ls hl => ?_)
  have lp4 : ∀ (n : Nat) (j : Nat) (a : Nat) (H : Heap) (locs : List Loc) (ls : Array Slot), (j + n = 12) → (a = mkN (fun f => S f == 1 && !isL K f (ndf 1023 (exM K S))) j) → va_P D vwCl [(r0, .inr (7, [.ref r1, .ref r2, .ref r3, .ref r4, .int (nI q), .ref r5, .ref r6, .int (nI mn), .ref r7, .ref r8, .int (nI kn.toNat), .ref r9, .int (nI z), .ref r10, .ref r11, .ref r12, .ref r13])), (r1, .inl (cI, 10, .inl (fN K.1))), (r2, .inl (cI, 10, .inl (fN K.2.1))), (r3, .inl (cI, 120, .inl (fN (lkA K)))), (r4, .inl (cI, 12, .inl (fN S))), (r5, .inl (cI, 20, .inl (fN hf))), (r6, .inl (cI, 20, .inl (fN hs))), (r7, .inl (cI, 1024, .inl (fN ex))), (r8, .inl (cJ, 1024, .inr (.inl (fL we)))), (r9, .inl (cZ, 1024, .inl (fB cv))), (r10, .inl (cI, 12, .inl (fN ya))), (r11, .inl (cI, 12, .inl (fN yb))), (r12, .inl (cI, 12, .inl (fN yc))), (r13, .inl (cI, 12, .inl (fN ks)))] H → va_D (aA [r0, r1, r2, r3, r4, r5, r6, r7, r8, r9, r10, r11, r12, r13]) [(r0, .inr (7, [.ref r1, .ref r2, .ref r3, .ref r4, .int (nI q), .ref r5, .ref r6, .int (nI mn), .ref r7, .ref r8, .int (nI kn.toNat), .ref r9, .int (nI z), .ref r10, .ref r11, .ref r12, .ref r13])), (r1, .inl (cI, 10, .inl (fN K.1))), (r2, .inl (cI, 10, .inl (fN K.2.1))), (r3, .inl (cI, 120, .inl (fN (lkA K)))), (r4, .inl (cI, 12, .inl (fN S))), (r5, .inl (cI, 20, .inl (fN hf))), (r6, .inl (cI, 20, .inl (fN hs))), (r7, .inl (cI, 1024, .inl (fN ex))), (r8, .inl (cJ, 1024, .inr (.inl (fL we)))), (r9, .inl (cZ, 1024, .inl (fB cv))), (r10, .inl (cI, 12, .inl (fN ya))), (r11, .inl (cI, 12, .inl (fN yb))), (r12, .inl (cI, 12, .inl (fN yc))), (r13, .inl (cI, 12, .inl (fN ks)))] → va_S (aA [r0, r1, r2, r3, r4, r5, r6, r7, r8, r9, r10, r11, r12, r13]) s.heap H locs → lv_has ls 3 [(2, .int (nI j)), (1, .int (nI a)), (0, .ref r0)] → W p l e R s m args below meth c H locs 0 0 Q (F0 m 4 ls []) := by
    intro n
    induction n with
    | zero =>
      intro j a H locs ls hn ha hP hD hS hl
      refine lv_iload_n hx hb dX7_unexplained_4 rfl (lv_at hl 0 rfl) ?_
      refine lv_bipush (v := nI 12) hx hb dX7_unexplained_5 (by decide) ?_
      refine x_cge (a := j) (b := 12) (tgt := 54) hx hb (by first | assumption | omega) (by decide) dX7_unexplained_7 (by decide) (fun c7 => ?_) (fun c7 => (by omega))
      refine lv_iload_n hx hb dX7_unexplained_54 rfl (lv_at hl 1 rfl) ?_
      rw [hQ]
      exact W.iret (v := nI a) hx hb hr (fun t ht hW => ⟨⟨_, H, rfl, ⟨K, S, q, hf, hs, mn, ex, we, kn, cv, z, ya, yb, yc, ks, by rw [ha, show j = 12 by omega]; rfl, rfl, ⟨hKO, hL2, hS2, hq, hh, hkn⟩, hP.sub [0, 1, 2, 3, 4, 5, 6, 7, 8, 9, 10, 11, 12, 13] rfl⟩, ht⟩, hS.F ht⟩) hS.2.2 dX7_unexplained_55
    | succ n ih4 =>
      intro j a H locs ls hn ha hP hD hS hl
      refine lv_iload_n hx hb dX7_unexplained_4 rfl (lv_at hl 0 rfl) ?_
      refine lv_bipush (v := nI 12) hx hb dX7_unexplained_5 (by decide) ?_
      refine x_cge (a := j) (b := 12) (tgt := 54) hx hb (by first | assumption | omega) (by decide) dX7_unexplained_7 (by decide) (fun c7 => (by omega)) (fun c7 => ?_)
      refine lv_iload_n hx hb dX7_unexplained_10 rfl (lv_at hl 1 rfl) ?_
      refine lv_aload_n hx hb dX7_unexplained_11 rfl (lv_at hl 2 rfl) ?_
      refine va_get (D := D) (ci := 7) (v := .ref r4) (C := RX7) (T := TX7) (N := 17) hx hb hts inA7 hown hK.1 hP 0 rfl rfl 3 (by decide) (hts _ kf_RX7_19) (fun _ h9 => h9) rfl dX7_unexplained_12 ?_
      refine lv_iload_n hx hb dX7_unexplained_15 rfl (lv_at hl 0 rfl) ?_
      refine x_ildN hx hb hK.1 hP 4 0 rfl rfl (by first | assumption | omega) (by decide) dX7_unexplained_16 ?_
      refine lv_iconst (v := nI 1) hx hb dX7_unexplained_17 (by decide) ?_
      have j46 : W p l e R s m args below meth c H locs 0 0 Q (F0 m 46 ls [.int (nI (if (S j == 1 && !isL K j (ndf 1023 (exM K S))) then 2 ^ j else 0)), .int (nI a)]) := by
        refine x_ior (z := nI (a ||| (if (S j == 1 && !isL K j (ndf 1023 (exM K S))) then 2 ^ j else 0))) hx hb dX7_unexplained_46 (z_or _ _) ?_
        refine lv_istore_n (lv' := [(1, .int (nI (a ||| (if (S j == 1 && !isL K j (ndf 1023 (exM K S))) then 2 ^ j else 0)))), (2, .int (nI j)), (0, .ref r0)]) hx hb dX7_unexplained_47 rfl hl (by decide) rfl (fun ls hl => ?_)
        refine lv_iinc (v := nI (j + 1)) (lv' := [(2, .int (nI (j + 1))), (1, .int (nI (a ||| (if (S j == 1 && !isL K j (ndf 1023 (exM K S))) then 2 ^ j else 0)))), (0, .ref r0)]) hx hb dX7_unexplained_48 hl (k := 1) rfl (x_inc1 _) (by decide) rfl (fun ls hl => ?_)
        refine lv_goto (tgt := 4) hx hb dX7_unexplained_51 (by decide) ?_
        exact ih4 (j + 1) (a ||| (if (S j == 1 && !isL K j (ndf 1023 (exM K S))) then 2 ^ j else 0)) _ _ ls (by omega) (by rw [ha]; exact mkN_or _ _) (hP.sub [0, 1, 2, 3, 4, 5, 6, 7, 8, 9, 10, 11, 12, 13] rfl) (hD.re [0, 1, 2, 3, 4, 5, 6, 7, 8, 9, 10, 11, 12, 13] (by decide) rfl) hS (lv_sub hl [0, 1, 2] rfl)
      refine x_cne (a := S j) (b := 1) (tgt := 45) hx hb (by have := hS2 j; omega) (by decide) dX7_unexplained_18 (by decide) (fun c18 => ?_) (fun c18 => ?_)
      · refine lv_iconst (v := nI 0) hx hb dX7_unexplained_45 (by decide) ?_
        refine x_top (show nI 0 = nI (if (S j == 1 && !isL K j (ndf 1023 (exM K S))) then 2 ^ j else 0) from by first | (simp [c18, c36]; done) | (simp [c36]; done) | (simp [c18]; done)) ?_
        exact j46
      · refine lv_aload_n hx hb dX7_unexplained_21 rfl (lv_at hl 2 rfl) ?_
        refine lv_iload_n hx hb dX7_unexplained_22 rfl (lv_at hl 0 rfl) ?_
        refine lv_sipush (v := nI 1023) hx hb dX7_unexplained_23 (by decide) ?_
        refine lv_aload_n hx hb dX7_unexplained_26 rfl (lv_at hl 2 rfl) ?_
        refine vp_callSi (va_Run.run (va_runV (As := []) (rest := [.int (nI 1023), .int (nI j), .ref r0, .int (nI a)]) ⟨hx, hb, hml, hown, hts⟩ (mt_X7_excluded l D cI cJ cZ r0 r1 r2 r3 r4 r5 r6 r7 r8 r9 r10 r11 r12 r13 K S q hf hs mn ex we kn cv z ya yb yc ks (by first | assumption | omega) (by first | assumption | omega)) (cwV 0 hts (gV km_RX7_102 ki_yX7_excluded kl_yX7_excluded kn_RX7 kc_yX7_excluded) rfl rfl rfl (by decide +kernel) (by rw [hR]; exact ⟨Nat.le_of_ble_eq_true rfl, Nat.le_of_ble_eq_true rfl⟩)) (cP_V (q0 := 0) (ci := 7) hK (hP.sub [0, 1, 2, 3, 4, 5, 6, 7, 8, 9, 10, 11, 12, 13] rfl) rfl rfl) rfl rfl hl.1 rfl (lv_room (Nat.le_of_ble_eq_true rfl)) dX7_unexplained_27 ⟨Nat.zero_le _, Nat.zero_le _⟩)) (fun r_ hr_ => ?_)
        subst hr_
        refine lv_iconst (v := (-1)) hx hb dX7_unexplained_30 (by decide) ?_
        refine x_ixor (z := nI (exM K S) ^^^ (-1)) hx hb dX7_unexplained_31 (rfl) ?_
        refine x_iand (z := nI (ndf 1023 (exM K S))) hx hb dX7_unexplained_32 (z_ndf _ _) ?_
        refine vp_callSi (va_Run.run (va_runV (As := [.int (nI j), .int (nI (ndf 1023 (exM K S)))]) (rest := [.int (nI a)]) ⟨hx, hb, hml, hown, hts⟩ (mt_X7_isLinked l D cI cJ cZ r0 r1 r2 r3 r4 r5 r6 r7 r8 r9 r10 r11 r12 r13 K S q hf hs mn ex we kn cv z ya yb yc ks j (ndf 1023 (exM K S)) (by omega) (Nat.lt_trans (ndf_lt (n := 10) _ (by decide)) (by decide)) (by first | assumption | omega)) (cwV 2 hts (gV km_RX7_93 ki_yX7_isLinked kl_yX7_isLinked kn_RX7 kc_yX7_isLinked) rfl rfl rfl (by decide +kernel) (by rw [hR]; exact ⟨Nat.le_of_ble_eq_true rfl, Nat.le_of_ble_eq_true rfl⟩)) (cP_V (q0 := 0) (ci := 7) hK (hP.sub [0, 1, 2, 3, 4, 5, 6, 7, 8, 9, 10, 11, 12, 13] rfl) rfl rfl) rfl rfl hl.1 rfl (lv_room (Nat.le_of_ble_eq_true rfl)) dX7_unexplained_33 ⟨Nat.zero_le _, Nat.zero_le _⟩)) (fun r_ hr_ => ?_)
        subst hr_
        refine x_bne (tgt := 45) hx hb dX7_unexplained_36 (by decide) (fun c36 => ?_) (fun c36 => ?_)
        · refine lv_iconst (v := nI 0) hx hb dX7_unexplained_45 (by decide) ?_
          refine x_top (show nI 0 = nI (if (S j == 1 && !isL K j (ndf 1023 (exM K S))) then 2 ^ j else 0) from by first | (simp [c18, c36]; done) | (simp [c36]; done) | (simp [c18]; done)) ?_
          exact j46
        · refine lv_iconst (v := nI 1) hx hb dX7_unexplained_39 (by decide) ?_
          refine lv_iload_n hx hb dX7_unexplained_40 rfl (lv_at hl 0 rfl) ?_
          refine x_ishl (z := nI (2 ^ j)) hx hb dX7_unexplained_41 (z_shl1 (by first | assumption | omega)) ?_
          refine lv_goto (tgt := 46) hx hb dX7_unexplained_42 (by decide) ?_
          refine x_top (show nI (2 ^ j) = nI (if (S j == 1 && !isL K j (ndf 1023 (exM K S))) then 2 ^ j else 0) from by first | (simp [c18, c36]; done) | (simp [c36]; done) | (simp [c18]; done)) ?_
          exact j46
  exact lp4 (12) 0 0 _ _ ls (by omega) (rfl) (hP.sub [0, 1, 2, 3, 4, 5, 6, 7, 8, 9, 10, 11, 12, 13] rfl) (hD.re [0, 1, 2, 3, 4, 5, 6, 7, 8, 9, 10, 11, 12, 13] (by decide) rfl) hS (lv_sub hl [0, 1, 2] rfl)

set_option maxHeartbeats 4000000 in
set_option maxRecDepth 100000 in
theorem mt_X7_ofCause (l : Launch) (D : va_G) (cI cJ cZ : ClassId) (r0 : Nat) (r1 : Nat) (r2 : Nat) (r3 : Nat) (r4 : Nat) (r5 : Nat) (r6 : Nat) (r7 : Nat) (r8 : Nat) (r9 : Nat) (r10 : Nat) (r11 : Nat) (r12 : Nat) (r13 : Nat) (K : Kn) (S : Nat → Nat) (q : Nat) (hf : Nat → Nat) (hs : Nat → Nat) (mn : Nat) (ex : Nat → Nat) (we : Nat → Nat) (kn : Bool) (cv : Nat → Bool) (z : Nat) (ya : Nat → Nat) (yb : Nat → Nat) (yc : Nat → Nat) (ks : Nat → Nat) (a1 : Int32) (a2 : Int32) (hN : [r0, r1, r2, r3, r4, r5, r6, r7, r8, r9, r10, r11, r12, r13].Nodup) (hI : mI K S q hf hs mn ex we kn cv) : Met l yX7_ofCause (aW yX7_ofCause cX7_ofCause 7 (some .int)) { frames := 4, cells := 0, slots := 0, locals := 93 } (cP D cI cJ cZ [.ref r0, .int a1, .int a2] [(r0, .inr (7, [.ref r1, .ref r2, .ref r3, .ref r4, .int (nI q), .ref r5, .ref r6, .int (nI mn), .ref r7, .ref r8, .int (nI kn.toNat), .ref r9, .int (nI z), .ref r10, .ref r11, .ref r12, .ref r13])), (r1, .inl (cI, 10, .inl (fN K.1))), (r2, .inl (cI, 10, .inl (fN K.2.1))), (r3, .inl (cI, 120, .inl (fN (lkA K)))), (r4, .inl (cI, 12, .inl (fN S))), (r5, .inl (cI, 20, .inl (fN hf))), (r6, .inl (cI, 20, .inl (fN hs))), (r7, .inl (cI, 1024, .inl (fN ex))), (r8, .inl (cJ, 1024, .inr (.inl (fL we)))), (r9, .inl (cZ, 1024, .inl (fB cv))), (r10, .inl (cI, 12, .inl (fN ya))), (r11, .inl (cI, 12, .inl (fN yb))), (r12, .inl (cI, 12, .inl (fN yc))), (r13, .inl (cI, 12, .inl (fN ks)))]) (va_Qi (fun (r : Int32) (H1 : Heap) => ∃ (K1 : Kn) (S1 : Nat → Nat) (q1 : Nat) (hf1 : Nat → Nat) (hs1 : Nat → Nat) (mn1 : Nat) (ex1 : Nat → Nat) (we1 : Nat → Nat) (kn1 : Bool) (cv1 : Nat → Bool) (z1 : Nat) (ya1 : Nat → Nat) (yb1 : Nat → Nat) (yc1 : Nat → Nat) (ks1 : Nat → Nat), r = aOfCause K S a1 a2 ∧ ((K1, S1, q1, hf1, hs1) = (K, S, q, hf, hs)) ∧ (mI K1 S1 q1 hf1 hs1 mn1 ex1 we1 kn1 cv1) ∧ va_P D vwCl [(r0, .inr (7, [.ref r1, .ref r2, .ref r3, .ref r4, .int (nI q1), .ref r5, .ref r6, .int (nI mn1), .ref r7, .ref r8, .int (nI kn1.toNat), .ref r9, .int (nI z1), .ref r10, .ref r11, .ref r12, .ref r13])), (r1, .inl (cI, 10, .inl (fN K1.1))), (r2, .inl (cI, 10, .inl (fN K1.2.1))), (r3, .inl (cI, 120, .inl (fN (lkA K1)))), (r4, .inl (cI, 12, .inl (fN S1))), (r5, .inl (cI, 20, .inl (fN hf1))), (r6, .inl (cI, 20, .inl (fN hs1))), (r7, .inl (cI, 1024, .inl (fN ex1))), (r8, .inl (cJ, 1024, .inr (.inl (fL we1)))), (r9, .inl (cZ, 1024, .inl (fB cv1))), (r10, .inl (cI, 12, .inl (fN ya1))), (r11, .inl (cI, 12, .inl (fN yb1))), (r12, .inl (cI, 12, .inl (fN yc1))), (r13, .inl (cI, 12, .inl (fN ks1)))] H1) mB (aA [r0, r1, r2, r3, r4, r5, r6, r7, r8, r9, r10, r11, r12, r13])) 0 0 (aA [r0, r1, r2, r3, r4, r5, r6, r7, r8, r9, r10, r11, r12, r13]) := by
  refine Met.ofW (cc := cX7_ofCause) (maxL := 7) (ret := (some .int)) (by decide) rfl ?_
  intro p e s m args below meth c s₁ B hml hv
  obtain ⟨hav, hP, hK⟩ := hv
  have hx := B.exec
  have hb := B.bytes
  have hr := B.returns
  have hts := aW_in (atoms_spec (ws := aW yX7_ofCause cX7_ofCause 7 (some .int)) B.pre)
  have hown : s.vm.findClass RX7 = some m.cls := findClass_of_methodNamed B.named
  have hlocks := B.notSynchronized
  obtain ⟨R, hR⟩ : ∃ R, R = (headSpec (aW yX7_ofCause cX7_ofCause 7 (some .int)) { frames := 4, cells := 0, slots := 0, locals := 93 }).room := ⟨_, rfl⟩
  rw [← hR]
  obtain ⟨Q, hQ⟩ : ∃ Q, Q = MQ below (va_Qi (fun (r : Int32) (H1 : Heap) => ∃ (K1 : Kn) (S1 : Nat → Nat) (q1 : Nat) (hf1 : Nat → Nat) (hs1 : Nat → Nat) (mn1 : Nat) (ex1 : Nat → Nat) (we1 : Nat → Nat) (kn1 : Bool) (cv1 : Nat → Bool) (z1 : Nat) (ya1 : Nat → Nat) (yb1 : Nat → Nat) (yc1 : Nat → Nat) (ks1 : Nat → Nat), r = aOfCause K S a1 a2 ∧ ((K1, S1, q1, hf1, hs1) = (K, S, q, hf, hs)) ∧ (mI K1 S1 q1 hf1 hs1 mn1 ex1 we1 kn1 cv1) ∧ va_P D vwCl [(r0, .inr (7, [.ref r1, .ref r2, .ref r3, .ref r4, .int (nI q1), .ref r5, .ref r6, .int (nI mn1), .ref r7, .ref r8, .int (nI kn1.toNat), .ref r9, .int (nI z1), .ref r10, .ref r11, .ref r12, .ref r13])), (r1, .inl (cI, 10, .inl (fN K1.1))), (r2, .inl (cI, 10, .inl (fN K1.2.1))), (r3, .inl (cI, 120, .inl (fN (lkA K1)))), (r4, .inl (cI, 12, .inl (fN S1))), (r5, .inl (cI, 20, .inl (fN hf1))), (r6, .inl (cI, 20, .inl (fN hs1))), (r7, .inl (cI, 1024, .inl (fN ex1))), (r8, .inl (cJ, 1024, .inr (.inl (fL we1)))), (r9, .inl (cZ, 1024, .inl (fB cv1))), (r10, .inl (cI, 12, .inl (fN ya1))), (r11, .inl (cI, 12, .inl (fN yb1))), (r12, .inl (cI, 12, .inl (fN yc1))), (r13, .inl (cI, 12, .inl (fN ks1)))] H1) mB (aA [r0, r1, r2, r3, r4, r5, r6, r7, r8, r9, r10, r11, r12, r13])) args s 0 0 (aA [r0, r1, r2, r3, r4, r5, r6, r7, r8, r9, r10, r11, r12, r13]) := ⟨_, rfl⟩
  rw [← hQ]
  have hl := lv_entry [.ref r0, .int a1, .int a2] (n := 7) (Nat.le_of_ble_eq_true rfl)
  have hent := lg_entry_eq m [.ref r0, .int a1, .int a2] 7
  rw [← hav] at hent
  rw [hent]
  generalize (lg_sl [.ref r0, .int a1, .int a2] ++ List.replicate (7 - (lg_sl [.ref r0, .int a1, .int a2]).length) Slot.unset).toArray = ls at hl ⊢
  have hl : lv_has ls 7 [(0, .ref r0), (1, .int a1), (2, .int a2)] := hl
  have hD : va_D (aA [r0, r1, r2, r3, r4, r5, r6, r7, r8, r9, r10, r11, r12, r13]) [(r0, .inr (7, [.ref r1, .ref r2, .ref r3, .ref r4, .int (nI q), .ref r5, .ref r6, .int (nI mn), .ref r7, .ref r8, .int (nI kn.toNat), .ref r9, .int (nI z), .ref r10, .ref r11, .ref r12, .ref r13])), (r1, .inl (cI, 10, .inl (fN K.1))), (r2, .inl (cI, 10, .inl (fN K.2.1))), (r3, .inl (cI, 120, .inl (fN (lkA K)))), (r4, .inl (cI, 12, .inl (fN S))), (r5, .inl (cI, 20, .inl (fN hf))), (r6, .inl (cI, 20, .inl (fN hs))), (r7, .inl (cI, 1024, .inl (fN ex))), (r8, .inl (cJ, 1024, .inr (.inl (fL we)))), (r9, .inl (cZ, 1024, .inl (fB cv))), (r10, .inl (cI, 12, .inl (fN ya))), (r11, .inl (cI, 12, .inl (fN yb))), (r12, .inl (cI, 12, .inl (fN yc))), (r13, .inl (cI, 12, .inl (fN ks)))] := nd_D hN rfl
  have hS : va_S (aA [r0, r1, r2, r3, r4, r5, r6, r7, r8, r9, r10, r11, r12, r13]) s.heap s.heap [] := va_S.rf
  have hP : va_P D vwCl [(r0, .inr (7, [.ref r1, .ref r2, .ref r3, .ref r4, .int (nI q), .ref r5, .ref r6, .int (nI mn), .ref r7, .ref r8, .int (nI kn.toNat), .ref r9, .int (nI z), .ref r10, .ref r11, .ref r12, .ref r13])), (r1, .inl (cI, 10, .inl (fN K.1))), (r2, .inl (cI, 10, .inl (fN K.2.1))), (r3, .inl (cI, 120, .inl (fN (lkA K)))), (r4, .inl (cI, 12, .inl (fN S))), (r5, .inl (cI, 20, .inl (fN hf))), (r6, .inl (cI, 20, .inl (fN hs))), (r7, .inl (cI, 1024, .inl (fN ex))), (r8, .inl (cJ, 1024, .inr (.inl (fL we)))), (r9, .inl (cZ, 1024, .inl (fB cv))), (r10, .inl (cI, 12, .inl (fN ya))), (r11, .inl (cI, 12, .inl (fN yb))), (r12, .inl (cI, 12, .inl (fN yc))), (r13, .inl (cI, 12, .inl (fN ks)))] s.heap := hP
  obtain ⟨H, hH⟩ : ∃ H, H = s.heap := ⟨_, rfl⟩
  rw [← hH] at hP
  obtain ⟨locs, hlocs⟩ : ∃ q : List Loc, q = [] := ⟨_, rfl⟩
  have hS : va_S (aA [r0, r1, r2, r3, r4, r5, r6, r7, r8, r9, r10, r11, r12, r13]) s.heap H locs := by rw [hH, hlocs]; exact hS
  rw [← hH, ← hlocs]
  clear hH hlocs
  obtain ⟨hKO, hL2, hS2, hq, hh, hkn⟩ := id hI
  refine lv_iload_n hx hb dX7_ofCause_0 rfl (lv_at hl 1 rfl) ?_
  refine vp_callSi (va_Run.run (va_runS (As := [.int a1]) (rest := []) ⟨hx, hb, hml, hown, hts⟩ (mt_X7_isCause l D cI cJ cZ a1) (va_cwS 1 hts (gS km_RX7_55 ks_yX7_isCause kn_RX7 kc_yX7_isCause) rfl rfl rfl (by decide +kernel) (by rw [hR]; exact ⟨Nat.le_of_ble_eq_true rfl, Nat.le_of_ble_eq_true rfl⟩)) (cP_S hK (fun k q h => by simp at h)) rfl rfl hl.1 rfl (lv_room (Nat.le_of_ble_eq_true rfl)) dX7_ofCause_1 ⟨Nat.zero_le _, Nat.zero_le _⟩)) (fun r_ hr_ => ?_)
  subst hr_
  refine x_bne (tgt := 9) hx hb dX7_ofCause_4 (by decide) (fun c4 => ?_) (fun c4 => ?_)
  · obtain ⟨j1, hj1, rfl⟩ := inR_nat (n := 9) c4
    refine lv_iconst (v := nI 0) hx hb dX7_ofCause_9 (by decide) ?_
    refine lv_istore_n (lv' := [(3, .int (nI 0)), (0, .ref r0), (1, .int (nI j1)), (2, .int a2)]) hx hb dX7_ofCause_10 rfl hl (by decide) rfl (fun ls hl => ?_)
    refine lv_iconst (v := nI 0) hx hb dX7_ofCause_11 (by decide) ?_
    refine lv_istore (lv' := [(4, .int (nI 0)), (3, .int (nI 0)), (0, .ref r0), (1, .int (nI j1)), (2, .int a2)]) hx hb dX7_ofCause_12 hl (by decide) rfl (fun ls hl => ?_)
    refine lv_iconst (v := nI 0) hx hb dX7_ofCause_14 (by decide) ?_
    refine lv_istore (lv' := [(5, .int (nI 0)), (4, .int (nI 0)), (3, .int (nI 0)), (0, .ref r0), (1, .int (nI j1)), (2, .int a2)]) hx hb dX7_ofCause_15 hl (by decide) rfl (fun ls hl => ?_)
    have lp17 : ∀ (n : Nat) (j : Nat) (a : Nat) (d : Nat) (H : Heap) (locs : List Loc) (ls : Array Slot), (j + n = 12) → (a = mkN (fun f => lk K f j1) j) → (d = mkN (fun f => ms K f j1) j) → va_P D vwCl [(r0, .inr (7, [.ref r1, .ref r2, .ref r3, .ref r4, .int (nI q), .ref r5, .ref r6, .int (nI mn), .ref r7, .ref r8, .int (nI kn.toNat), .ref r9, .int (nI z), .ref r10, .ref r11, .ref r12, .ref r13])), (r1, .inl (cI, 10, .inl (fN K.1))), (r2, .inl (cI, 10, .inl (fN K.2.1))), (r3, .inl (cI, 120, .inl (fN (lkA K)))), (r4, .inl (cI, 12, .inl (fN S))), (r5, .inl (cI, 20, .inl (fN hf))), (r6, .inl (cI, 20, .inl (fN hs))), (r7, .inl (cI, 1024, .inl (fN ex))), (r8, .inl (cJ, 1024, .inr (.inl (fL we)))), (r9, .inl (cZ, 1024, .inl (fB cv))), (r10, .inl (cI, 12, .inl (fN ya))), (r11, .inl (cI, 12, .inl (fN yb))), (r12, .inl (cI, 12, .inl (fN yc))), (r13, .inl (cI, 12, .inl (fN ks)))] H → va_D (aA [r0, r1, r2, r3, r4, r5, r6, r7, r8, r9, r10, r11, r12, r13]) [(r0, .inr (7, [.ref r1, .ref r2, .ref r3, .ref r4, .int (nI q), .ref r5, .ref r6, .int (nI mn), .ref r7, .ref r8, .int (nI kn.toNat), .ref r9, .int (nI z), .ref r10, .ref r11, .ref r12, .ref r13])), (r1, .inl (cI, 10, .inl (fN K.1))), (r2, .inl (cI, 10, .inl (fN K.2.1))), (r3, .inl (cI, 120, .inl (fN (lkA K)))), (r4, .inl (cI, 12, .inl (fN S))), (r5, .inl (cI, 20, .inl (fN hf))), (r6, .inl (cI, 20, .inl (fN hs))), (r7, .inl (cI, 1024, .inl (fN ex))), (r8, .inl (cJ, 1024, .inr (.inl (fL we)))), (r9, .inl (cZ, 1024, .inl (fB cv))), (r10, .inl (cI, 12, .inl (fN ya))), (r11, .inl (cI, 12, .inl (fN yb))), (r12, .inl (cI, 12, .inl (fN yc))), (r13, .inl (cI, 12, .inl (fN ks)))] → va_S (aA [r0, r1, r2, r3, r4, r5, r6, r7, r8, r9, r10, r11, r12, r13]) s.heap H locs → lv_has ls 7 [(5, .int (nI j)), (4, .int (nI d)), (3, .int (nI a)), (0, .ref r0), (1, .int (nI j1)), (2, .int a2)] → W p l e R s m args below meth c H locs 0 0 Q (F0 m 17 ls []) := by
      intro n
      induction n with
      | zero =>
        intro j a d H locs ls hn ha hd hP hD hS hl
        refine lv_iload hx hb dX7_ofCause_17 (lv_at hl 0 rfl) ?_
        refine lv_bipush (v := nI 12) hx hb dX7_ofCause_19 (by decide) ?_
        refine x_cge (a := j) (b := 12) (tgt := 75) hx hb (by first | assumption | omega) (by decide) dX7_ofCause_21 (by decide) (fun c21 => ?_) (fun c21 => (by omega))
        refine lv_aload_n hx hb dX7_ofCause_75 rfl (lv_at hl 3 rfl) ?_
        refine mc_i (va_runV (As := []) (rest := []) ⟨hx, hb, hml, hown, hts⟩ (mt_X7_explanations l D cI cJ cZ r0 r1 r2 r3 r4 r5 r6 r7 r8 r9 r10 r11 r12 r13 K S q hf hs mn ex we kn cv z ya yb yc ks (nd_sub hN [0, 1, 2, 3, 4, 5, 6, 7, 8, 9, 10, 11, 12, 13] (by decide) rfl) (by first | assumption | omega) (by first | assumption | omega) (by first | assumption | omega) (by first | assumption | omega)) (cwV 0 hts (gV km_RX7_78 ki_yX7_explanations kl_yX7_explanations kn_RX7 kc_yX7_explanations) rfl rfl rfl (by decide +kernel) (by rw [hR]; exact ⟨Nat.le_of_ble_eq_true rfl, Nat.le_of_ble_eq_true rfl⟩)) (cP_V (q0 := 0) (ci := 7) hK (hP.sub [0, 1, 2, 3, 4, 5, 6, 7, 8, 9, 10, 11, 12, 13] rfl) rfl rfl) rfl rfl hl.1 rfl (lv_room (Nat.le_of_ble_eq_true rfl)) dX7_ofCause_76 ⟨Nat.zero_le _, Nat.zero_le _⟩) hS (aA_sub [0, 1, 2, 3, 4, 5, 6, 7, 8, 9, 10, 11, 12, 13] rfl) (fun r_ H locs hp_ hk_ hS => ?_)
        obtain ⟨eX, wX, cX, hr_, hMX, hcX, hP1⟩ := hp_
        subst hr_
        have hP := pj (wr := []) (w1 := [(r0, .inr (7, [.ref r1, .ref r2, .ref r3, .ref r4, .int (nI q), .ref r5, .ref r6, .int (nI (nE K S)), .ref r7, .ref r8, .int (nI true.toNat), .ref r9, .int (nI z), .ref r10, .ref r11, .ref r12, .ref r13])), (r1, .inl (cI, 10, .inl (fN K.1))), (r2, .inl (cI, 10, .inl (fN K.2.1))), (r3, .inl (cI, 120, .inl (fN (lkA K)))), (r4, .inl (cI, 12, .inl (fN S))), (r5, .inl (cI, 20, .inl (fN hf))), (r6, .inl (cI, 20, .inl (fN hs))), (r7, .inl (cI, 1024, .inl (fN eX))), (r8, .inl (cJ, 1024, .inr (.inl (fL wX)))), (r9, .inl (cZ, 1024, .inl (fB cX))), (r10, .inl (cI, 12, .inl (fN ya))), (r11, .inl (cI, 12, .inl (fN yb))), (r12, .inl (cI, 12, .inl (fN yc))), (r13, .inl (cI, 12, .inl (fN ks)))]) (lc := [r0, r1, r2, r3, r4, r5, r6, r7, r8, r9, r10, r11, r12, r13]) hP hD [0, 1, 2, 3, 4, 5, 6, 7, 8, 9, 10, 11, 12, 13] [] rfl rfl (by decide) hk_ hP1
        have hP : va_P D vwCl [(r0, .inr (7, [.ref r1, .ref r2, .ref r3, .ref r4, .int (nI q), .ref r5, .ref r6, .int (nI (nE K S)), .ref r7, .ref r8, .int (nI true.toNat), .ref r9, .int (nI z), .ref r10, .ref r11, .ref r12, .ref r13])), (r1, .inl (cI, 10, .inl (fN K.1))), (r2, .inl (cI, 10, .inl (fN K.2.1))), (r3, .inl (cI, 120, .inl (fN (lkA K)))), (r4, .inl (cI, 12, .inl (fN S))), (r5, .inl (cI, 20, .inl (fN hf))), (r6, .inl (cI, 20, .inl (fN hs))), (r7, .inl (cI, 1024, .inl (fN eX))), (r8, .inl (cJ, 1024, .inr (.inl (fL wX)))), (r9, .inl (cZ, 1024, .inl (fB cX))), (r10, .inl (cI, 12, .inl (fN ya))), (r11, .inl (cI, 12, .inl (fN yb))), (r12, .inl (cI, 12, .inl (fN yc))), (r13, .inl (cI, 12, .inl (fN ks)))] H := hP
        have hD : va_D (aA [r0, r1, r2, r3, r4, r5, r6, r7, r8, r9, r10, r11, r12, r13]) [(r0, .inr (7, [.ref r1, .ref r2, .ref r3, .ref r4, .int (nI q), .ref r5, .ref r6, .int (nI (nE K S)), .ref r7, .ref r8, .int (nI true.toNat), .ref r9, .int (nI z), .ref r10, .ref r11, .ref r12, .ref r13])), (r1, .inl (cI, 10, .inl (fN K.1))), (r2, .inl (cI, 10, .inl (fN K.2.1))), (r3, .inl (cI, 120, .inl (fN (lkA K)))), (r4, .inl (cI, 12, .inl (fN S))), (r5, .inl (cI, 20, .inl (fN hf))), (r6, .inl (cI, 20, .inl (fN hs))), (r7, .inl (cI, 1024, .inl (fN eX))), (r8, .inl (cJ, 1024, .inr (.inl (fL wX)))), (r9, .inl (cZ, 1024, .inl (fB cX))), (r10, .inl (cI, 12, .inl (fN ya))), (r11, .inl (cI, 12, .inl (fN yb))), (r12, .inl (cI, 12, .inl (fN yc))), (r13, .inl (cI, 12, .inl (fN ks)))] := hD.re [0, 1, 2, 3, 4, 5, 6, 7, 8, 9, 10, 11, 12, 13] (by decide) rfl
        refine lv_pop hx hb dX7_ofCause_79 rfl ?_
        have hnE := nE_le K S
        refine lv_iconst (v := nI 0) hx hb dX7_ofCause_80 (by decide) ?_
        refine lv_istore (lv' := [(5, .int (nI 0)), (4, .int (nI d)), (3, .int (nI a)), (0, .ref r0), (1, .int (nI j1)), (2, .int a2)]) hx hb dX7_ofCause_81 hl (by decide) rfl (fun ls hl => ?_)
        refine lv_iconst (v := nI 0) hx hb dX7_ofCause_83 (by decide) ?_
        refine lv_istore (lv' := [(6, .int (nI 0)), (5, .int (nI 0)), (4, .int (nI d)), (3, .int (nI a)), (0, .ref r0), (1, .int (nI j1)), (2, .int a2)]) hx hb dX7_ofCause_84 hl (by decide) rfl (fun ls hl => ?_)
        have lp86 : ∀ (n : Nat) (j2 : Nat) (k : Nat) (H : Heap) (locs : List Loc) (ls : Array Slot), (j2 + n = nE K S) → (k = ct (fun z => (eX z).testBit j1) j2) → va_P D vwCl [(r0, .inr (7, [.ref r1, .ref r2, .ref r3, .ref r4, .int (nI q), .ref r5, .ref r6, .int (nI (nE K S)), .ref r7, .ref r8, .int (nI true.toNat), .ref r9, .int (nI z), .ref r10, .ref r11, .ref r12, .ref r13])), (r1, .inl (cI, 10, .inl (fN K.1))), (r2, .inl (cI, 10, .inl (fN K.2.1))), (r3, .inl (cI, 120, .inl (fN (lkA K)))), (r4, .inl (cI, 12, .inl (fN S))), (r5, .inl (cI, 20, .inl (fN hf))), (r6, .inl (cI, 20, .inl (fN hs))), (r7, .inl (cI, 1024, .inl (fN eX))), (r8, .inl (cJ, 1024, .inr (.inl (fL wX)))), (r9, .inl (cZ, 1024, .inl (fB cX))), (r10, .inl (cI, 12, .inl (fN ya))), (r11, .inl (cI, 12, .inl (fN yb))), (r12, .inl (cI, 12, .inl (fN yc))), (r13, .inl (cI, 12, .inl (fN ks)))] H → va_D (aA [r0, r1, r2, r3, r4, r5, r6, r7, r8, r9, r10, r11, r12, r13]) [(r0, .inr (7, [.ref r1, .ref r2, .ref r3, .ref r4, .int (nI q), .ref r5, .ref r6, .int (nI (nE K S)), .ref r7, .ref r8, .int (nI true.toNat), .ref r9, .int (nI z), .ref r10, .ref r11, .ref r12, .ref r13])), (r1, .inl (cI, 10, .inl (fN K.1))), (r2, .inl (cI, 10, .inl (fN K.2.1))), (r3, .inl (cI, 120, .inl (fN (lkA K)))), (r4, .inl (cI, 12, .inl (fN S))), (r5, .inl (cI, 20, .inl (fN hf))), (r6, .inl (cI, 20, .inl (fN hs))), (r7, .inl (cI, 1024, .inl (fN eX))), (r8, .inl (cJ, 1024, .inr (.inl (fL wX)))), (r9, .inl (cZ, 1024, .inl (fB cX))), (r10, .inl (cI, 12, .inl (fN ya))), (r11, .inl (cI, 12, .inl (fN yb))), (r12, .inl (cI, 12, .inl (fN yc))), (r13, .inl (cI, 12, .inl (fN ks)))] → va_S (aA [r0, r1, r2, r3, r4, r5, r6, r7, r8, r9, r10, r11, r12, r13]) s.heap H locs → lv_has ls 7 [(6, .int (nI j2)), (5, .int (nI k)), (4, .int (nI d)), (3, .int (nI a)), (0, .ref r0), (1, .int (nI j1)), (2, .int a2)] → W p l e R s m args below meth c H locs 0 0 Q (F0 m 86 ls []) := by
          intro n
          induction n with
          | zero =>
            intro j2 k H locs ls hn hk hP hD hS hl
            refine lv_iload hx hb dX7_ofCause_86 (lv_at hl 0 rfl) ?_
            refine lv_aload_n hx hb dX7_ofCause_88 rfl (lv_at hl 4 rfl) ?_
            refine va_get (D := D) (ci := 7) (v := .int (nI (nE K S))) (C := RX7) (T := TX7) (N := 17) hx hb hts inA7 hown hK.1 hP 0 rfl rfl 7 (by decide) (hts _ kf_RX7_99) (fun _ h9 => h9) rfl dX7_ofCause_89 ?_
            refine x_cge (a := j2) (b := nE K S) (tgt := 125) hx hb (by first | assumption | omega) (by first | assumption | omega) dX7_ofCause_92 (by decide) (fun c92 => ?_) (fun c92 => (by omega))
            refine lv_iload_n hx hb dX7_ofCause_125 rfl (lv_at hl 6 rfl) ?_
            by_cases hs0 : a2 = nI 0
            · subst hs0
              refine lv_tableIn (x := nI 0) (off := 38) (tgt := 164) hx hb dX7_ofCause_126 (by decide) (by decide) (by decide) (by decide) ?_
              refine lv_aload_n hx hb dX7_ofCause_164 rfl (lv_at hl 4 rfl) ?_
              refine va_get (D := D) (ci := 7) (v := .ref r1) (C := RX7) (T := TX7) (N := 17) hx hb hts inA7 hown hK.1 hP 0 rfl rfl 0 (by decide) (hts _ kf_RX7_7) (fun _ h9 => h9) rfl dX7_ofCause_165 ?_
              refine lv_iload_n hx hb dX7_ofCause_168 rfl (lv_at hl 5 rfl) ?_
              refine x_ildN hx hb hK.1 hP 1 0 rfl rfl (by first | assumption | omega) (by decide) dX7_ofCause_169 ?_
              rw [hQ]
              exact W.iret (v := nI (K.1 j1)) hx hb hr (fun t ht hW => ⟨⟨_, H, rfl, ⟨K, S, q, hf, hs, (nE K S), eX, wX, true, cX, z, ya, yb, yc, ks, by rw [aOfCause, c4, nn_nI (by omega)]; rfl, rfl, ⟨hKO, hL2, hS2, hq, hh, (fun _ => ⟨rfl, hMX, hcX⟩)⟩, hP.sub [0, 1, 2, 3, 4, 5, 6, 7, 8, 9, 10, 11, 12, 13] rfl⟩, ht⟩, hS.F ht⟩) hS.2.2 dX7_ofCause_170
            by_cases hs1 : a2 = nI 1
            · subst hs1
              refine lv_tableIn (x := nI 1) (off := 45) (tgt := 171) hx hb dX7_ofCause_126 (by decide) (by decide) (by decide) (by decide) ?_
              refine lv_aload_n hx hb dX7_ofCause_171 rfl (lv_at hl 4 rfl) ?_
              refine va_get (D := D) (ci := 7) (v := .ref r2) (C := RX7) (T := TX7) (N := 17) hx hb hts inA7 hown hK.1 hP 0 rfl rfl 1 (by decide) (hts _ kf_RX7_13) (fun _ h9 => h9) rfl dX7_ofCause_172 ?_
              refine lv_iload_n hx hb dX7_ofCause_175 rfl (lv_at hl 5 rfl) ?_
              refine x_ildN hx hb hK.1 hP 2 0 rfl rfl (by first | assumption | omega) (by decide) dX7_ofCause_176 ?_
              rw [hQ]
              exact W.iret (v := nI (K.2.1 j1)) hx hb hr (fun t ht hW => ⟨⟨_, H, rfl, ⟨K, S, q, hf, hs, (nE K S), eX, wX, true, cX, z, ya, yb, yc, ks, by rw [aOfCause, c4, nn_nI (by omega)]; rfl, rfl, ⟨hKO, hL2, hS2, hq, hh, (fun _ => ⟨rfl, hMX, hcX⟩)⟩, hP.sub [0, 1, 2, 3, 4, 5, 6, 7, 8, 9, 10, 11, 12, 13] rfl⟩, ht⟩, hS.F ht⟩) hS.2.2 dX7_ofCause_177
            by_cases hs2 : a2 = nI 2
            · subst hs2
              refine lv_tableIn (x := nI 2) (off := 52) (tgt := 178) hx hb dX7_ofCause_126 (by decide) (by decide) (by decide) (by decide) ?_
              refine lv_iload_n hx hb dX7_ofCause_178 rfl (lv_at hl 3 rfl) ?_
              rw [hQ]
              exact W.iret (v := nI a) hx hb hr (fun t ht hW => ⟨⟨_, H, rfl, ⟨K, S, q, hf, hs, (nE K S), eX, wX, true, cX, z, ya, yb, yc, ks, by rw [ha, show j = 12 by omega, aOfCause, c4, nn_nI (by omega)]; rfl, rfl, ⟨hKO, hL2, hS2, hq, hh, (fun _ => ⟨rfl, hMX, hcX⟩)⟩, hP.sub [0, 1, 2, 3, 4, 5, 6, 7, 8, 9, 10, 11, 12, 13] rfl⟩, ht⟩, hS.F ht⟩) hS.2.2 dX7_ofCause_179
            by_cases hs3 : a2 = nI 3
            · subst hs3
              refine lv_tableIn (x := nI 3) (off := 54) (tgt := 180) hx hb dX7_ofCause_126 (by decide) (by decide) (by decide) (by decide) ?_
              refine lv_iload hx hb dX7_ofCause_180 (lv_at hl 2 rfl) ?_
              rw [hQ]
              exact W.iret (v := nI d) hx hb hr (fun t ht hW => ⟨⟨_, H, rfl, ⟨K, S, q, hf, hs, (nE K S), eX, wX, true, cX, z, ya, yb, yc, ks, by rw [hd, show j = 12 by omega, aOfCause, c4, nn_nI (by omega)]; rfl, rfl, ⟨hKO, hL2, hS2, hq, hh, (fun _ => ⟨rfl, hMX, hcX⟩)⟩, hP.sub [0, 1, 2, 3, 4, 5, 6, 7, 8, 9, 10, 11, 12, 13] rfl⟩, ht⟩, hS.F ht⟩) hS.2.2 dX7_ofCause_182
            by_cases hs4 : a2 = nI 4
            · subst hs4
              refine lv_tableIn (x := nI 4) (off := 57) (tgt := 183) hx hb dX7_ofCause_126 (by decide) (by decide) (by decide) (by decide) ?_
              refine lv_aload_n hx hb dX7_ofCause_183 rfl (lv_at hl 4 rfl) ?_
              refine lv_iload_n hx hb dX7_ofCause_184 rfl (lv_at hl 5 rfl) ?_
              refine vp_callSi (va_Run.run (va_runV (As := [.int (nI j1)]) (rest := []) ⟨hx, hb, hml, hown, hts⟩ (mt_X7_isExcluded l D cI cJ cZ r0 r1 r2 r3 r4 r5 r6 r7 r8 r9 r10 r11 r12 r13 K S q hf hs (nE K S) eX wX true cX z ya yb yc ks j1 (by omega) (by first | assumption | omega) (by first | assumption | omega)) (cwV 1 hts (gV km_RX7_90 ki_yX7_isExcluded kl_yX7_isExcluded kn_RX7 kc_yX7_isExcluded) rfl rfl rfl (by decide +kernel) (by rw [hR]; exact ⟨Nat.le_of_ble_eq_true rfl, Nat.le_of_ble_eq_true rfl⟩)) (cP_V (q0 := 0) (ci := 7) hK (hP.sub [0, 1, 2, 3, 4, 5, 6, 7, 8, 9, 10, 11, 12, 13] rfl) rfl rfl) rfl rfl hl.1 rfl (lv_room (Nat.le_of_ble_eq_true rfl)) dX7_ofCause_185 ⟨Nat.zero_le _, Nat.zero_le _⟩)) (fun r_ hr_ => ?_)
              subst hr_
              refine x_beq (tgt := 195) hx hb dX7_ofCause_188 (by decide) (fun c188 => ?_) (fun c188 => ?_)
              · refine lv_iconst (v := nI 0) hx hb dX7_ofCause_195 (by decide) ?_
                rw [hQ]
                exact W.iret (v := nI 0) hx hb hr (fun t ht hW => ⟨⟨_, H, rfl, ⟨K, S, q, hf, hs, (nE K S), eX, wX, true, cX, z, ya, yb, yc, ks, by rw [aOfCause, c4, nn_nI (by omega)]; first | exact b_1 c188 | exact b_0 c188, rfl, ⟨hKO, hL2, hS2, hq, hh, (fun _ => ⟨rfl, hMX, hcX⟩)⟩, hP.sub [0, 1, 2, 3, 4, 5, 6, 7, 8, 9, 10, 11, 12, 13] rfl⟩, ht⟩, hS.F ht⟩) hS.2.2 dX7_ofCause_196
              · refine lv_iconst (v := nI 1) hx hb dX7_ofCause_191 (by decide) ?_
                refine lv_goto (tgt := 196) hx hb dX7_ofCause_192 (by decide) ?_
                rw [hQ]
                exact W.iret (v := nI 1) hx hb hr (fun t ht hW => ⟨⟨_, H, rfl, ⟨K, S, q, hf, hs, (nE K S), eX, wX, true, cX, z, ya, yb, yc, ks, by rw [aOfCause, c4, nn_nI (by omega)]; first | exact b_1 c188 | exact b_0 c188, rfl, ⟨hKO, hL2, hS2, hq, hh, (fun _ => ⟨rfl, hMX, hcX⟩)⟩, hP.sub [0, 1, 2, 3, 4, 5, 6, 7, 8, 9, 10, 11, 12, 13] rfl⟩, ht⟩, hS.F ht⟩) hS.2.2 dX7_ofCause_196
            by_cases hs5 : a2 = nI 5
            · subst hs5
              refine lv_tableIn (x := nI 5) (off := 71) (tgt := 197) hx hb dX7_ofCause_126 (by decide) (by decide) (by decide) (by decide) ?_
              refine lv_iload hx hb dX7_ofCause_197 (lv_at hl 1 rfl) ?_
              rw [hQ]
              exact W.iret (v := nI k) hx hb hr (fun t ht hW => ⟨⟨_, H, rfl, ⟨K, S, q, hf, hs, (nE K S), eX, wX, true, cX, z, ya, yb, yc, ks, by rw [hk, show j2 = nE K S by omega, MK_ctC hMX, aOfCause, c4, nn_nI (by omega)]; rfl, rfl, ⟨hKO, hL2, hS2, hq, hh, (fun _ => ⟨rfl, hMX, hcX⟩)⟩, hP.sub [0, 1, 2, 3, 4, 5, 6, 7, 8, 9, 10, 11, 12, 13] rfl⟩, ht⟩, hS.F ht⟩) hS.2.2 dX7_ofCause_199
            refine lv_tableOut (tgt := 200) hx hb dX7_ofCause_126 (tsw_out 5 (fun j hj => by rcases (show j = 0 ∨ j = 1 ∨ j = 2 ∨ j = 3 ∨ j = 4 ∨ j = 5 by omega) with rfl | rfl | rfl | rfl | rfl | rfl <;> assumption)) (by decide) ?_
            refine lv_bipush (v := (-2)) hx hb dX7_ofCause_200 (by decide) ?_
            rw [hQ]
            exact W.iret (v := (-2)) hx hb hr (fun t ht hW => ⟨⟨_, H, rfl, ⟨K, S, q, hf, hs, (nE K S), eX, wX, true, cX, z, ya, yb, yc, ks, by rw [aOfCause, c4, if_pos rfl, if_neg hs0, if_neg hs1, if_neg hs2, if_neg hs3, if_neg hs4, if_neg hs5], rfl, ⟨hKO, hL2, hS2, hq, hh, (fun _ => ⟨rfl, hMX, hcX⟩)⟩, hP.sub [0, 1, 2, 3, 4, 5, 6, 7, 8, 9, 10, 11, 12, 13] rfl⟩, ht⟩, hS.F ht⟩) hS.2.2 dX7_ofCause_202
          | succ n ih86 =>
            intro j2 k H locs ls hn hk hP hD hS hl
            refine lv_iload hx hb dX7_ofCause_86 (lv_at hl 0 rfl) ?_
            refine lv_aload_n hx hb dX7_ofCause_88 rfl (lv_at hl 4 rfl) ?_
            refine va_get (D := D) (ci := 7) (v := .int (nI (nE K S))) (C := RX7) (T := TX7) (N := 17) hx hb hts inA7 hown hK.1 hP 0 rfl rfl 7 (by decide) (hts _ kf_RX7_99) (fun _ h9 => h9) rfl dX7_ofCause_89 ?_
            refine x_cge (a := j2) (b := nE K S) (tgt := 125) hx hb (by first | assumption | omega) (by first | assumption | omega) dX7_ofCause_92 (by decide) (fun c92 => (by omega)) (fun c92 => ?_)
            refine lv_iload hx hb dX7_ofCause_95 (lv_at hl 1 rfl) ?_
            refine lv_aload_n hx hb dX7_ofCause_97 rfl (lv_at hl 4 rfl) ?_
            refine va_get (D := D) (ci := 7) (v := .ref r7) (C := RX7) (T := TX7) (N := 17) hx hb hts inA7 hown hK.1 hP 0 rfl rfl 8 (by decide) (hts _ kf_RX7_28) (fun _ h9 => h9) rfl dX7_ofCause_98 ?_
            refine lv_iload hx hb dX7_ofCause_101 (lv_at hl 0 rfl) ?_
            refine x_ildN hx hb hK.1 hP 7 0 rfl rfl (by first | assumption | omega) (by decide) dX7_ofCause_103 ?_
            refine lv_iload_n hx hb dX7_ofCause_104 rfl (lv_at hl 5 rfl) ?_
            refine vp_callSi (va_Run.run (va_runS (As := [.int (nI (eX j2)), .int (nI j1)]) (rest := [.int (nI k)]) ⟨hx, hb, hml, hown, hts⟩ (mt_X7_isIn l D cI cJ cZ (eX j2) j1 (Nat.lt_trans (hMX.lt _ (by omega)) (by decide)) (by omega)) (va_cwS 2 hts (gS km_RX7_86 ks_yX7_isIn kn_RX7 kc_yX7_isIn) rfl rfl rfl (by decide +kernel) (by rw [hR]; exact ⟨Nat.le_of_ble_eq_true rfl, Nat.le_of_ble_eq_true rfl⟩)) (cP_S hK (fun k q h => by simp at h)) rfl rfl hl.1 rfl (lv_room (Nat.le_of_ble_eq_true rfl)) dX7_ofCause_105 ⟨Nat.zero_le _, Nat.zero_le _⟩)) (fun r_ hr_ => ?_)
            subst hr_
            have j116 : W p l e R s m args below meth c H locs 0 0 Q (F0 m 116 ls [.int (nI ((eX j2).testBit j1).toNat), .int (nI k)]) := by
              refine x_iadd (z := nI (k + (((eX j2).testBit j1).toNat))) hx hb dX7_ofCause_116 (nI_add _ _) ?_
              refine lv_istore (lv' := [(5, .int (nI (k + (((eX j2).testBit j1).toNat)))), (6, .int (nI j2)), (4, .int (nI d)), (3, .int (nI a)), (0, .ref r0), (1, .int (nI j1)), (2, .int a2)]) hx hb dX7_ofCause_117 hl (by decide) rfl (fun ls hl => ?_)
              refine lv_iinc (v := nI (j2 + 1)) (lv' := [(6, .int (nI (j2 + 1))), (5, .int (nI (k + (((eX j2).testBit j1).toNat)))), (4, .int (nI d)), (3, .int (nI a)), (0, .ref r0), (1, .int (nI j1)), (2, .int a2)]) hx hb dX7_ofCause_119 hl (k := 1) rfl (x_inc1 _) (by decide) rfl (fun ls hl => ?_)
              refine lv_goto (tgt := 86) hx hb dX7_ofCause_122 (by decide) ?_
              exact ih86 (j2 + 1) (k + (((eX j2).testBit j1).toNat)) _ _ ls (by omega) (by rw [hk]; rfl) (hP.sub [0, 1, 2, 3, 4, 5, 6, 7, 8, 9, 10, 11, 12, 13] rfl) (hD.re [0, 1, 2, 3, 4, 5, 6, 7, 8, 9, 10, 11, 12, 13] (by decide) rfl) hS (lv_sub hl [0, 1, 2, 3, 4, 5, 6] rfl)
            refine x_beq (tgt := 115) hx hb dX7_ofCause_108 (by decide) (fun c108 => ?_) (fun c108 => ?_)
            · refine lv_iconst (v := nI 0) hx hb dX7_ofCause_115 (by decide) ?_
              refine x_top (show nI 0 = nI ((eX j2).testBit j1).toNat from by first | exact b_1 c108 | exact b_0 c108) ?_
              exact j116
            · refine lv_iconst (v := nI 1) hx hb dX7_ofCause_111 (by decide) ?_
              refine lv_goto (tgt := 116) hx hb dX7_ofCause_112 (by decide) ?_
              refine x_top (show nI 1 = nI ((eX j2).testBit j1).toNat from by first | exact b_1 c108 | exact b_0 c108) ?_
              exact j116
        exact lp86 (nE K S) 0 0 _ _ ls (by omega) (rfl) (hP.sub [0, 1, 2, 3, 4, 5, 6, 7, 8, 9, 10, 11, 12, 13] rfl) (hD.re [0, 1, 2, 3, 4, 5, 6, 7, 8, 9, 10, 11, 12, 13] (by decide) rfl) hS (lv_sub hl [0, 1, 2, 3, 4, 5, 6] rfl)
      | succ n ih17 =>
        intro j a d H locs ls hn ha hd hP hD hS hl
        refine lv_iload hx hb dX7_ofCause_17 (lv_at hl 0 rfl) ?_
        refine lv_bipush (v := nI 12) hx hb dX7_ofCause_19 (by decide) ?_
        refine x_cge (a := j) (b := 12) (tgt := 75) hx hb (by first | assumption | omega) (by decide) dX7_ofCause_21 (by decide) (fun c21 => (by omega)) (fun c21 => ?_)
        refine lv_iload_n hx hb dX7_ofCause_24 rfl (lv_at hl 2 rfl) ?_
        refine lv_aload_n hx hb dX7_ofCause_25 rfl (lv_at hl 3 rfl) ?_
        refine lv_iload hx hb dX7_ofCause_26 (lv_at hl 0 rfl) ?_
        refine lv_iload_n hx hb dX7_ofCause_28 rfl (lv_at hl 4 rfl) ?_
        refine vp_callSi (va_Run.run (va_runV (As := [.int (nI j), .int (nI j1)]) (rest := [.int (nI a)]) ⟨hx, hb, hml, hown, hts⟩ (mt_X7_linkAt l D cI cJ cZ r0 r1 r2 r3 r4 r5 r6 r7 r8 r9 r10 r11 r12 r13 K S q hf hs mn ex we kn cv z ya yb yc ks j j1 (by omega) (by omega)) (cwV 2 hts (gV km_RX7_66 ki_yX7_linkAt kl_yX7_linkAt kn_RX7 kc_yX7_linkAt) rfl rfl rfl (by decide +kernel) (by rw [hR]; exact ⟨Nat.le_of_ble_eq_true rfl, Nat.le_of_ble_eq_true rfl⟩)) (cP_V (q0 := 0) (ci := 7) hK (hP.sub [0, 1, 2, 3, 4, 5, 6, 7, 8, 9, 10, 11, 12, 13] rfl) rfl rfl) rfl rfl hl.1 rfl (lv_room (Nat.le_of_ble_eq_true rfl)) dX7_ofCause_29 ⟨Nat.zero_le _, Nat.zero_le _⟩)) (fun r_ hr_ => ?_)
        subst hr_
        have j43 : W p l e R s m args below meth c H locs 0 0 Q (F0 m 43 ls [.int (nI (if lk K j j1 then 2 ^ j else 0)), .int (nI a)]) := by
          refine x_ior (z := nI (a ||| (if lk K j j1 then 2 ^ j else 0))) hx hb dX7_ofCause_43 (z_or _ _) ?_
          refine lv_istore_n (lv' := [(3, .int (nI (a ||| (if lk K j j1 then 2 ^ j else 0)))), (5, .int (nI j)), (4, .int (nI d)), (0, .ref r0), (1, .int (nI j1)), (2, .int a2)]) hx hb dX7_ofCause_44 rfl hl (by decide) rfl (fun ls hl => ?_)
          refine lv_iload hx hb dX7_ofCause_45 (lv_at hl 2 rfl) ?_
          refine lv_aload_n hx hb dX7_ofCause_47 rfl (lv_at hl 3 rfl) ?_
          refine lv_iload hx hb dX7_ofCause_48 (lv_at hl 1 rfl) ?_
          refine lv_iload_n hx hb dX7_ofCause_50 rfl (lv_at hl 4 rfl) ?_
          refine vp_callSi (va_Run.run (va_runV (As := [.int (nI j), .int (nI j1)]) (rest := [.int (nI d)]) ⟨hx, hb, hml, hown, hts⟩ (mt_X7_linkAt l D cI cJ cZ r0 r1 r2 r3 r4 r5 r6 r7 r8 r9 r10 r11 r12 r13 K S q hf hs mn ex we kn cv z ya yb yc ks j j1 (by omega) (by omega)) (cwV 2 hts (gV km_RX7_66 ki_yX7_linkAt kl_yX7_linkAt kn_RX7 kc_yX7_linkAt) rfl rfl rfl (by decide +kernel) (by rw [hR]; exact ⟨Nat.le_of_ble_eq_true rfl, Nat.le_of_ble_eq_true rfl⟩)) (cP_V (q0 := 0) (ci := 7) hK (hP.sub [0, 1, 2, 3, 4, 5, 6, 7, 8, 9, 10, 11, 12, 13] rfl) rfl rfl) rfl rfl hl.1 rfl (lv_room (Nat.le_of_ble_eq_true rfl)) dX7_ofCause_51 ⟨Nat.zero_le _, Nat.zero_le _⟩)) (fun r_ hr_ => ?_)
          subst hr_
          refine lv_iconst (v := nI 2) hx hb dX7_ofCause_54 (by decide) ?_
          have j66 : W p l e R s m args below meth c H locs 0 0 Q (F0 m 66 ls [.int (nI (if ms K j j1 then 2 ^ j else 0)), .int (nI d)]) := by
            refine x_ior (z := nI (d ||| (if ms K j j1 then 2 ^ j else 0))) hx hb dX7_ofCause_66 (z_or _ _) ?_
            refine lv_istore (lv' := [(4, .int (nI (d ||| (if ms K j j1 then 2 ^ j else 0)))), (3, .int (nI (a ||| (if lk K j j1 then 2 ^ j else 0)))), (5, .int (nI j)), (0, .ref r0), (1, .int (nI j1)), (2, .int a2)]) hx hb dX7_ofCause_67 hl (by decide) rfl (fun ls hl => ?_)
            refine lv_iinc (v := nI (j + 1)) (lv' := [(5, .int (nI (j + 1))), (4, .int (nI (d ||| (if ms K j j1 then 2 ^ j else 0)))), (3, .int (nI (a ||| (if lk K j j1 then 2 ^ j else 0)))), (0, .ref r0), (1, .int (nI j1)), (2, .int a2)]) hx hb dX7_ofCause_69 hl (k := 2) rfl (x_inc1 _) (by decide) rfl (fun ls hl => ?_)
            refine lv_goto (tgt := 17) hx hb dX7_ofCause_72 (by decide) ?_
            exact ih17 (j + 1) (a ||| (if lk K j j1 then 2 ^ j else 0)) (d ||| (if ms K j j1 then 2 ^ j else 0)) _ _ ls (by omega) (by rw [ha]; exact mkN_or _ _) (by rw [hd]; exact mkN_or _ _) (hP.sub [0, 1, 2, 3, 4, 5, 6, 7, 8, 9, 10, 11, 12, 13] rfl) (hD.re [0, 1, 2, 3, 4, 5, 6, 7, 8, 9, 10, 11, 12, 13] (by decide) rfl) hS (lv_sub hl [0, 1, 2, 3, 4, 5] rfl)
          refine x_cne (a := K.2.2 j j1) (b := 2) (tgt := 65) hx hb (by have := hL2 j j1; omega) (by decide) dX7_ofCause_55 (by decide) (fun c55 => ?_) (fun c55 => ?_)
          · refine lv_iconst (v := nI 0) hx hb dX7_ofCause_65 (by decide) ?_
            refine x_top (show nI 0 = nI (if ms K j j1 then 2 ^ j else 0) from by first | (simp [ms, c55]; done)) ?_
            exact j66
          · refine lv_iconst (v := nI 1) hx hb dX7_ofCause_58 (by decide) ?_
            refine lv_iload hx hb dX7_ofCause_59 (lv_at hl 1 rfl) ?_
            refine x_ishl (z := nI (2 ^ j)) hx hb dX7_ofCause_61 (z_shl1 (by first | assumption | omega)) ?_
            refine lv_goto (tgt := 66) hx hb dX7_ofCause_62 (by decide) ?_
            refine x_top (show nI (2 ^ j) = nI (if ms K j j1 then 2 ^ j else 0) from by first | (simp [ms, c55]; done)) ?_
            exact j66
        refine x_zle (tgt := 42) hx hb (by have := hL2 j j1; omega) dX7_ofCause_32 (by decide) (fun c32 => ?_) (fun c32 => ?_)
        · refine lv_iconst (v := nI 0) hx hb dX7_ofCause_42 (by decide) ?_
          refine x_top (show nI 0 = nI (if lk K j j1 then 2 ^ j else 0) from by first | (simp [lk, c32]; done)) ?_
          exact j43
        · refine lv_iconst (v := nI 1) hx hb dX7_ofCause_35 (by decide) ?_
          refine lv_iload hx hb dX7_ofCause_36 (lv_at hl 0 rfl) ?_
          refine x_ishl (z := nI (2 ^ j)) hx hb dX7_ofCause_38 (z_shl1 (by first | assumption | omega)) ?_
          refine lv_goto (tgt := 43) hx hb dX7_ofCause_39 (by decide) ?_
          refine x_top (show nI (2 ^ j) = nI (if lk K j j1 then 2 ^ j else 0) from by first | (simp [lk, c32]; done)) ?_
          exact j43
    exact lp17 (12) 0 0 0 _ _ ls (by omega) (rfl) (rfl) (hP.sub [0, 1, 2, 3, 4, 5, 6, 7, 8, 9, 10, 11, 12, 13] rfl) (hD.re [0, 1, 2, 3, 4, 5, 6, 7, 8, 9, 10, 11, 12, 13] (by decide) rfl) hS (lv_sub hl [0, 1, 2, 3, 4, 5] rfl)
  · refine lv_iconst (v := (-1)) hx hb dX7_ofCause_7 (by decide) ?_
    rw [hQ]
    exact W.iret (v := (-1)) hx hb hr (fun t ht hW => ⟨⟨_, H, rfl, ⟨K, S, q, hf, hs, mn, ex, we, kn, cv, z, ya, yb, yc, ks, by rw [aOfCause, c4]; rfl, rfl, ⟨hKO, hL2, hS2, hq, hh, hkn⟩, hP.sub [0, 1, 2, 3, 4, 5, 6, 7, 8, 9, 10, 11, 12, 13] rfl⟩, ht⟩, hS.F ht⟩) hS.2.2 dX7_ofCause_8

set_option maxHeartbeats 4000000 in
set_option maxRecDepth 100000 in
theorem mt_X7_ofFinding (l : Launch) (D : va_G) (cI cJ cZ : ClassId) (r0 : Nat) (r1 : Nat) (r2 : Nat) (r3 : Nat) (r4 : Nat) (r5 : Nat) (r6 : Nat) (r7 : Nat) (r8 : Nat) (r9 : Nat) (r10 : Nat) (r11 : Nat) (r12 : Nat) (r13 : Nat) (K : Kn) (S : Nat → Nat) (q : Nat) (hf : Nat → Nat) (hs : Nat → Nat) (mn : Nat) (ex : Nat → Nat) (we : Nat → Nat) (kn : Bool) (cv : Nat → Bool) (z : Nat) (ya : Nat → Nat) (yb : Nat → Nat) (yc : Nat → Nat) (ks : Nat → Nat) (a1 : Int32) (a2 : Int32) (hN : [r0, r1, r2, r3, r4, r5, r6, r7, r8, r9, r10, r11, r12, r13].Nodup) (hI : mI K S q hf hs mn ex we kn cv) : Met l yX7_ofFinding (aW yX7_ofFinding cX7_ofFinding 6 (some .int)) { frames := 5, cells := 0, slots := 0, locals := 117 } (cP D cI cJ cZ [.ref r0, .int a1, .int a2] [(r0, .inr (7, [.ref r1, .ref r2, .ref r3, .ref r4, .int (nI q), .ref r5, .ref r6, .int (nI mn), .ref r7, .ref r8, .int (nI kn.toNat), .ref r9, .int (nI z), .ref r10, .ref r11, .ref r12, .ref r13])), (r1, .inl (cI, 10, .inl (fN K.1))), (r2, .inl (cI, 10, .inl (fN K.2.1))), (r3, .inl (cI, 120, .inl (fN (lkA K)))), (r4, .inl (cI, 12, .inl (fN S))), (r5, .inl (cI, 20, .inl (fN hf))), (r6, .inl (cI, 20, .inl (fN hs))), (r7, .inl (cI, 1024, .inl (fN ex))), (r8, .inl (cJ, 1024, .inr (.inl (fL we)))), (r9, .inl (cZ, 1024, .inl (fB cv))), (r10, .inl (cI, 12, .inl (fN ya))), (r11, .inl (cI, 12, .inl (fN yb))), (r12, .inl (cI, 12, .inl (fN yc))), (r13, .inl (cI, 12, .inl (fN ks)))]) (va_Qi (fun (r : Int32) (H1 : Heap) => ∃ (K1 : Kn) (S1 : Nat → Nat) (q1 : Nat) (hf1 : Nat → Nat) (hs1 : Nat → Nat) (mn1 : Nat) (ex1 : Nat → Nat) (we1 : Nat → Nat) (kn1 : Bool) (cv1 : Nat → Bool) (z1 : Nat) (ya1 : Nat → Nat) (yb1 : Nat → Nat) (yc1 : Nat → Nat) (ks1 : Nat → Nat), r = aOfFinding K S a1 a2 ∧ ((K1, S1, q1, hf1, hs1) = (K, S, q, hf, hs)) ∧ (mI K1 S1 q1 hf1 hs1 mn1 ex1 we1 kn1 cv1) ∧ va_P D vwCl [(r0, .inr (7, [.ref r1, .ref r2, .ref r3, .ref r4, .int (nI q1), .ref r5, .ref r6, .int (nI mn1), .ref r7, .ref r8, .int (nI kn1.toNat), .ref r9, .int (nI z1), .ref r10, .ref r11, .ref r12, .ref r13])), (r1, .inl (cI, 10, .inl (fN K1.1))), (r2, .inl (cI, 10, .inl (fN K1.2.1))), (r3, .inl (cI, 120, .inl (fN (lkA K1)))), (r4, .inl (cI, 12, .inl (fN S1))), (r5, .inl (cI, 20, .inl (fN hf1))), (r6, .inl (cI, 20, .inl (fN hs1))), (r7, .inl (cI, 1024, .inl (fN ex1))), (r8, .inl (cJ, 1024, .inr (.inl (fL we1)))), (r9, .inl (cZ, 1024, .inl (fB cv1))), (r10, .inl (cI, 12, .inl (fN ya1))), (r11, .inl (cI, 12, .inl (fN yb1))), (r12, .inl (cI, 12, .inl (fN yc1))), (r13, .inl (cI, 12, .inl (fN ks1)))] H1) mB (aA [r0, r1, r2, r3, r4, r5, r6, r7, r8, r9, r10, r11, r12, r13])) 0 0 (aA [r0, r1, r2, r3, r4, r5, r6, r7, r8, r9, r10, r11, r12, r13]) := by
  refine Met.ofW (cc := cX7_ofFinding) (maxL := 6) (ret := (some .int)) (by decide) rfl ?_
  intro p e s m args below meth c s₁ B hml hv
  obtain ⟨hav, hP, hK⟩ := hv
  have hx := B.exec
  have hb := B.bytes
  have hr := B.returns
  have hts := aW_in (atoms_spec (ws := aW yX7_ofFinding cX7_ofFinding 6 (some .int)) B.pre)
  have hown : s.vm.findClass RX7 = some m.cls := findClass_of_methodNamed B.named
  have hlocks := B.notSynchronized
  obtain ⟨R, hR⟩ : ∃ R, R = (headSpec (aW yX7_ofFinding cX7_ofFinding 6 (some .int)) { frames := 5, cells := 0, slots := 0, locals := 117 }).room := ⟨_, rfl⟩
  rw [← hR]
  obtain ⟨Q, hQ⟩ : ∃ Q, Q = MQ below (va_Qi (fun (r : Int32) (H1 : Heap) => ∃ (K1 : Kn) (S1 : Nat → Nat) (q1 : Nat) (hf1 : Nat → Nat) (hs1 : Nat → Nat) (mn1 : Nat) (ex1 : Nat → Nat) (we1 : Nat → Nat) (kn1 : Bool) (cv1 : Nat → Bool) (z1 : Nat) (ya1 : Nat → Nat) (yb1 : Nat → Nat) (yc1 : Nat → Nat) (ks1 : Nat → Nat), r = aOfFinding K S a1 a2 ∧ ((K1, S1, q1, hf1, hs1) = (K, S, q, hf, hs)) ∧ (mI K1 S1 q1 hf1 hs1 mn1 ex1 we1 kn1 cv1) ∧ va_P D vwCl [(r0, .inr (7, [.ref r1, .ref r2, .ref r3, .ref r4, .int (nI q1), .ref r5, .ref r6, .int (nI mn1), .ref r7, .ref r8, .int (nI kn1.toNat), .ref r9, .int (nI z1), .ref r10, .ref r11, .ref r12, .ref r13])), (r1, .inl (cI, 10, .inl (fN K1.1))), (r2, .inl (cI, 10, .inl (fN K1.2.1))), (r3, .inl (cI, 120, .inl (fN (lkA K1)))), (r4, .inl (cI, 12, .inl (fN S1))), (r5, .inl (cI, 20, .inl (fN hf1))), (r6, .inl (cI, 20, .inl (fN hs1))), (r7, .inl (cI, 1024, .inl (fN ex1))), (r8, .inl (cJ, 1024, .inr (.inl (fL we1)))), (r9, .inl (cZ, 1024, .inl (fB cv1))), (r10, .inl (cI, 12, .inl (fN ya1))), (r11, .inl (cI, 12, .inl (fN yb1))), (r12, .inl (cI, 12, .inl (fN yc1))), (r13, .inl (cI, 12, .inl (fN ks1)))] H1) mB (aA [r0, r1, r2, r3, r4, r5, r6, r7, r8, r9, r10, r11, r12, r13])) args s 0 0 (aA [r0, r1, r2, r3, r4, r5, r6, r7, r8, r9, r10, r11, r12, r13]) := ⟨_, rfl⟩
  rw [← hQ]
  have hl := lv_entry [.ref r0, .int a1, .int a2] (n := 6) (Nat.le_of_ble_eq_true rfl)
  have hent := lg_entry_eq m [.ref r0, .int a1, .int a2] 6
  rw [← hav] at hent
  rw [hent]
  generalize (lg_sl [.ref r0, .int a1, .int a2] ++ List.replicate (6 - (lg_sl [.ref r0, .int a1, .int a2]).length) Slot.unset).toArray = ls at hl ⊢
  have hl : lv_has ls 6 [(0, .ref r0), (1, .int a1), (2, .int a2)] := hl
  have hD : va_D (aA [r0, r1, r2, r3, r4, r5, r6, r7, r8, r9, r10, r11, r12, r13]) [(r0, .inr (7, [.ref r1, .ref r2, .ref r3, .ref r4, .int (nI q), .ref r5, .ref r6, .int (nI mn), .ref r7, .ref r8, .int (nI kn.toNat), .ref r9, .int (nI z), .ref r10, .ref r11, .ref r12, .ref r13])), (r1, .inl (cI, 10, .inl (fN K.1))), (r2, .inl (cI, 10, .inl (fN K.2.1))), (r3, .inl (cI, 120, .inl (fN (lkA K)))), (r4, .inl (cI, 12, .inl (fN S))), (r5, .inl (cI, 20, .inl (fN hf))), (r6, .inl (cI, 20, .inl (fN hs))), (r7, .inl (cI, 1024, .inl (fN ex))), (r8, .inl (cJ, 1024, .inr (.inl (fL we)))), (r9, .inl (cZ, 1024, .inl (fB cv))), (r10, .inl (cI, 12, .inl (fN ya))), (r11, .inl (cI, 12, .inl (fN yb))), (r12, .inl (cI, 12, .inl (fN yc))), (r13, .inl (cI, 12, .inl (fN ks)))] := nd_D hN rfl
  have hS : va_S (aA [r0, r1, r2, r3, r4, r5, r6, r7, r8, r9, r10, r11, r12, r13]) s.heap s.heap [] := va_S.rf
  have hP : va_P D vwCl [(r0, .inr (7, [.ref r1, .ref r2, .ref r3, .ref r4, .int (nI q), .ref r5, .ref r6, .int (nI mn), .ref r7, .ref r8, .int (nI kn.toNat), .ref r9, .int (nI z), .ref r10, .ref r11, .ref r12, .ref r13])), (r1, .inl (cI, 10, .inl (fN K.1))), (r2, .inl (cI, 10, .inl (fN K.2.1))), (r3, .inl (cI, 120, .inl (fN (lkA K)))), (r4, .inl (cI, 12, .inl (fN S))), (r5, .inl (cI, 20, .inl (fN hf))), (r6, .inl (cI, 20, .inl (fN hs))), (r7, .inl (cI, 1024, .inl (fN ex))), (r8, .inl (cJ, 1024, .inr (.inl (fL we)))), (r9, .inl (cZ, 1024, .inl (fB cv))), (r10, .inl (cI, 12, .inl (fN ya))), (r11, .inl (cI, 12, .inl (fN yb))), (r12, .inl (cI, 12, .inl (fN yc))), (r13, .inl (cI, 12, .inl (fN ks)))] s.heap := hP
  obtain ⟨H, hH⟩ : ∃ H, H = s.heap := ⟨_, rfl⟩
  rw [← hH] at hP
  obtain ⟨locs, hlocs⟩ : ∃ q : List Loc, q = [] := ⟨_, rfl⟩
  have hS : va_S (aA [r0, r1, r2, r3, r4, r5, r6, r7, r8, r9, r10, r11, r12, r13]) s.heap H locs := by rw [hH, hlocs]; exact hS
  rw [← hH, ← hlocs]
  clear hH hlocs
  obtain ⟨hKO, hL2, hS2, hq, hh, hkn⟩ := id hI
  refine lv_iload_n hx hb dX7_ofFinding_0 rfl (lv_at hl 1 rfl) ?_
  refine vp_callSi (va_Run.run (va_runS (As := [.int a1]) (rest := []) ⟨hx, hb, hml, hown, hts⟩ (mt_X7_isFinding l D cI cJ cZ a1) (va_cwS 1 hts (gS km_RX7_63 ks_yX7_isFinding kn_RX7 kc_yX7_isFinding) rfl rfl rfl (by decide +kernel) (by rw [hR]; exact ⟨Nat.le_of_ble_eq_true rfl, Nat.le_of_ble_eq_true rfl⟩)) (cP_S hK (fun k q h => by simp at h)) rfl rfl hl.1 rfl (lv_room (Nat.le_of_ble_eq_true rfl)) dX7_ofFinding_1 ⟨Nat.zero_le _, Nat.zero_le _⟩)) (fun r_ hr_ => ?_)
  subst hr_
  refine x_bne (tgt := 9) hx hb dX7_ofFinding_4 (by decide) (fun c4 => ?_) (fun c4 => ?_)
  · obtain ⟨j1, hj1, rfl⟩ := inR_nat (n := 11) c4
    refine lv_iconst (v := nI 0) hx hb dX7_ofFinding_9 (by decide) ?_
    refine lv_istore_n (lv' := [(3, .int (nI 0)), (0, .ref r0), (1, .int (nI j1)), (2, .int a2)]) hx hb dX7_ofFinding_10 rfl hl (by decide) rfl (fun ls hl => ?_)
    refine lv_iconst (v := nI 0) hx hb dX7_ofFinding_11 (by decide) ?_
    refine lv_istore (lv' := [(4, .int (nI 0)), (3, .int (nI 0)), (0, .ref r0), (1, .int (nI j1)), (2, .int a2)]) hx hb dX7_ofFinding_12 hl (by decide) rfl (fun ls hl => ?_)
    refine lv_iconst (v := nI 0) hx hb dX7_ofFinding_14 (by decide) ?_
    refine lv_istore (lv' := [(5, .int (nI 0)), (4, .int (nI 0)), (3, .int (nI 0)), (0, .ref r0), (1, .int (nI j1)), (2, .int a2)]) hx hb dX7_ofFinding_15 hl (by decide) rfl (fun ls hl => ?_)
    have lp17 : ∀ (n : Nat) (j : Nat) (a : Nat) (d : Nat) (H : Heap) (locs : List Loc) (ls : Array Slot), (j + n = 10) → (a = mkN (fun z => lk K j1 z) j) → (d = mkN (fun z => ms K j1 z) j) → va_P D vwCl [(r0, .inr (7, [.ref r1, .ref r2, .ref r3, .ref r4, .int (nI q), .ref r5, .ref r6, .int (nI mn), .ref r7, .ref r8, .int (nI kn.toNat), .ref r9, .int (nI z), .ref r10, .ref r11, .ref r12, .ref r13])), (r1, .inl (cI, 10, .inl (fN K.1))), (r2, .inl (cI, 10, .inl (fN K.2.1))), (r3, .inl (cI, 120, .inl (fN (lkA K)))), (r4, .inl (cI, 12, .inl (fN S))), (r5, .inl (cI, 20, .inl (fN hf))), (r6, .inl (cI, 20, .inl (fN hs))), (r7, .inl (cI, 1024, .inl (fN ex))), (r8, .inl (cJ, 1024, .inr (.inl (fL we)))), (r9, .inl (cZ, 1024, .inl (fB cv))), (r10, .inl (cI, 12, .inl (fN ya))), (r11, .inl (cI, 12, .inl (fN yb))), (r12, .inl (cI, 12, .inl (fN yc))), (r13, .inl (cI, 12, .inl (fN ks)))] H → va_D (aA [r0, r1, r2, r3, r4, r5, r6, r7, r8, r9, r10, r11, r12, r13]) [(r0, .inr (7, [.ref r1, .ref r2, .ref r3, .ref r4, .int (nI q), .ref r5, .ref r6, .int (nI mn), .ref r7, .ref r8, .int (nI kn.toNat), .ref r9, .int (nI z), .ref r10, .ref r11, .ref r12, .ref r13])), (r1, .inl (cI, 10, .inl (fN K.1))), (r2, .inl (cI, 10, .inl (fN K.2.1))), (r3, .inl (cI, 120, .inl (fN (lkA K)))), (r4, .inl (cI, 12, .inl (fN S))), (r5, .inl (cI, 20, .inl (fN hf))), (r6, .inl (cI, 20, .inl (fN hs))), (r7, .inl (cI, 1024, .inl (fN ex))), (r8, .inl (cJ, 1024, .inr (.inl (fL we)))), (r9, .inl (cZ, 1024, .inl (fB cv))), (r10, .inl (cI, 12, .inl (fN ya))), (r11, .inl (cI, 12, .inl (fN yb))), (r12, .inl (cI, 12, .inl (fN yc))), (r13, .inl (cI, 12, .inl (fN ks)))] → va_S (aA [r0, r1, r2, r3, r4, r5, r6, r7, r8, r9, r10, r11, r12, r13]) s.heap H locs → lv_has ls 6 [(5, .int (nI j)), (4, .int (nI d)), (3, .int (nI a)), (0, .ref r0), (1, .int (nI j1)), (2, .int a2)] → W p l e R s m args below meth c H locs 0 0 Q (F0 m 17 ls []) := by
      intro n
      induction n with
      | zero =>
        intro j a d H locs ls hn ha hd hP hD hS hl
        refine lv_iload hx hb dX7_ofFinding_17 (lv_at hl 0 rfl) ?_
        refine lv_bipush (v := nI 10) hx hb dX7_ofFinding_19 (by decide) ?_
        refine x_cge (a := j) (b := 10) (tgt := 75) hx hb (by first | assumption | omega) (by decide) dX7_ofFinding_21 (by decide) (fun c21 => ?_) (fun c21 => (by omega))
        refine lv_iload_n hx hb dX7_ofFinding_75 rfl (lv_at hl 5 rfl) ?_
        by_cases hs0 : a2 = nI 0
        · subst hs0
          refine lv_tableIn (x := nI 0) (off := 36) (tgt := 112) hx hb dX7_ofFinding_76 (by decide) (by decide) (by decide) (by decide) ?_
          refine lv_aload_n hx hb dX7_ofFinding_112 rfl (lv_at hl 3 rfl) ?_
          refine va_get (D := D) (ci := 7) (v := .ref r4) (C := RX7) (T := TX7) (N := 17) hx hb hts inA7 hown hK.1 hP 0 rfl rfl 3 (by decide) (hts _ kf_RX7_19) (fun _ h9 => h9) rfl dX7_ofFinding_113 ?_
          refine lv_iload_n hx hb dX7_ofFinding_116 rfl (lv_at hl 4 rfl) ?_
          refine x_ildN hx hb hK.1 hP 4 0 rfl rfl (by first | assumption | omega) (by decide) dX7_ofFinding_117 ?_
          rw [hQ]
          exact W.iret (v := nI (S j1)) hx hb hr (fun t ht hW => ⟨⟨_, H, rfl, ⟨K, S, q, hf, hs, mn, ex, we, kn, cv, z, ya, yb, yc, ks, by rw [aOfFinding, c4, nn_nI (by omega)]; rfl, rfl, ⟨hKO, hL2, hS2, hq, hh, hkn⟩, hP.sub [0, 1, 2, 3, 4, 5, 6, 7, 8, 9, 10, 11, 12, 13] rfl⟩, ht⟩, hS.F ht⟩) hS.2.2 dX7_ofFinding_118
        by_cases hs1 : a2 = nI 1
        · subst hs1
          refine lv_tableIn (x := nI 1) (off := 43) (tgt := 119) hx hb dX7_ofFinding_76 (by decide) (by decide) (by decide) (by decide) ?_
          refine lv_iload_n hx hb dX7_ofFinding_119 rfl (lv_at hl 2 rfl) ?_
          rw [hQ]
          exact W.iret (v := nI a) hx hb hr (fun t ht hW => ⟨⟨_, H, rfl, ⟨K, S, q, hf, hs, mn, ex, we, kn, cv, z, ya, yb, yc, ks, by rw [ha, show j = 10 by omega, aOfFinding, c4, nn_nI (by omega)]; rfl, rfl, ⟨hKO, hL2, hS2, hq, hh, hkn⟩, hP.sub [0, 1, 2, 3, 4, 5, 6, 7, 8, 9, 10, 11, 12, 13] rfl⟩, ht⟩, hS.F ht⟩) hS.2.2 dX7_ofFinding_120
        by_cases hs2 : a2 = nI 2
        · subst hs2
          refine lv_tableIn (x := nI 2) (off := 45) (tgt := 121) hx hb dX7_ofFinding_76 (by decide) (by decide) (by decide) (by decide) ?_
          refine lv_iload hx hb dX7_ofFinding_121 (lv_at hl 1 rfl) ?_
          rw [hQ]
          exact W.iret (v := nI d) hx hb hr (fun t ht hW => ⟨⟨_, H, rfl, ⟨K, S, q, hf, hs, mn, ex, we, kn, cv, z, ya, yb, yc, ks, by rw [hd, show j = 10 by omega, aOfFinding, c4, nn_nI (by omega)]; rfl, rfl, ⟨hKO, hL2, hS2, hq, hh, hkn⟩, hP.sub [0, 1, 2, 3, 4, 5, 6, 7, 8, 9, 10, 11, 12, 13] rfl⟩, ht⟩, hS.F ht⟩) hS.2.2 dX7_ofFinding_123
        by_cases hs3 : a2 = nI 3
        · subst hs3
          refine lv_tableIn (x := nI 3) (off := 48) (tgt := 124) hx hb dX7_ofFinding_76 (by decide) (by decide) (by decide) (by decide) ?_
          refine lv_aload_n hx hb dX7_ofFinding_124 rfl (lv_at hl 3 rfl) ?_
          refine lv_iload_n hx hb dX7_ofFinding_125 rfl (lv_at hl 4 rfl) ?_
          refine lv_iload_n hx hb dX7_ofFinding_126 rfl (lv_at hl 5 rfl) ?_
          refine lv_iconst (v := nI 3) hx hb dX7_ofFinding_127 (by decide) ?_
          refine x_isub (z := nI (3 - 3)) hx hb dX7_ofFinding_128 (pk_sub (by decide)) ?_
          refine mc_i (va_runV (As := [.int (nI j1), .int (nI (3 - 3))]) (rest := []) ⟨hx, hb, hml, hown, hts⟩ (mt_X7_manyForetell l D cI cJ cZ r0 r1 r2 r3 r4 r5 r6 r7 r8 r9 r10 r11 r12 r13 K S q hf hs mn ex we kn cv z ya yb yc ks j1 (3 - 3) (nd_sub hN [0, 1, 2, 3, 4, 5, 6, 7, 8, 9, 10, 11, 12, 13] (by decide) rfl) (by first | assumption | omega) (by first | assumption | omega) (by first | assumption | omega) (by first | assumption | omega) (by omega) (by decide)) (cwV 2 hts (gV km_RX7_138 ki_yX7_manyForetell kl_yX7_manyForetell kn_RX7 kc_yX7_manyForetell) rfl rfl rfl (by decide +kernel) (by rw [hR]; exact ⟨Nat.le_of_ble_eq_true rfl, Nat.le_of_ble_eq_true rfl⟩)) (cP_V (q0 := 0) (ci := 7) hK (hP.sub [0, 1, 2, 3, 4, 5, 6, 7, 8, 9, 10, 11, 12, 13] rfl) rfl rfl) rfl rfl hl.1 rfl (lv_room (Nat.le_of_ble_eq_true rfl)) dX7_ofFinding_129 ⟨Nat.zero_le _, Nat.zero_le _⟩) hS (aA_sub [0, 1, 2, 3, 4, 5, 6, 7, 8, 9, 10, 11, 12, 13] rfl) (fun r_ H locs hp_ hk_ hS => ?_)
          obtain ⟨eX, wX, cX, hr_, hMX, hcX, hP1⟩ := hp_
          subst hr_
          have hP := pj (wr := []) (w1 := [(r0, .inr (7, [.ref r1, .ref r2, .ref r3, .ref r4, .int (nI q), .ref r5, .ref r6, .int (nI (nE K S)), .ref r7, .ref r8, .int (nI true.toNat), .ref r9, .int (nI z), .ref r10, .ref r11, .ref r12, .ref r13])), (r1, .inl (cI, 10, .inl (fN K.1))), (r2, .inl (cI, 10, .inl (fN K.2.1))), (r3, .inl (cI, 120, .inl (fN (lkA K)))), (r4, .inl (cI, 12, .inl (fN S))), (r5, .inl (cI, 20, .inl (fN hf))), (r6, .inl (cI, 20, .inl (fN hs))), (r7, .inl (cI, 1024, .inl (fN eX))), (r8, .inl (cJ, 1024, .inr (.inl (fL wX)))), (r9, .inl (cZ, 1024, .inl (fB cX))), (r10, .inl (cI, 12, .inl (fN ya))), (r11, .inl (cI, 12, .inl (fN yb))), (r12, .inl (cI, 12, .inl (fN yc))), (r13, .inl (cI, 12, .inl (fN ks)))]) (lc := [r0, r1, r2, r3, r4, r5, r6, r7, r8, r9, r10, r11, r12, r13]) hP hD [0, 1, 2, 3, 4, 5, 6, 7, 8, 9, 10, 11, 12, 13] [] rfl rfl (by decide) hk_ hP1
          have hP : va_P D vwCl [(r0, .inr (7, [.ref r1, .ref r2, .ref r3, .ref r4, .int (nI q), .ref r5, .ref r6, .int (nI (nE K S)), .ref r7, .ref r8, .int (nI true.toNat), .ref r9, .int (nI z), .ref r10, .ref r11, .ref r12, .ref r13])), (r1, .inl (cI, 10, .inl (fN K.1))), (r2, .inl (cI, 10, .inl (fN K.2.1))), (r3, .inl (cI, 120, .inl (fN (lkA K)))), (r4, .inl (cI, 12, .inl (fN S))), (r5, .inl (cI, 20, .inl (fN hf))), (r6, .inl (cI, 20, .inl (fN hs))), (r7, .inl (cI, 1024, .inl (fN eX))), (r8, .inl (cJ, 1024, .inr (.inl (fL wX)))), (r9, .inl (cZ, 1024, .inl (fB cX))), (r10, .inl (cI, 12, .inl (fN ya))), (r11, .inl (cI, 12, .inl (fN yb))), (r12, .inl (cI, 12, .inl (fN yc))), (r13, .inl (cI, 12, .inl (fN ks)))] H := hP
          have hD : va_D (aA [r0, r1, r2, r3, r4, r5, r6, r7, r8, r9, r10, r11, r12, r13]) [(r0, .inr (7, [.ref r1, .ref r2, .ref r3, .ref r4, .int (nI q), .ref r5, .ref r6, .int (nI (nE K S)), .ref r7, .ref r8, .int (nI true.toNat), .ref r9, .int (nI z), .ref r10, .ref r11, .ref r12, .ref r13])), (r1, .inl (cI, 10, .inl (fN K.1))), (r2, .inl (cI, 10, .inl (fN K.2.1))), (r3, .inl (cI, 120, .inl (fN (lkA K)))), (r4, .inl (cI, 12, .inl (fN S))), (r5, .inl (cI, 20, .inl (fN hf))), (r6, .inl (cI, 20, .inl (fN hs))), (r7, .inl (cI, 1024, .inl (fN eX))), (r8, .inl (cJ, 1024, .inr (.inl (fL wX)))), (r9, .inl (cZ, 1024, .inl (fB cX))), (r10, .inl (cI, 12, .inl (fN ya))), (r11, .inl (cI, 12, .inl (fN yb))), (r12, .inl (cI, 12, .inl (fN yc))), (r13, .inl (cI, 12, .inl (fN ks)))] := hD.re [0, 1, 2, 3, 4, 5, 6, 7, 8, 9, 10, 11, 12, 13] (by decide) rfl
          rw [hQ]
          exact W.iret (v := nI (ct (fun z => fort K (eS K S z) j1 == wv (3 - 3)) (nE K S))) hx hb hr (fun t ht hW => ⟨⟨_, H, rfl, ⟨K, S, q, hf, hs, (nE K S), eX, wX, true, cX, z, ya, yb, yc, ks, by rw [aOfFinding, c4, nn_nI (by omega)]; rfl, rfl, ⟨hKO, hL2, hS2, hq, hh, (fun _ => ⟨rfl, hMX, hcX⟩)⟩, hP.sub [0, 1, 2, 3, 4, 5, 6, 7, 8, 9, 10, 11, 12, 13] rfl⟩, ht⟩, hS.F ht⟩) hS.2.2 dX7_ofFinding_132
        by_cases hs4 : a2 = nI 4
        · subst hs4
          refine lv_tableIn (x := nI 4) (off := 48) (tgt := 124) hx hb dX7_ofFinding_76 (by decide) (by decide) (by decide) (by decide) ?_
          refine lv_aload_n hx hb dX7_ofFinding_124 rfl (lv_at hl 3 rfl) ?_
          refine lv_iload_n hx hb dX7_ofFinding_125 rfl (lv_at hl 4 rfl) ?_
          refine lv_iload_n hx hb dX7_ofFinding_126 rfl (lv_at hl 5 rfl) ?_
          refine lv_iconst (v := nI 3) hx hb dX7_ofFinding_127 (by decide) ?_
          refine x_isub (z := nI (4 - 3)) hx hb dX7_ofFinding_128 (pk_sub (by decide)) ?_
          refine mc_i (va_runV (As := [.int (nI j1), .int (nI (4 - 3))]) (rest := []) ⟨hx, hb, hml, hown, hts⟩ (mt_X7_manyForetell l D cI cJ cZ r0 r1 r2 r3 r4 r5 r6 r7 r8 r9 r10 r11 r12 r13 K S q hf hs mn ex we kn cv z ya yb yc ks j1 (4 - 3) (nd_sub hN [0, 1, 2, 3, 4, 5, 6, 7, 8, 9, 10, 11, 12, 13] (by decide) rfl) (by first | assumption | omega) (by first | assumption | omega) (by first | assumption | omega) (by first | assumption | omega) (by omega) (by decide)) (cwV 2 hts (gV km_RX7_138 ki_yX7_manyForetell kl_yX7_manyForetell kn_RX7 kc_yX7_manyForetell) rfl rfl rfl (by decide +kernel) (by rw [hR]; exact ⟨Nat.le_of_ble_eq_true rfl, Nat.le_of_ble_eq_true rfl⟩)) (cP_V (q0 := 0) (ci := 7) hK (hP.sub [0, 1, 2, 3, 4, 5, 6, 7, 8, 9, 10, 11, 12, 13] rfl) rfl rfl) rfl rfl hl.1 rfl (lv_room (Nat.le_of_ble_eq_true rfl)) dX7_ofFinding_129 ⟨Nat.zero_le _, Nat.zero_le _⟩) hS (aA_sub [0, 1, 2, 3, 4, 5, 6, 7, 8, 9, 10, 11, 12, 13] rfl) (fun r_ H locs hp_ hk_ hS => ?_)
          obtain ⟨eX, wX, cX, hr_, hMX, hcX, hP1⟩ := hp_
          subst hr_
          have hP := pj (wr := []) (w1 := [(r0, .inr (7, [.ref r1, .ref r2, .ref r3, .ref r4, .int (nI q), .ref r5, .ref r6, .int (nI (nE K S)), .ref r7, .ref r8, .int (nI true.toNat), .ref r9, .int (nI z), .ref r10, .ref r11, .ref r12, .ref r13])), (r1, .inl (cI, 10, .inl (fN K.1))), (r2, .inl (cI, 10, .inl (fN K.2.1))), (r3, .inl (cI, 120, .inl (fN (lkA K)))), (r4, .inl (cI, 12, .inl (fN S))), (r5, .inl (cI, 20, .inl (fN hf))), (r6, .inl (cI, 20, .inl (fN hs))), (r7, .inl (cI, 1024, .inl (fN eX))), (r8, .inl (cJ, 1024, .inr (.inl (fL wX)))), (r9, .inl (cZ, 1024, .inl (fB cX))), (r10, .inl (cI, 12, .inl (fN ya))), (r11, .inl (cI, 12, .inl (fN yb))), (r12, .inl (cI, 12, .inl (fN yc))), (r13, .inl (cI, 12, .inl (fN ks)))]) (lc := [r0, r1, r2, r3, r4, r5, r6, r7, r8, r9, r10, r11, r12, r13]) hP hD [0, 1, 2, 3, 4, 5, 6, 7, 8, 9, 10, 11, 12, 13] [] rfl rfl (by decide) hk_ hP1
          have hP : va_P D vwCl [(r0, .inr (7, [.ref r1, .ref r2, .ref r3, .ref r4, .int (nI q), .ref r5, .ref r6, .int (nI (nE K S)), .ref r7, .ref r8, .int (nI true.toNat), .ref r9, .int (nI z), .ref r10, .ref r11, .ref r12, .ref r13])), (r1, .inl (cI, 10, .inl (fN K.1))), (r2, .inl (cI, 10, .inl (fN K.2.1))), (r3, .inl (cI, 120, .inl (fN (lkA K)))), (r4, .inl (cI, 12, .inl (fN S))), (r5, .inl (cI, 20, .inl (fN hf))), (r6, .inl (cI, 20, .inl (fN hs))), (r7, .inl (cI, 1024, .inl (fN eX))), (r8, .inl (cJ, 1024, .inr (.inl (fL wX)))), (r9, .inl (cZ, 1024, .inl (fB cX))), (r10, .inl (cI, 12, .inl (fN ya))), (r11, .inl (cI, 12, .inl (fN yb))), (r12, .inl (cI, 12, .inl (fN yc))), (r13, .inl (cI, 12, .inl (fN ks)))] H := hP
          have hD : va_D (aA [r0, r1, r2, r3, r4, r5, r6, r7, r8, r9, r10, r11, r12, r13]) [(r0, .inr (7, [.ref r1, .ref r2, .ref r3, .ref r4, .int (nI q), .ref r5, .ref r6, .int (nI (nE K S)), .ref r7, .ref r8, .int (nI true.toNat), .ref r9, .int (nI z), .ref r10, .ref r11, .ref r12, .ref r13])), (r1, .inl (cI, 10, .inl (fN K.1))), (r2, .inl (cI, 10, .inl (fN K.2.1))), (r3, .inl (cI, 120, .inl (fN (lkA K)))), (r4, .inl (cI, 12, .inl (fN S))), (r5, .inl (cI, 20, .inl (fN hf))), (r6, .inl (cI, 20, .inl (fN hs))), (r7, .inl (cI, 1024, .inl (fN eX))), (r8, .inl (cJ, 1024, .inr (.inl (fL wX)))), (r9, .inl (cZ, 1024, .inl (fB cX))), (r10, .inl (cI, 12, .inl (fN ya))), (r11, .inl (cI, 12, .inl (fN yb))), (r12, .inl (cI, 12, .inl (fN yc))), (r13, .inl (cI, 12, .inl (fN ks)))] := hD.re [0, 1, 2, 3, 4, 5, 6, 7, 8, 9, 10, 11, 12, 13] (by decide) rfl
          rw [hQ]
          exact W.iret (v := nI (ct (fun z => fort K (eS K S z) j1 == wv (4 - 3)) (nE K S))) hx hb hr (fun t ht hW => ⟨⟨_, H, rfl, ⟨K, S, q, hf, hs, (nE K S), eX, wX, true, cX, z, ya, yb, yc, ks, by rw [aOfFinding, c4, nn_nI (by omega)]; rfl, rfl, ⟨hKO, hL2, hS2, hq, hh, (fun _ => ⟨rfl, hMX, hcX⟩)⟩, hP.sub [0, 1, 2, 3, 4, 5, 6, 7, 8, 9, 10, 11, 12, 13] rfl⟩, ht⟩, hS.F ht⟩) hS.2.2 dX7_ofFinding_132
        refine lv_tableOut (tgt := 133) hx hb dX7_ofFinding_76 (tsw_out 4 (fun j hj => by rcases (show j = 0 ∨ j = 1 ∨ j = 2 ∨ j = 3 ∨ j = 4 by omega) with rfl | rfl | rfl | rfl | rfl <;> assumption)) (by decide) ?_
        refine lv_bipush (v := (-2)) hx hb dX7_ofFinding_133 (by decide) ?_
        rw [hQ]
        exact W.iret (v := (-2)) hx hb hr (fun t ht hW => ⟨⟨_, H, rfl, ⟨K, S, q, hf, hs, mn, ex, we, kn, cv, z, ya, yb, yc, ks, by rw [aOfFinding, c4, if_pos rfl, if_neg hs0, if_neg hs1, if_neg hs2, if_neg hs3, if_neg hs4], rfl, ⟨hKO, hL2, hS2, hq, hh, hkn⟩, hP.sub [0, 1, 2, 3, 4, 5, 6, 7, 8, 9, 10, 11, 12, 13] rfl⟩, ht⟩, hS.F ht⟩) hS.2.2 dX7_ofFinding_135
      | succ n ih17 =>
        intro j a d H locs ls hn ha hd hP hD hS hl
        refine lv_iload hx hb dX7_ofFinding_17 (lv_at hl 0 rfl) ?_
        refine lv_bipush (v := nI 10) hx hb dX7_ofFinding_19 (by decide) ?_
        refine x_cge (a := j) (b := 10) (tgt := 75) hx hb (by first | assumption | omega) (by decide) dX7_ofFinding_21 (by decide) (fun c21 => (by omega)) (fun c21 => ?_)
        refine lv_iload_n hx hb dX7_ofFinding_24 rfl (lv_at hl 2 rfl) ?_
        refine lv_aload_n hx hb dX7_ofFinding_25 rfl (lv_at hl 3 rfl) ?_
        refine lv_iload_n hx hb dX7_ofFinding_26 rfl (lv_at hl 4 rfl) ?_
        refine lv_iload hx hb dX7_ofFinding_27 (lv_at hl 0 rfl) ?_
        refine vp_callSi (va_Run.run (va_runV (As := [.int (nI j1), .int (nI j)]) (rest := [.int (nI a)]) ⟨hx, hb, hml, hown, hts⟩ (mt_X7_linkAt l D cI cJ cZ r0 r1 r2 r3 r4 r5 r6 r7 r8 r9 r10 r11 r12 r13 K S q hf hs mn ex we kn cv z ya yb yc ks j1 j (by omega) (by omega)) (cwV 2 hts (gV km_RX7_66 ki_yX7_linkAt kl_yX7_linkAt kn_RX7 kc_yX7_linkAt) rfl rfl rfl (by decide +kernel) (by rw [hR]; exact ⟨Nat.le_of_ble_eq_true rfl, Nat.le_of_ble_eq_true rfl⟩)) (cP_V (q0 := 0) (ci := 7) hK (hP.sub [0, 1, 2, 3, 4, 5, 6, 7, 8, 9, 10, 11, 12, 13] rfl) rfl rfl) rfl rfl hl.1 rfl (lv_room (Nat.le_of_ble_eq_true rfl)) dX7_ofFinding_29 ⟨Nat.zero_le _, Nat.zero_le _⟩)) (fun r_ hr_ => ?_)
        subst hr_
        have j43 : W p l e R s m args below meth c H locs 0 0 Q (F0 m 43 ls [.int (nI (if lk K j1 j then 2 ^ j else 0)), .int (nI a)]) := by
          refine x_ior (z := nI (a ||| (if lk K j1 j then 2 ^ j else 0))) hx hb dX7_ofFinding_43 (z_or _ _) ?_
          refine lv_istore_n (lv' := [(3, .int (nI (a ||| (if lk K j1 j then 2 ^ j else 0)))), (5, .int (nI j)), (4, .int (nI d)), (0, .ref r0), (1, .int (nI j1)), (2, .int a2)]) hx hb dX7_ofFinding_44 rfl hl (by decide) rfl (fun ls hl => ?_)
          refine lv_iload hx hb dX7_ofFinding_45 (lv_at hl 2 rfl) ?_
          refine lv_aload_n hx hb dX7_ofFinding_47 rfl (lv_at hl 3 rfl) ?_
          refine lv_iload_n hx hb dX7_ofFinding_48 rfl (lv_at hl 4 rfl) ?_
          refine lv_iload hx hb dX7_ofFinding_49 (lv_at hl 1 rfl) ?_
          refine vp_callSi (va_Run.run (va_runV (As := [.int (nI j1), .int (nI j)]) (rest := [.int (nI d)]) ⟨hx, hb, hml, hown, hts⟩ (mt_X7_linkAt l D cI cJ cZ r0 r1 r2 r3 r4 r5 r6 r7 r8 r9 r10 r11 r12 r13 K S q hf hs mn ex we kn cv z ya yb yc ks j1 j (by omega) (by omega)) (cwV 2 hts (gV km_RX7_66 ki_yX7_linkAt kl_yX7_linkAt kn_RX7 kc_yX7_linkAt) rfl rfl rfl (by decide +kernel) (by rw [hR]; exact ⟨Nat.le_of_ble_eq_true rfl, Nat.le_of_ble_eq_true rfl⟩)) (cP_V (q0 := 0) (ci := 7) hK (hP.sub [0, 1, 2, 3, 4, 5, 6, 7, 8, 9, 10, 11, 12, 13] rfl) rfl rfl) rfl rfl hl.1 rfl (lv_room (Nat.le_of_ble_eq_true rfl)) dX7_ofFinding_51 ⟨Nat.zero_le _, Nat.zero_le _⟩)) (fun r_ hr_ => ?_)
          subst hr_
          refine lv_iconst (v := nI 2) hx hb dX7_ofFinding_54 (by decide) ?_
          have j66 : W p l e R s m args below meth c H locs 0 0 Q (F0 m 66 ls [.int (nI (if ms K j1 j then 2 ^ j else 0)), .int (nI d)]) := by
            refine x_ior (z := nI (d ||| (if ms K j1 j then 2 ^ j else 0))) hx hb dX7_ofFinding_66 (z_or _ _) ?_
            refine lv_istore (lv' := [(4, .int (nI (d ||| (if ms K j1 j then 2 ^ j else 0)))), (3, .int (nI (a ||| (if lk K j1 j then 2 ^ j else 0)))), (5, .int (nI j)), (0, .ref r0), (1, .int (nI j1)), (2, .int a2)]) hx hb dX7_ofFinding_67 hl (by decide) rfl (fun ls hl => ?_)
            refine lv_iinc (v := nI (j + 1)) (lv' := [(5, .int (nI (j + 1))), (4, .int (nI (d ||| (if ms K j1 j then 2 ^ j else 0)))), (3, .int (nI (a ||| (if lk K j1 j then 2 ^ j else 0)))), (0, .ref r0), (1, .int (nI j1)), (2, .int a2)]) hx hb dX7_ofFinding_69 hl (k := 2) rfl (x_inc1 _) (by decide) rfl (fun ls hl => ?_)
            refine lv_goto (tgt := 17) hx hb dX7_ofFinding_72 (by decide) ?_
            exact ih17 (j + 1) (a ||| (if lk K j1 j then 2 ^ j else 0)) (d ||| (if ms K j1 j then 2 ^ j else 0)) _ _ ls (by omega) (by rw [ha]; exact mkN_or _ _) (by rw [hd]; exact mkN_or _ _) (hP.sub [0, 1, 2, 3, 4, 5, 6, 7, 8, 9, 10, 11, 12, 13] rfl) (hD.re [0, 1, 2, 3, 4, 5, 6, 7, 8, 9, 10, 11, 12, 13] (by decide) rfl) hS (lv_sub hl [0, 1, 2, 3, 4, 5] rfl)
          refine x_cne (a := K.2.2 j1 j) (b := 2) (tgt := 65) hx hb (by have := hL2 j1 j; omega) (by decide) dX7_ofFinding_55 (by decide) (fun c55 => ?_) (fun c55 => ?_)
          · refine lv_iconst (v := nI 0) hx hb dX7_ofFinding_65 (by decide) ?_
            refine x_top (show nI 0 = nI (if ms K j1 j then 2 ^ j else 0) from by first | (simp [ms, c55]; done)) ?_
            exact j66
          · refine lv_iconst (v := nI 1) hx hb dX7_ofFinding_58 (by decide) ?_
            refine lv_iload hx hb dX7_ofFinding_59 (lv_at hl 1 rfl) ?_
            refine x_ishl (z := nI (2 ^ j)) hx hb dX7_ofFinding_61 (z_shl1 (by first | assumption | omega)) ?_
            refine lv_goto (tgt := 66) hx hb dX7_ofFinding_62 (by decide) ?_
            refine x_top (show nI (2 ^ j) = nI (if ms K j1 j then 2 ^ j else 0) from by first | (simp [ms, c55]; done)) ?_
            exact j66
        refine x_zle (tgt := 42) hx hb (by have := hL2 j1 j; omega) dX7_ofFinding_32 (by decide) (fun c32 => ?_) (fun c32 => ?_)
        · refine lv_iconst (v := nI 0) hx hb dX7_ofFinding_42 (by decide) ?_
          refine x_top (show nI 0 = nI (if lk K j1 j then 2 ^ j else 0) from by first | (simp [lk, c32]; done)) ?_
          exact j43
        · refine lv_iconst (v := nI 1) hx hb dX7_ofFinding_35 (by decide) ?_
          refine lv_iload hx hb dX7_ofFinding_36 (lv_at hl 0 rfl) ?_
          refine x_ishl (z := nI (2 ^ j)) hx hb dX7_ofFinding_38 (z_shl1 (by first | assumption | omega)) ?_
          refine lv_goto (tgt := 43) hx hb dX7_ofFinding_39 (by decide) ?_
          refine x_top (show nI (2 ^ j) = nI (if lk K j1 j then 2 ^ j else 0) from by first | (simp [lk, c32]; done)) ?_
          exact j43
    exact lp17 (10) 0 0 0 _ _ ls (by omega) (rfl) (rfl) (hP.sub [0, 1, 2, 3, 4, 5, 6, 7, 8, 9, 10, 11, 12, 13] rfl) (hD.re [0, 1, 2, 3, 4, 5, 6, 7, 8, 9, 10, 11, 12, 13] (by decide) rfl) hS (lv_sub hl [0, 1, 2, 3, 4, 5] rfl)
  · refine lv_iconst (v := (-1)) hx hb dX7_ofFinding_7 (by decide) ?_
    rw [hQ]
    exact W.iret (v := (-1)) hx hb hr (fun t ht hW => ⟨⟨_, H, rfl, ⟨K, S, q, hf, hs, mn, ex, we, kn, cv, z, ya, yb, yc, ks, by rw [aOfFinding, c4]; rfl, rfl, ⟨hKO, hL2, hS2, hq, hh, hkn⟩, hP.sub [0, 1, 2, 3, 4, 5, 6, 7, 8, 9, 10, 11, 12, 13] rfl⟩, ht⟩, hS.F ht⟩) hS.2.2 dX7_ofFinding_8

set_option maxHeartbeats 4000000 in
set_option maxRecDepth 100000 in
theorem mt_X7_split (l : Launch) (D : va_G) (cI cJ cZ : ClassId) (r0 : Nat) (r1 : Nat) (r2 : Nat) (r3 : Nat) (r4 : Nat) (r5 : Nat) (r6 : Nat) (r7 : Nat) (r8 : Nat) (r9 : Nat) (r10 : Nat) (r11 : Nat) (r12 : Nat) (r13 : Nat) (K : Kn) (S : Nat → Nat) (q : Nat) (hf : Nat → Nat) (hs : Nat → Nat) (mn : Nat) (ex : Nat → Nat) (we : Nat → Nat) (kn : Bool) (cv : Nat → Bool) (z : Nat) (ya : Nat → Nat) (yb : Nat → Nat) (yc : Nat → Nat) (ks : Nat → Nat) (a1 : Int32) (a2 : Int32) (hN : [r0, r1, r2, r3, r4, r5, r6, r7, r8, r9, r10, r11, r12, r13].Nodup) (hI : mI K S q hf hs mn ex we kn cv) : Met l yX7_split (aW yX7_split cX7_split 3 (some .long)) { frames := 6, cells := 0, slots := 0, locals := 139 } (cP D cI cJ cZ [.ref r0, .int a1, .int a2] [(r0, .inr (7, [.ref r1, .ref r2, .ref r3, .ref r4, .int (nI q), .ref r5, .ref r6, .int (nI mn), .ref r7, .ref r8, .int (nI kn.toNat), .ref r9, .int (nI z), .ref r10, .ref r11, .ref r12, .ref r13])), (r1, .inl (cI, 10, .inl (fN K.1))), (r2, .inl (cI, 10, .inl (fN K.2.1))), (r3, .inl (cI, 120, .inl (fN (lkA K)))), (r4, .inl (cI, 12, .inl (fN S))), (r5, .inl (cI, 20, .inl (fN hf))), (r6, .inl (cI, 20, .inl (fN hs))), (r7, .inl (cI, 1024, .inl (fN ex))), (r8, .inl (cJ, 1024, .inr (.inl (fL we)))), (r9, .inl (cZ, 1024, .inl (fB cv))), (r10, .inl (cI, 12, .inl (fN ya))), (r11, .inl (cI, 12, .inl (fN yb))), (r12, .inl (cI, 12, .inl (fN yc))), (r13, .inl (cI, 12, .inl (fN ks)))]) (va_Ql (fun (r : Int64) (H1 : Heap) => ∃ (K1 : Kn) (S1 : Nat → Nat) (q1 : Nat) (hf1 : Nat → Nat) (hs1 : Nat → Nat) (mn1 : Nat) (ex1 : Nat → Nat) (we1 : Nat → Nat) (kn1 : Bool) (cv1 : Nat → Bool) (z1 : Nat) (ya1 : Nat → Nat) (yb1 : Nat → Nat) (yc1 : Nat → Nat) (ks1 : Nat → Nat), r = aSplit K S a1 a2 ∧ ((K1, S1, q1, hf1, hs1) = (K, S, q, hf, hs)) ∧ (mI K1 S1 q1 hf1 hs1 mn1 ex1 we1 kn1 cv1) ∧ va_P D vwCl [(r0, .inr (7, [.ref r1, .ref r2, .ref r3, .ref r4, .int (nI q1), .ref r5, .ref r6, .int (nI mn1), .ref r7, .ref r8, .int (nI kn1.toNat), .ref r9, .int (nI z1), .ref r10, .ref r11, .ref r12, .ref r13])), (r1, .inl (cI, 10, .inl (fN K1.1))), (r2, .inl (cI, 10, .inl (fN K1.2.1))), (r3, .inl (cI, 120, .inl (fN (lkA K1)))), (r4, .inl (cI, 12, .inl (fN S1))), (r5, .inl (cI, 20, .inl (fN hf1))), (r6, .inl (cI, 20, .inl (fN hs1))), (r7, .inl (cI, 1024, .inl (fN ex1))), (r8, .inl (cJ, 1024, .inr (.inl (fL we1)))), (r9, .inl (cZ, 1024, .inl (fB cv1))), (r10, .inl (cI, 12, .inl (fN ya1))), (r11, .inl (cI, 12, .inl (fN yb1))), (r12, .inl (cI, 12, .inl (fN yc1))), (r13, .inl (cI, 12, .inl (fN ks1)))] H1) mB (aA [r0, r1, r2, r3, r4, r5, r6, r7, r8, r9, r10, r11, r12, r13])) 0 0 (aA [r0, r1, r2, r3, r4, r5, r6, r7, r8, r9, r10, r11, r12, r13]) := by
  refine Met.ofW (cc := cX7_split) (maxL := 3) (ret := (some .long)) (by decide) rfl ?_
  intro p e s m args below meth c s₁ B hml hv
  obtain ⟨hav, hP, hK⟩ := hv
  have hx := B.exec
  have hb := B.bytes
  have hr := B.returns
  have hts := aW_in (atoms_spec (ws := aW yX7_split cX7_split 3 (some .long)) B.pre)
  have hown : s.vm.findClass RX7 = some m.cls := findClass_of_methodNamed B.named
  have hlocks := B.notSynchronized
  obtain ⟨R, hR⟩ : ∃ R, R = (headSpec (aW yX7_split cX7_split 3 (some .long)) { frames := 6, cells := 0, slots := 0, locals := 139 }).room := ⟨_, rfl⟩
  rw [← hR]
  obtain ⟨Q, hQ⟩ : ∃ Q, Q = MQ below (va_Ql (fun (r : Int64) (H1 : Heap) => ∃ (K1 : Kn) (S1 : Nat → Nat) (q1 : Nat) (hf1 : Nat → Nat) (hs1 : Nat → Nat) (mn1 : Nat) (ex1 : Nat → Nat) (we1 : Nat → Nat) (kn1 : Bool) (cv1 : Nat → Bool) (z1 : Nat) (ya1 : Nat → Nat) (yb1 : Nat → Nat) (yc1 : Nat → Nat) (ks1 : Nat → Nat), r = aSplit K S a1 a2 ∧ ((K1, S1, q1, hf1, hs1) = (K, S, q, hf, hs)) ∧ (mI K1 S1 q1 hf1 hs1 mn1 ex1 we1 kn1 cv1) ∧ va_P D vwCl [(r0, .inr (7, [.ref r1, .ref r2, .ref r3, .ref r4, .int (nI q1), .ref r5, .ref r6, .int (nI mn1), .ref r7, .ref r8, .int (nI kn1.toNat), .ref r9, .int (nI z1), .ref r10, .ref r11, .ref r12, .ref r13])), (r1, .inl (cI, 10, .inl (fN K1.1))), (r2, .inl (cI, 10, .inl (fN K1.2.1))), (r3, .inl (cI, 120, .inl (fN (lkA K1)))), (r4, .inl (cI, 12, .inl (fN S1))), (r5, .inl (cI, 20, .inl (fN hf1))), (r6, .inl (cI, 20, .inl (fN hs1))), (r7, .inl (cI, 1024, .inl (fN ex1))), (r8, .inl (cJ, 1024, .inr (.inl (fL we1)))), (r9, .inl (cZ, 1024, .inl (fB cv1))), (r10, .inl (cI, 12, .inl (fN ya1))), (r11, .inl (cI, 12, .inl (fN yb1))), (r12, .inl (cI, 12, .inl (fN yc1))), (r13, .inl (cI, 12, .inl (fN ks1)))] H1) mB (aA [r0, r1, r2, r3, r4, r5, r6, r7, r8, r9, r10, r11, r12, r13])) args s 0 0 (aA [r0, r1, r2, r3, r4, r5, r6, r7, r8, r9, r10, r11, r12, r13]) := ⟨_, rfl⟩
  rw [← hQ]
  have hl := lv_entry [.ref r0, .int a1, .int a2] (n := 3) (Nat.le_of_ble_eq_true rfl)
  have hent := lg_entry_eq m [.ref r0, .int a1, .int a2] 3
  rw [← hav] at hent
  rw [hent]
  generalize (lg_sl [.ref r0, .int a1, .int a2] ++ List.replicate (3 - (lg_sl [.ref r0, .int a1, .int a2]).length) Slot.unset).toArray = ls at hl ⊢
  have hl : lv_has ls 3 [(0, .ref r0), (1, .int a1), (2, .int a2)] := hl
  have hD : va_D (aA [r0, r1, r2, r3, r4, r5, r6, r7, r8, r9, r10, r11, r12, r13]) [(r0, .inr (7, [.ref r1, .ref r2, .ref r3, .ref r4, .int (nI q), .ref r5, .ref r6, .int (nI mn), .ref r7, .ref r8, .int (nI kn.toNat), .ref r9, .int (nI z), .ref r10, .ref r11, .ref r12, .ref r13])), (r1, .inl (cI, 10, .inl (fN K.1))), (r2, .inl (cI, 10, .inl (fN K.2.1))), (r3, .inl (cI, 120, .inl (fN (lkA K)))), (r4, .inl (cI, 12, .inl (fN S))), (r5, .inl (cI, 20, .inl (fN hf))), (r6, .inl (cI, 20, .inl (fN hs))), (r7, .inl (cI, 1024, .inl (fN ex))), (r8, .inl (cJ, 1024, .inr (.inl (fL we)))), (r9, .inl (cZ, 1024, .inl (fB cv))), (r10, .inl (cI, 12, .inl (fN ya))), (r11, .inl (cI, 12, .inl (fN yb))), (r12, .inl (cI, 12, .inl (fN yc))), (r13, .inl (cI, 12, .inl (fN ks)))] := nd_D hN rfl
  have hS : va_S (aA [r0, r1, r2, r3, r4, r5, r6, r7, r8, r9, r10, r11, r12, r13]) s.heap s.heap [] := va_S.rf
  have hP : va_P D vwCl [(r0, .inr (7, [.ref r1, .ref r2, .ref r3, .ref r4, .int (nI q), .ref r5, .ref r6, .int (nI mn), .ref r7, .ref r8, .int (nI kn.toNat), .ref r9, .int (nI z), .ref r10, .ref r11, .ref r12, .ref r13])), (r1, .inl (cI, 10, .inl (fN K.1))), (r2, .inl (cI, 10, .inl (fN K.2.1))), (r3, .inl (cI, 120, .inl (fN (lkA K)))), (r4, .inl (cI, 12, .inl (fN S))), (r5, .inl (cI, 20, .inl (fN hf))), (r6, .inl (cI, 20, .inl (fN hs))), (r7, .inl (cI, 1024, .inl (fN ex))), (r8, .inl (cJ, 1024, .inr (.inl (fL we)))), (r9, .inl (cZ, 1024, .inl (fB cv))), (r10, .inl (cI, 12, .inl (fN ya))), (r11, .inl (cI, 12, .inl (fN yb))), (r12, .inl (cI, 12, .inl (fN yc))), (r13, .inl (cI, 12, .inl (fN ks)))] s.heap := hP
  obtain ⟨H, hH⟩ : ∃ H, H = s.heap := ⟨_, rfl⟩
  rw [← hH] at hP
  obtain ⟨locs, hlocs⟩ : ∃ q : List Loc, q = [] := ⟨_, rfl⟩
  have hS : va_S (aA [r0, r1, r2, r3, r4, r5, r6, r7, r8, r9, r10, r11, r12, r13]) s.heap H locs := by rw [hH, hlocs]; exact hS
  rw [← hH, ← hlocs]
  clear hH hlocs
  obtain ⟨hKO, hL2, hS2, hq, hh, hkn⟩ := id hI
  refine lv_iload_n hx hb dX7_split_0 rfl (lv_at hl 1 rfl) ?_
  refine vp_callSi (va_Run.run (va_runS (As := [.int a1]) (rest := []) ⟨hx, hb, hml, hown, hts⟩ (mt_X7_isFinding l D cI cJ cZ a1) (va_cwS 1 hts (gS km_RX7_63 ks_yX7_isFinding kn_RX7 kc_yX7_isFinding) rfl rfl rfl (by decide +kernel) (by rw [hR]; exact ⟨Nat.le_of_ble_eq_true rfl, Nat.le_of_ble_eq_true rfl⟩)) (cP_S hK (fun k q h => by simp at h)) rfl rfl hl.1 rfl (lv_room (Nat.le_of_ble_eq_true rfl)) dX7_split_1 ⟨Nat.zero_le _, Nat.zero_le _⟩)) (fun r_ hr_ => ?_)
  subst hr_
  refine x_beq (tgt := 25) hx hb dX7_split_4 (by decide) (fun c4 => ?_) (fun c4 => ?_)
  · refine lv_ldc2 (v := -9223372036854775808) hx hb hown (hts _ kk_RX7_122) dX7_split_25 ?_
    rw [hQ]
    exact W.lret (v := (-9223372036854775808)) hx hb hr (fun t ht hW => ⟨⟨_, H, rfl, ⟨K, S, q, hf, hs, mn, ex, we, kn, cv, z, ya, yb, yc, ks, by first | (rw [aSplit, c4]; rfl) | (rw [aSplit, c4, c13]; rfl) | (rw [aSplit, c4, c13, nn_nI (by omega)]; simp only [Bool.and_self, if_true]; rw [if_neg c22]), rfl, ⟨hKO, hL2, hS2, hq, hh, hkn⟩, hP.sub [0, 1, 2, 3, 4, 5, 6, 7, 8, 9, 10, 11, 12, 13] rfl⟩, ht⟩, hS.F ht⟩) hS.2.2 dX7_split_28
  · refine lv_iload_n hx hb dX7_split_7 rfl (lv_at hl 2 rfl) ?_
    refine lv_iconst (v := nI 0) hx hb dX7_split_8 (by decide) ?_
    refine lv_iconst (v := nI 3) hx hb dX7_split_9 (by decide) ?_
    refine vp_callSi (va_Run.run (va_runS (As := [.int a2, .int (nI 0), .int (nI 3)]) (rest := []) ⟨hx, hb, hml, hown, hts⟩ (mt_X7_within l D cI cJ cZ a2 (nI 0) (nI 3)) (va_cwS 3 hts (gS km_RX7_51 ks_yX7_within kn_RX7 kc_yX7_within) rfl rfl rfl (by decide +kernel) (by rw [hR]; exact ⟨Nat.le_of_ble_eq_true rfl, Nat.le_of_ble_eq_true rfl⟩)) (cP_S hK (fun k q h => by simp at h)) rfl rfl hl.1 rfl (lv_room (Nat.le_of_ble_eq_true rfl)) dX7_split_10 ⟨Nat.zero_le _, Nat.zero_le _⟩)) (fun r_ hr_ => ?_)
    subst hr_
    refine x_top (show nI (inR a2 ((nI 0)).toInt ((nI 3)).toInt).toNat = nI (inR a2 0 3).toNat from rfl) ?_
    refine x_beq (tgt := 25) hx hb dX7_split_13 (by decide) (fun c13 => ?_) (fun c13 => ?_)
    · refine lv_ldc2 (v := -9223372036854775808) hx hb hown (hts _ kk_RX7_122) dX7_split_25 ?_
      rw [hQ]
      exact W.lret (v := (-9223372036854775808)) hx hb hr (fun t ht hW => ⟨⟨_, H, rfl, ⟨K, S, q, hf, hs, mn, ex, we, kn, cv, z, ya, yb, yc, ks, by first | (rw [aSplit, c4]; rfl) | (rw [aSplit, c4, c13]; rfl) | (rw [aSplit, c4, c13, nn_nI (by omega)]; simp only [Bool.and_self, if_true]; rw [if_neg c22]), rfl, ⟨hKO, hL2, hS2, hq, hh, hkn⟩, hP.sub [0, 1, 2, 3, 4, 5, 6, 7, 8, 9, 10, 11, 12, 13] rfl⟩, ht⟩, hS.F ht⟩) hS.2.2 dX7_split_28
    · obtain ⟨j1, hj1, rfl⟩ := inR_nat (n := 11) c4
      obtain ⟨j2, hj2, rfl⟩ := inR_nat (n := 3) c13
      refine lv_aload_n hx hb dX7_split_16 rfl (lv_at hl 0 rfl) ?_
      refine va_get (D := D) (ci := 7) (v := .ref r4) (C := RX7) (T := TX7) (N := 17) hx hb hts inA7 hown hK.1 hP 0 rfl rfl 3 (by decide) (hts _ kf_RX7_19) (fun _ h9 => h9) rfl dX7_split_17 ?_
      refine lv_iload_n hx hb dX7_split_20 rfl (lv_at hl 1 rfl) ?_
      refine x_ildN hx hb hK.1 hP 4 0 rfl rfl (by first | assumption | omega) (by decide) dX7_split_21 ?_
      refine x_zeq (tgt := 29) hx hb (by have := hS2 j1; omega) dX7_split_22 (by decide) (fun c22 => ?_) (fun c22 => ?_)
      · refine lv_aload_n hx hb dX7_split_29 rfl (lv_at hl 0 rfl) ?_
        refine mc_i (va_runV (As := []) (rest := []) ⟨hx, hb, hml, hown, hts⟩ (mt_X7_explanations l D cI cJ cZ r0 r1 r2 r3 r4 r5 r6 r7 r8 r9 r10 r11 r12 r13 K S q hf hs mn ex we kn cv z ya yb yc ks (nd_sub hN [0, 1, 2, 3, 4, 5, 6, 7, 8, 9, 10, 11, 12, 13] (by decide) rfl) (by first | assumption | omega) (by first | assumption | omega) (by first | assumption | omega) (by first | assumption | omega)) (cwV 0 hts (gV km_RX7_78 ki_yX7_explanations kl_yX7_explanations kn_RX7 kc_yX7_explanations) rfl rfl rfl (by decide +kernel) (by rw [hR]; exact ⟨Nat.le_of_ble_eq_true rfl, Nat.le_of_ble_eq_true rfl⟩)) (cP_V (q0 := 0) (ci := 7) hK (hP.sub [0, 1, 2, 3, 4, 5, 6, 7, 8, 9, 10, 11, 12, 13] rfl) rfl rfl) rfl rfl hl.1 rfl (lv_room (Nat.le_of_ble_eq_true rfl)) dX7_split_30 ⟨Nat.zero_le _, Nat.zero_le _⟩) hS (aA_sub [0, 1, 2, 3, 4, 5, 6, 7, 8, 9, 10, 11, 12, 13] rfl) (fun r_ H locs hp_ hk_ hS => ?_)
        obtain ⟨eX, wX, cX, hr_, hMX, hcX, hP1⟩ := hp_
        subst hr_
        have hP := pj (wr := []) (w1 := [(r0, .inr (7, [.ref r1, .ref r2, .ref r3, .ref r4, .int (nI q), .ref r5, .ref r6, .int (nI (nE K S)), .ref r7, .ref r8, .int (nI true.toNat), .ref r9, .int (nI z), .ref r10, .ref r11, .ref r12, .ref r13])), (r1, .inl (cI, 10, .inl (fN K.1))), (r2, .inl (cI, 10, .inl (fN K.2.1))), (r3, .inl (cI, 120, .inl (fN (lkA K)))), (r4, .inl (cI, 12, .inl (fN S))), (r5, .inl (cI, 20, .inl (fN hf))), (r6, .inl (cI, 20, .inl (fN hs))), (r7, .inl (cI, 1024, .inl (fN eX))), (r8, .inl (cJ, 1024, .inr (.inl (fL wX)))), (r9, .inl (cZ, 1024, .inl (fB cX))), (r10, .inl (cI, 12, .inl (fN ya))), (r11, .inl (cI, 12, .inl (fN yb))), (r12, .inl (cI, 12, .inl (fN yc))), (r13, .inl (cI, 12, .inl (fN ks)))]) (lc := [r0, r1, r2, r3, r4, r5, r6, r7, r8, r9, r10, r11, r12, r13]) hP hD [0, 1, 2, 3, 4, 5, 6, 7, 8, 9, 10, 11, 12, 13] [] rfl rfl (by decide) hk_ hP1
        have hP : va_P D vwCl [(r0, .inr (7, [.ref r1, .ref r2, .ref r3, .ref r4, .int (nI q), .ref r5, .ref r6, .int (nI (nE K S)), .ref r7, .ref r8, .int (nI true.toNat), .ref r9, .int (nI z), .ref r10, .ref r11, .ref r12, .ref r13])), (r1, .inl (cI, 10, .inl (fN K.1))), (r2, .inl (cI, 10, .inl (fN K.2.1))), (r3, .inl (cI, 120, .inl (fN (lkA K)))), (r4, .inl (cI, 12, .inl (fN S))), (r5, .inl (cI, 20, .inl (fN hf))), (r6, .inl (cI, 20, .inl (fN hs))), (r7, .inl (cI, 1024, .inl (fN eX))), (r8, .inl (cJ, 1024, .inr (.inl (fL wX)))), (r9, .inl (cZ, 1024, .inl (fB cX))), (r10, .inl (cI, 12, .inl (fN ya))), (r11, .inl (cI, 12, .inl (fN yb))), (r12, .inl (cI, 12, .inl (fN yc))), (r13, .inl (cI, 12, .inl (fN ks)))] H := hP
        have hD : va_D (aA [r0, r1, r2, r3, r4, r5, r6, r7, r8, r9, r10, r11, r12, r13]) [(r0, .inr (7, [.ref r1, .ref r2, .ref r3, .ref r4, .int (nI q), .ref r5, .ref r6, .int (nI (nE K S)), .ref r7, .ref r8, .int (nI true.toNat), .ref r9, .int (nI z), .ref r10, .ref r11, .ref r12, .ref r13])), (r1, .inl (cI, 10, .inl (fN K.1))), (r2, .inl (cI, 10, .inl (fN K.2.1))), (r3, .inl (cI, 120, .inl (fN (lkA K)))), (r4, .inl (cI, 12, .inl (fN S))), (r5, .inl (cI, 20, .inl (fN hf))), (r6, .inl (cI, 20, .inl (fN hs))), (r7, .inl (cI, 1024, .inl (fN eX))), (r8, .inl (cJ, 1024, .inr (.inl (fL wX)))), (r9, .inl (cZ, 1024, .inl (fB cX))), (r10, .inl (cI, 12, .inl (fN ya))), (r11, .inl (cI, 12, .inl (fN yb))), (r12, .inl (cI, 12, .inl (fN yc))), (r13, .inl (cI, 12, .inl (fN ks)))] := hD.re [0, 1, 2, 3, 4, 5, 6, 7, 8, 9, 10, 11, 12, 13] (by decide) rfl
        refine lv_pop hx hb dX7_split_33 rfl ?_
        refine lv_iload_n hx hb dX7_split_34 rfl (lv_at hl 2 rfl) ?_
        refine lv_iconst (v := nI 3) hx hb dX7_split_35 (by decide) ?_
        refine x_cne (a := j2) (b := 3) (tgt := 47) hx hb (by first | assumption | omega) (by decide) dX7_split_36 (by decide) (fun c36 => ?_) (fun c36 => ?_)
        · refine lv_aload_n hx hb dX7_split_47 rfl (lv_at hl 0 rfl) ?_
          refine lv_iload_n hx hb dX7_split_48 rfl (lv_at hl 1 rfl) ?_
          refine lv_iload_n hx hb dX7_split_49 rfl (lv_at hl 2 rfl) ?_
          refine vp_callSl (va_Run.run (va_runV (As := [.int (nI j1), .int (nI j2)]) (rest := []) ⟨hx, hb, hml, hown, hts⟩ (mt_X7_weightThat l D cI cJ cZ r0 r1 r2 r3 r4 r5 r6 r7 r8 r9 r10 r11 r12 r13 K S q hf hs eX wX cX z ya yb yc ks j1 j2 (hMX) (by first | assumption | omega) (by first | assumption | omega) (by omega) (by omega)) (cwV 2 hts (gV km_RX7_141 ki_yX7_weightThat kl_yX7_weightThat kn_RX7 kc_yX7_weightThat) rfl rfl rfl (by decide +kernel) (by rw [hR]; exact ⟨Nat.le_of_ble_eq_true rfl, Nat.le_of_ble_eq_true rfl⟩)) (cP_V (q0 := 0) (ci := 7) hK (hP.sub [0, 1, 2, 3, 4, 5, 6, 7, 8, 9, 10, 11, 12, 13] rfl) rfl rfl) rfl rfl hl.1 rfl (lv_room (Nat.le_of_ble_eq_true rfl)) dX7_split_50 ⟨Nat.zero_le _, Nat.zero_le _⟩)) (fun r_ hr_ => ?_)
          subst hr_
          rw [hQ]
          exact W.lret (v := lN (spl K S j1 (wv j2))) hx hb hr (fun t ht hW => ⟨⟨_, H, rfl, ⟨K, S, q, hf, hs, (nE K S), eX, wX, true, cX, z, ya, yb, yc, ks, by rw [aSplit, c4, c13, nn_nI (by omega)]; simp only [Bool.and_self, if_true]; rw [if_pos c22]; rcases (show j2 = 0 ∨ j2 = 1 ∨ j2 = 2 ∨ j2 = 3 by omega) with rfl | rfl | rfl | rfl <;> first | rfl | omega, rfl, ⟨hKO, hL2, hS2, hq, hh, (fun _ => ⟨rfl, hMX, hcX⟩)⟩, hP.sub [0, 1, 2, 3, 4, 5, 6, 7, 8, 9, 10, 11, 12, 13] rfl⟩, ht⟩, hS.F ht⟩) hS.2.2 dX7_split_53
        · refine lv_aload_n hx hb dX7_split_39 rfl (lv_at hl 0 rfl) ?_
          refine lv_iload_n hx hb dX7_split_40 rfl (lv_at hl 1 rfl) ?_
          refine vp_callSl (va_Run.run (va_runV (As := [.int (nI j1)]) (rest := []) ⟨hx, hb, hml, hown, hts⟩ (mt_X7_worst l D cI cJ cZ r0 r1 r2 r3 r4 r5 r6 r7 r8 r9 r10 r11 r12 r13 K S q hf hs eX wX cX z ya yb yc ks j1 (hMX) (by first | assumption | omega) (by first | assumption | omega) (by omega)) (cwV 1 hts (gV km_RX7_148 ki_yX7_worst kl_yX7_worst kn_RX7 kc_yX7_worst) rfl rfl rfl (by decide +kernel) (by rw [hR]; exact ⟨Nat.le_of_ble_eq_true rfl, Nat.le_of_ble_eq_true rfl⟩)) (cP_V (q0 := 0) (ci := 7) hK (hP.sub [0, 1, 2, 3, 4, 5, 6, 7, 8, 9, 10, 11, 12, 13] rfl) rfl rfl) rfl rfl hl.1 rfl (lv_room (Nat.le_of_ble_eq_true rfl)) dX7_split_41 ⟨Nat.zero_le _, Nat.zero_le _⟩)) (fun r_ hr_ => ?_)
          subst hr_
          refine lv_goto (tgt := 53) hx hb dX7_split_44 (by decide) ?_
          rw [hQ]
          exact W.lret (v := lN (wC K S j1)) hx hb hr (fun t ht hW => ⟨⟨_, H, rfl, ⟨K, S, q, hf, hs, (nE K S), eX, wX, true, cX, z, ya, yb, yc, ks, by rw [aSplit, c4, c13, nn_nI (by omega)]; simp only [Bool.and_self, if_true]; rw [if_pos c22]; rcases (show j2 = 0 ∨ j2 = 1 ∨ j2 = 2 ∨ j2 = 3 by omega) with rfl | rfl | rfl | rfl <;> first | rfl | omega, rfl, ⟨hKO, hL2, hS2, hq, hh, (fun _ => ⟨rfl, hMX, hcX⟩)⟩, hP.sub [0, 1, 2, 3, 4, 5, 6, 7, 8, 9, 10, 11, 12, 13] rfl⟩, ht⟩, hS.F ht⟩) hS.2.2 dX7_split_53
      · refine lv_ldc2 (v := -9223372036854775808) hx hb hown (hts _ kk_RX7_122) dX7_split_25 ?_
        rw [hQ]
        exact W.lret (v := (-9223372036854775808)) hx hb hr (fun t ht hW => ⟨⟨_, H, rfl, ⟨K, S, q, hf, hs, mn, ex, we, kn, cv, z, ya, yb, yc, ks, by first | (rw [aSplit, c4]; rfl) | (rw [aSplit, c4, c13]; rfl) | (rw [aSplit, c4, c13, nn_nI (by omega)]; simp only [Bool.and_self, if_true]; rw [if_neg c22]), rfl, ⟨hKO, hL2, hS2, hq, hh, hkn⟩, hP.sub [0, 1, 2, 3, 4, 5, 6, 7, 8, 9, 10, 11, 12, 13] rfl⟩, ht⟩, hS.F ht⟩) hS.2.2 dX7_split_28

set_option maxHeartbeats 4000000 in
set_option maxRecDepth 100000 in
theorem mt_X7_next (l : Launch) (D : va_G) (cI cJ cZ : ClassId) (r0 : Nat) (r1 : Nat) (r2 : Nat) (r3 : Nat) (r4 : Nat) (r5 : Nat) (r6 : Nat) (r7 : Nat) (r8 : Nat) (r9 : Nat) (r10 : Nat) (r11 : Nat) (r12 : Nat) (r13 : Nat) (K : Kn) (S : Nat → Nat) (q : Nat) (hf : Nat → Nat) (hs : Nat → Nat) (mn : Nat) (ex : Nat → Nat) (we : Nat → Nat) (kn : Bool) (cv : Nat → Bool) (z : Nat) (ya : Nat → Nat) (yb : Nat → Nat) (yc : Nat → Nat) (ks : Nat → Nat) (hN : [r0, r1, r2, r3, r4, r5, r6, r7, r8, r9, r10, r11, r12, r13].Nodup) (hI : mI K S q hf hs mn ex we kn cv) : Met l yX7_next (aW yX7_next cX7_next 1 (some .int)) { frames := 7, cells := 0, slots := 0, locals := 161 } (cP D cI cJ cZ [.ref r0] [(r0, .inr (7, [.ref r1, .ref r2, .ref r3, .ref r4, .int (nI q), .ref r5, .ref r6, .int (nI mn), .ref r7, .ref r8, .int (nI kn.toNat), .ref r9, .int (nI z), .ref r10, .ref r11, .ref r12, .ref r13])), (r1, .inl (cI, 10, .inl (fN K.1))), (r2, .inl (cI, 10, .inl (fN K.2.1))), (r3, .inl (cI, 120, .inl (fN (lkA K)))), (r4, .inl (cI, 12, .inl (fN S))), (r5, .inl (cI, 20, .inl (fN hf))), (r6, .inl (cI, 20, .inl (fN hs))), (r7, .inl (cI, 1024, .inl (fN ex))), (r8, .inl (cJ, 1024, .inr (.inl (fL we)))), (r9, .inl (cZ, 1024, .inl (fB cv))), (r10, .inl (cI, 12, .inl (fN ya))), (r11, .inl (cI, 12, .inl (fN yb))), (r12, .inl (cI, 12, .inl (fN yc))), (r13, .inl (cI, 12, .inl (fN ks)))]) (va_Qi (fun (r : Int32) (H1 : Heap) => ∃ (K1 : Kn) (S1 : Nat → Nat) (q1 : Nat) (hf1 : Nat → Nat) (hs1 : Nat → Nat) (mn1 : Nat) (ex1 : Nat → Nat) (we1 : Nat → Nat) (kn1 : Bool) (cv1 : Nat → Bool) (z1 : Nat) (ya1 : Nat → Nat) (yb1 : Nat → Nat) (yc1 : Nat → Nat) (ks1 : Nat → Nat), r = aNext K S ∧ ((K1, S1, q1, hf1, hs1) = (K, S, q, hf, hs)) ∧ (mI K1 S1 q1 hf1 hs1 mn1 ex1 we1 kn1 cv1) ∧ va_P D vwCl [(r0, .inr (7, [.ref r1, .ref r2, .ref r3, .ref r4, .int (nI q1), .ref r5, .ref r6, .int (nI mn1), .ref r7, .ref r8, .int (nI kn1.toNat), .ref r9, .int (nI z1), .ref r10, .ref r11, .ref r12, .ref r13])), (r1, .inl (cI, 10, .inl (fN K1.1))), (r2, .inl (cI, 10, .inl (fN K1.2.1))), (r3, .inl (cI, 120, .inl (fN (lkA K1)))), (r4, .inl (cI, 12, .inl (fN S1))), (r5, .inl (cI, 20, .inl (fN hf1))), (r6, .inl (cI, 20, .inl (fN hs1))), (r7, .inl (cI, 1024, .inl (fN ex1))), (r8, .inl (cJ, 1024, .inr (.inl (fL we1)))), (r9, .inl (cZ, 1024, .inl (fB cv1))), (r10, .inl (cI, 12, .inl (fN ya1))), (r11, .inl (cI, 12, .inl (fN yb1))), (r12, .inl (cI, 12, .inl (fN yc1))), (r13, .inl (cI, 12, .inl (fN ks1)))] H1) mB (aA [r0, r1, r2, r3, r4, r5, r6, r7, r8, r9, r10, r11, r12, r13])) 0 0 (aA [r0, r1, r2, r3, r4, r5, r6, r7, r8, r9, r10, r11, r12, r13]) := by
  refine Met.ofW (cc := cX7_next) (maxL := 1) (ret := (some .int)) (by decide) rfl ?_
  intro p e s m args below meth c s₁ B hml hv
  obtain ⟨hav, hP, hK⟩ := hv
  have hx := B.exec
  have hb := B.bytes
  have hr := B.returns
  have hts := aW_in (atoms_spec (ws := aW yX7_next cX7_next 1 (some .int)) B.pre)
  have hown : s.vm.findClass RX7 = some m.cls := findClass_of_methodNamed B.named
  have hlocks := B.notSynchronized
  obtain ⟨R, hR⟩ : ∃ R, R = (headSpec (aW yX7_next cX7_next 1 (some .int)) { frames := 7, cells := 0, slots := 0, locals := 161 }).room := ⟨_, rfl⟩
  rw [← hR]
  obtain ⟨Q, hQ⟩ : ∃ Q, Q = MQ below (va_Qi (fun (r : Int32) (H1 : Heap) => ∃ (K1 : Kn) (S1 : Nat → Nat) (q1 : Nat) (hf1 : Nat → Nat) (hs1 : Nat → Nat) (mn1 : Nat) (ex1 : Nat → Nat) (we1 : Nat → Nat) (kn1 : Bool) (cv1 : Nat → Bool) (z1 : Nat) (ya1 : Nat → Nat) (yb1 : Nat → Nat) (yc1 : Nat → Nat) (ks1 : Nat → Nat), r = aNext K S ∧ ((K1, S1, q1, hf1, hs1) = (K, S, q, hf, hs)) ∧ (mI K1 S1 q1 hf1 hs1 mn1 ex1 we1 kn1 cv1) ∧ va_P D vwCl [(r0, .inr (7, [.ref r1, .ref r2, .ref r3, .ref r4, .int (nI q1), .ref r5, .ref r6, .int (nI mn1), .ref r7, .ref r8, .int (nI kn1.toNat), .ref r9, .int (nI z1), .ref r10, .ref r11, .ref r12, .ref r13])), (r1, .inl (cI, 10, .inl (fN K1.1))), (r2, .inl (cI, 10, .inl (fN K1.2.1))), (r3, .inl (cI, 120, .inl (fN (lkA K1)))), (r4, .inl (cI, 12, .inl (fN S1))), (r5, .inl (cI, 20, .inl (fN hf1))), (r6, .inl (cI, 20, .inl (fN hs1))), (r7, .inl (cI, 1024, .inl (fN ex1))), (r8, .inl (cJ, 1024, .inr (.inl (fL we1)))), (r9, .inl (cZ, 1024, .inl (fB cv1))), (r10, .inl (cI, 12, .inl (fN ya1))), (r11, .inl (cI, 12, .inl (fN yb1))), (r12, .inl (cI, 12, .inl (fN yc1))), (r13, .inl (cI, 12, .inl (fN ks1)))] H1) mB (aA [r0, r1, r2, r3, r4, r5, r6, r7, r8, r9, r10, r11, r12, r13])) args s 0 0 (aA [r0, r1, r2, r3, r4, r5, r6, r7, r8, r9, r10, r11, r12, r13]) := ⟨_, rfl⟩
  rw [← hQ]
  have hl := lv_entry [.ref r0] (n := 1) (Nat.le_of_ble_eq_true rfl)
  have hent := lg_entry_eq m [.ref r0] 1
  rw [← hav] at hent
  rw [hent]
  generalize (lg_sl [.ref r0] ++ List.replicate (1 - (lg_sl [.ref r0]).length) Slot.unset).toArray = ls at hl ⊢
  have hl : lv_has ls 1 [(0, .ref r0)] := hl
  have hD : va_D (aA [r0, r1, r2, r3, r4, r5, r6, r7, r8, r9, r10, r11, r12, r13]) [(r0, .inr (7, [.ref r1, .ref r2, .ref r3, .ref r4, .int (nI q), .ref r5, .ref r6, .int (nI mn), .ref r7, .ref r8, .int (nI kn.toNat), .ref r9, .int (nI z), .ref r10, .ref r11, .ref r12, .ref r13])), (r1, .inl (cI, 10, .inl (fN K.1))), (r2, .inl (cI, 10, .inl (fN K.2.1))), (r3, .inl (cI, 120, .inl (fN (lkA K)))), (r4, .inl (cI, 12, .inl (fN S))), (r5, .inl (cI, 20, .inl (fN hf))), (r6, .inl (cI, 20, .inl (fN hs))), (r7, .inl (cI, 1024, .inl (fN ex))), (r8, .inl (cJ, 1024, .inr (.inl (fL we)))), (r9, .inl (cZ, 1024, .inl (fB cv))), (r10, .inl (cI, 12, .inl (fN ya))), (r11, .inl (cI, 12, .inl (fN yb))), (r12, .inl (cI, 12, .inl (fN yc))), (r13, .inl (cI, 12, .inl (fN ks)))] := nd_D hN rfl
  have hS : va_S (aA [r0, r1, r2, r3, r4, r5, r6, r7, r8, r9, r10, r11, r12, r13]) s.heap s.heap [] := va_S.rf
  have hP : va_P D vwCl [(r0, .inr (7, [.ref r1, .ref r2, .ref r3, .ref r4, .int (nI q), .ref r5, .ref r6, .int (nI mn), .ref r7, .ref r8, .int (nI kn.toNat), .ref r9, .int (nI z), .ref r10, .ref r11, .ref r12, .ref r13])), (r1, .inl (cI, 10, .inl (fN K.1))), (r2, .inl (cI, 10, .inl (fN K.2.1))), (r3, .inl (cI, 120, .inl (fN (lkA K)))), (r4, .inl (cI, 12, .inl (fN S))), (r5, .inl (cI, 20, .inl (fN hf))), (r6, .inl (cI, 20, .inl (fN hs))), (r7, .inl (cI, 1024, .inl (fN ex))), (r8, .inl (cJ, 1024, .inr (.inl (fL we)))), (r9, .inl (cZ, 1024, .inl (fB cv))), (r10, .inl (cI, 12, .inl (fN ya))), (r11, .inl (cI, 12, .inl (fN yb))), (r12, .inl (cI, 12, .inl (fN yc))), (r13, .inl (cI, 12, .inl (fN ks)))] s.heap := hP
  obtain ⟨H, hH⟩ : ∃ H, H = s.heap := ⟨_, rfl⟩
  rw [← hH] at hP
  obtain ⟨locs, hlocs⟩ : ∃ q : List Loc, q = [] := ⟨_, rfl⟩
  have hS : va_S (aA [r0, r1, r2, r3, r4, r5, r6, r7, r8, r9, r10, r11, r12, r13]) s.heap H locs := by rw [hH, hlocs]; exact hS
  rw [← hH, ← hlocs]
  clear hH hlocs
  obtain ⟨hKO, hL2, hS2, hq, hh, hkn⟩ := id hI
  refine lv_aload_n hx hb dX7_next_0 rfl (lv_at hl 0 rfl) ?_
  refine mc_i (va_runV (As := []) (rest := []) ⟨hx, hb, hml, hown, hts⟩ (mt_X7_nextOf l D cI cJ cZ r0 r1 r2 r3 r4 r5 r6 r7 r8 r9 r10 r11 r12 r13 K S q hf hs mn ex we kn cv z ya yb yc ks (nd_sub hN [0, 1, 2, 3, 4, 5, 6, 7, 8, 9, 10, 11, 12, 13] (by decide) rfl) (by first | assumption | omega) (by first | assumption | omega) (by first | assumption | omega) (by first | assumption | omega)) (cwV 0 hts (gV km_RX7_152 ki_yX7_nextOf kl_yX7_nextOf kn_RX7 kc_yX7_nextOf) rfl rfl rfl (by decide +kernel) (by rw [hR]; exact ⟨Nat.le_of_ble_eq_true rfl, Nat.le_of_ble_eq_true rfl⟩)) (cP_V (q0 := 0) (ci := 7) hK (hP.sub [0, 1, 2, 3, 4, 5, 6, 7, 8, 9, 10, 11, 12, 13] rfl) rfl rfl) rfl rfl hl.1 rfl (lv_room (Nat.le_of_ble_eq_true rfl)) dX7_next_1 ⟨Nat.zero_le _, Nat.zero_le _⟩) hS (aA_sub [0, 1, 2, 3, 4, 5, 6, 7, 8, 9, 10, 11, 12, 13] rfl) (fun r_ H locs hp_ hk_ hS => ?_)
  obtain ⟨eX, wX, cX, hr_, hMX, hcX, hP1⟩ := hp_
  subst hr_
  have hP := pj (wr := []) (w1 := [(r0, .inr (7, [.ref r1, .ref r2, .ref r3, .ref r4, .int (nI q), .ref r5, .ref r6, .int (nI (nE K S)), .ref r7, .ref r8, .int (nI true.toNat), .ref r9, .int (nI z), .ref r10, .ref r11, .ref r12, .ref r13])), (r1, .inl (cI, 10, .inl (fN K.1))), (r2, .inl (cI, 10, .inl (fN K.2.1))), (r3, .inl (cI, 120, .inl (fN (lkA K)))), (r4, .inl (cI, 12, .inl (fN S))), (r5, .inl (cI, 20, .inl (fN hf))), (r6, .inl (cI, 20, .inl (fN hs))), (r7, .inl (cI, 1024, .inl (fN eX))), (r8, .inl (cJ, 1024, .inr (.inl (fL wX)))), (r9, .inl (cZ, 1024, .inl (fB cX))), (r10, .inl (cI, 12, .inl (fN ya))), (r11, .inl (cI, 12, .inl (fN yb))), (r12, .inl (cI, 12, .inl (fN yc))), (r13, .inl (cI, 12, .inl (fN ks)))]) (lc := [r0, r1, r2, r3, r4, r5, r6, r7, r8, r9, r10, r11, r12, r13]) hP hD [0, 1, 2, 3, 4, 5, 6, 7, 8, 9, 10, 11, 12, 13] [] rfl rfl (by decide) hk_ hP1
  have hP : va_P D vwCl [(r0, .inr (7, [.ref r1, .ref r2, .ref r3, .ref r4, .int (nI q), .ref r5, .ref r6, .int (nI (nE K S)), .ref r7, .ref r8, .int (nI true.toNat), .ref r9, .int (nI z), .ref r10, .ref r11, .ref r12, .ref r13])), (r1, .inl (cI, 10, .inl (fN K.1))), (r2, .inl (cI, 10, .inl (fN K.2.1))), (r3, .inl (cI, 120, .inl (fN (lkA K)))), (r4, .inl (cI, 12, .inl (fN S))), (r5, .inl (cI, 20, .inl (fN hf))), (r6, .inl (cI, 20, .inl (fN hs))), (r7, .inl (cI, 1024, .inl (fN eX))), (r8, .inl (cJ, 1024, .inr (.inl (fL wX)))), (r9, .inl (cZ, 1024, .inl (fB cX))), (r10, .inl (cI, 12, .inl (fN ya))), (r11, .inl (cI, 12, .inl (fN yb))), (r12, .inl (cI, 12, .inl (fN yc))), (r13, .inl (cI, 12, .inl (fN ks)))] H := hP
  have hD : va_D (aA [r0, r1, r2, r3, r4, r5, r6, r7, r8, r9, r10, r11, r12, r13]) [(r0, .inr (7, [.ref r1, .ref r2, .ref r3, .ref r4, .int (nI q), .ref r5, .ref r6, .int (nI (nE K S)), .ref r7, .ref r8, .int (nI true.toNat), .ref r9, .int (nI z), .ref r10, .ref r11, .ref r12, .ref r13])), (r1, .inl (cI, 10, .inl (fN K.1))), (r2, .inl (cI, 10, .inl (fN K.2.1))), (r3, .inl (cI, 120, .inl (fN (lkA K)))), (r4, .inl (cI, 12, .inl (fN S))), (r5, .inl (cI, 20, .inl (fN hf))), (r6, .inl (cI, 20, .inl (fN hs))), (r7, .inl (cI, 1024, .inl (fN eX))), (r8, .inl (cJ, 1024, .inr (.inl (fL wX)))), (r9, .inl (cZ, 1024, .inl (fB cX))), (r10, .inl (cI, 12, .inl (fN ya))), (r11, .inl (cI, 12, .inl (fN yb))), (r12, .inl (cI, 12, .inl (fN yc))), (r13, .inl (cI, 12, .inl (fN ks)))] := hD.re [0, 1, 2, 3, 4, 5, 6, 7, 8, 9, 10, 11, 12, 13] (by decide) rfl
  rw [hQ]
  exact W.iret (v := toI (nxo K S)) hx hb hr (fun t ht hW => ⟨⟨_, H, rfl, ⟨K, S, q, hf, hs, (nE K S), eX, wX, true, cX, z, ya, yb, yc, ks, rfl, rfl, ⟨hKO, hL2, hS2, hq, hh, (fun _ => ⟨rfl, hMX, hcX⟩)⟩, hP.sub [0, 1, 2, 3, 4, 5, 6, 7, 8, 9, 10, 11, 12, 13] rfl⟩, ht⟩, hS.F ht⟩) hS.2.2 dX7_next_4

set_option maxHeartbeats 4000000 in
set_option maxRecDepth 100000 in
theorem mt_X7_would (l : Launch) (D : va_G) (cI cJ cZ : ClassId) (r0 : Nat) (r1 : Nat) (r2 : Nat) (r3 : Nat) (r4 : Nat) (r5 : Nat) (r6 : Nat) (r7 : Nat) (r8 : Nat) (r9 : Nat) (r10 : Nat) (r11 : Nat) (r12 : Nat) (r13 : Nat) (K : Kn) (S : Nat → Nat) (q : Nat) (hf : Nat → Nat) (hs : Nat → Nat) (mn : Nat) (ex : Nat → Nat) (we : Nat → Nat) (kn : Bool) (cv : Nat → Bool) (z : Nat) (ya : Nat → Nat) (yb : Nat → Nat) (yc : Nat → Nat) (ks : Nat → Nat) (a1 : Int32) (a2 : Int32) (hN : [r0, r1, r2, r3, r4, r5, r6, r7, r8, r9, r10, r11, r12, r13].Nodup) (hI : mI K S q hf hs mn ex we kn cv) : Met l yX7_would (aW yX7_would cX7_would 5 (some .int)) { frames := 4, cells := 0, slots := 0, locals := 93 } (cP D cI cJ cZ [.ref r0, .int a1, .int a2] [(r0, .inr (7, [.ref r1, .ref r2, .ref r3, .ref r4, .int (nI q), .ref r5, .ref r6, .int (nI mn), .ref r7, .ref r8, .int (nI kn.toNat), .ref r9, .int (nI z), .ref r10, .ref r11, .ref r12, .ref r13])), (r1, .inl (cI, 10, .inl (fN K.1))), (r2, .inl (cI, 10, .inl (fN K.2.1))), (r3, .inl (cI, 120, .inl (fN (lkA K)))), (r4, .inl (cI, 12, .inl (fN S))), (r5, .inl (cI, 20, .inl (fN hf))), (r6, .inl (cI, 20, .inl (fN hs))), (r7, .inl (cI, 1024, .inl (fN ex))), (r8, .inl (cJ, 1024, .inr (.inl (fL we)))), (r9, .inl (cZ, 1024, .inl (fB cv))), (r10, .inl (cI, 12, .inl (fN ya))), (r11, .inl (cI, 12, .inl (fN yb))), (r12, .inl (cI, 12, .inl (fN yc))), (r13, .inl (cI, 12, .inl (fN ks)))]) (va_Qi (fun (r : Int32) (H1 : Heap) => ∃ (K1 : Kn) (S1 : Nat → Nat) (q1 : Nat) (hf1 : Nat → Nat) (hs1 : Nat → Nat) (mn1 : Nat) (ex1 : Nat → Nat) (we1 : Nat → Nat) (kn1 : Bool) (cv1 : Nat → Bool) (z1 : Nat) (ya1 : Nat → Nat) (yb1 : Nat → Nat) (yc1 : Nat → Nat) (ks1 : Nat → Nat), r = aWould K S a1 a2 ∧ ((K1, S1, q1, hf1, hs1) = (K, S, q, hf, hs)) ∧ (mI K1 S1 q1 hf1 hs1 mn1 ex1 we1 kn1 cv1) ∧ va_P D vwCl [(r0, .inr (7, [.ref r1, .ref r2, .ref r3, .ref r4, .int (nI q1), .ref r5, .ref r6, .int (nI mn1), .ref r7, .ref r8, .int (nI kn1.toNat), .ref r9, .int (nI z1), .ref r10, .ref r11, .ref r12, .ref r13])), (r1, .inl (cI, 10, .inl (fN K1.1))), (r2, .inl (cI, 10, .inl (fN K1.2.1))), (r3, .inl (cI, 120, .inl (fN (lkA K1)))), (r4, .inl (cI, 12, .inl (fN S1))), (r5, .inl (cI, 20, .inl (fN hf1))), (r6, .inl (cI, 20, .inl (fN hs1))), (r7, .inl (cI, 1024, .inl (fN ex1))), (r8, .inl (cJ, 1024, .inr (.inl (fL we1)))), (r9, .inl (cZ, 1024, .inl (fB cv1))), (r10, .inl (cI, 12, .inl (fN ya1))), (r11, .inl (cI, 12, .inl (fN yb1))), (r12, .inl (cI, 12, .inl (fN yc1))), (r13, .inl (cI, 12, .inl (fN ks1)))] H1) mB (aA [r0, r1, r2, r3, r4, r5, r6, r7, r8, r9, r10, r11, r12, r13])) 0 0 (aA [r0, r1, r2, r3, r4, r5, r6, r7, r8, r9, r10, r11, r12, r13]) := by
  refine Met.ofW (cc := cX7_would) (maxL := 5) (ret := (some .int)) (by decide) rfl ?_
  intro p e s m args below meth c s₁ B hml hv
  obtain ⟨hav, hP, hK⟩ := hv
  have hx := B.exec
  have hb := B.bytes
  have hr := B.returns
  have hts := aW_in (atoms_spec (ws := aW yX7_would cX7_would 5 (some .int)) B.pre)
  have hown : s.vm.findClass RX7 = some m.cls := findClass_of_methodNamed B.named
  have hlocks := B.notSynchronized
  obtain ⟨R, hR⟩ : ∃ R, R = (headSpec (aW yX7_would cX7_would 5 (some .int)) { frames := 4, cells := 0, slots := 0, locals := 93 }).room := ⟨_, rfl⟩
  rw [← hR]
  obtain ⟨Q, hQ⟩ : ∃ Q, Q = MQ below (va_Qi (fun (r : Int32) (H1 : Heap) => ∃ (K1 : Kn) (S1 : Nat → Nat) (q1 : Nat) (hf1 : Nat → Nat) (hs1 : Nat → Nat) (mn1 : Nat) (ex1 : Nat → Nat) (we1 : Nat → Nat) (kn1 : Bool) (cv1 : Nat → Bool) (z1 : Nat) (ya1 : Nat → Nat) (yb1 : Nat → Nat) (yc1 : Nat → Nat) (ks1 : Nat → Nat), r = aWould K S a1 a2 ∧ ((K1, S1, q1, hf1, hs1) = (K, S, q, hf, hs)) ∧ (mI K1 S1 q1 hf1 hs1 mn1 ex1 we1 kn1 cv1) ∧ va_P D vwCl [(r0, .inr (7, [.ref r1, .ref r2, .ref r3, .ref r4, .int (nI q1), .ref r5, .ref r6, .int (nI mn1), .ref r7, .ref r8, .int (nI kn1.toNat), .ref r9, .int (nI z1), .ref r10, .ref r11, .ref r12, .ref r13])), (r1, .inl (cI, 10, .inl (fN K1.1))), (r2, .inl (cI, 10, .inl (fN K1.2.1))), (r3, .inl (cI, 120, .inl (fN (lkA K1)))), (r4, .inl (cI, 12, .inl (fN S1))), (r5, .inl (cI, 20, .inl (fN hf1))), (r6, .inl (cI, 20, .inl (fN hs1))), (r7, .inl (cI, 1024, .inl (fN ex1))), (r8, .inl (cJ, 1024, .inr (.inl (fL we1)))), (r9, .inl (cZ, 1024, .inl (fB cv1))), (r10, .inl (cI, 12, .inl (fN ya1))), (r11, .inl (cI, 12, .inl (fN yb1))), (r12, .inl (cI, 12, .inl (fN yc1))), (r13, .inl (cI, 12, .inl (fN ks1)))] H1) mB (aA [r0, r1, r2, r3, r4, r5, r6, r7, r8, r9, r10, r11, r12, r13])) args s 0 0 (aA [r0, r1, r2, r3, r4, r5, r6, r7, r8, r9, r10, r11, r12, r13]) := ⟨_, rfl⟩
  rw [← hQ]
  have hl := lv_entry [.ref r0, .int a1, .int a2] (n := 5) (Nat.le_of_ble_eq_true rfl)
  have hent := lg_entry_eq m [.ref r0, .int a1, .int a2] 5
  rw [← hav] at hent
  rw [hent]
  generalize (lg_sl [.ref r0, .int a1, .int a2] ++ List.replicate (5 - (lg_sl [.ref r0, .int a1, .int a2]).length) Slot.unset).toArray = ls at hl ⊢
  have hl : lv_has ls 5 [(0, .ref r0), (1, .int a1), (2, .int a2)] := hl
  have hD : va_D (aA [r0, r1, r2, r3, r4, r5, r6, r7, r8, r9, r10, r11, r12, r13]) [(r0, .inr (7, [.ref r1, .ref r2, .ref r3, .ref r4, .int (nI q), .ref r5, .ref r6, .int (nI mn), .ref r7, .ref r8, .int (nI kn.toNat), .ref r9, .int (nI z), .ref r10, .ref r11, .ref r12, .ref r13])), (r1, .inl (cI, 10, .inl (fN K.1))), (r2, .inl (cI, 10, .inl (fN K.2.1))), (r3, .inl (cI, 120, .inl (fN (lkA K)))), (r4, .inl (cI, 12, .inl (fN S))), (r5, .inl (cI, 20, .inl (fN hf))), (r6, .inl (cI, 20, .inl (fN hs))), (r7, .inl (cI, 1024, .inl (fN ex))), (r8, .inl (cJ, 1024, .inr (.inl (fL we)))), (r9, .inl (cZ, 1024, .inl (fB cv))), (r10, .inl (cI, 12, .inl (fN ya))), (r11, .inl (cI, 12, .inl (fN yb))), (r12, .inl (cI, 12, .inl (fN yc))), (r13, .inl (cI, 12, .inl (fN ks)))] := nd_D hN rfl
  have hS : va_S (aA [r0, r1, r2, r3, r4, r5, r6, r7, r8, r9, r10, r11, r12, r13]) s.heap s.heap [] := va_S.rf
  have hP : va_P D vwCl [(r0, .inr (7, [.ref r1, .ref r2, .ref r3, .ref r4, .int (nI q), .ref r5, .ref r6, .int (nI mn), .ref r7, .ref r8, .int (nI kn.toNat), .ref r9, .int (nI z), .ref r10, .ref r11, .ref r12, .ref r13])), (r1, .inl (cI, 10, .inl (fN K.1))), (r2, .inl (cI, 10, .inl (fN K.2.1))), (r3, .inl (cI, 120, .inl (fN (lkA K)))), (r4, .inl (cI, 12, .inl (fN S))), (r5, .inl (cI, 20, .inl (fN hf))), (r6, .inl (cI, 20, .inl (fN hs))), (r7, .inl (cI, 1024, .inl (fN ex))), (r8, .inl (cJ, 1024, .inr (.inl (fL we)))), (r9, .inl (cZ, 1024, .inl (fB cv))), (r10, .inl (cI, 12, .inl (fN ya))), (r11, .inl (cI, 12, .inl (fN yb))), (r12, .inl (cI, 12, .inl (fN yc))), (r13, .inl (cI, 12, .inl (fN ks)))] s.heap := hP
  obtain ⟨H, hH⟩ : ∃ H, H = s.heap := ⟨_, rfl⟩
  rw [← hH] at hP
  obtain ⟨locs, hlocs⟩ : ∃ q : List Loc, q = [] := ⟨_, rfl⟩
  have hS : va_S (aA [r0, r1, r2, r3, r4, r5, r6, r7, r8, r9, r10, r11, r12, r13]) s.heap H locs := by rw [hH, hlocs]; exact hS
  rw [← hH, ← hlocs]
  clear hH hlocs
  obtain ⟨hKO, hL2, hS2, hq, hh, hkn⟩ := id hI
  refine lv_iload_n hx hb dX7_would_0 rfl (lv_at hl 1 rfl) ?_
  refine vp_callSi (va_Run.run (va_runS (As := [.int a1]) (rest := []) ⟨hx, hb, hml, hown, hts⟩ (mt_X7_isFinding l D cI cJ cZ a1) (va_cwS 1 hts (gS km_RX7_63 ks_yX7_isFinding kn_RX7 kc_yX7_isFinding) rfl rfl rfl (by decide +kernel) (by rw [hR]; exact ⟨Nat.le_of_ble_eq_true rfl, Nat.le_of_ble_eq_true rfl⟩)) (cP_S hK (fun k q h => by simp at h)) rfl rfl hl.1 rfl (lv_room (Nat.le_of_ble_eq_true rfl)) dX7_would_1 ⟨Nat.zero_le _, Nat.zero_le _⟩)) (fun r_ hr_ => ?_)
  subst hr_
  refine x_bne (tgt := 9) hx hb dX7_would_4 (by decide) (fun c4 => ?_) (fun c4 => ?_)
  · obtain ⟨j1, hj1, rfl⟩ := inR_nat (n := 11) c4
    refine lv_iload_n hx hb dX7_would_9 rfl (lv_at hl 2 rfl) ?_
    refine lv_iconst (v := nI 0) hx hb dX7_would_10 (by decide) ?_
    refine lv_iconst (v := nI 2) hx hb dX7_would_11 (by decide) ?_
    refine vp_callSi (va_Run.run (va_runS (As := [.int a2, .int (nI 0), .int (nI 2)]) (rest := []) ⟨hx, hb, hml, hown, hts⟩ (mt_X7_within l D cI cJ cZ a2 (nI 0) (nI 2)) (va_cwS 3 hts (gS km_RX7_51 ks_yX7_within kn_RX7 kc_yX7_within) rfl rfl rfl (by decide +kernel) (by rw [hR]; exact ⟨Nat.le_of_ble_eq_true rfl, Nat.le_of_ble_eq_true rfl⟩)) (cP_S hK (fun k q h => by simp at h)) rfl rfl hl.1 rfl (lv_room (Nat.le_of_ble_eq_true rfl)) dX7_would_12 ⟨Nat.zero_le _, Nat.zero_le _⟩)) (fun r_ hr_ => ?_)
    subst hr_
    refine x_top (show nI (inR a2 ((nI 0)).toInt ((nI 2)).toInt).toNat = nI (inR a2 0 2).toNat from rfl) ?_
    refine x_bne (tgt := 21) hx hb dX7_would_15 (by decide) (fun c15 => ?_) (fun c15 => ?_)
    · obtain ⟨j2, hj2, rfl⟩ := inR_nat (n := 2) c15
      refine lv_aload_n hx hb dX7_would_21 rfl (lv_at hl 0 rfl) ?_
      refine va_get (D := D) (ci := 7) (v := .ref r4) (C := RX7) (T := TX7) (N := 17) hx hb hts inA7 hown hK.1 hP 0 rfl rfl 3 (by decide) (hts _ kf_RX7_19) (fun _ h9 => h9) rfl dX7_would_22 ?_
      refine lv_iload_n hx hb dX7_would_25 rfl (lv_at hl 1 rfl) ?_
      refine x_ildN hx hb hK.1 hP 4 0 rfl rfl (by first | assumption | omega) (by decide) dX7_would_26 ?_
      refine lv_istore_n (lv' := [(3, .int (nI (S j1))), (0, .ref r0), (1, .int (nI j1)), (2, .int (nI j2))]) hx hb dX7_would_27 rfl hl (by decide) rfl (fun ls hl => ?_)
      refine lv_aload_n hx hb dX7_would_28 rfl (lv_at hl 1 rfl) ?_
      refine va_get (D := D) (ci := 7) (v := .ref r4) (C := RX7) (T := TX7) (N := 17) hx hb hts inA7 hown hK.1 hP 0 rfl rfl 3 (by decide) (hts _ kf_RX7_19) (fun _ h9 => h9) rfl dX7_would_29 ?_
      refine lv_iload_n hx hb dX7_would_32 rfl (lv_at hl 2 rfl) ?_
      refine lv_iload_n hx hb dX7_would_33 rfl (lv_at hl 3 rfl) ?_
      refine lv_iconst (v := nI 1) hx hb dX7_would_34 (by decide) ?_
      have j51 : W p l e R s m args below meth c H locs 0 0 Q (F0 m 51 ls [.int (nI (wdS (nI j2))), .int (nI j1), .ref r4]) := by
        refine x_istN (v := wdS (nI j2)) hx hb hK.1 hP hD hS 4 0 rfl rfl (by first | assumption | omega) (by decide) dX7_would_51 (fun H locs hP hD hS => ?_)
        have hP : va_P D vwCl [(r0, .inr (7, [.ref r1, .ref r2, .ref r3, .ref r4, .int (nI q), .ref r5, .ref r6, .int (nI mn), .ref r7, .ref r8, .int (nI kn.toNat), .ref r9, .int (nI z), .ref r10, .ref r11, .ref r12, .ref r13])), (r1, .inl (cI, 10, .inl (fN K.1))), (r2, .inl (cI, 10, .inl (fN K.2.1))), (r3, .inl (cI, 120, .inl (fN (lkA K)))), (r4, .inl (cI, 12, .inl (fN (va_up S j1 (wdS (nI j2)))))), (r5, .inl (cI, 20, .inl (fN hf))), (r6, .inl (cI, 20, .inl (fN hs))), (r7, .inl (cI, 1024, .inl (fN ex))), (r8, .inl (cJ, 1024, .inr (.inl (fL we)))), (r9, .inl (cZ, 1024, .inl (fB cv))), (r10, .inl (cI, 12, .inl (fN ya))), (r11, .inl (cI, 12, .inl (fN yb))), (r12, .inl (cI, 12, .inl (fN yc))), (r13, .inl (cI, 12, .inl (fN ks)))] H := hP
        have hD : va_D (aA [r0, r1, r2, r3, r4, r5, r6, r7, r8, r9, r10, r11, r12, r13]) [(r0, .inr (7, [.ref r1, .ref r2, .ref r3, .ref r4, .int (nI q), .ref r5, .ref r6, .int (nI mn), .ref r7, .ref r8, .int (nI kn.toNat), .ref r9, .int (nI z), .ref r10, .ref r11, .ref r12, .ref r13])), (r1, .inl (cI, 10, .inl (fN K.1))), (r2, .inl (cI, 10, .inl (fN K.2.1))), (r3, .inl (cI, 120, .inl (fN (lkA K)))), (r4, .inl (cI, 12, .inl (fN (va_up S j1 (wdS (nI j2)))))), (r5, .inl (cI, 20, .inl (fN hf))), (r6, .inl (cI, 20, .inl (fN hs))), (r7, .inl (cI, 1024, .inl (fN ex))), (r8, .inl (cJ, 1024, .inr (.inl (fL we)))), (r9, .inl (cZ, 1024, .inl (fB cv))), (r10, .inl (cI, 12, .inl (fN ya))), (r11, .inl (cI, 12, .inl (fN yb))), (r12, .inl (cI, 12, .inl (fN yc))), (r13, .inl (cI, 12, .inl (fN ks)))] := hD
        refine lv_aload_n hx hb dX7_would_52 rfl (lv_at hl 1 rfl) ?_
        refine lv_iconst (v := nI 0) hx hb dX7_would_53 (by decide) ?_
        refine va_put (D := D) (ci := 7) (v := .int (nI 0)) (ty := .boolean) (C := RX7) (T := TX7) (N := 17) hx hb hts inA7 tyX7 tyX7_ok nmX7 hown hK.1 hP hD hS 0 rfl rfl 10 (by decide) (hts _ kf_RX7_59) (fun _ h9 => h9) rfl (by decide +kernel) (rfl) (rfl) (Nat.le_of_ble_eq_true rfl) dX7_would_54 (fun H locs hP hD hS => ?_)
        have hP : va_P D vwCl [(r0, .inr (7, [.ref r1, .ref r2, .ref r3, .ref r4, .int (nI q), .ref r5, .ref r6, .int (nI mn), .ref r7, .ref r8, .int (nI false.toNat), .ref r9, .int (nI z), .ref r10, .ref r11, .ref r12, .ref r13])), (r1, .inl (cI, 10, .inl (fN K.1))), (r2, .inl (cI, 10, .inl (fN K.2.1))), (r3, .inl (cI, 120, .inl (fN (lkA K)))), (r4, .inl (cI, 12, .inl (fN (va_up S j1 (wdS (nI j2)))))), (r5, .inl (cI, 20, .inl (fN hf))), (r6, .inl (cI, 20, .inl (fN hs))), (r7, .inl (cI, 1024, .inl (fN ex))), (r8, .inl (cJ, 1024, .inr (.inl (fL we)))), (r9, .inl (cZ, 1024, .inl (fB cv))), (r10, .inl (cI, 12, .inl (fN ya))), (r11, .inl (cI, 12, .inl (fN yb))), (r12, .inl (cI, 12, .inl (fN yc))), (r13, .inl (cI, 12, .inl (fN ks)))] H := hP
        have hD : va_D (aA [r0, r1, r2, r3, r4, r5, r6, r7, r8, r9, r10, r11, r12, r13]) [(r0, .inr (7, [.ref r1, .ref r2, .ref r3, .ref r4, .int (nI q), .ref r5, .ref r6, .int (nI mn), .ref r7, .ref r8, .int (nI false.toNat), .ref r9, .int (nI z), .ref r10, .ref r11, .ref r12, .ref r13])), (r1, .inl (cI, 10, .inl (fN K.1))), (r2, .inl (cI, 10, .inl (fN K.2.1))), (r3, .inl (cI, 120, .inl (fN (lkA K)))), (r4, .inl (cI, 12, .inl (fN (va_up S j1 (wdS (nI j2)))))), (r5, .inl (cI, 20, .inl (fN hf))), (r6, .inl (cI, 20, .inl (fN hs))), (r7, .inl (cI, 1024, .inl (fN ex))), (r8, .inl (cJ, 1024, .inr (.inl (fL we)))), (r9, .inl (cZ, 1024, .inl (fB cv))), (r10, .inl (cI, 12, .inl (fN ya))), (r11, .inl (cI, 12, .inl (fN yb))), (r12, .inl (cI, 12, .inl (fN yc))), (r13, .inl (cI, 12, .inl (fN ks)))] := hD
        refine lv_aload_n hx hb dX7_would_57 rfl (lv_at hl 1 rfl) ?_
        refine mc_i (va_runV (As := []) (rest := []) ⟨hx, hb, hml, hown, hts⟩ (mt_X7_explanations l D cI cJ cZ r0 r1 r2 r3 r4 r5 r6 r7 r8 r9 r10 r11 r12 r13 K (va_up S j1 (wdS (nI j2))) q hf hs mn ex we false cv z ya yb yc ks (nd_sub hN [0, 1, 2, 3, 4, 5, 6, 7, 8, 9, 10, 11, 12, 13] (by decide) rfl) (by first | assumption | omega) (by first | assumption | omega) (up_le hS2 (wdS_le _)) (fun h => by cases h)) (cwV 0 hts (gV km_RX7_78 ki_yX7_explanations kl_yX7_explanations kn_RX7 kc_yX7_explanations) rfl rfl rfl (by decide +kernel) (by rw [hR]; exact ⟨Nat.le_of_ble_eq_true rfl, Nat.le_of_ble_eq_true rfl⟩)) (cP_V (q0 := 0) (ci := 7) hK (hP.sub [0, 1, 2, 3, 4, 5, 6, 7, 8, 9, 10, 11, 12, 13] rfl) rfl rfl) rfl rfl hl.1 rfl (lv_room (Nat.le_of_ble_eq_true rfl)) dX7_would_58 ⟨Nat.zero_le _, Nat.zero_le _⟩) hS (aA_sub [0, 1, 2, 3, 4, 5, 6, 7, 8, 9, 10, 11, 12, 13] rfl) (fun r_ H locs hp_ hk_ hS => ?_)
        obtain ⟨eX, wX, cX, hr_, hMX, hcX, hP1⟩ := hp_
        subst hr_
        have hP := pj (wr := []) (w1 := [(r0, .inr (7, [.ref r1, .ref r2, .ref r3, .ref r4, .int (nI q), .ref r5, .ref r6, .int (nI (nE K (va_up S j1 (wdS (nI j2))))), .ref r7, .ref r8, .int (nI true.toNat), .ref r9, .int (nI z), .ref r10, .ref r11, .ref r12, .ref r13])), (r1, .inl (cI, 10, .inl (fN K.1))), (r2, .inl (cI, 10, .inl (fN K.2.1))), (r3, .inl (cI, 120, .inl (fN (lkA K)))), (r4, .inl (cI, 12, .inl (fN (va_up S j1 (wdS (nI j2)))))), (r5, .inl (cI, 20, .inl (fN hf))), (r6, .inl (cI, 20, .inl (fN hs))), (r7, .inl (cI, 1024, .inl (fN eX))), (r8, .inl (cJ, 1024, .inr (.inl (fL wX)))), (r9, .inl (cZ, 1024, .inl (fB cX))), (r10, .inl (cI, 12, .inl (fN ya))), (r11, .inl (cI, 12, .inl (fN yb))), (r12, .inl (cI, 12, .inl (fN yc))), (r13, .inl (cI, 12, .inl (fN ks)))]) (lc := [r0, r1, r2, r3, r4, r5, r6, r7, r8, r9, r10, r11, r12, r13]) hP hD [0, 1, 2, 3, 4, 5, 6, 7, 8, 9, 10, 11, 12, 13] [] rfl rfl (by decide) hk_ hP1
        have hP : va_P D vwCl [(r0, .inr (7, [.ref r1, .ref r2, .ref r3, .ref r4, .int (nI q), .ref r5, .ref r6, .int (nI (nE K (va_up S j1 (wdS (nI j2))))), .ref r7, .ref r8, .int (nI true.toNat), .ref r9, .int (nI z), .ref r10, .ref r11, .ref r12, .ref r13])), (r1, .inl (cI, 10, .inl (fN K.1))), (r2, .inl (cI, 10, .inl (fN K.2.1))), (r3, .inl (cI, 120, .inl (fN (lkA K)))), (r4, .inl (cI, 12, .inl (fN (va_up S j1 (wdS (nI j2)))))), (r5, .inl (cI, 20, .inl (fN hf))), (r6, .inl (cI, 20, .inl (fN hs))), (r7, .inl (cI, 1024, .inl (fN eX))), (r8, .inl (cJ, 1024, .inr (.inl (fL wX)))), (r9, .inl (cZ, 1024, .inl (fB cX))), (r10, .inl (cI, 12, .inl (fN ya))), (r11, .inl (cI, 12, .inl (fN yb))), (r12, .inl (cI, 12, .inl (fN yc))), (r13, .inl (cI, 12, .inl (fN ks)))] H := hP
        have hD : va_D (aA [r0, r1, r2, r3, r4, r5, r6, r7, r8, r9, r10, r11, r12, r13]) [(r0, .inr (7, [.ref r1, .ref r2, .ref r3, .ref r4, .int (nI q), .ref r5, .ref r6, .int (nI (nE K (va_up S j1 (wdS (nI j2))))), .ref r7, .ref r8, .int (nI true.toNat), .ref r9, .int (nI z), .ref r10, .ref r11, .ref r12, .ref r13])), (r1, .inl (cI, 10, .inl (fN K.1))), (r2, .inl (cI, 10, .inl (fN K.2.1))), (r3, .inl (cI, 120, .inl (fN (lkA K)))), (r4, .inl (cI, 12, .inl (fN (va_up S j1 (wdS (nI j2)))))), (r5, .inl (cI, 20, .inl (fN hf))), (r6, .inl (cI, 20, .inl (fN hs))), (r7, .inl (cI, 1024, .inl (fN eX))), (r8, .inl (cJ, 1024, .inr (.inl (fL wX)))), (r9, .inl (cZ, 1024, .inl (fB cX))), (r10, .inl (cI, 12, .inl (fN ya))), (r11, .inl (cI, 12, .inl (fN yb))), (r12, .inl (cI, 12, .inl (fN yc))), (r13, .inl (cI, 12, .inl (fN ks)))] := hD.re [0, 1, 2, 3, 4, 5, 6, 7, 8, 9, 10, 11, 12, 13] (by decide) rfl
        refine lv_istore (lv' := [(4, .int (nI (nE K (va_up S j1 (wdS (nI j2)))))), (3, .int (nI (S j1))), (0, .ref r0), (1, .int (nI j1)), (2, .int (nI j2))]) hx hb dX7_would_61 hl (by decide) rfl (fun ls hl => ?_)
        refine lv_aload_n hx hb dX7_would_63 rfl (lv_at hl 2 rfl) ?_
        refine va_get (D := D) (ci := 7) (v := .ref r4) (C := RX7) (T := TX7) (N := 17) hx hb hts inA7 hown hK.1 hP 0 rfl rfl 3 (by decide) (hts _ kf_RX7_19) (fun _ h9 => h9) rfl dX7_would_64 ?_
        refine lv_iload_n hx hb dX7_would_67 rfl (lv_at hl 3 rfl) ?_
        refine lv_iload_n hx hb dX7_would_68 rfl (lv_at hl 1 rfl) ?_
        refine x_istN (v := S j1) hx hb hK.1 hP hD hS 4 0 rfl rfl (by first | assumption | omega) (by decide) dX7_would_69 (fun H locs hP hD hS => ?_)
        have hP : va_P D vwCl [(r0, .inr (7, [.ref r1, .ref r2, .ref r3, .ref r4, .int (nI q), .ref r5, .ref r6, .int (nI (nE K (va_up S j1 (wdS (nI j2))))), .ref r7, .ref r8, .int (nI true.toNat), .ref r9, .int (nI z), .ref r10, .ref r11, .ref r12, .ref r13])), (r1, .inl (cI, 10, .inl (fN K.1))), (r2, .inl (cI, 10, .inl (fN K.2.1))), (r3, .inl (cI, 120, .inl (fN (lkA K)))), (r4, .inl (cI, 12, .inl (fN (va_up (va_up S j1 (wdS (nI j2))) j1 (S j1))))), (r5, .inl (cI, 20, .inl (fN hf))), (r6, .inl (cI, 20, .inl (fN hs))), (r7, .inl (cI, 1024, .inl (fN eX))), (r8, .inl (cJ, 1024, .inr (.inl (fL wX)))), (r9, .inl (cZ, 1024, .inl (fB cX))), (r10, .inl (cI, 12, .inl (fN ya))), (r11, .inl (cI, 12, .inl (fN yb))), (r12, .inl (cI, 12, .inl (fN yc))), (r13, .inl (cI, 12, .inl (fN ks)))] H := hP
        have hD : va_D (aA [r0, r1, r2, r3, r4, r5, r6, r7, r8, r9, r10, r11, r12, r13]) [(r0, .inr (7, [.ref r1, .ref r2, .ref r3, .ref r4, .int (nI q), .ref r5, .ref r6, .int (nI (nE K (va_up S j1 (wdS (nI j2))))), .ref r7, .ref r8, .int (nI true.toNat), .ref r9, .int (nI z), .ref r10, .ref r11, .ref r12, .ref r13])), (r1, .inl (cI, 10, .inl (fN K.1))), (r2, .inl (cI, 10, .inl (fN K.2.1))), (r3, .inl (cI, 120, .inl (fN (lkA K)))), (r4, .inl (cI, 12, .inl (fN (va_up (va_up S j1 (wdS (nI j2))) j1 (S j1))))), (r5, .inl (cI, 20, .inl (fN hf))), (r6, .inl (cI, 20, .inl (fN hs))), (r7, .inl (cI, 1024, .inl (fN eX))), (r8, .inl (cJ, 1024, .inr (.inl (fL wX)))), (r9, .inl (cZ, 1024, .inl (fB cX))), (r10, .inl (cI, 12, .inl (fN ya))), (r11, .inl (cI, 12, .inl (fN yb))), (r12, .inl (cI, 12, .inl (fN yc))), (r13, .inl (cI, 12, .inl (fN ks)))] := hD
        rw [up_back] at hP hD
        refine lv_aload_n hx hb dX7_would_70 rfl (lv_at hl 2 rfl) ?_
        refine lv_iconst (v := nI 0) hx hb dX7_would_71 (by decide) ?_
        refine va_put (D := D) (ci := 7) (v := .int (nI 0)) (ty := .boolean) (C := RX7) (T := TX7) (N := 17) hx hb hts inA7 tyX7 tyX7_ok nmX7 hown hK.1 hP hD hS 0 rfl rfl 10 (by decide) (hts _ kf_RX7_59) (fun _ h9 => h9) rfl (by decide +kernel) (rfl) (rfl) (Nat.le_of_ble_eq_true rfl) dX7_would_72 (fun H locs hP hD hS => ?_)
        have hP : va_P D vwCl [(r0, .inr (7, [.ref r1, .ref r2, .ref r3, .ref r4, .int (nI q), .ref r5, .ref r6, .int (nI (nE K (va_up S j1 (wdS (nI j2))))), .ref r7, .ref r8, .int (nI false.toNat), .ref r9, .int (nI z), .ref r10, .ref r11, .ref r12, .ref r13])), (r1, .inl (cI, 10, .inl (fN K.1))), (r2, .inl (cI, 10, .inl (fN K.2.1))), (r3, .inl (cI, 120, .inl (fN (lkA K)))), (r4, .inl (cI, 12, .inl (fN S))), (r5, .inl (cI, 20, .inl (fN hf))), (r6, .inl (cI, 20, .inl (fN hs))), (r7, .inl (cI, 1024, .inl (fN eX))), (r8, .inl (cJ, 1024, .inr (.inl (fL wX)))), (r9, .inl (cZ, 1024, .inl (fB cX))), (r10, .inl (cI, 12, .inl (fN ya))), (r11, .inl (cI, 12, .inl (fN yb))), (r12, .inl (cI, 12, .inl (fN yc))), (r13, .inl (cI, 12, .inl (fN ks)))] H := hP
        have hD : va_D (aA [r0, r1, r2, r3, r4, r5, r6, r7, r8, r9, r10, r11, r12, r13]) [(r0, .inr (7, [.ref r1, .ref r2, .ref r3, .ref r4, .int (nI q), .ref r5, .ref r6, .int (nI (nE K (va_up S j1 (wdS (nI j2))))), .ref r7, .ref r8, .int (nI false.toNat), .ref r9, .int (nI z), .ref r10, .ref r11, .ref r12, .ref r13])), (r1, .inl (cI, 10, .inl (fN K.1))), (r2, .inl (cI, 10, .inl (fN K.2.1))), (r3, .inl (cI, 120, .inl (fN (lkA K)))), (r4, .inl (cI, 12, .inl (fN S))), (r5, .inl (cI, 20, .inl (fN hf))), (r6, .inl (cI, 20, .inl (fN hs))), (r7, .inl (cI, 1024, .inl (fN eX))), (r8, .inl (cJ, 1024, .inr (.inl (fL wX)))), (r9, .inl (cZ, 1024, .inl (fB cX))), (r10, .inl (cI, 12, .inl (fN ya))), (r11, .inl (cI, 12, .inl (fN yb))), (r12, .inl (cI, 12, .inl (fN yc))), (r13, .inl (cI, 12, .inl (fN ks)))] := hD
        refine lv_iload hx hb dX7_would_75 (lv_at hl 0 rfl) ?_
        rw [hQ]
        exact W.iret (v := nI (nE K (va_up S j1 (wdS (nI j2))))) hx hb hr (fun t ht hW => ⟨⟨_, H, rfl, ⟨K, S, q, hf, hs, (nE K (va_up S j1 (wdS (nI j2)))), eX, wX, false, cX, z, ya, yb, yc, ks, by rw [aWould, c4, c15, nn_nI (by omega)]; rfl, rfl, ⟨hKO, hL2, hS2, hq, hh, (fun h => by cases h)⟩, hP.sub [0, 1, 2, 3, 4, 5, 6, 7, 8, 9, 10, 11, 12, 13] rfl⟩, ht⟩, hS.F ht⟩) hS.2.2 dX7_would_77
      refine x_cne (a := j2) (b := 1) (tgt := 42) hx hb (by first | assumption | omega) (by decide) dX7_would_35 (by decide) (fun c35 => ?_) (fun c35 => ?_)
      · refine lv_iload_n hx hb dX7_would_42 rfl (lv_at hl 3 rfl) ?_
        refine x_zne (tgt := 50) hx hb (by first | assumption | omega) dX7_would_43 (by decide) (fun c43 => ?_) (fun c43 => ?_)
        · refine lv_iconst (v := nI 0) hx hb dX7_would_50 (by decide) ?_
          refine x_top (show nI 0 = nI (wdS (nI j2)) from by first | exact wd1 c35 | exact wd0 c43 | exact wd2 c35 c43 hj2) ?_
          exact j51
        · refine lv_iconst (v := nI 2) hx hb dX7_would_46 (by decide) ?_
          refine lv_goto (tgt := 51) hx hb dX7_would_47 (by decide) ?_
          refine x_top (show nI 2 = nI (wdS (nI j2)) from by first | exact wd1 c35 | exact wd0 c43 | exact wd2 c35 c43 hj2) ?_
          exact j51
      · refine lv_iconst (v := nI 1) hx hb dX7_would_38 (by decide) ?_
        refine lv_goto (tgt := 51) hx hb dX7_would_39 (by decide) ?_
        refine x_top (show nI 1 = nI (wdS (nI j2)) from by first | exact wd1 c35 | exact wd0 c43 | exact wd2 c35 c43 hj2) ?_
        exact j51
    · refine lv_bipush (v := (-2)) hx hb dX7_would_18 (by decide) ?_
      rw [hQ]
      exact W.iret (v := (-2)) hx hb hr (fun t ht hW => ⟨⟨_, H, rfl, ⟨K, S, q, hf, hs, mn, ex, we, kn, cv, z, ya, yb, yc, ks, by rw [aWould, c4, c15]; rfl, rfl, ⟨hKO, hL2, hS2, hq, hh, hkn⟩, hP.sub [0, 1, 2, 3, 4, 5, 6, 7, 8, 9, 10, 11, 12, 13] rfl⟩, ht⟩, hS.F ht⟩) hS.2.2 dX7_would_20
  · refine lv_iconst (v := (-1)) hx hb dX7_would_7 (by decide) ?_
    rw [hQ]
    exact W.iret (v := (-1)) hx hb hr (fun t ht hW => ⟨⟨_, H, rfl, ⟨K, S, q, hf, hs, mn, ex, we, kn, cv, z, ya, yb, yc, ks, by rw [aWould, c4]; rfl, rfl, ⟨hKO, hL2, hS2, hq, hh, hkn⟩, hP.sub [0, 1, 2, 3, 4, 5, 6, 7, 8, 9, 10, 11, 12, 13] rfl⟩, ht⟩, hS.F ht⟩) hS.2.2 dX7_would_8

set_option maxHeartbeats 4000000 in
set_option maxRecDepth 100000 in
theorem mt_X7_plan (l : Launch) (D : va_G) (cI cJ cZ : ClassId) (r0 : Nat) (r1 : Nat) (r2 : Nat) (r3 : Nat) (r4 : Nat) (r5 : Nat) (r6 : Nat) (r7 : Nat) (r8 : Nat) (r9 : Nat) (r10 : Nat) (r11 : Nat) (r12 : Nat) (r13 : Nat) (K : Kn) (S : Nat → Nat) (q : Nat) (hf : Nat → Nat) (hs : Nat → Nat) (mn : Nat) (ex : Nat → Nat) (we : Nat → Nat) (kn : Bool) (cv : Nat → Bool) (z : Nat) (ya : Nat → Nat) (yb : Nat → Nat) (yc : Nat → Nat) (ks : Nat → Nat) (a1 : Int32) (a2 : Int32) (hN : [r0, r1, r2, r3, r4, r5, r6, r7, r8, r9, r10, r11, r12, r13].Nodup) (hI : mI K S q hf hs mn ex we kn cv) : Met l yX7_plan (aW yX7_plan cX7_plan 3 (some .int)) { frames := 8, cells := 0, slots := 0, locals := 183 } (cP D cI cJ cZ [.ref r0, .int a1, .int a2] [(r0, .inr (7, [.ref r1, .ref r2, .ref r3, .ref r4, .int (nI q), .ref r5, .ref r6, .int (nI mn), .ref r7, .ref r8, .int (nI kn.toNat), .ref r9, .int (nI z), .ref r10, .ref r11, .ref r12, .ref r13])), (r1, .inl (cI, 10, .inl (fN K.1))), (r2, .inl (cI, 10, .inl (fN K.2.1))), (r3, .inl (cI, 120, .inl (fN (lkA K)))), (r4, .inl (cI, 12, .inl (fN S))), (r5, .inl (cI, 20, .inl (fN hf))), (r6, .inl (cI, 20, .inl (fN hs))), (r7, .inl (cI, 1024, .inl (fN ex))), (r8, .inl (cJ, 1024, .inr (.inl (fL we)))), (r9, .inl (cZ, 1024, .inl (fB cv))), (r10, .inl (cI, 12, .inl (fN ya))), (r11, .inl (cI, 12, .inl (fN yb))), (r12, .inl (cI, 12, .inl (fN yc))), (r13, .inl (cI, 12, .inl (fN ks)))]) (va_Qi (fun (r : Int32) (H1 : Heap) => ∃ (K1 : Kn) (S1 : Nat → Nat) (q1 : Nat) (hf1 : Nat → Nat) (hs1 : Nat → Nat) (mn1 : Nat) (ex1 : Nat → Nat) (we1 : Nat → Nat) (kn1 : Bool) (cv1 : Nat → Bool) (z1 : Nat) (ya1 : Nat → Nat) (yb1 : Nat → Nat) (yc1 : Nat → Nat) (ks1 : Nat → Nat), r = aPlan K S a1 a2 ∧ ((K1, S1, q1, hf1, hs1) = (K, S, q, hf, hs)) ∧ (mI K1 S1 q1 hf1 hs1 mn1 ex1 we1 kn1 cv1) ∧ va_P D vwCl [(r0, .inr (7, [.ref r1, .ref r2, .ref r3, .ref r4, .int (nI q1), .ref r5, .ref r6, .int (nI mn1), .ref r7, .ref r8, .int (nI kn1.toNat), .ref r9, .int (nI z1), .ref r10, .ref r11, .ref r12, .ref r13])), (r1, .inl (cI, 10, .inl (fN K1.1))), (r2, .inl (cI, 10, .inl (fN K1.2.1))), (r3, .inl (cI, 120, .inl (fN (lkA K1)))), (r4, .inl (cI, 12, .inl (fN S1))), (r5, .inl (cI, 20, .inl (fN hf1))), (r6, .inl (cI, 20, .inl (fN hs1))), (r7, .inl (cI, 1024, .inl (fN ex1))), (r8, .inl (cJ, 1024, .inr (.inl (fL we1)))), (r9, .inl (cZ, 1024, .inl (fB cv1))), (r10, .inl (cI, 12, .inl (fN ya1))), (r11, .inl (cI, 12, .inl (fN yb1))), (r12, .inl (cI, 12, .inl (fN yc1))), (r13, .inl (cI, 12, .inl (fN ks1)))] H1) mB (aA [r0, r1, r2, r3, r4, r5, r6, r7, r8, r9, r10, r11, r12, r13])) 0 0 (aA [r0, r1, r2, r3, r4, r5, r6, r7, r8, r9, r10, r11, r12, r13]) := by
  refine Met.ofW (cc := cX7_plan) (maxL := 3) (ret := (some .int)) (by decide) rfl ?_
  intro p e s m args below meth c s₁ B hml hv
  obtain ⟨hav, hP, hK⟩ := hv
  have hx := B.exec
  have hb := B.bytes
  have hr := B.returns
  have hts := aW_in (atoms_spec (ws := aW yX7_plan cX7_plan 3 (some .int)) B.pre)
  have hown : s.vm.findClass RX7 = some m.cls := findClass_of_methodNamed B.named
  have hlocks := B.notSynchronized
  obtain ⟨R, hR⟩ : ∃ R, R = (headSpec (aW yX7_plan cX7_plan 3 (some .int)) { frames := 8, cells := 0, slots := 0, locals := 183 }).room := ⟨_, rfl⟩
  rw [← hR]
  obtain ⟨Q, hQ⟩ : ∃ Q, Q = MQ below (va_Qi (fun (r : Int32) (H1 : Heap) => ∃ (K1 : Kn) (S1 : Nat → Nat) (q1 : Nat) (hf1 : Nat → Nat) (hs1 : Nat → Nat) (mn1 : Nat) (ex1 : Nat → Nat) (we1 : Nat → Nat) (kn1 : Bool) (cv1 : Nat → Bool) (z1 : Nat) (ya1 : Nat → Nat) (yb1 : Nat → Nat) (yc1 : Nat → Nat) (ks1 : Nat → Nat), r = aPlan K S a1 a2 ∧ ((K1, S1, q1, hf1, hs1) = (K, S, q, hf, hs)) ∧ (mI K1 S1 q1 hf1 hs1 mn1 ex1 we1 kn1 cv1) ∧ va_P D vwCl [(r0, .inr (7, [.ref r1, .ref r2, .ref r3, .ref r4, .int (nI q1), .ref r5, .ref r6, .int (nI mn1), .ref r7, .ref r8, .int (nI kn1.toNat), .ref r9, .int (nI z1), .ref r10, .ref r11, .ref r12, .ref r13])), (r1, .inl (cI, 10, .inl (fN K1.1))), (r2, .inl (cI, 10, .inl (fN K1.2.1))), (r3, .inl (cI, 120, .inl (fN (lkA K1)))), (r4, .inl (cI, 12, .inl (fN S1))), (r5, .inl (cI, 20, .inl (fN hf1))), (r6, .inl (cI, 20, .inl (fN hs1))), (r7, .inl (cI, 1024, .inl (fN ex1))), (r8, .inl (cJ, 1024, .inr (.inl (fL we1)))), (r9, .inl (cZ, 1024, .inl (fB cv1))), (r10, .inl (cI, 12, .inl (fN ya1))), (r11, .inl (cI, 12, .inl (fN yb1))), (r12, .inl (cI, 12, .inl (fN yc1))), (r13, .inl (cI, 12, .inl (fN ks1)))] H1) mB (aA [r0, r1, r2, r3, r4, r5, r6, r7, r8, r9, r10, r11, r12, r13])) args s 0 0 (aA [r0, r1, r2, r3, r4, r5, r6, r7, r8, r9, r10, r11, r12, r13]) := ⟨_, rfl⟩
  rw [← hQ]
  have hl := lv_entry [.ref r0, .int a1, .int a2] (n := 3) (Nat.le_of_ble_eq_true rfl)
  have hent := lg_entry_eq m [.ref r0, .int a1, .int a2] 3
  rw [← hav] at hent
  rw [hent]
  generalize (lg_sl [.ref r0, .int a1, .int a2] ++ List.replicate (3 - (lg_sl [.ref r0, .int a1, .int a2]).length) Slot.unset).toArray = ls at hl ⊢
  have hl : lv_has ls 3 [(0, .ref r0), (1, .int a1), (2, .int a2)] := hl
  have hD : va_D (aA [r0, r1, r2, r3, r4, r5, r6, r7, r8, r9, r10, r11, r12, r13]) [(r0, .inr (7, [.ref r1, .ref r2, .ref r3, .ref r4, .int (nI q), .ref r5, .ref r6, .int (nI mn), .ref r7, .ref r8, .int (nI kn.toNat), .ref r9, .int (nI z), .ref r10, .ref r11, .ref r12, .ref r13])), (r1, .inl (cI, 10, .inl (fN K.1))), (r2, .inl (cI, 10, .inl (fN K.2.1))), (r3, .inl (cI, 120, .inl (fN (lkA K)))), (r4, .inl (cI, 12, .inl (fN S))), (r5, .inl (cI, 20, .inl (fN hf))), (r6, .inl (cI, 20, .inl (fN hs))), (r7, .inl (cI, 1024, .inl (fN ex))), (r8, .inl (cJ, 1024, .inr (.inl (fL we)))), (r9, .inl (cZ, 1024, .inl (fB cv))), (r10, .inl (cI, 12, .inl (fN ya))), (r11, .inl (cI, 12, .inl (fN yb))), (r12, .inl (cI, 12, .inl (fN yc))), (r13, .inl (cI, 12, .inl (fN ks)))] := nd_D hN rfl
  have hS : va_S (aA [r0, r1, r2, r3, r4, r5, r6, r7, r8, r9, r10, r11, r12, r13]) s.heap s.heap [] := va_S.rf
  have hP : va_P D vwCl [(r0, .inr (7, [.ref r1, .ref r2, .ref r3, .ref r4, .int (nI q), .ref r5, .ref r6, .int (nI mn), .ref r7, .ref r8, .int (nI kn.toNat), .ref r9, .int (nI z), .ref r10, .ref r11, .ref r12, .ref r13])), (r1, .inl (cI, 10, .inl (fN K.1))), (r2, .inl (cI, 10, .inl (fN K.2.1))), (r3, .inl (cI, 120, .inl (fN (lkA K)))), (r4, .inl (cI, 12, .inl (fN S))), (r5, .inl (cI, 20, .inl (fN hf))), (r6, .inl (cI, 20, .inl (fN hs))), (r7, .inl (cI, 1024, .inl (fN ex))), (r8, .inl (cJ, 1024, .inr (.inl (fL we)))), (r9, .inl (cZ, 1024, .inl (fB cv))), (r10, .inl (cI, 12, .inl (fN ya))), (r11, .inl (cI, 12, .inl (fN yb))), (r12, .inl (cI, 12, .inl (fN yc))), (r13, .inl (cI, 12, .inl (fN ks)))] s.heap := hP
  obtain ⟨H, hH⟩ : ∃ H, H = s.heap := ⟨_, rfl⟩
  rw [← hH] at hP
  obtain ⟨locs, hlocs⟩ : ∃ q : List Loc, q = [] := ⟨_, rfl⟩
  have hS : va_S (aA [r0, r1, r2, r3, r4, r5, r6, r7, r8, r9, r10, r11, r12, r13]) s.heap H locs := by rw [hH, hlocs]; exact hS
  rw [← hH, ← hlocs]
  clear hH hlocs
  obtain ⟨hKO, hL2, hS2, hq, hh, hkn⟩ := id hI
  refine lv_iload_n hx hb dX7_plan_0 rfl (lv_at hl 1 rfl) ?_
  refine lv_iconst (v := nI 0) hx hb dX7_plan_1 (by decide) ?_
  refine lv_bipush (v := nI 11) hx hb dX7_plan_2 (by decide) ?_
  refine vp_callSi (va_Run.run (va_runS (As := [.int a1, .int (nI 0), .int (nI 11)]) (rest := []) ⟨hx, hb, hml, hown, hts⟩ (mt_X7_within l D cI cJ cZ a1 (nI 0) (nI 11)) (va_cwS 3 hts (gS km_RX7_51 ks_yX7_within kn_RX7 kc_yX7_within) rfl rfl rfl (by decide +kernel) (by rw [hR]; exact ⟨Nat.le_of_ble_eq_true rfl, Nat.le_of_ble_eq_true rfl⟩)) (cP_S hK (fun k q h => by simp at h)) rfl rfl hl.1 rfl (lv_room (Nat.le_of_ble_eq_true rfl)) dX7_plan_4 ⟨Nat.zero_le _, Nat.zero_le _⟩)) (fun r_ hr_ => ?_)
  subst hr_
  refine x_top (show nI (inR a1 ((nI 0)).toInt ((nI 11)).toInt).toNat = nI (inR a1 0 11).toNat from rfl) ?_
  refine x_beq (tgt := 19) hx hb dX7_plan_7 (by decide) (fun c7 => ?_) (fun c7 => ?_)
  · refine lv_bipush (v := (-2)) hx hb dX7_plan_19 (by decide) ?_
    rw [hQ]
    exact W.iret (v := (-2)) hx hb hr (fun t ht hW => ⟨⟨_, H, rfl, ⟨K, S, q, hf, hs, mn, ex, we, kn, cv, z, ya, yb, yc, ks, by first | (rw [aPlan, c7]; rfl) | (rw [aPlan, c7, c16]; rfl), rfl, ⟨hKO, hL2, hS2, hq, hh, hkn⟩, hP.sub [0, 1, 2, 3, 4, 5, 6, 7, 8, 9, 10, 11, 12, 13] rfl⟩, ht⟩, hS.F ht⟩) hS.2.2 dX7_plan_21
  · refine lv_iload_n hx hb dX7_plan_10 rfl (lv_at hl 2 rfl) ?_
    refine lv_iconst (v := nI 0) hx hb dX7_plan_11 (by decide) ?_
    refine lv_iconst (v := nI 2) hx hb dX7_plan_12 (by decide) ?_
    refine vp_callSi (va_Run.run (va_runS (As := [.int a2, .int (nI 0), .int (nI 2)]) (rest := []) ⟨hx, hb, hml, hown, hts⟩ (mt_X7_within l D cI cJ cZ a2 (nI 0) (nI 2)) (va_cwS 3 hts (gS km_RX7_51 ks_yX7_within kn_RX7 kc_yX7_within) rfl rfl rfl (by decide +kernel) (by rw [hR]; exact ⟨Nat.le_of_ble_eq_true rfl, Nat.le_of_ble_eq_true rfl⟩)) (cP_S hK (fun k q h => by simp at h)) rfl rfl hl.1 rfl (lv_room (Nat.le_of_ble_eq_true rfl)) dX7_plan_13 ⟨Nat.zero_le _, Nat.zero_le _⟩)) (fun r_ hr_ => ?_)
    subst hr_
    refine x_top (show nI (inR a2 ((nI 0)).toInt ((nI 2)).toInt).toNat = nI (inR a2 0 2).toNat from rfl) ?_
    refine x_bne (tgt := 22) hx hb dX7_plan_16 (by decide) (fun c16 => ?_) (fun c16 => ?_)
    · obtain ⟨j1, hj1, rfl⟩ := inR_nat (n := 11) c7
      obtain ⟨j2, hj2, rfl⟩ := inR_nat (n := 2) c16
      refine lv_aload_n hx hb dX7_plan_22 rfl (lv_at hl 0 rfl) ?_
      refine mc_v (va_runV (As := []) (rest := []) ⟨hx, hb, hml, hown, hts⟩ (mt_X7_findPlan l D cI cJ cZ r0 r1 r2 r3 r4 r5 r6 r7 r8 r9 r10 r11 r12 r13 K S q hf hs mn ex we kn cv z ya yb yc ks (nd_sub hN [0, 1, 2, 3, 4, 5, 6, 7, 8, 9, 10, 11, 12, 13] (by decide) rfl) (by first | assumption | omega) (by first | assumption | omega) (by first | assumption | omega) (by first | assumption | omega)) (cwV 0 hts (gV km_RX7_158 ki_yX7_findPlan kl_yX7_findPlan kn_RX7 kc_yX7_findPlan) rfl rfl rfl (by decide +kernel) (by rw [hR]; exact ⟨Nat.le_of_ble_eq_true rfl, Nat.le_of_ble_eq_true rfl⟩)) (cP_V (q0 := 0) (ci := 7) hK (hP.sub [0, 1, 2, 3, 4, 5, 6, 7, 8, 9, 10, 11, 12, 13] rfl) rfl rfl) rfl rfl hl.1 rfl (lv_room (Nat.le_of_ble_eq_true rfl)) dX7_plan_23 ⟨Nat.zero_le _, Nat.zero_le _⟩) hS (aA_sub [0, 1, 2, 3, 4, 5, 6, 7, 8, 9, 10, 11, 12, 13] rfl) (fun H locs hp_ hk_ hS => ?_)
      obtain ⟨mn1_1, ex1_1, we1_1, cv1_1, zM, fM, tM, mM, ks1_1, hPM, hP1⟩ := hp_
      have hP := pj (wr := []) (w1 := [(r0, .inr (7, [.ref r1, .ref r2, .ref r3, .ref r4, .int (nI q), .ref r5, .ref r6, .int (nI mn1_1), .ref r7, .ref r8, .int (nI false.toNat), .ref r9, .int (nI zM), .ref r10, .ref r11, .ref r12, .ref r13])), (r1, .inl (cI, 10, .inl (fN K.1))), (r2, .inl (cI, 10, .inl (fN K.2.1))), (r3, .inl (cI, 120, .inl (fN (lkA K)))), (r4, .inl (cI, 12, .inl (fN S))), (r5, .inl (cI, 20, .inl (fN hf))), (r6, .inl (cI, 20, .inl (fN hs))), (r7, .inl (cI, 1024, .inl (fN ex1_1))), (r8, .inl (cJ, 1024, .inr (.inl (fL we1_1)))), (r9, .inl (cZ, 1024, .inl (fB cv1_1))), (r10, .inl (cI, 12, .inl (fN fM))), (r11, .inl (cI, 12, .inl (fN tM))), (r12, .inl (cI, 12, .inl (fN mM))), (r13, .inl (cI, 12, .inl (fN ks1_1)))]) (lc := [r0, r1, r2, r3, r4, r5, r6, r7, r8, r9, r10, r11, r12, r13]) hP hD [0, 1, 2, 3, 4, 5, 6, 7, 8, 9, 10, 11, 12, 13] [] rfl rfl (by decide) hk_ hP1
      have hP : va_P D vwCl [(r0, .inr (7, [.ref r1, .ref r2, .ref r3, .ref r4, .int (nI q), .ref r5, .ref r6, .int (nI mn1_1), .ref r7, .ref r8, .int (nI false.toNat), .ref r9, .int (nI zM), .ref r10, .ref r11, .ref r12, .ref r13])), (r1, .inl (cI, 10, .inl (fN K.1))), (r2, .inl (cI, 10, .inl (fN K.2.1))), (r3, .inl (cI, 120, .inl (fN (lkA K)))), (r4, .inl (cI, 12, .inl (fN S))), (r5, .inl (cI, 20, .inl (fN hf))), (r6, .inl (cI, 20, .inl (fN hs))), (r7, .inl (cI, 1024, .inl (fN ex1_1))), (r8, .inl (cJ, 1024, .inr (.inl (fL we1_1)))), (r9, .inl (cZ, 1024, .inl (fB cv1_1))), (r10, .inl (cI, 12, .inl (fN fM))), (r11, .inl (cI, 12, .inl (fN tM))), (r12, .inl (cI, 12, .inl (fN mM))), (r13, .inl (cI, 12, .inl (fN ks1_1)))] H := hP
      have hD : va_D (aA [r0, r1, r2, r3, r4, r5, r6, r7, r8, r9, r10, r11, r12, r13]) [(r0, .inr (7, [.ref r1, .ref r2, .ref r3, .ref r4, .int (nI q), .ref r5, .ref r6, .int (nI mn1_1), .ref r7, .ref r8, .int (nI false.toNat), .ref r9, .int (nI zM), .ref r10, .ref r11, .ref r12, .ref r13])), (r1, .inl (cI, 10, .inl (fN K.1))), (r2, .inl (cI, 10, .inl (fN K.2.1))), (r3, .inl (cI, 120, .inl (fN (lkA K)))), (r4, .inl (cI, 12, .inl (fN S))), (r5, .inl (cI, 20, .inl (fN hf))), (r6, .inl (cI, 20, .inl (fN hs))), (r7, .inl (cI, 1024, .inl (fN ex1_1))), (r8, .inl (cJ, 1024, .inr (.inl (fL we1_1)))), (r9, .inl (cZ, 1024, .inl (fB cv1_1))), (r10, .inl (cI, 12, .inl (fN fM))), (r11, .inl (cI, 12, .inl (fN tM))), (r12, .inl (cI, 12, .inl (fN mM))), (r13, .inl (cI, 12, .inl (fN ks1_1)))] := hD.re [0, 1, 2, 3, 4, 5, 6, 7, 8, 9, 10, 11, 12, 13] (by decide) rfl
      have hz12 := hPM.1.1
      have hzN := PZ_zN hPM.1
      refine lv_iload_n hx hb dX7_plan_26 rfl (lv_at hl 1 rfl) ?_
      refine lv_aload_n hx hb dX7_plan_27 rfl (lv_at hl 0 rfl) ?_
      refine va_get (D := D) (ci := 7) (v := .int (nI zM)) (C := RX7) (T := TX7) (N := 17) hx hb hts inA7 hown hK.1 hP 0 rfl rfl 12 (by decide) (hts _ kf_RX7_155) (fun _ h9 => h9) rfl dX7_plan_28 ?_
      refine x_clt (a := j1) (b := zM) (tgt := 37) hx hb (by first | assumption | omega) (by first | assumption | omega) dX7_plan_31 (by decide) (fun c31 => ?_) (fun c31 => ?_)
      · have hst := hPM.2 j1 c31
        refine lv_iload_n hx hb dX7_plan_37 rfl (lv_at hl 2 rfl) ?_
        refine x_zne (tgt := 50) hx hb (by first | assumption | omega) dX7_plan_38 (by decide) (fun c38 => ?_) (fun c38 => ?_)
        · refine lv_iload_n hx hb dX7_plan_50 rfl (lv_at hl 2 rfl) ?_
          refine lv_iconst (v := nI 1) hx hb dX7_plan_51 (by decide) ?_
          refine x_cne (a := j2) (b := 1) (tgt := 64) hx hb (by first | assumption | omega) (by decide) dX7_plan_52 (by decide) (fun c52 => ?_) (fun c52 => ?_)
          · refine lv_aload_n hx hb dX7_plan_64 rfl (lv_at hl 0 rfl) ?_
            refine va_get (D := D) (ci := 7) (v := .ref r12) (C := RX7) (T := TX7) (N := 17) hx hb hts inA7 hown hK.1 hP 0 rfl rfl 15 (by decide) (hts _ kf_RX7_45) (fun _ h9 => h9) rfl dX7_plan_65 ?_
            refine lv_iload_n hx hb dX7_plan_68 rfl (lv_at hl 1 rfl) ?_
            refine x_ildN hx hb hK.1 hP 12 0 rfl rfl (by first | assumption | omega) (by decide) dX7_plan_69 ?_
            rw [hQ]
            exact W.iret (v := nI (mM j1)) hx hb hr (fun t ht hW => ⟨⟨_, H, rfl, ⟨K, S, q, hf, hs, mn1_1, ex1_1, we1_1, false, cv1_1, zM, fM, tM, mM, ks1_1, by rw [aPlan, c7, c16, nn_nI (by omega)]; simp only [Bool.and_self, if_true]; rw [if_pos (by rw [← hzN]; exact c31)]; first | (rw [c38, hst.1]; rfl) | (rw [c52, hst.2.1]; rfl) | (rw [show j2 = 2 by omega, hst.2.2]; rfl), rfl, ⟨hKO, hL2, hS2, hq, hh, (fun h => by cases h)⟩, hP.sub [0, 1, 2, 3, 4, 5, 6, 7, 8, 9, 10, 11, 12, 13] rfl⟩, ht⟩, hS.F ht⟩) hS.2.2 dX7_plan_70
          · refine lv_aload_n hx hb dX7_plan_55 rfl (lv_at hl 0 rfl) ?_
            refine va_get (D := D) (ci := 7) (v := .ref r11) (C := RX7) (T := TX7) (N := 17) hx hb hts inA7 hown hK.1 hP 0 rfl rfl 14 (by decide) (hts _ kf_RX7_42) (fun _ h9 => h9) rfl dX7_plan_56 ?_
            refine lv_iload_n hx hb dX7_plan_59 rfl (lv_at hl 1 rfl) ?_
            refine x_ildN hx hb hK.1 hP 11 0 rfl rfl (by first | assumption | omega) (by decide) dX7_plan_60 ?_
            refine lv_goto (tgt := 70) hx hb dX7_plan_61 (by decide) ?_
            rw [hQ]
            exact W.iret (v := nI (tM j1)) hx hb hr (fun t ht hW => ⟨⟨_, H, rfl, ⟨K, S, q, hf, hs, mn1_1, ex1_1, we1_1, false, cv1_1, zM, fM, tM, mM, ks1_1, by rw [aPlan, c7, c16, nn_nI (by omega)]; simp only [Bool.and_self, if_true]; rw [if_pos (by rw [← hzN]; exact c31)]; first | (rw [c38, hst.1]; rfl) | (rw [c52, hst.2.1]; rfl) | (rw [show j2 = 2 by omega, hst.2.2]; rfl), rfl, ⟨hKO, hL2, hS2, hq, hh, (fun h => by cases h)⟩, hP.sub [0, 1, 2, 3, 4, 5, 6, 7, 8, 9, 10, 11, 12, 13] rfl⟩, ht⟩, hS.F ht⟩) hS.2.2 dX7_plan_70
        · refine lv_aload_n hx hb dX7_plan_41 rfl (lv_at hl 0 rfl) ?_
          refine va_get (D := D) (ci := 7) (v := .ref r10) (C := RX7) (T := TX7) (N := 17) hx hb hts inA7 hown hK.1 hP 0 rfl rfl 13 (by decide) (hts _ kf_RX7_39) (fun _ h9 => h9) rfl dX7_plan_42 ?_
          refine lv_iload_n hx hb dX7_plan_45 rfl (lv_at hl 1 rfl) ?_
          refine x_ildN hx hb hK.1 hP 10 0 rfl rfl (by first | assumption | omega) (by decide) dX7_plan_46 ?_
          refine lv_goto (tgt := 70) hx hb dX7_plan_47 (by decide) ?_
          rw [hQ]
          exact W.iret (v := nI (fM j1)) hx hb hr (fun t ht hW => ⟨⟨_, H, rfl, ⟨K, S, q, hf, hs, mn1_1, ex1_1, we1_1, false, cv1_1, zM, fM, tM, mM, ks1_1, by rw [aPlan, c7, c16, nn_nI (by omega)]; simp only [Bool.and_self, if_true]; rw [if_pos (by rw [← hzN]; exact c31)]; first | (rw [c38, hst.1]; rfl) | (rw [c52, hst.2.1]; rfl) | (rw [show j2 = 2 by omega, hst.2.2]; rfl), rfl, ⟨hKO, hL2, hS2, hq, hh, (fun h => by cases h)⟩, hP.sub [0, 1, 2, 3, 4, 5, 6, 7, 8, 9, 10, 11, 12, 13] rfl⟩, ht⟩, hS.F ht⟩) hS.2.2 dX7_plan_70
      · refine lv_bipush (v := (-9)) hx hb dX7_plan_34 (by decide) ?_
        rw [hQ]
        exact W.iret (v := (-9)) hx hb hr (fun t ht hW => ⟨⟨_, H, rfl, ⟨K, S, q, hf, hs, mn1_1, ex1_1, we1_1, false, cv1_1, zM, fM, tM, mM, ks1_1, by rw [aPlan, c7, c16, nn_nI (by omega)]; simp only [Bool.and_self, if_true]; rw [if_neg (by rw [← hzN]; exact c31)], rfl, ⟨hKO, hL2, hS2, hq, hh, (fun h => by cases h)⟩, hP.sub [0, 1, 2, 3, 4, 5, 6, 7, 8, 9, 10, 11, 12, 13] rfl⟩, ht⟩, hS.F ht⟩) hS.2.2 dX7_plan_36
    · refine lv_bipush (v := (-2)) hx hb dX7_plan_19 (by decide) ?_
      rw [hQ]
      exact W.iret (v := (-2)) hx hb hr (fun t ht hW => ⟨⟨_, H, rfl, ⟨K, S, q, hf, hs, mn, ex, we, kn, cv, z, ya, yb, yc, ks, by first | (rw [aPlan, c7]; rfl) | (rw [aPlan, c7, c16]; rfl), rfl, ⟨hKO, hL2, hS2, hq, hh, hkn⟩, hP.sub [0, 1, 2, 3, 4, 5, 6, 7, 8, 9, 10, 11, 12, 13] rfl⟩, ht⟩, hS.F ht⟩) hS.2.2 dX7_plan_21

set_option maxHeartbeats 4000000 in
set_option maxRecDepth 100000 in
theorem mt_X7_many (l : Launch) (D : va_G) (cI cJ cZ : ClassId) (r0 : Nat) (r1 : Nat) (r2 : Nat) (r3 : Nat) (r4 : Nat) (r5 : Nat) (r6 : Nat) (r7 : Nat) (r8 : Nat) (r9 : Nat) (r10 : Nat) (r11 : Nat) (r12 : Nat) (r13 : Nat) (K : Kn) (S : Nat → Nat) (q : Nat) (hf : Nat → Nat) (hs : Nat → Nat) (mn : Nat) (ex : Nat → Nat) (we : Nat → Nat) (kn : Bool) (cv : Nat → Bool) (z : Nat) (ya : Nat → Nat) (yb : Nat → Nat) (yc : Nat → Nat) (ks : Nat → Nat) (a1 : Int32) (hN : [r0, r1, r2, r3, r4, r5, r6, r7, r8, r9, r10, r11, r12, r13].Nodup) (hI : mI K S q hf hs mn ex we kn cv) : Met l yX7_many (aW yX7_many cX7_many 4 (some .int)) { frames := 8, cells := 0, slots := 0, locals := 183 } (cP D cI cJ cZ [.ref r0, .int a1] [(r0, .inr (7, [.ref r1, .ref r2, .ref r3, .ref r4, .int (nI q), .ref r5, .ref r6, .int (nI mn), .ref r7, .ref r8, .int (nI kn.toNat), .ref r9, .int (nI z), .ref r10, .ref r11, .ref r12, .ref r13])), (r1, .inl (cI, 10, .inl (fN K.1))), (r2, .inl (cI, 10, .inl (fN K.2.1))), (r3, .inl (cI, 120, .inl (fN (lkA K)))), (r4, .inl (cI, 12, .inl (fN S))), (r5, .inl (cI, 20, .inl (fN hf))), (r6, .inl (cI, 20, .inl (fN hs))), (r7, .inl (cI, 1024, .inl (fN ex))), (r8, .inl (cJ, 1024, .inr (.inl (fL we)))), (r9, .inl (cZ, 1024, .inl (fB cv))), (r10, .inl (cI, 12, .inl (fN ya))), (r11, .inl (cI, 12, .inl (fN yb))), (r12, .inl (cI, 12, .inl (fN yc))), (r13, .inl (cI, 12, .inl (fN ks)))]) (va_Qi (fun (r : Int32) (H1 : Heap) => ∃ (K1 : Kn) (S1 : Nat → Nat) (q1 : Nat) (hf1 : Nat → Nat) (hs1 : Nat → Nat) (mn1 : Nat) (ex1 : Nat → Nat) (we1 : Nat → Nat) (kn1 : Bool) (cv1 : Nat → Bool) (z1 : Nat) (ya1 : Nat → Nat) (yb1 : Nat → Nat) (yc1 : Nat → Nat) (ks1 : Nat → Nat), r = aMany K S q a1 ∧ ((K1, S1, q1, hf1, hs1) = (K, S, q, hf, hs)) ∧ (mI K1 S1 q1 hf1 hs1 mn1 ex1 we1 kn1 cv1) ∧ va_P D vwCl [(r0, .inr (7, [.ref r1, .ref r2, .ref r3, .ref r4, .int (nI q1), .ref r5, .ref r6, .int (nI mn1), .ref r7, .ref r8, .int (nI kn1.toNat), .ref r9, .int (nI z1), .ref r10, .ref r11, .ref r12, .ref r13])), (r1, .inl (cI, 10, .inl (fN K1.1))), (r2, .inl (cI, 10, .inl (fN K1.2.1))), (r3, .inl (cI, 120, .inl (fN (lkA K1)))), (r4, .inl (cI, 12, .inl (fN S1))), (r5, .inl (cI, 20, .inl (fN hf1))), (r6, .inl (cI, 20, .inl (fN hs1))), (r7, .inl (cI, 1024, .inl (fN ex1))), (r8, .inl (cJ, 1024, .inr (.inl (fL we1)))), (r9, .inl (cZ, 1024, .inl (fB cv1))), (r10, .inl (cI, 12, .inl (fN ya1))), (r11, .inl (cI, 12, .inl (fN yb1))), (r12, .inl (cI, 12, .inl (fN yc1))), (r13, .inl (cI, 12, .inl (fN ks1)))] H1) mB (aA [r0, r1, r2, r3, r4, r5, r6, r7, r8, r9, r10, r11, r12, r13])) 0 0 (aA [r0, r1, r2, r3, r4, r5, r6, r7, r8, r9, r10, r11, r12, r13]) := by
  refine Met.ofW (cc := cX7_many) (maxL := 4) (ret := (some .int)) (by decide) rfl ?_
  intro p e s m args below meth c s₁ B hml hv
  obtain ⟨hav, hP, hK⟩ := hv
  have hx := B.exec
  have hb := B.bytes
  have hr := B.returns
  have hts := aW_in (atoms_spec (ws := aW yX7_many cX7_many 4 (some .int)) B.pre)
  have hown : s.vm.findClass RX7 = some m.cls := findClass_of_methodNamed B.named
  have hlocks := B.notSynchronized
  obtain ⟨R, hR⟩ : ∃ R, R = (headSpec (aW yX7_many cX7_many 4 (some .int)) { frames := 8, cells := 0, slots := 0, locals := 183 }).room := ⟨_, rfl⟩
  rw [← hR]
  obtain ⟨Q, hQ⟩ : ∃ Q, Q = MQ below (va_Qi (fun (r : Int32) (H1 : Heap) => ∃ (K1 : Kn) (S1 : Nat → Nat) (q1 : Nat) (hf1 : Nat → Nat) (hs1 : Nat → Nat) (mn1 : Nat) (ex1 : Nat → Nat) (we1 : Nat → Nat) (kn1 : Bool) (cv1 : Nat → Bool) (z1 : Nat) (ya1 : Nat → Nat) (yb1 : Nat → Nat) (yc1 : Nat → Nat) (ks1 : Nat → Nat), r = aMany K S q a1 ∧ ((K1, S1, q1, hf1, hs1) = (K, S, q, hf, hs)) ∧ (mI K1 S1 q1 hf1 hs1 mn1 ex1 we1 kn1 cv1) ∧ va_P D vwCl [(r0, .inr (7, [.ref r1, .ref r2, .ref r3, .ref r4, .int (nI q1), .ref r5, .ref r6, .int (nI mn1), .ref r7, .ref r8, .int (nI kn1.toNat), .ref r9, .int (nI z1), .ref r10, .ref r11, .ref r12, .ref r13])), (r1, .inl (cI, 10, .inl (fN K1.1))), (r2, .inl (cI, 10, .inl (fN K1.2.1))), (r3, .inl (cI, 120, .inl (fN (lkA K1)))), (r4, .inl (cI, 12, .inl (fN S1))), (r5, .inl (cI, 20, .inl (fN hf1))), (r6, .inl (cI, 20, .inl (fN hs1))), (r7, .inl (cI, 1024, .inl (fN ex1))), (r8, .inl (cJ, 1024, .inr (.inl (fL we1)))), (r9, .inl (cZ, 1024, .inl (fB cv1))), (r10, .inl (cI, 12, .inl (fN ya1))), (r11, .inl (cI, 12, .inl (fN yb1))), (r12, .inl (cI, 12, .inl (fN yc1))), (r13, .inl (cI, 12, .inl (fN ks1)))] H1) mB (aA [r0, r1, r2, r3, r4, r5, r6, r7, r8, r9, r10, r11, r12, r13])) args s 0 0 (aA [r0, r1, r2, r3, r4, r5, r6, r7, r8, r9, r10, r11, r12, r13]) := ⟨_, rfl⟩
  rw [← hQ]
  have hl := lv_entry [.ref r0, .int a1] (n := 4) (Nat.le_of_ble_eq_true rfl)
  have hent := lg_entry_eq m [.ref r0, .int a1] 4
  rw [← hav] at hent
  rw [hent]
  generalize (lg_sl [.ref r0, .int a1] ++ List.replicate (4 - (lg_sl [.ref r0, .int a1]).length) Slot.unset).toArray = ls at hl ⊢
  have hl : lv_has ls 4 [(0, .ref r0), (1, .int a1)] := hl
  have hD : va_D (aA [r0, r1, r2, r3, r4, r5, r6, r7, r8, r9, r10, r11, r12, r13]) [(r0, .inr (7, [.ref r1, .ref r2, .ref r3, .ref r4, .int (nI q), .ref r5, .ref r6, .int (nI mn), .ref r7, .ref r8, .int (nI kn.toNat), .ref r9, .int (nI z), .ref r10, .ref r11, .ref r12, .ref r13])), (r1, .inl (cI, 10, .inl (fN K.1))), (r2, .inl (cI, 10, .inl (fN K.2.1))), (r3, .inl (cI, 120, .inl (fN (lkA K)))), (r4, .inl (cI, 12, .inl (fN S))), (r5, .inl (cI, 20, .inl (fN hf))), (r6, .inl (cI, 20, .inl (fN hs))), (r7, .inl (cI, 1024, .inl (fN ex))), (r8, .inl (cJ, 1024, .inr (.inl (fL we)))), (r9, .inl (cZ, 1024, .inl (fB cv))), (r10, .inl (cI, 12, .inl (fN ya))), (r11, .inl (cI, 12, .inl (fN yb))), (r12, .inl (cI, 12, .inl (fN yc))), (r13, .inl (cI, 12, .inl (fN ks)))] := nd_D hN rfl
  have hS : va_S (aA [r0, r1, r2, r3, r4, r5, r6, r7, r8, r9, r10, r11, r12, r13]) s.heap s.heap [] := va_S.rf
  have hP : va_P D vwCl [(r0, .inr (7, [.ref r1, .ref r2, .ref r3, .ref r4, .int (nI q), .ref r5, .ref r6, .int (nI mn), .ref r7, .ref r8, .int (nI kn.toNat), .ref r9, .int (nI z), .ref r10, .ref r11, .ref r12, .ref r13])), (r1, .inl (cI, 10, .inl (fN K.1))), (r2, .inl (cI, 10, .inl (fN K.2.1))), (r3, .inl (cI, 120, .inl (fN (lkA K)))), (r4, .inl (cI, 12, .inl (fN S))), (r5, .inl (cI, 20, .inl (fN hf))), (r6, .inl (cI, 20, .inl (fN hs))), (r7, .inl (cI, 1024, .inl (fN ex))), (r8, .inl (cJ, 1024, .inr (.inl (fL we)))), (r9, .inl (cZ, 1024, .inl (fB cv))), (r10, .inl (cI, 12, .inl (fN ya))), (r11, .inl (cI, 12, .inl (fN yb))), (r12, .inl (cI, 12, .inl (fN yc))), (r13, .inl (cI, 12, .inl (fN ks)))] s.heap := hP
  obtain ⟨H, hH⟩ : ∃ H, H = s.heap := ⟨_, rfl⟩
  rw [← hH] at hP
  obtain ⟨locs, hlocs⟩ : ∃ q : List Loc, q = [] := ⟨_, rfl⟩
  have hS : va_S (aA [r0, r1, r2, r3, r4, r5, r6, r7, r8, r9, r10, r11, r12, r13]) s.heap H locs := by rw [hH, hlocs]; exact hS
  rw [← hH, ← hlocs]
  clear hH hlocs
  obtain ⟨hKO, hL2, hS2, hq, hh, hkn⟩ := id hI
  refine lv_iconst (v := nI 0) hx hb dX7_many_0 (by decide) ?_
  refine lv_istore_n (lv' := [(2, .int (nI 0)), (0, .ref r0), (1, .int a1)]) hx hb dX7_many_1 rfl hl (by decide) rfl (fun ls hl => ?_)
  refine lv_iload_n hx hb dX7_many_2 rfl (lv_at hl 2 rfl) ?_
  by_cases hs0 : a1 = nI 0
  · subst hs0
    refine lv_tableIn (x := nI 0) (off := 37) (tgt := 40) hx hb dX7_many_3 (by decide) (by decide) (by decide) (by decide) ?_
    refine lv_aload_n hx hb dX7_many_40 rfl (lv_at hl 1 rfl) ?_
    refine mc_i (va_runV (As := []) (rest := []) ⟨hx, hb, hml, hown, hts⟩ (mt_X7_explanations l D cI cJ cZ r0 r1 r2 r3 r4 r5 r6 r7 r8 r9 r10 r11 r12 r13 K S q hf hs mn ex we kn cv z ya yb yc ks (nd_sub hN [0, 1, 2, 3, 4, 5, 6, 7, 8, 9, 10, 11, 12, 13] (by decide) rfl) (by first | assumption | omega) (by first | assumption | omega) (by first | assumption | omega) (by first | assumption | omega)) (cwV 0 hts (gV km_RX7_78 ki_yX7_explanations kl_yX7_explanations kn_RX7 kc_yX7_explanations) rfl rfl rfl (by decide +kernel) (by rw [hR]; exact ⟨Nat.le_of_ble_eq_true rfl, Nat.le_of_ble_eq_true rfl⟩)) (cP_V (q0 := 0) (ci := 7) hK (hP.sub [0, 1, 2, 3, 4, 5, 6, 7, 8, 9, 10, 11, 12, 13] rfl) rfl rfl) rfl rfl hl.1 rfl (lv_room (Nat.le_of_ble_eq_true rfl)) dX7_many_41 ⟨Nat.zero_le _, Nat.zero_le _⟩) hS (aA_sub [0, 1, 2, 3, 4, 5, 6, 7, 8, 9, 10, 11, 12, 13] rfl) (fun r_ H locs hp_ hk_ hS => ?_)
    obtain ⟨eX, wX, cX, hr_, hMX, hcX, hP1⟩ := hp_
    subst hr_
    have hP := pj (wr := []) (w1 := [(r0, .inr (7, [.ref r1, .ref r2, .ref r3, .ref r4, .int (nI q), .ref r5, .ref r6, .int (nI (nE K S)), .ref r7, .ref r8, .int (nI true.toNat), .ref r9, .int (nI z), .ref r10, .ref r11, .ref r12, .ref r13])), (r1, .inl (cI, 10, .inl (fN K.1))), (r2, .inl (cI, 10, .inl (fN K.2.1))), (r3, .inl (cI, 120, .inl (fN (lkA K)))), (r4, .inl (cI, 12, .inl (fN S))), (r5, .inl (cI, 20, .inl (fN hf))), (r6, .inl (cI, 20, .inl (fN hs))), (r7, .inl (cI, 1024, .inl (fN eX))), (r8, .inl (cJ, 1024, .inr (.inl (fL wX)))), (r9, .inl (cZ, 1024, .inl (fB cX))), (r10, .inl (cI, 12, .inl (fN ya))), (r11, .inl (cI, 12, .inl (fN yb))), (r12, .inl (cI, 12, .inl (fN yc))), (r13, .inl (cI, 12, .inl (fN ks)))]) (lc := [r0, r1, r2, r3, r4, r5, r6, r7, r8, r9, r10, r11, r12, r13]) hP hD [0, 1, 2, 3, 4, 5, 6, 7, 8, 9, 10, 11, 12, 13] [] rfl rfl (by decide) hk_ hP1
    have hP : va_P D vwCl [(r0, .inr (7, [.ref r1, .ref r2, .ref r3, .ref r4, .int (nI q), .ref r5, .ref r6, .int (nI (nE K S)), .ref r7, .ref r8, .int (nI true.toNat), .ref r9, .int (nI z), .ref r10, .ref r11, .ref r12, .ref r13])), (r1, .inl (cI, 10, .inl (fN K.1))), (r2, .inl (cI, 10, .inl (fN K.2.1))), (r3, .inl (cI, 120, .inl (fN (lkA K)))), (r4, .inl (cI, 12, .inl (fN S))), (r5, .inl (cI, 20, .inl (fN hf))), (r6, .inl (cI, 20, .inl (fN hs))), (r7, .inl (cI, 1024, .inl (fN eX))), (r8, .inl (cJ, 1024, .inr (.inl (fL wX)))), (r9, .inl (cZ, 1024, .inl (fB cX))), (r10, .inl (cI, 12, .inl (fN ya))), (r11, .inl (cI, 12, .inl (fN yb))), (r12, .inl (cI, 12, .inl (fN yc))), (r13, .inl (cI, 12, .inl (fN ks)))] H := hP
    have hD : va_D (aA [r0, r1, r2, r3, r4, r5, r6, r7, r8, r9, r10, r11, r12, r13]) [(r0, .inr (7, [.ref r1, .ref r2, .ref r3, .ref r4, .int (nI q), .ref r5, .ref r6, .int (nI (nE K S)), .ref r7, .ref r8, .int (nI true.toNat), .ref r9, .int (nI z), .ref r10, .ref r11, .ref r12, .ref r13])), (r1, .inl (cI, 10, .inl (fN K.1))), (r2, .inl (cI, 10, .inl (fN K.2.1))), (r3, .inl (cI, 120, .inl (fN (lkA K)))), (r4, .inl (cI, 12, .inl (fN S))), (r5, .inl (cI, 20, .inl (fN hf))), (r6, .inl (cI, 20, .inl (fN hs))), (r7, .inl (cI, 1024, .inl (fN eX))), (r8, .inl (cJ, 1024, .inr (.inl (fL wX)))), (r9, .inl (cZ, 1024, .inl (fB cX))), (r10, .inl (cI, 12, .inl (fN ya))), (r11, .inl (cI, 12, .inl (fN yb))), (r12, .inl (cI, 12, .inl (fN yc))), (r13, .inl (cI, 12, .inl (fN ks)))] := hD.re [0, 1, 2, 3, 4, 5, 6, 7, 8, 9, 10, 11, 12, 13] (by decide) rfl
    rw [hQ]
    exact W.iret (v := nI (nE K S)) hx hb hr (fun t ht hW => ⟨⟨_, H, rfl, ⟨K, S, q, hf, hs, (nE K S), eX, wX, true, cX, z, ya, yb, yc, ks, by rw [aMany]; rfl, rfl, ⟨hKO, hL2, hS2, hq, hh, (fun _ => ⟨rfl, hMX, hcX⟩)⟩, hP.sub [0, 1, 2, 3, 4, 5, 6, 7, 8, 9, 10, 11, 12, 13] rfl⟩, ht⟩, hS.F ht⟩) hS.2.2 dX7_many_44
  by_cases hs1 : a1 = nI 1
  · subst hs1
    refine lv_tableIn (x := nI 1) (off := 42) (tgt := 45) hx hb dX7_many_3 (by decide) (by decide) (by decide) (by decide) ?_
    refine lv_aload_n hx hb dX7_many_45 rfl (lv_at hl 1 rfl) ?_
    refine lv_iconst (v := nI 1) hx hb dX7_many_46 (by decide) ?_
    refine vp_callSi (va_Run.run (va_runV (As := [.int (nI 1)]) (rest := []) ⟨hx, hb, hml, hown, hts⟩ (mt_X7_manyThat l D cI cJ cZ r0 r1 r2 r3 r4 r5 r6 r7 r8 r9 r10 r11 r12 r13 K S q hf hs mn ex we kn cv z ya yb yc ks 1 (by decide) (by first | assumption | omega)) (cwV 1 hts (gV km_RX7_82 ki_yX7_manyThat kl_yX7_manyThat kn_RX7 kc_yX7_manyThat) rfl rfl rfl (by decide +kernel) (by rw [hR]; exact ⟨Nat.le_of_ble_eq_true rfl, Nat.le_of_ble_eq_true rfl⟩)) (cP_V (q0 := 0) (ci := 7) hK (hP.sub [0, 1, 2, 3, 4, 5, 6, 7, 8, 9, 10, 11, 12, 13] rfl) rfl rfl) rfl rfl hl.1 rfl (lv_room (Nat.le_of_ble_eq_true rfl)) dX7_many_47 ⟨Nat.zero_le _, Nat.zero_le _⟩)) (fun r_ hr_ => ?_)
    subst hr_
    rw [hQ]
    exact W.iret (v := nI (ct (fun f => S f == 1) 12)) hx hb hr (fun t ht hW => ⟨⟨_, H, rfl, ⟨K, S, q, hf, hs, mn, ex, we, kn, cv, z, ya, yb, yc, ks, by rw [aMany]; rfl, rfl, ⟨hKO, hL2, hS2, hq, hh, hkn⟩, hP.sub [0, 1, 2, 3, 4, 5, 6, 7, 8, 9, 10, 11, 12, 13] rfl⟩, ht⟩, hS.F ht⟩) hS.2.2 dX7_many_50
  by_cases hs2 : a1 = nI 2
  · subst hs2
    refine lv_tableIn (x := nI 2) (off := 48) (tgt := 51) hx hb dX7_many_3 (by decide) (by decide) (by decide) (by decide) ?_
    refine lv_aload_n hx hb dX7_many_51 rfl (lv_at hl 1 rfl) ?_
    refine lv_iconst (v := nI 2) hx hb dX7_many_52 (by decide) ?_
    refine vp_callSi (va_Run.run (va_runV (As := [.int (nI 2)]) (rest := []) ⟨hx, hb, hml, hown, hts⟩ (mt_X7_manyThat l D cI cJ cZ r0 r1 r2 r3 r4 r5 r6 r7 r8 r9 r10 r11 r12 r13 K S q hf hs mn ex we kn cv z ya yb yc ks 2 (by decide) (by first | assumption | omega)) (cwV 1 hts (gV km_RX7_82 ki_yX7_manyThat kl_yX7_manyThat kn_RX7 kc_yX7_manyThat) rfl rfl rfl (by decide +kernel) (by rw [hR]; exact ⟨Nat.le_of_ble_eq_true rfl, Nat.le_of_ble_eq_true rfl⟩)) (cP_V (q0 := 0) (ci := 7) hK (hP.sub [0, 1, 2, 3, 4, 5, 6, 7, 8, 9, 10, 11, 12, 13] rfl) rfl rfl) rfl rfl hl.1 rfl (lv_room (Nat.le_of_ble_eq_true rfl)) dX7_many_53 ⟨Nat.zero_le _, Nat.zero_le _⟩)) (fun r_ hr_ => ?_)
    subst hr_
    rw [hQ]
    exact W.iret (v := nI (ct (fun f => S f == 2) 12)) hx hb hr (fun t ht hW => ⟨⟨_, H, rfl, ⟨K, S, q, hf, hs, mn, ex, we, kn, cv, z, ya, yb, yc, ks, by rw [aMany]; rfl, rfl, ⟨hKO, hL2, hS2, hq, hh, hkn⟩, hP.sub [0, 1, 2, 3, 4, 5, 6, 7, 8, 9, 10, 11, 12, 13] rfl⟩, ht⟩, hS.F ht⟩) hS.2.2 dX7_many_56
  by_cases hs3 : a1 = nI 3
  · subst hs3
    refine lv_tableIn (x := nI 3) (off := 54) (tgt := 57) hx hb dX7_many_3 (by decide) (by decide) (by decide) (by decide) ?_
    refine lv_iconst (v := nI 0) hx hb dX7_many_57 (by decide) ?_
    refine lv_istore_n (lv' := [(3, .int (nI 0)), (2, .int (nI 0)), (0, .ref r0), (1, .int (nI 3))]) hx hb dX7_many_58 rfl hl (by decide) rfl (fun ls hl => ?_)
    have lp59 : ∀ (n : Nat) (j : Nat) (a : Nat) (H : Heap) (locs : List Loc) (ls : Array Slot), (j + n = 120) → (a = ct (fun x => lkA K x != 0) j) → va_P D vwCl [(r0, .inr (7, [.ref r1, .ref r2, .ref r3, .ref r4, .int (nI q), .ref r5, .ref r6, .int (nI mn), .ref r7, .ref r8, .int (nI kn.toNat), .ref r9, .int (nI z), .ref r10, .ref r11, .ref r12, .ref r13])), (r1, .inl (cI, 10, .inl (fN K.1))), (r2, .inl (cI, 10, .inl (fN K.2.1))), (r3, .inl (cI, 120, .inl (fN (lkA K)))), (r4, .inl (cI, 12, .inl (fN S))), (r5, .inl (cI, 20, .inl (fN hf))), (r6, .inl (cI, 20, .inl (fN hs))), (r7, .inl (cI, 1024, .inl (fN ex))), (r8, .inl (cJ, 1024, .inr (.inl (fL we)))), (r9, .inl (cZ, 1024, .inl (fB cv))), (r10, .inl (cI, 12, .inl (fN ya))), (r11, .inl (cI, 12, .inl (fN yb))), (r12, .inl (cI, 12, .inl (fN yc))), (r13, .inl (cI, 12, .inl (fN ks)))] H → va_D (aA [r0, r1, r2, r3, r4, r5, r6, r7, r8, r9, r10, r11, r12, r13]) [(r0, .inr (7, [.ref r1, .ref r2, .ref r3, .ref r4, .int (nI q), .ref r5, .ref r6, .int (nI mn), .ref r7, .ref r8, .int (nI kn.toNat), .ref r9, .int (nI z), .ref r10, .ref r11, .ref r12, .ref r13])), (r1, .inl (cI, 10, .inl (fN K.1))), (r2, .inl (cI, 10, .inl (fN K.2.1))), (r3, .inl (cI, 120, .inl (fN (lkA K)))), (r4, .inl (cI, 12, .inl (fN S))), (r5, .inl (cI, 20, .inl (fN hf))), (r6, .inl (cI, 20, .inl (fN hs))), (r7, .inl (cI, 1024, .inl (fN ex))), (r8, .inl (cJ, 1024, .inr (.inl (fL we)))), (r9, .inl (cZ, 1024, .inl (fB cv))), (r10, .inl (cI, 12, .inl (fN ya))), (r11, .inl (cI, 12, .inl (fN yb))), (r12, .inl (cI, 12, .inl (fN yc))), (r13, .inl (cI, 12, .inl (fN ks)))] → va_S (aA [r0, r1, r2, r3, r4, r5, r6, r7, r8, r9, r10, r11, r12, r13]) s.heap H locs → lv_has ls 4 [(3, .int (nI j)), (2, .int (nI a)), (0, .ref r0), (1, .int (nI 3))] → W p l e R s m args below meth c H locs 0 0 Q (F0 m 59 ls []) := by
      intro n
      induction n with
      | zero =>
        intro j a H locs ls hn ha hP hD hS hl
        refine lv_iload_n hx hb dX7_many_59 rfl (lv_at hl 0 rfl) ?_
        refine lv_aload_n hx hb dX7_many_60 rfl (lv_at hl 2 rfl) ?_
        refine va_get (D := D) (ci := 7) (v := .ref r3) (C := RX7) (T := TX7) (N := 17) hx hb hts inA7 hown hK.1 hP 0 rfl rfl 2 (by decide) (hts _ kf_RX7_16) (fun _ h9 => h9) rfl dX7_many_61 ?_
        refine va_alen (v := nI 120) hx hb hK.1 hP 3 0 rfl rfl rfl dX7_many_64 ?_
        refine x_cge (a := j) (b := 120) (tgt := 91) hx hb (by first | assumption | omega) (by decide) dX7_many_65 (by decide) (fun c65 => ?_) (fun c65 => (by omega))
        refine lv_iload_n hx hb dX7_many_91 rfl (lv_at hl 1 rfl) ?_
        rw [hQ]
        exact W.iret (v := nI a) hx hb hr (fun t ht hW => ⟨⟨_, H, rfl, ⟨K, S, q, hf, hs, mn, ex, we, kn, cv, z, ya, yb, yc, ks, by rw [ha, show j = 120 by omega, cnt_links, aMany]; rfl, rfl, ⟨hKO, hL2, hS2, hq, hh, hkn⟩, hP.sub [0, 1, 2, 3, 4, 5, 6, 7, 8, 9, 10, 11, 12, 13] rfl⟩, ht⟩, hS.F ht⟩) hS.2.2 dX7_many_92
      | succ n ih59 =>
        intro j a H locs ls hn ha hP hD hS hl
        refine lv_iload_n hx hb dX7_many_59 rfl (lv_at hl 0 rfl) ?_
        refine lv_aload_n hx hb dX7_many_60 rfl (lv_at hl 2 rfl) ?_
        refine va_get (D := D) (ci := 7) (v := .ref r3) (C := RX7) (T := TX7) (N := 17) hx hb hts inA7 hown hK.1 hP 0 rfl rfl 2 (by decide) (hts _ kf_RX7_16) (fun _ h9 => h9) rfl dX7_many_61 ?_
        refine va_alen (v := nI 120) hx hb hK.1 hP 3 0 rfl rfl rfl dX7_many_64 ?_
        refine x_cge (a := j) (b := 120) (tgt := 91) hx hb (by first | assumption | omega) (by decide) dX7_many_65 (by decide) (fun c65 => (by omega)) (fun c65 => ?_)
        refine lv_iload_n hx hb dX7_many_68 rfl (lv_at hl 1 rfl) ?_
        refine lv_aload_n hx hb dX7_many_69 rfl (lv_at hl 2 rfl) ?_
        refine va_get (D := D) (ci := 7) (v := .ref r3) (C := RX7) (T := TX7) (N := 17) hx hb hts inA7 hown hK.1 hP 0 rfl rfl 2 (by decide) (hts _ kf_RX7_16) (fun _ h9 => h9) rfl dX7_many_70 ?_
        refine lv_iload_n hx hb dX7_many_73 rfl (lv_at hl 0 rfl) ?_
        refine x_ildN hx hb hK.1 hP 3 0 rfl rfl (by first | assumption | omega) (by decide) dX7_many_74 ?_
        have j83 : W p l e R s m args below meth c H locs 0 0 Q (F0 m 83 ls [.int (nI (lkA K j != 0).toNat), .int (nI a)]) := by
          refine x_iadd (z := nI (a + ((lkA K j != 0).toNat))) hx hb dX7_many_83 (nI_add _ _) ?_
          refine lv_istore_n (lv' := [(2, .int (nI (a + ((lkA K j != 0).toNat)))), (3, .int (nI j)), (0, .ref r0), (1, .int (nI 3))]) hx hb dX7_many_84 rfl hl (by decide) rfl (fun ls hl => ?_)
          refine lv_iinc (v := nI (j + 1)) (lv' := [(3, .int (nI (j + 1))), (2, .int (nI (a + ((lkA K j != 0).toNat)))), (0, .ref r0), (1, .int (nI 3))]) hx hb dX7_many_85 hl (k := 1) rfl (x_inc1 _) (by decide) rfl (fun ls hl => ?_)
          refine lv_goto (tgt := 59) hx hb dX7_many_88 (by decide) ?_
          exact ih59 (j + 1) (a + ((lkA K j != 0).toNat)) _ _ ls (by omega) (by rw [ha]; rfl) (hP.sub [0, 1, 2, 3, 4, 5, 6, 7, 8, 9, 10, 11, 12, 13] rfl) (hD.re [0, 1, 2, 3, 4, 5, 6, 7, 8, 9, 10, 11, 12, 13] (by decide) rfl) hS (lv_sub hl [0, 1, 2, 3] rfl)
        refine x_zle (tgt := 82) hx hb (by unfold lkA; have := hL2 (j / 10) (j % 10); omega) dX7_many_75 (by decide) (fun c75 => ?_) (fun c75 => ?_)
        · refine lv_iconst (v := nI 0) hx hb dX7_many_82 (by decide) ?_
          refine x_top (show nI 0 = nI (lkA K j != 0).toNat from by first | exact b_1 (by simpa using c75) | exact b_0 (by simpa using c75)) ?_
          exact j83
        · refine lv_iconst (v := nI 1) hx hb dX7_many_78 (by decide) ?_
          refine lv_goto (tgt := 83) hx hb dX7_many_79 (by decide) ?_
          refine x_top (show nI 1 = nI (lkA K j != 0).toNat from by first | exact b_1 (by simpa using c75) | exact b_0 (by simpa using c75)) ?_
          exact j83
    exact lp59 (120) 0 0 _ _ ls (by omega) (rfl) (hP.sub [0, 1, 2, 3, 4, 5, 6, 7, 8, 9, 10, 11, 12, 13] rfl) (hD.re [0, 1, 2, 3, 4, 5, 6, 7, 8, 9, 10, 11, 12, 13] (by decide) rfl) hS (lv_sub hl [0, 1, 2, 3] rfl)
  by_cases hs4 : a1 = nI 4
  · subst hs4
    refine lv_tableIn (x := nI 4) (off := 90) (tgt := 93) hx hb dX7_many_3 (by decide) (by decide) (by decide) (by decide) ?_
    refine lv_aload_n hx hb dX7_many_93 rfl (lv_at hl 1 rfl) ?_
    refine va_get (D := D) (ci := 7) (v := .int (nI q)) (C := RX7) (T := TX7) (N := 17) hx hb hts inA7 hown hK.1 hP 0 rfl rfl 4 (by decide) (hts _ kf_RX7_70) (fun _ h9 => h9) rfl dX7_many_94 ?_
    rw [hQ]
    exact W.iret (v := nI q) hx hb hr (fun t ht hW => ⟨⟨_, H, rfl, ⟨K, S, q, hf, hs, mn, ex, we, kn, cv, z, ya, yb, yc, ks, by rw [aMany]; rfl, rfl, ⟨hKO, hL2, hS2, hq, hh, hkn⟩, hP.sub [0, 1, 2, 3, 4, 5, 6, 7, 8, 9, 10, 11, 12, 13] rfl⟩, ht⟩, hS.F ht⟩) hS.2.2 dX7_many_97
  by_cases hs5 : a1 = nI 5
  · subst hs5
    refine lv_tableIn (x := nI 5) (off := 95) (tgt := 98) hx hb dX7_many_3 (by decide) (by decide) (by decide) (by decide) ?_
    refine lv_aload_n hx hb dX7_many_98 rfl (lv_at hl 1 rfl) ?_
    refine mc_v (va_runV (As := []) (rest := []) ⟨hx, hb, hml, hown, hts⟩ (mt_X7_findPlan l D cI cJ cZ r0 r1 r2 r3 r4 r5 r6 r7 r8 r9 r10 r11 r12 r13 K S q hf hs mn ex we kn cv z ya yb yc ks (nd_sub hN [0, 1, 2, 3, 4, 5, 6, 7, 8, 9, 10, 11, 12, 13] (by decide) rfl) (by first | assumption | omega) (by first | assumption | omega) (by first | assumption | omega) (by first | assumption | omega)) (cwV 0 hts (gV km_RX7_158 ki_yX7_findPlan kl_yX7_findPlan kn_RX7 kc_yX7_findPlan) rfl rfl rfl (by decide +kernel) (by rw [hR]; exact ⟨Nat.le_of_ble_eq_true rfl, Nat.le_of_ble_eq_true rfl⟩)) (cP_V (q0 := 0) (ci := 7) hK (hP.sub [0, 1, 2, 3, 4, 5, 6, 7, 8, 9, 10, 11, 12, 13] rfl) rfl rfl) rfl rfl hl.1 rfl (lv_room (Nat.le_of_ble_eq_true rfl)) dX7_many_99 ⟨Nat.zero_le _, Nat.zero_le _⟩) hS (aA_sub [0, 1, 2, 3, 4, 5, 6, 7, 8, 9, 10, 11, 12, 13] rfl) (fun H locs hp_ hk_ hS => ?_)
    obtain ⟨mn1_2, ex1_2, we1_2, cv1_2, zM, fM, tM, mM, ks1_2, hPM, hP1⟩ := hp_
    have hP := pj (wr := []) (w1 := [(r0, .inr (7, [.ref r1, .ref r2, .ref r3, .ref r4, .int (nI q), .ref r5, .ref r6, .int (nI mn1_2), .ref r7, .ref r8, .int (nI false.toNat), .ref r9, .int (nI zM), .ref r10, .ref r11, .ref r12, .ref r13])), (r1, .inl (cI, 10, .inl (fN K.1))), (r2, .inl (cI, 10, .inl (fN K.2.1))), (r3, .inl (cI, 120, .inl (fN (lkA K)))), (r4, .inl (cI, 12, .inl (fN S))), (r5, .inl (cI, 20, .inl (fN hf))), (r6, .inl (cI, 20, .inl (fN hs))), (r7, .inl (cI, 1024, .inl (fN ex1_2))), (r8, .inl (cJ, 1024, .inr (.inl (fL we1_2)))), (r9, .inl (cZ, 1024, .inl (fB cv1_2))), (r10, .inl (cI, 12, .inl (fN fM))), (r11, .inl (cI, 12, .inl (fN tM))), (r12, .inl (cI, 12, .inl (fN mM))), (r13, .inl (cI, 12, .inl (fN ks1_2)))]) (lc := [r0, r1, r2, r3, r4, r5, r6, r7, r8, r9, r10, r11, r12, r13]) hP hD [0, 1, 2, 3, 4, 5, 6, 7, 8, 9, 10, 11, 12, 13] [] rfl rfl (by decide) hk_ hP1
    have hP : va_P D vwCl [(r0, .inr (7, [.ref r1, .ref r2, .ref r3, .ref r4, .int (nI q), .ref r5, .ref r6, .int (nI mn1_2), .ref r7, .ref r8, .int (nI false.toNat), .ref r9, .int (nI zM), .ref r10, .ref r11, .ref r12, .ref r13])), (r1, .inl (cI, 10, .inl (fN K.1))), (r2, .inl (cI, 10, .inl (fN K.2.1))), (r3, .inl (cI, 120, .inl (fN (lkA K)))), (r4, .inl (cI, 12, .inl (fN S))), (r5, .inl (cI, 20, .inl (fN hf))), (r6, .inl (cI, 20, .inl (fN hs))), (r7, .inl (cI, 1024, .inl (fN ex1_2))), (r8, .inl (cJ, 1024, .inr (.inl (fL we1_2)))), (r9, .inl (cZ, 1024, .inl (fB cv1_2))), (r10, .inl (cI, 12, .inl (fN fM))), (r11, .inl (cI, 12, .inl (fN tM))), (r12, .inl (cI, 12, .inl (fN mM))), (r13, .inl (cI, 12, .inl (fN ks1_2)))] H := hP
    have hD : va_D (aA [r0, r1, r2, r3, r4, r5, r6, r7, r8, r9, r10, r11, r12, r13]) [(r0, .inr (7, [.ref r1, .ref r2, .ref r3, .ref r4, .int (nI q), .ref r5, .ref r6, .int (nI mn1_2), .ref r7, .ref r8, .int (nI false.toNat), .ref r9, .int (nI zM), .ref r10, .ref r11, .ref r12, .ref r13])), (r1, .inl (cI, 10, .inl (fN K.1))), (r2, .inl (cI, 10, .inl (fN K.2.1))), (r3, .inl (cI, 120, .inl (fN (lkA K)))), (r4, .inl (cI, 12, .inl (fN S))), (r5, .inl (cI, 20, .inl (fN hf))), (r6, .inl (cI, 20, .inl (fN hs))), (r7, .inl (cI, 1024, .inl (fN ex1_2))), (r8, .inl (cJ, 1024, .inr (.inl (fL we1_2)))), (r9, .inl (cZ, 1024, .inl (fB cv1_2))), (r10, .inl (cI, 12, .inl (fN fM))), (r11, .inl (cI, 12, .inl (fN tM))), (r12, .inl (cI, 12, .inl (fN mM))), (r13, .inl (cI, 12, .inl (fN ks1_2)))] := hD.re [0, 1, 2, 3, 4, 5, 6, 7, 8, 9, 10, 11, 12, 13] (by decide) rfl
    refine lv_aload_n hx hb dX7_many_102 rfl (lv_at hl 1 rfl) ?_
    refine va_get (D := D) (ci := 7) (v := .int (nI zM)) (C := RX7) (T := TX7) (N := 17) hx hb hts inA7 hown hK.1 hP 0 rfl rfl 12 (by decide) (hts _ kf_RX7_155) (fun _ h9 => h9) rfl dX7_many_103 ?_
    rw [hQ]
    exact W.iret (v := nI zM) hx hb hr (fun t ht hW => ⟨⟨_, H, rfl, ⟨K, S, q, hf, hs, mn1_2, ex1_2, we1_2, false, cv1_2, zM, fM, tM, mM, ks1_2, by rw [PZ_zN hPM.1, aMany]; rfl, rfl, ⟨hKO, hL2, hS2, hq, hh, (fun h => by cases h)⟩, hP.sub [0, 1, 2, 3, 4, 5, 6, 7, 8, 9, 10, 11, 12, 13] rfl⟩, ht⟩, hS.F ht⟩) hS.2.2 dX7_many_106
  refine lv_tableOut (tgt := 107) hx hb dX7_many_3 (tsw_out 5 (fun j hj => by rcases (show j = 0 ∨ j = 1 ∨ j = 2 ∨ j = 3 ∨ j = 4 ∨ j = 5 by omega) with rfl | rfl | rfl | rfl | rfl | rfl <;> assumption)) (by decide) ?_
  refine lv_bipush (v := (-2)) hx hb dX7_many_107 (by decide) ?_
  rw [hQ]
  exact W.iret (v := (-2)) hx hb hr (fun t ht hW => ⟨⟨_, H, rfl, ⟨K, S, q, hf, hs, mn, ex, we, kn, cv, z, ya, yb, yc, ks, by rw [aMany, if_neg hs0, if_neg hs1, if_neg hs2, if_neg hs3, if_neg hs4, if_neg hs5], rfl, ⟨hKO, hL2, hS2, hq, hh, hkn⟩, hP.sub [0, 1, 2, 3, 4, 5, 6, 7, 8, 9, 10, 11, 12, 13] rfl⟩, ht⟩, hS.F ht⟩) hS.2.2 dX7_many_109
