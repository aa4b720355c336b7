set_option maxHeartbeats 4000000 in
set_option maxRecDepth 100000 in
theorem mt_X6_greatestDivisor (l : Launch) (D : va_G) (cI cJ cZ : ClassId) (x : Nat) (y : Nat) (hx0 : x < 2 ^ 62) (hy0 : y < 2 ^ 62) : Met l yX6_greatestDivisor (aW yX6_greatestDivisor cX6_greatestDivisor 11 (some .long)) { frames := 0, cells := 0, slots := 0, locals := 0 } (cP D cI cJ cZ [.long (lN x), .long (lN y)] []) (vp_Sl (fun r => r = lN (Nat.gcd x y))) 0 0 (fun _ => False) := by
  refine Met.ofW (cc := cX6_greatestDivisor) (maxL := 11) (ret := (some .long)) (by decide) rfl ?_
  intro p e s m args below meth c s₁ B hml hv
  obtain ⟨hav, hP, hK⟩ := hv
  have hx := B.exec
  have hb := B.bytes
  have hr := B.returns
  have hts := aW_in (atoms_spec (ws := aW yX6_greatestDivisor cX6_greatestDivisor 11 (some .long)) B.pre)
  have hown : s.vm.findClass RX6 = some m.cls := findClass_of_methodNamed B.named
  have hlocks := B.notSynchronized
  obtain ⟨R, hR⟩ : ∃ R, R = (headSpec (aW yX6_greatestDivisor cX6_greatestDivisor 11 (some .long)) { frames := 0, cells := 0, slots := 0, locals := 0 }).room := ⟨_, rfl⟩
  rw [← hR]
  obtain ⟨Q, hQ⟩ : ∃ Q, Q = MQ below (vp_Sl (fun r => r = lN (Nat.gcd x y))) args s 0 0 (fun _ => False) := ⟨_, rfl⟩
  rw [← hQ]
  have hl := lv_entry [.long (lN x), .long (lN y)] (n := 11) (Nat.le_of_ble_eq_true rfl)
  have hent := lg_entry_eq m [.long (lN x), .long (lN y)] 11
  rw [← hav] at hent
  rw [hent]
  generalize (lg_sl [.long (lN x), .long (lN y)] ++ List.replicate (11 - (lg_sl [.long (lN x), .long (lN y)]).length) Slot.unset).toArray = ls at hl ⊢
  have hl : lv_has ls 11 [(0, .long (lN x)), (2, .long (lN y))] := hl
  refine lv_lload_n hx hb dX6_greatestDivisor_0 rfl (lv_at hl 0 rfl) ?_
  refine lv_lstore (lv' := [(4, .long (lN x)), (0, .long (lN x)), (2, .long (lN y))]) hx hb dX6_greatestDivisor_1 hl (by decide) rfl (fun ls hl => ?_)
  refine lv_lload_n hx hb dX6_greatestDivisor_3 rfl (lv_at hl 2 rfl) ?_
  refine lv_lstore (lv' := [(6, .long (lN y)), (4, .long (lN x)), (0, .long (lN x)), (2, .long (lN y))]) hx hb dX6_greatestDivisor_4 hl (by decide) rfl (fun ls hl => ?_)
  refine lv_iconst (v := nI 0) hx hb dX6_greatestDivisor_6 (by decide) ?_
  refine lv_istore (lv' := [(8, .int (nI 0)), (6, .long (lN y)), (4, .long (lN x)), (0, .long (lN x)), (2, .long (lN y))]) hx hb dX6_greatestDivisor_7 hl (by decide) rfl (fun ls hl => ?_)
  have lp9 : ∀ (n : Nat) (j : Nat) (a : Nat) (d : Nat) (ls : Array Slot), (j + n = 128) → (Nat.gcd a d = Nat.gcd x y) → (a < 2 ^ 62) → (d < 2 ^ 62) → (GI j a d) → lv_has ls 11 [(8, .int (nI j)), (6, .long (lN d)), (4, .long (lN a)), (0, .long (lN x)), (2, .long (lN y))] → W p l e R s m args below meth c s.heap [] 0 0 Q (F0 m 9 ls []) := by
    intro n
    induction n with
    | zero =>
      intro j a d ls hn hg ha hb1 hGI hl
      refine lv_iload hx hb dX6_greatestDivisor_9 (lv_at hl 0 rfl) ?_
      refine lv_sipush (v := nI 128) hx hb dX6_greatestDivisor_11 (by decide) ?_
      refine x_cge (a := j) (b := 128) (tgt := 45) hx hb (by first | assumption | omega) (by decide) dX6_greatestDivisor_14 (by decide) (fun c14 => ?_) (fun c14 => (by omega))
      refine lv_lload hx hb dX6_greatestDivisor_45 (lv_at hl 2 rfl) ?_
      rw [hQ]
      exact W.lret (v := lN a) hx hb hr (fun t ht hW => ⟨_, rfl, by rw [← hg]; first | rw [c20, Nat.gcd_zero_right] | rw [GI.done (show GI 128 a d from (show j = 128 by omega) ▸ hGI), Nat.gcd_zero_right], ht⟩) (fun _ h => by cases h) dX6_greatestDivisor_47
    | succ n ih9 =>
      intro j a d ls hn hg ha hb1 hGI hl
      refine lv_iload hx hb dX6_greatestDivisor_9 (lv_at hl 0 rfl) ?_
      refine lv_sipush (v := nI 128) hx hb dX6_greatestDivisor_11 (by decide) ?_
      refine x_cge (a := j) (b := 128) (tgt := 45) hx hb (by first | assumption | omega) (by decide) dX6_greatestDivisor_14 (by decide) (fun c14 => (by omega)) (fun c14 => ?_)
      refine lv_lload hx hb dX6_greatestDivisor_17 (lv_at hl 1 rfl) ?_
      refine lv_lconst (v := lN 0) hx hb dX6_greatestDivisor_19 rfl ?_
      refine x_leq (tgt := 45) hx hb (by first | assumption | omega) (by decide) dX6_greatestDivisor_20 dX6_greatestDivisor_21 (by decide) (fun c20 => ?_) (fun c20 => ?_)
      · refine lv_lload hx hb dX6_greatestDivisor_45 (lv_at hl 2 rfl) ?_
        rw [hQ]
        exact W.lret (v := lN a) hx hb hr (fun t ht hW => ⟨_, rfl, by rw [← hg]; first | rw [c20, Nat.gcd_zero_right] | rw [GI.done (show GI 128 a d from (show j = 128 by omega) ▸ hGI), Nat.gcd_zero_right], ht⟩) (fun _ h => by cases h) dX6_greatestDivisor_47
      · refine lv_lload hx hb dX6_greatestDivisor_24 (lv_at hl 2 rfl) ?_
        refine lv_lload hx hb dX6_greatestDivisor_26 (lv_at hl 1 rfl) ?_
        refine x_lrem (z := lN (a % d)) hx hb dX6_greatestDivisor_28 (lN_ne0 (by first | assumption | omega) (by first | assumption | omega)) (pk_lRem (by first | assumption | omega) (by first | assumption | omega) (by first | assumption | omega)) ?_
        refine lv_lstore (lv' := [(9, .long (lN (a % d))), (8, .int (nI j)), (6, .long (lN d)), (4, .long (lN a)), (0, .long (lN x)), (2, .long (lN y))]) hx hb dX6_greatestDivisor_29 hl (by decide) rfl (fun ls hl => ?_)
        refine lv_lload hx hb dX6_greatestDivisor_31 (lv_at hl 2 rfl) ?_
        refine lv_lstore (lv' := [(4, .long (lN d)), (9, .long (lN (a % d))), (8, .int (nI j)), (6, .long (lN d)), (0, .long (lN x)), (2, .long (lN y))]) hx hb dX6_greatestDivisor_33 hl (by decide) rfl (fun ls hl => ?_)
        refine lv_lload hx hb dX6_greatestDivisor_35 (lv_at hl 1 rfl) ?_
        refine lv_lstore (lv' := [(6, .long (lN (a % d))), (4, .long (lN d)), (9, .long (lN (a % d))), (8, .int (nI j)), (0, .long (lN x)), (2, .long (lN y))]) hx hb dX6_greatestDivisor_37 hl (by decide) rfl (fun ls hl => ?_)
        refine lv_iinc (v := nI (j + 1)) (lv' := [(8, .int (nI (j + 1))), (6, .long (lN (a % d))), (4, .long (lN d)), (9, .long (lN (a % d))), (0, .long (lN x)), (2, .long (lN y))]) hx hb dX6_greatestDivisor_39 hl (k := 3) rfl (x_inc1 _) (by decide) rfl (fun ls hl => ?_)
        refine lv_goto (tgt := 9) hx hb dX6_greatestDivisor_42 (by decide) ?_
        exact ih9 (j + 1) d (a % d) ls (by omega) (by rw [gcd_step]; exact hg) (hb1) (Nat.lt_trans (Nat.mod_lt _ (by omega)) hb1) (hGI.step (by omega) hb1) (lv_sub hl [0, 1, 2, 4, 5] rfl)
  exact lp9 (128) 0 x y ls (by omega) (rfl) (hx0) (hy0) (Or.inl rfl) (lv_sub hl [0, 1, 2, 3, 4] rfl)

set_option maxHeartbeats 4000000 in
set_option maxRecDepth 100000 in
theorem mt_X6_inLeastTerms (l : Launch) (D : va_G) (cI cJ cZ : ClassId) (x : Nat) (y : Nat) (wh : Nat) (hx0 : x < 2 ^ 62) (hy0 : y < 2 ^ 62) (hy1 : 0 < y) (hw1 : wh ≤ 1) : Met l yX6_inLeastTerms (aW yX6_inLeastTerms cX6_inLeastTerms 9 (some .long)) { frames := 1, cells := 0, slots := 0, locals := 30 } (cP D cI cJ cZ [.long (lN x), .long (lN y), .int (nI wh)] []) (vp_Sl (fun r => r = lN (lstT x y wh))) 0 0 (fun _ => False) := by
  refine Met.ofW (cc := cX6_inLeastTerms) (maxL := 9) (ret := (some .long)) (by decide) rfl ?_
  intro p e s m args below meth c s₁ B hml hv
  obtain ⟨hav, hP, hK⟩ := hv
  have hx := B.exec
  have hb := B.bytes
  have hr := B.returns
  have hts := aW_in (atoms_spec (ws := aW yX6_inLeastTerms cX6_inLeastTerms 9 (some .long)) B.pre)
  have hown : s.vm.findClass RX6 = some m.cls := findClass_of_methodNamed B.named
  have hlocks := B.notSynchronized
  obtain ⟨R, hR⟩ : ∃ R, R = (headSpec (aW yX6_inLeastTerms cX6_inLeastTerms 9 (some .long)) { frames := 1, cells := 0, slots := 0, locals := 30 }).room := ⟨_, rfl⟩
  rw [← hR]
  obtain ⟨Q, hQ⟩ : ∃ Q, Q = MQ below (vp_Sl (fun r => r = lN (lstT x y wh))) args s 0 0 (fun _ => False) := ⟨_, rfl⟩
  rw [← hQ]
  have hl := lv_entry [.long (lN x), .long (lN y), .int (nI wh)] (n := 9) (Nat.le_of_ble_eq_true rfl)
  have hent := lg_entry_eq m [.long (lN x), .long (lN y), .int (nI wh)] 9
  rw [← hav] at hent
  rw [hent]
  generalize (lg_sl [.long (lN x), .long (lN y), .int (nI wh)] ++ List.replicate (9 - (lg_sl [.long (lN x), .long (lN y), .int (nI wh)]).length) Slot.unset).toArray = ls at hl ⊢
  have hl : lv_has ls 9 [(0, .long (lN x)), (2, .long (lN y)), (4, .int (nI wh))] := hl
  refine lv_iload hx hb dX6_inLeastTerms_0 (lv_at hl 2 rfl) ?_
  have j10 : W p l e R s m args below meth c s.heap [] 0 0 Q (F0 m 10 ls [.long (lN (if wh = 0 then x else y))]) := by
    refine lv_lstore (lv' := [(5, .long (lN (if wh = 0 then x else y))), (0, .long (lN x)), (2, .long (lN y)), (4, .int (nI wh))]) hx hb dX6_inLeastTerms_10 hl (by decide) rfl (fun ls hl => ?_)
    refine lv_lload_n hx hb dX6_inLeastTerms_12 rfl (lv_at hl 1 rfl) ?_
    refine lv_lload_n hx hb dX6_inLeastTerms_13 rfl (lv_at hl 2 rfl) ?_
    refine vp_callSl (va_Run.run (va_runS (As := [.long (lN x), .long (lN y)]) (rest := []) ⟨hx, hb, hml, hown, hts⟩ (mt_X6_greatestDivisor l D cI cJ cZ x y (by first | assumption | omega) (by first | assumption | omega)) (va_cwS 2 hts (gS km_RX6_264 ks_yX6_greatestDivisor kn_RX6 kc_yX6_greatestDivisor) rfl rfl rfl (by decide +kernel) (by rw [hR]; exact ⟨Nat.le_of_ble_eq_true rfl, Nat.le_of_ble_eq_true rfl⟩)) (cP_S hK (fun k q h => by simp at h)) rfl rfl hl.1 rfl (lv_room (Nat.le_of_ble_eq_true rfl)) dX6_inLeastTerms_14 ⟨Nat.zero_le _, Nat.zero_le _⟩)) (fun r_ hr_ => ?_)
    subst hr_
    refine lv_lstore (lv' := [(7, .long (lN (Nat.gcd x y))), (5, .long (lN (if wh = 0 then x else y))), (0, .long (lN x)), (2, .long (lN y)), (4, .int (nI wh))]) hx hb dX6_inLeastTerms_17 hl (by decide) rfl (fun ls hl => ?_)
    have hg0 : 0 < Nat.gcd x y := Nat.gcd_pos_of_pos_right x hy1
    have hg1 : Nat.gcd x y < 2 ^ 63 := Nat.lt_of_le_of_lt (Nat.gcd_le_right x hy1) (by omega)
    have hn1 : (if wh = 0 then x else y) < 2 ^ 63 := by split <;> omega
    refine lv_lload hx hb dX6_inLeastTerms_19 (lv_at hl 0 rfl) ?_
    refine lv_lconst (v := lN 0) hx hb dX6_inLeastTerms_21 rfl ?_
    refine x_lle (tgt := 34) hx hb (by first | assumption | omega) (by decide) dX6_inLeastTerms_22 dX6_inLeastTerms_23 (by decide) (fun c22 => (by omega)) (fun c22 => ?_)
    refine lv_lload hx hb dX6_inLeastTerms_26 (lv_at hl 1 rfl) ?_
    refine lv_lload hx hb dX6_inLeastTerms_28 (lv_at hl 0 rfl) ?_
    refine x_ldiv (z := lN ((if wh = 0 then x else y) / (Nat.gcd x y))) hx hb dX6_inLeastTerms_30 (lN_ne0 (by first | assumption | omega) (by first | assumption | omega)) (pk_lDiv (by first | assumption | omega) (by first | assumption | omega) (by first | assumption | omega)) ?_
    refine lv_goto (tgt := 36) hx hb dX6_inLeastTerms_31 (by decide) ?_
    rw [hQ]
    exact W.lret (v := lN ((if wh = 0 then x else y) / (Nat.gcd x y))) hx hb hr (fun t ht hW => ⟨_, rfl, rfl, ht⟩) (fun _ h => by cases h) dX6_inLeastTerms_36
  refine x_zne (tgt := 9) hx hb (by first | assumption | omega) dX6_inLeastTerms_2 (by decide) (fun c2 => ?_) (fun c2 => ?_)
  · refine lv_lload_n hx hb dX6_inLeastTerms_9 rfl (lv_at hl 1 rfl) ?_
    refine x_topL (show lN y = lN (if wh = 0 then x else y) from by first | rw [if_pos c2] | rw [if_neg c2]) ?_
    exact j10
  · refine lv_lload_n hx hb dX6_inLeastTerms_5 rfl (lv_at hl 0 rfl) ?_
    refine lv_goto (tgt := 10) hx hb dX6_inLeastTerms_6 (by decide) ?_
    refine x_topL (show lN x = lN (if wh = 0 then x else y) from by first | rw [if_pos c2] | rw [if_neg c2]) ?_
    exact j10

set_option maxHeartbeats 4000000 in
set_option maxRecDepth 100000 in
theorem mt_X6_upToDate (l : Launch) (D : va_G) (cI cJ cZ : ClassId) (ga gb : Nat) (x0 : Nat) (t0 : Nat) (h0 : Nat) (l0 : Nat) (u0 : Nat) (m0 : Nat) (w0 : Nat) (p0 : Nat) (li : Bool) (pl : Bool) (k0 : Nat) (k1 : Nat) (k2 : Nat) (k3 : Nat) (k4 : Nat) (k5 : Nat) (k6 : Nat) (K : Kn) (S : Nat → Nat) (l1 : Nat) (l2 : Nat) (N : Nat) (T : Nat) (te : Nat) (ex : Nat) (g : Nat → Nat) (rc : Nat → Nat) (hN : [x0, k0, k1, k2, k3, k4, k5, k6, t0, l0, l1, l2].Nodup) (hga : ga ∉ [x0, k0, k1, k2, k3, k4, k5, k6, t0, l0, l1, l2]) (hgb : gb ∉ [x0, k0, k1, k2, k3, k4, k5, k6, t0, l0, l1, l2]) (hKO : KO K) (hrc0 : rc 0 = 0) (hli : li = true → N = nE K S ∧ T = tot K S ∧ SK K S g) : Met l yX6_upToDate (aW yX6_upToDate cX6_upToDate 1 (some (.object "FewestCauses$Listing"))) { frames := 15, cells := 0, slots := 0, locals := 413 } (cG D cI cJ cZ ga gb [.ref x0] [(x0, .inr (6, [.ref k0, .ref t0, .ref h0, .ref l0, .int (nI li.toNat), .ref u0, .ref m0, .ref w0, .ref p0, .int (nI pl.toNat)])), (k0, .inr (1, [.ref k1, .ref k2, .ref k3, .ref k4, .ref k5, .ref k6])), (k1, .inl (cI, 10, .inl (fN K.1))), (k2, .inl (cI, 10, .inl (fN K.2.1))), (k3, .inl (cI, 10, .inl (fN (lfM K)))), (k4, .inl (cI, 10, .inl (fN (mfM K)))), (k5, .inl (cI, 12, .inl (fN (lcM K)))), (k6, .inl (cI, 12, .inl (fN (mcM K)))), (t0, .inr (5, [.int (nI (thM S)), .int (nI (abM S))])), (l0, .inr (2, [.ref k0, .ref l1, .int (nI N), .long (lN T), .ref l2, .int (nI te), .int (nI ex)])), (l1, .inl (cJ, 252, .inr (.inl (fL g)))), (l2, .inl (cI, 11, .inl (fN rc)))]) (va_Qr (fun H1 : Heap => ∃ (g1 : Nat → Nat) (rc1 : Nat → Nat) (te1 : Nat) (ex1 : Nat), (SK K S g1) ∧ (rc1 0 = 0) ∧ va_P D vwCl [(x0, .inr (6, [.ref k0, .ref t0, .ref h0, .ref l0, .int (nI true.toNat), .ref u0, .ref m0, .ref w0, .ref p0, .int (nI pl.toNat)])), (k0, .inr (1, [.ref k1, .ref k2, .ref k3, .ref k4, .ref k5, .ref k6])), (k1, .inl (cI, 10, .inl (fN K.1))), (k2, .inl (cI, 10, .inl (fN K.2.1))), (k3, .inl (cI, 10, .inl (fN (lfM K)))), (k4, .inl (cI, 10, .inl (fN (mfM K)))), (k5, .inl (cI, 12, .inl (fN (lcM K)))), (k6, .inl (cI, 12, .inl (fN (mcM K)))), (t0, .inr (5, [.int (nI (thM S)), .int (nI (abM S))])), (l0, .inr (2, [.ref k0, .ref l1, .int (nI (nE K S)), .long (lN (tot K S)), .ref l2, .int (nI te1), .int (nI ex1)])), (l1, .inl (cJ, 252, .inr (.inl (fL g1)))), (l2, .inl (cI, 11, .inl (fN rc1)))] H1) (mR l0) (aA [x0, k0, k1, k2, k3, k4, k5, k6, t0, l0, l1, l2])) 0 0 (aA [x0, k0, k1, k2, k3, k4, k5, k6, t0, l0, l1, l2]) := by
  refine Met.ofW (cc := cX6_upToDate) (maxL := 1) (ret := (some (.object "FewestCauses$Listing"))) (by decide) rfl ?_
  intro p e s m args below meth c s₁ B hml hv
  obtain ⟨hav, hP, hK, hG⟩ := hv
  have hx := B.exec
  have hb := B.bytes
  have hr := B.returns
  have hts := aW_in (atoms_spec (ws := aW yX6_upToDate cX6_upToDate 1 (some (.object "FewestCauses$Listing"))) B.pre)
  have hown : s.vm.findClass RX6 = some m.cls := findClass_of_methodNamed B.named
  have hlocks := B.notSynchronized
  obtain ⟨R, hR⟩ : ∃ R, R = (headSpec (aW yX6_upToDate cX6_upToDate 1 (some (.object "FewestCauses$Listing"))) { frames := 15, cells := 0, slots := 0, locals := 413 }).room := ⟨_, rfl⟩
  rw [← hR]
  obtain ⟨Q, hQ⟩ : ∃ Q, Q = MQ below (va_Qr (fun H1 : Heap => ∃ (g1 : Nat → Nat) (rc1 : Nat → Nat) (te1 : Nat) (ex1 : Nat), (SK K S g1) ∧ (rc1 0 = 0) ∧ va_P D vwCl [(x0, .inr (6, [.ref k0, .ref t0, .ref h0, .ref l0, .int (nI true.toNat), .ref u0, .ref m0, .ref w0, .ref p0, .int (nI pl.toNat)])), (k0, .inr (1, [.ref k1, .ref k2, .ref k3, .ref k4, .ref k5, .ref k6])), (k1, .inl (cI, 10, .inl (fN K.1))), (k2, .inl (cI, 10, .inl (fN K.2.1))), (k3, .inl (cI, 10, .inl (fN (lfM K)))), (k4, .inl (cI, 10, .inl (fN (mfM K)))), (k5, .inl (cI, 12, .inl (fN (lcM K)))), (k6, .inl (cI, 12, .inl (fN (mcM K)))), (t0, .inr (5, [.int (nI (thM S)), .int (nI (abM S))])), (l0, .inr (2, [.ref k0, .ref l1, .int (nI (nE K S)), .long (lN (tot K S)), .ref l2, .int (nI te1), .int (nI ex1)])), (l1, .inl (cJ, 252, .inr (.inl (fL g1)))), (l2, .inl (cI, 11, .inl (fN rc1)))] H1) (mR l0) (aA [x0, k0, k1, k2, k3, k4, k5, k6, t0, l0, l1, l2])) args s 0 0 (aA [x0, k0, k1, k2, k3, k4, k5, k6, t0, l0, l1, l2]) := ⟨_, rfl⟩
  rw [← hQ]
  have hl := lv_entry [.ref x0] (n := 1) (Nat.le_of_ble_eq_true rfl)
  have hent := lg_entry_eq m [.ref x0] 1
  rw [← hav] at hent
  rw [hent]
  generalize (lg_sl [.ref x0] ++ List.replicate (1 - (lg_sl [.ref x0]).length) Slot.unset).toArray = ls at hl ⊢
  have hl : lv_has ls 1 [(0, .ref x0)] := hl
  have hD : va_D (aA [x0, k0, k1, k2, k3, k4, k5, k6, t0, l0, l1, l2]) [(x0, .inr (6, [.ref k0, .ref t0, .ref h0, .ref l0, .int (nI li.toNat), .ref u0, .ref m0, .ref w0, .ref p0, .int (nI pl.toNat)])), (k0, .inr (1, [.ref k1, .ref k2, .ref k3, .ref k4, .ref k5, .ref k6])), (k1, .inl (cI, 10, .inl (fN K.1))), (k2, .inl (cI, 10, .inl (fN K.2.1))), (k3, .inl (cI, 10, .inl (fN (lfM K)))), (k4, .inl (cI, 10, .inl (fN (mfM K)))), (k5, .inl (cI, 12, .inl (fN (lcM K)))), (k6, .inl (cI, 12, .inl (fN (mcM K)))), (t0, .inr (5, [.int (nI (thM S)), .int (nI (abM S))])), (l0, .inr (2, [.ref k0, .ref l1, .int (nI N), .long (lN T), .ref l2, .int (nI te), .int (nI ex)])), (l1, .inl (cJ, 252, .inr (.inl (fL g)))), (l2, .inl (cI, 11, .inl (fN rc)))] := nd_D hN rfl
  have hS : va_S (aA [x0, k0, k1, k2, k3, k4, k5, k6, t0, l0, l1, l2]) s.heap s.heap [] := va_S.rf
  have hP : va_P D vwCl [(x0, .inr (6, [.ref k0, .ref t0, .ref h0, .ref l0, .int (nI li.toNat), .ref u0, .ref m0, .ref w0, .ref p0, .int (nI pl.toNat)])), (k0, .inr (1, [.ref k1, .ref k2, .ref k3, .ref k4, .ref k5, .ref k6])), (k1, .inl (cI, 10, .inl (fN K.1))), (k2, .inl (cI, 10, .inl (fN K.2.1))), (k3, .inl (cI, 10, .inl (fN (lfM K)))), (k4, .inl (cI, 10, .inl (fN (mfM K)))), (k5, .inl (cI, 12, .inl (fN (lcM K)))), (k6, .inl (cI, 12, .inl (fN (mcM K)))), (t0, .inr (5, [.int (nI (thM S)), .int (nI (abM S))])), (l0, .inr (2, [.ref k0, .ref l1, .int (nI N), .long (lN T), .ref l2, .int (nI te), .int (nI ex)])), (l1, .inl (cJ, 252, .inr (.inl (fL g)))), (l2, .inl (cI, 11, .inl (fN rc)))] s.heap := hP
  obtain ⟨H, hH⟩ : ∃ H, H = s.heap := ⟨_, rfl⟩
  rw [← hH] at hP
  obtain ⟨locs, hlocs⟩ : ∃ q : List Loc, q = [] := ⟨_, rfl⟩
  have hS : va_S (aA [x0, k0, k1, k2, k3, k4, k5, k6, t0, l0, l1, l2]) s.heap H locs := by rw [hH, hlocs]; exact hS
  rw [← hH, ← hlocs]
  clear hH hlocs
  refine lv_aload_n hx hb dX6_upToDate_0 rfl (lv_at hl 0 rfl) ?_
  refine va_get (D := D) (ci := 6) (v := .int (nI li.toNat)) (C := RX6) (T := TX6) (N := 10) hx hb hts inA6 hown hK.1 hP 0 rfl rfl 4 (by decide) (hts _ kf_RX6_242) (fun _ h9 => h9) rfl dX6_upToDate_1 ?_
  refine x_bne (tgt := 30) hx hb dX6_upToDate_4 (by decide) (fun c4 => ?_) (fun c4 => ?_)
  · refine lv_aload_n hx hb dX6_upToDate_30 rfl (lv_at hl 0 rfl) ?_
    refine va_get (D := D) (ci := 6) (v := .ref l0) (C := RX6) (T := TX6) (N := 10) hx hb hts inA6 hown hK.1 hP 0 rfl rfl 3 (by decide) (hts _ kf_RX6_37) (fun _ h9 => h9) rfl dX6_upToDate_31 ?_
    rw [hQ]
    exact W.aret hx hb hr (Or.inl ⟨_, rfl⟩) (Or.inr ⟨_, rfl⟩) (fun t ht hW => ⟨⟨H, _, rfl, by first | exact ⟨g1_2, rc1_1, thM S, exM K S, SK_of (eU_perm K S) hg1_1 hs1_2 hi1_2 hd1_2, hrc1_1, hP.sub [0, 1, 2, 3, 4, 5, 6, 7, 8, 9, 10, 11] rfl⟩ | (obtain ⟨e1, e2, e3⟩ := hli c4; rw [c4, e1, e2] at hP; exact ⟨g, rc, te, ex, e3, hrc0, hP.sub [0, 1, 2, 3, 4, 5, 6, 7, 8, 9, 10, 11] rfl⟩), rfl, ht⟩, hS.F ht⟩) hS.2.2 dX6_upToDate_34
  · refine lv_aload_n hx hb dX6_upToDate_7 rfl (lv_at hl 0 rfl) ?_
    refine va_get (D := D) (ci := 6) (v := .ref l0) (C := RX6) (T := TX6) (N := 10) hx hb hts inA6 hown hK.1 hP 0 rfl rfl 3 (by decide) (hts _ kf_RX6_37) (fun _ h9 => h9) rfl dX6_upToDate_8 ?_
    refine lv_aload_n hx hb dX6_upToDate_11 rfl (lv_at hl 0 rfl) ?_
    refine va_get (D := D) (ci := 6) (v := .ref t0) (C := RX6) (T := TX6) (N := 10) hx hb hts inA6 hown hK.1 hP 0 rfl rfl 1 (by decide) (hts _ kf_RX6_21) (fun _ h9 => h9) rfl dX6_upToDate_12 ?_
    refine mc_v (va_runV (As := [.ref t0]) (rest := []) ⟨hx, hb, hml, hown, hts⟩ (mt_X2_list l D cI cJ cZ l0 l1 l2 N T te ex g rc k0 k1 k2 k3 k4 k5 k6 K t0 S (nd_sub hN [9, 10, 11, 1, 2, 3, 4, 5, 6, 7, 8] (by decide) rfl) (by first | assumption | omega) (by first | assumption | omega)) (cwV 1 hts (gV km_RX6_223 ki_yX2_list kl_yX2_list kn_RX2 kc_yX2_list) rfl rfl rfl (by decide +kernel) (by rw [hR]; exact ⟨Nat.le_of_ble_eq_true rfl, Nat.le_of_ble_eq_true rfl⟩)) (cP_V (q0 := 0) (ci := 2) hK (hP.sub [9, 10, 11, 1, 2, 3, 4, 5, 6, 7, 8] rfl) rfl rfl) rfl rfl hl.1 rfl (lv_room (Nat.le_of_ble_eq_true rfl)) dX6_upToDate_15 ⟨Nat.zero_le _, Nat.zero_le _⟩) hS (aA_sub [9, 10, 11, 1, 2, 3, 4, 5, 6, 7, 8] rfl) (fun H locs hp_ hk_ hS => ?_)
    obtain ⟨g1_1, rc1_1, hg1_1, hrc1_1, hP1⟩ := hp_
    have hP := pj (wr := [(x0, .inr (6, [.ref k0, .ref t0, .ref h0, .ref l0, .int (nI li.toNat), .ref u0, .ref m0, .ref w0, .ref p0, .int (nI pl.toNat)]))]) (w1 := [(l0, .inr (2, [.ref k0, .ref l1, .int (nI (nE K S)), .long (lN (tot K S)), .ref l2, .int (nI (thM S)), .int (nI (exM K S))])), (l1, .inl (cJ, 252, .inr (.inl (fL g1_1)))), (l2, .inl (cI, 11, .inl (fN rc1_1))), (k0, .inr (1, [.ref k1, .ref k2, .ref k3, .ref k4, .ref k5, .ref k6])), (k1, .inl (cI, 10, .inl (fN K.1))), (k2, .inl (cI, 10, .inl (fN K.2.1))), (k3, .inl (cI, 10, .inl (fN (lfM K)))), (k4, .inl (cI, 10, .inl (fN (mfM K)))), (k5, .inl (cI, 12, .inl (fN (lcM K)))), (k6, .inl (cI, 12, .inl (fN (mcM K)))), (t0, .inr (5, [.int (nI (thM S)), .int (nI (abM S))]))]) (lc := [l0, l1, l2, k0, k1, k2, k3, k4, k5, k6, t0]) hP hD [9, 10, 11, 1, 2, 3, 4, 5, 6, 7, 8] [0] rfl rfl (by decide) hk_ hP1
    have hP : va_P D vwCl [(x0, .inr (6, [.ref k0, .ref t0, .ref h0, .ref l0, .int (nI li.toNat), .ref u0, .ref m0, .ref w0, .ref p0, .int (nI pl.toNat)])), (l0, .inr (2, [.ref k0, .ref l1, .int (nI (nE K S)), .long (lN (tot K S)), .ref l2, .int (nI (thM S)), .int (nI (exM K S))])), (l1, .inl (cJ, 252, .inr (.inl (fL g1_1)))), (l2, .inl (cI, 11, .inl (fN rc1_1))), (k0, .inr (1, [.ref k1, .ref k2, .ref k3, .ref k4, .ref k5, .ref k6])), (k1, .inl (cI, 10, .inl (fN K.1))), (k2, .inl (cI, 10, .inl (fN K.2.1))), (k3, .inl (cI, 10, .inl (fN (lfM K)))), (k4, .inl (cI, 10, .inl (fN (mfM K)))), (k5, .inl (cI, 12, .inl (fN (lcM K)))), (k6, .inl (cI, 12, .inl (fN (mcM K)))), (t0, .inr (5, [.int (nI (thM S)), .int (nI (abM S))]))] H := hP
    have hD : va_D (aA [x0, k0, k1, k2, k3, k4, k5, k6, t0, l0, l1, l2]) [(x0, .inr (6, [.ref k0, .ref t0, .ref h0, .ref l0, .int (nI li.toNat), .ref u0, .ref m0, .ref w0, .ref p0, .int (nI pl.toNat)])), (l0, .inr (2, [.ref k0, .ref l1, .int (nI (nE K S)), .long (lN (tot K S)), .ref l2, .int (nI (thM S)), .int (nI (exM K S))])), (l1, .inl (cJ, 252, .inr (.inl (fL g1_1)))), (l2, .inl (cI, 11, .inl (fN rc1_1))), (k0, .inr (1, [.ref k1, .ref k2, .ref k3, .ref k4, .ref k5, .ref k6])), (k1, .inl (cI, 10, .inl (fN K.1))), (k2, .inl (cI, 10, .inl (fN K.2.1))), (k3, .inl (cI, 10, .inl (fN (lfM K)))), (k4, .inl (cI, 10, .inl (fN (mfM K)))), (k5, .inl (cI, 12, .inl (fN (lcM K)))), (k6, .inl (cI, 12, .inl (fN (mcM K)))), (t0, .inr (5, [.int (nI (thM S)), .int (nI (abM S))]))] := hD.re [0, 9, 10, 11, 1, 2, 3, 4, 5, 6, 7, 8] (by decide) rfl
    refine lv_aload_n hx hb dX6_upToDate_18 rfl (lv_at hl 0 rfl) ?_
    refine va_get (D := D) (ci := 6) (v := .ref l0) (C := RX6) (T := TX6) (N := 10) hx hb hts inA6 hown hK.1 hP 0 rfl rfl 3 (by decide) (hts _ kf_RX6_37) (fun _ h9 => h9) rfl dX6_upToDate_19 ?_
    refine mc_v (va_runV (As := []) (rest := []) ⟨hx, hb, hml, hown, hts⟩ (mt_X2_putInOrder l D cI cJ cZ ga gb l0 l1 l2 (nE K S) (tot K S) (thM S) (exM K S) g1_1 rc1_1 k0 (nd_sub hN [9, 10, 11] (by decide) rfl) (fun h => hga (aA_sub [9, 10, 11] rfl _ h)) (fun h => hgb (aA_sub [9, 10, 11] rfl _ h)) (nE_le K S) (inj_key (eU_perm K S) hg1_1) (lt_key hKO hg1_1)) (cwV 0 hts (gV km_RX6_249 ki_yX2_putInOrder kl_yX2_putInOrder kn_RX2 kc_yX2_putInOrder) rfl rfl rfl (by decide +kernel) (by rw [hR]; exact ⟨Nat.le_of_ble_eq_true rfl, Nat.le_of_ble_eq_true rfl⟩)) (cG_V (q0 := 0) (ci := 2) hK (hP.sub [1, 2, 3] rfl) (hG.now hS hga hgb) rfl rfl) rfl rfl hl.1 rfl (lv_room (Nat.le_of_ble_eq_true rfl)) dX6_upToDate_22 ⟨Nat.zero_le _, Nat.zero_le _⟩) hS (aA_sub [9, 10, 11] rfl) (fun H locs hp_ hk_ hS => ?_)
    obtain ⟨g1_2, hs1_2, hi1_2, hd1_2, hP1⟩ := hp_
    have hP := pj (wr := [(x0, .inr (6, [.ref k0, .ref t0, .ref h0, .ref l0, .int (nI li.toNat), .ref u0, .ref m0, .ref w0, .ref p0, .int (nI pl.toNat)])), (k0, .inr (1, [.ref k1, .ref k2, .ref k3, .ref k4, .ref k5, .ref k6])), (k1, .inl (cI, 10, .inl (fN K.1))), (k2, .inl (cI, 10, .inl (fN K.2.1))), (k3, .inl (cI, 10, .inl (fN (lfM K)))), (k4, .inl (cI, 10, .inl (fN (mfM K)))), (k5, .inl (cI, 12, .inl (fN (lcM K)))), (k6, .inl (cI, 12, .inl (fN (mcM K)))), (t0, .inr (5, [.int (nI (thM S)), .int (nI (abM S))]))]) (w1 := [(l0, .inr (2, [.ref k0, .ref l1, .int (nI (nE K S)), .long (lN (tot K S)), .ref l2, .int (nI (thM S)), .int (nI (exM K S))])), (l1, .inl (cJ, 252, .inr (.inl (fL g1_2)))), (l2, .inl (cI, 11, .inl (fN rc1_1)))]) (lc := [l0, l1, l2]) hP hD [1, 2, 3] [0, 4, 5, 6, 7, 8, 9, 10, 11] rfl rfl (by decide) hk_ hP1
    have hP : va_P D vwCl [(x0, .inr (6, [.ref k0, .ref t0, .ref h0, .ref l0, .int (nI li.toNat), .ref u0, .ref m0, .ref w0, .ref p0, .int (nI pl.toNat)])), (k0, .inr (1, [.ref k1, .ref k2, .ref k3, .ref k4, .ref k5, .ref k6])), (k1, .inl (cI, 10, .inl (fN K.1))), (k2, .inl (cI, 10, .inl (fN K.2.1))), (k3, .inl (cI, 10, .inl (fN (lfM K)))), (k4, .inl (cI, 10, .inl (fN (mfM K)))), (k5, .inl (cI, 12, .inl (fN (lcM K)))), (k6, .inl (cI, 12, .inl (fN (mcM K)))), (t0, .inr (5, [.int (nI (thM S)), .int (nI (abM S))])), (l0, .inr (2, [.ref k0, .ref l1, .int (nI (nE K S)), .long (lN (tot K S)), .ref l2, .int (nI (thM S)), .int (nI (exM K S))])), (l1, .inl (cJ, 252, .inr (.inl (fL g1_2)))), (l2, .inl (cI, 11, .inl (fN rc1_1)))] H := hP
    have hD : va_D (aA [x0, k0, k1, k2, k3, k4, k5, k6, t0, l0, l1, l2]) [(x0, .inr (6, [.ref k0, .ref t0, .ref h0, .ref l0, .int (nI li.toNat), .ref u0, .ref m0, .ref w0, .ref p0, .int (nI pl.toNat)])), (k0, .inr (1, [.ref k1, .ref k2, .ref k3, .ref k4, .ref k5, .ref k6])), (k1, .inl (cI, 10, .inl (fN K.1))), (k2, .inl (cI, 10, .inl (fN K.2.1))), (k3, .inl (cI, 10, .inl (fN (lfM K)))), (k4, .inl (cI, 10, .inl (fN (mfM K)))), (k5, .inl (cI, 12, .inl (fN (lcM K)))), (k6, .inl (cI, 12, .inl (fN (mcM K)))), (t0, .inr (5, [.int (nI (thM S)), .int (nI (abM S))])), (l0, .inr (2, [.ref k0, .ref l1, .int (nI (nE K S)), .long (lN (tot K S)), .ref l2, .int (nI (thM S)), .int (nI (exM K S))])), (l1, .inl (cJ, 252, .inr (.inl (fL g1_2)))), (l2, .inl (cI, 11, .inl (fN rc1_1)))] := hD.re [0, 4, 5, 6, 7, 8, 9, 10, 11, 1, 2, 3] (by decide) rfl
    refine lv_aload_n hx hb dX6_upToDate_25 rfl (lv_at hl 0 rfl) ?_
    refine lv_iconst (v := nI 1) hx hb dX6_upToDate_26 (by decide) ?_
    refine va_put (D := D) (ci := 6) (v := .int (nI 1)) (ty := .boolean) (C := RX6) (T := TX6) (N := 10) hx hb hts inA6 tyX6 tyX6_ok nmX6 hown hK.1 hP hD hS 0 rfl rfl 4 (by decide) (hts _ kf_RX6_242) (fun _ h9 => h9) rfl (by decide +kernel) (rfl) (rfl) (Nat.le_of_ble_eq_true rfl) dX6_upToDate_27 (fun H locs hP hD hS => ?_)
    have hP : va_P D vwCl [(x0, .inr (6, [.ref k0, .ref t0, .ref h0, .ref l0, .int (nI true.toNat), .ref u0, .ref m0, .ref w0, .ref p0, .int (nI pl.toNat)])), (k0, .inr (1, [.ref k1, .ref k2, .ref k3, .ref k4, .ref k5, .ref k6])), (k1, .inl (cI, 10, .inl (fN K.1))), (k2, .inl (cI, 10, .inl (fN K.2.1))), (k3, .inl (cI, 10, .inl (fN (lfM K)))), (k4, .inl (cI, 10, .inl (fN (mfM K)))), (k5, .inl (cI, 12, .inl (fN (lcM K)))), (k6, .inl (cI, 12, .inl (fN (mcM K)))), (t0, .inr (5, [.int (nI (thM S)), .int (nI (abM S))])), (l0, .inr (2, [.ref k0, .ref l1, .int (nI (nE K S)), .long (lN (tot K S)), .ref l2, .int (nI (thM S)), .int (nI (exM K S))])), (l1, .inl (cJ, 252, .inr (.inl (fL g1_2)))), (l2, .inl (cI, 11, .inl (fN rc1_1)))] H := hP
    have hD : va_D (aA [x0, k0, k1, k2, k3, k4, k5, k6, t0, l0, l1, l2]) [(x0, .inr (6, [.ref k0, .ref t0, .ref h0, .ref l0, .int (nI true.toNat), .ref u0, .ref m0, .ref w0, .ref p0, .int (nI pl.toNat)])), (k0, .inr (1, [.ref k1, .ref k2, .ref k3, .ref k4, .ref k5, .ref k6])), (k1, .inl (cI, 10, .inl (fN K.1))), (k2, .inl (cI, 10, .inl (fN K.2.1))), (k3, .inl (cI, 10, .inl (fN (lfM K)))), (k4, .inl (cI, 10, .inl (fN (mfM K)))), (k5, .inl (cI, 12, .inl (fN (lcM K)))), (k6, .inl (cI, 12, .inl (fN (mcM K)))), (t0, .inr (5, [.int (nI (thM S)), .int (nI (abM S))])), (l0, .inr (2, [.ref k0, .ref l1, .int (nI (nE K S)), .long (lN (tot K S)), .ref l2, .int (nI (thM S)), .int (nI (exM K S))])), (l1, .inl (cJ, 252, .inr (.inl (fL g1_2)))), (l2, .inl (cI, 11, .inl (fN rc1_1)))] := hD
    refine lv_aload_n hx hb dX6_upToDate_30 rfl (lv_at hl 0 rfl) ?_
    refine va_get (D := D) (ci := 6) (v := .ref l0) (C := RX6) (T := TX6) (N := 10) hx hb hts inA6 hown hK.1 hP 0 rfl rfl 3 (by decide) (hts _ kf_RX6_37) (fun _ h9 => h9) rfl dX6_upToDate_31 ?_
    rw [hQ]
    exact W.aret hx hb hr (Or.inl ⟨_, rfl⟩) (Or.inr ⟨_, rfl⟩) (fun t ht hW => ⟨⟨H, _, rfl, by first | exact ⟨g1_2, rc1_1, thM S, exM K S, SK_of (eU_perm K S) hg1_1 hs1_2 hi1_2 hd1_2, hrc1_1, hP.sub [0, 1, 2, 3, 4, 5, 6, 7, 8, 9, 10, 11] rfl⟩ | (obtain ⟨e1, e2, e3⟩ := hli c4; rw [c4, e1, e2] at hP; exact ⟨g, rc, te, ex, e3, hrc0, hP.sub [0, 1, 2, 3, 4, 5, 6, 7, 8, 9, 10, 11] rfl⟩), rfl, ht⟩, hS.F ht⟩) hS.2.2 dX6_upToDate_34

set_option maxHeartbeats 4000000 in
set_option maxRecDepth 100000 in
theorem mt_X6_forgetWhatFollowed (l : Launch) (D : va_G) (cI cJ cZ : ClassId) (x0 : Nat) (t0 : Nat) (h0 : Nat) (l0 : Nat) (u0 : Nat) (m0 : Nat) (w0 : Nat) (p0 : Nat) (li : Bool) (pl : Bool) (k0 : Nat) (hN : [x0].Nodup) : Met l yX6_forgetWhatFollowed (aW yX6_forgetWhatFollowed cX6_forgetWhatFollowed 1 none) { frames := 0, cells := 0, slots := 0, locals := 0 } (cP D cI cJ cZ [.ref x0] [(x0, .inr (6, [.ref k0, .ref t0, .ref h0, .ref l0, .int (nI li.toNat), .ref u0, .ref m0, .ref w0, .ref p0, .int (nI pl.toNat)]))]) (va_Qv (fun H1 : Heap => va_P D vwCl [(x0, .inr (6, [.ref k0, .ref t0, .ref h0, .ref l0, .int (nI false.toNat), .ref u0, .ref m0, .ref w0, .ref p0, .int (nI false.toNat)]))] H1) mB (aA [x0])) 0 0 (aA [x0]) := by
  refine Met.ofW (cc := cX6_forgetWhatFollowed) (maxL := 1) (ret := none) (by decide) rfl ?_
  intro p e s m args below meth c s₁ B hml hv
  obtain ⟨hav, hP, hK⟩ := hv
  have hx := B.exec
  have hb := B.bytes
  have hr := B.returns
  have hts := aW_in (atoms_spec (ws := aW yX6_forgetWhatFollowed cX6_forgetWhatFollowed 1 none) B.pre)
  have hown : s.vm.findClass RX6 = some m.cls := findClass_of_methodNamed B.named
  have hlocks := B.notSynchronized
  obtain ⟨R, hR⟩ : ∃ R, R = (headSpec (aW yX6_forgetWhatFollowed cX6_forgetWhatFollowed 1 none) { frames := 0, cells := 0, slots := 0, locals := 0 }).room := ⟨_, rfl⟩
  rw [← hR]
  obtain ⟨Q, hQ⟩ : ∃ Q, Q = MQ below (va_Qv (fun H1 : Heap => va_P D vwCl [(x0, .inr (6, [.ref k0, .ref t0, .ref h0, .ref l0, .int (nI false.toNat), .ref u0, .ref m0, .ref w0, .ref p0, .int (nI false.toNat)]))] H1) mB (aA [x0])) args s 0 0 (aA [x0]) := ⟨_, rfl⟩
  rw [← hQ]
  have hl := lv_entry [.ref x0] (n := 1) (Nat.le_of_ble_eq_true rfl)
  have hent := lg_entry_eq m [.ref x0] 1
  rw [← hav] at hent
  rw [hent]
  generalize (lg_sl [.ref x0] ++ List.replicate (1 - (lg_sl [.ref x0]).length) Slot.unset).toArray = ls at hl ⊢
  have hl : lv_has ls 1 [(0, .ref x0)] := hl
  have hD : va_D (aA [x0]) [(x0, .inr (6, [.ref k0, .ref t0, .ref h0, .ref l0, .int (nI li.toNat), .ref u0, .ref m0, .ref w0, .ref p0, .int (nI pl.toNat)]))] := nd_D hN rfl
  have hS : va_S (aA [x0]) s.heap s.heap [] := va_S.rf
  have hP : va_P D vwCl [(x0, .inr (6, [.ref k0, .ref t0, .ref h0, .ref l0, .int (nI li.toNat), .ref u0, .ref m0, .ref w0, .ref p0, .int (nI pl.toNat)]))] s.heap := hP
  obtain ⟨H, hH⟩ : ∃ H, H = s.heap := ⟨_, rfl⟩
  rw [← hH] at hP
  obtain ⟨locs, hlocs⟩ : ∃ q : List Loc, q = [] := ⟨_, rfl⟩
  have hS : va_S (aA [x0]) s.heap H locs := by rw [hH, hlocs]; exact hS
  rw [← hH, ← hlocs]
  clear hH hlocs
  refine lv_aload_n hx hb dX6_forgetWhatFollowed_0 rfl (lv_at hl 0 rfl) ?_
  refine lv_iconst (v := nI 0) hx hb dX6_forgetWhatFollowed_1 (by decide) ?_
  refine va_put (D := D) (ci := 6) (v := .int (nI 0)) (ty := .boolean) (C := RX6) (T := TX6) (N := 10) hx hb hts inA6 tyX6 tyX6_ok nmX6 hown hK.1 hP hD hS 0 rfl rfl 4 (by decide) (hts _ kf_RX6_242) (fun _ h9 => h9) rfl (by decide +kernel) (rfl) (rfl) (Nat.le_of_ble_eq_true rfl) dX6_forgetWhatFollowed_2 (fun H locs hP hD hS => ?_)
  have hP : va_P D vwCl [(x0, .inr (6, [.ref k0, .ref t0, .ref h0, .ref l0, .int (nI false.toNat), .ref u0, .ref m0, .ref w0, .ref p0, .int (nI pl.toNat)]))] H := hP
  have hD : va_D (aA [x0]) [(x0, .inr (6, [.ref k0, .ref t0, .ref h0, .ref l0, .int (nI false.toNat), .ref u0, .ref m0, .ref w0, .ref p0, .int (nI pl.toNat)]))] := hD
  refine lv_aload_n hx hb dX6_forgetWhatFollowed_5 rfl (lv_at hl 0 rfl) ?_
  refine lv_iconst (v := nI 0) hx hb dX6_forgetWhatFollowed_6 (by decide) ?_
  refine va_put (D := D) (ci := 6) (v := .int (nI 0)) (ty := .boolean) (C := RX6) (T := TX6) (N := 10) hx hb hts inA6 tyX6 tyX6_ok nmX6 hown hK.1 hP hD hS 0 rfl rfl 9 (by decide) (hts _ kf_RX6_246) (fun _ h9 => h9) rfl (by decide +kernel) (rfl) (rfl) (Nat.le_of_ble_eq_true rfl) dX6_forgetWhatFollowed_7 (fun H locs hP hD hS => ?_)
  have hP : va_P D vwCl [(x0, .inr (6, [.ref k0, .ref t0, .ref h0, .ref l0, .int (nI false.toNat), .ref u0, .ref m0, .ref w0, .ref p0, .int (nI false.toNat)]))] H := hP
  have hD : va_D (aA [x0]) [(x0, .inr (6, [.ref k0, .ref t0, .ref h0, .ref l0, .int (nI false.toNat), .ref u0, .ref m0, .ref w0, .ref p0, .int (nI false.toNat)]))] := hD
  rw [hQ]
  exact W.vret hx hb hr (fun t ht hW => ⟨⟨H, rfl, hP.sub [0] rfl, ht⟩, hS.F ht⟩) hS.2.2 dX6_forgetWhatFollowed_10

set_option maxHeartbeats 4000000 in
set_option maxRecDepth 100000 in
theorem mt_X6_changeFinding (l : Launch) (D : va_G) (cI cJ cZ : ClassId) (ga gb : Nat) (x0 : Nat) (t0 : Nat) (h0 : Nat) (l0 : Nat) (u0 : Nat) (m0 : Nat) (w0 : Nat) (p0 : Nat) (li : Bool) (pl : Bool) (k0 : Nat) (k1 : Nat) (k2 : Nat) (k3 : Nat) (k4 : Nat) (k5 : Nat) (k6 : Nat) (K : Kn) (S : Nat → Nat) (l1 : Nat) (l2 : Nat) (N : Nat) (T : Nat) (te : Nat) (ex : Nat) (g : Nat → Nat) (rc : Nat → Nat) (h1 : Nat) (h2 : Nat) (q : Nat) (hf : Nat → Nat) (hs : Nat → Nat) (fi : Nat) (v : Nat) (hN : [x0, k0, k1, k2, k3, k4, k5, k6, t0, h0, h1, h2, l0, l1, l2].Nodup) (hga : ga ∉ [x0, k0, k1, k2, k3, k4, k5, k6, t0, h0, h1, h2, l0, l1, l2]) (hgb : gb ∉ [x0, k0, k1, k2, k3, k4, k5, k6, t0, h0, h1, h2, l0, l1, l2]) (hKO : KO K) (hrc0 : rc 0 = 0) (hS2 : ∀ f, S f ≤ 2) (hq : q ≤ 20) (hfi : fi < 12) (hv : v ≤ 2) : Met l yX6_changeFinding (aW yX6_changeFinding cX6_changeFinding 3 (some .int)) { frames := 16, cells := 0, slots := 0, locals := 433 } (cG D cI cJ cZ ga gb [.ref x0, .int (nI fi), .int (nI v)] [(x0, .inr (6, [.ref k0, .ref t0, .ref h0, .ref l0, .int (nI li.toNat), .ref u0, .ref m0, .ref w0, .ref p0, .int (nI pl.toNat)])), (k0, .inr (1, [.ref k1, .ref k2, .ref k3, .ref k4, .ref k5, .ref k6])), (k1, .inl (cI, 10, .inl (fN K.1))), (k2, .inl (cI, 10, .inl (fN K.2.1))), (k3, .inl (cI, 10, .inl (fN (lfM K)))), (k4, .inl (cI, 10, .inl (fN (mfM K)))), (k5, .inl (cI, 12, .inl (fN (lcM K)))), (k6, .inl (cI, 12, .inl (fN (mcM K)))), (t0, .inr (5, [.int (nI (thM S)), .int (nI (abM S))])), (h0, .inr (0, [.ref h1, .ref h2, .int (nI q)])), (h1, .inl (cI, 20, .inl (fN hf))), (h2, .inl (cI, 20, .inl (fN hs))), (l0, .inr (2, [.ref k0, .ref l1, .int (nI N), .long (lN T), .ref l2, .int (nI te), .int (nI ex)])), (l1, .inl (cJ, 252, .inr (.inl (fL g)))), (l2, .inl (cI, 11, .inl (fN rc)))]) (va_Qi (fun (r : Int32) (H1 : Heap) => ∃ (g1 : Nat → Nat) (rc1 : Nat → Nat) (te1 : Nat) (ex1 : Nat), r = nI (nE K (va_up S fi v)) ∧ (SK K (va_up S fi v) g1) ∧ (rc1 0 = 0) ∧ va_P D vwCl [(x0, .inr (6, [.ref k0, .ref t0, .ref h0, .ref l0, .int (nI true.toNat), .ref u0, .ref m0, .ref w0, .ref p0, .int (nI false.toNat)])), (k0, .inr (1, [.ref k1, .ref k2, .ref k3, .ref k4, .ref k5, .ref k6])), (k1, .inl (cI, 10, .inl (fN K.1))), (k2, .inl (cI, 10, .inl (fN K.2.1))), (k3, .inl (cI, 10, .inl (fN (lfM K)))), (k4, .inl (cI, 10, .inl (fN (mfM K)))), (k5, .inl (cI, 12, .inl (fN (lcM K)))), (k6, .inl (cI, 12, .inl (fN (mcM K)))), (t0, .inr (5, [.int (nI (thM (va_up S fi v))), .int (nI (abM (va_up S fi v)))])), (h0, .inr (0, [.ref h1, .ref h2, .int (nI (hpN q))])), (h1, .inl (cI, 20, .inl (fN (hpF q hf fi)))), (h2, .inl (cI, 20, .inl (fN (hpF q hs (S fi))))), (l0, .inr (2, [.ref k0, .ref l1, .int (nI (nE K (va_up S fi v))), .long (lN (tot K (va_up S fi v))), .ref l2, .int (nI te1), .int (nI ex1)])), (l1, .inl (cJ, 252, .inr (.inl (fL g1)))), (l2, .inl (cI, 11, .inl (fN rc1)))] H1) mB (aA [x0, k0, k1, k2, k3, k4, k5, k6, t0, h0, h1, h2, l0, l1, l2])) 0 0 (aA [x0, k0, k1, k2, k3, k4, k5, k6, t0, h0, h1, h2, l0, l1, l2]) := by
  refine Met.ofW (cc := cX6_changeFinding) (maxL := 3) (ret := (some .int)) (by decide) rfl ?_
  intro p e s m args below meth c s₁ B hml hv
  obtain ⟨hav, hP, hK, hG⟩ := hv
  have hx := B.exec
  have hb := B.bytes
  have hr := B.returns
  have hts := aW_in (atoms_spec (ws := aW yX6_changeFinding cX6_changeFinding 3 (some .int)) B.pre)
  have hown : s.vm.findClass RX6 = some m.cls := findClass_of_methodNamed B.named
  have hlocks := B.notSynchronized
  obtain ⟨R, hR⟩ : ∃ R, R = (headSpec (aW yX6_changeFinding cX6_changeFinding 3 (some .int)) { frames := 16, cells := 0, slots := 0, locals := 433 }).room := ⟨_, rfl⟩
  rw [← hR]
  obtain ⟨Q, hQ⟩ : ∃ Q, Q = MQ below (va_Qi (fun (r : Int32) (H1 : Heap) => ∃ (g1 : Nat → Nat) (rc1 : Nat → Nat) (te1 : Nat) (ex1 : Nat), r = nI (nE K (va_up S fi v)) ∧ (SK K (va_up S fi v) g1) ∧ (rc1 0 = 0) ∧ va_P D vwCl [(x0, .inr (6, [.ref k0, .ref t0, .ref h0, .ref l0, .int (nI true.toNat), .ref u0, .ref m0, .ref w0, .ref p0, .int (nI false.toNat)])), (k0, .inr (1, [.ref k1, .ref k2, .ref k3, .ref k4, .ref k5, .ref k6])), (k1, .inl (cI, 10, .inl (fN K.1))), (k2, .inl (cI, 10, .inl (fN K.2.1))), (k3, .inl (cI, 10, .inl (fN (lfM K)))), (k4, .inl (cI, 10, .inl (fN (mfM K)))), (k5, .inl (cI, 12, .inl (fN (lcM K)))), (k6, .inl (cI, 12, .inl (fN (mcM K)))), (t0, .inr (5, [.int (nI (thM (va_up S fi v))), .int (nI (abM (va_up S fi v)))])), (h0, .inr (0, [.ref h1, .ref h2, .int (nI (hpN q))])), (h1, .inl (cI, 20, .inl (fN (hpF q hf fi)))), (h2, .inl (cI, 20, .inl (fN (hpF q hs (S fi))))), (l0, .inr (2, [.ref k0, .ref l1, .int (nI (nE K (va_up S fi v))), .long (lN (tot K (va_up S fi v))), .ref l2, .int (nI te1), .int (nI ex1)])), (l1, .inl (cJ, 252, .inr (.inl (fL g1)))), (l2, .inl (cI, 11, .inl (fN rc1)))] H1) mB (aA [x0, k0, k1, k2, k3, k4, k5, k6, t0, h0, h1, h2, l0, l1, l2])) args s 0 0 (aA [x0, k0, k1, k2, k3, k4, k5, k6, t0, h0, h1, h2, l0, l1, l2]) := ⟨_, rfl⟩
  rw [← hQ]
  have hl := lv_entry [.ref x0, .int (nI fi), .int (nI v)] (n := 3) (Nat.le_of_ble_eq_true rfl)
  have hent := lg_entry_eq m [.ref x0, .int (nI fi), .int (nI v)] 3
  rw [← hav] at hent
  rw [hent]
  generalize (lg_sl [.ref x0, .int (nI fi), .int (nI v)] ++ List.replicate (3 - (lg_sl [.ref x0, .int (nI fi), .int (nI v)]).length) Slot.unset).toArray = ls at hl ⊢
  have hl : lv_has ls 3 [(0, .ref x0), (1, .int (nI fi)), (2, .int (nI v))] := hl
  have hD : va_D (aA [x0, k0, k1, k2, k3, k4, k5, k6, t0, h0, h1, h2, l0, l1, l2]) [(x0, .inr (6, [.ref k0, .ref t0, .ref h0, .ref l0, .int (nI li.toNat), .ref u0, .ref m0, .ref w0, .ref p0, .int (nI pl.toNat)])), (k0, .inr (1, [.ref k1, .ref k2, .ref k3, .ref k4, .ref k5, .ref k6])), (k1, .inl (cI, 10, .inl (fN K.1))), (k2, .inl (cI, 10, .inl (fN K.2.1))), (k3, .inl (cI, 10, .inl (fN (lfM K)))), (k4, .inl (cI, 10, .inl (fN (mfM K)))), (k5, .inl (cI, 12, .inl (fN (lcM K)))), (k6, .inl (cI, 12, .inl (fN (mcM K)))), (t0, .inr (5, [.int (nI (thM S)), .int (nI (abM S))])), (h0, .inr (0, [.ref h1, .ref h2, .int (nI q)])), (h1, .inl (cI, 20, .inl (fN hf))), (h2, .inl (cI, 20, .inl (fN hs))), (l0, .inr (2, [.ref k0, .ref l1, .int (nI N), .long (lN T), .ref l2, .int (nI te), .int (nI ex)])), (l1, .inl (cJ, 252, .inr (.inl (fL g)))), (l2, .inl (cI, 11, .inl (fN rc)))] := nd_D hN rfl
  have hS : va_S (aA [x0, k0, k1, k2, k3, k4, k5, k6, t0, h0, h1, h2, l0, l1, l2]) s.heap s.heap [] := va_S.rf
  have hP : va_P D vwCl [(x0, .inr (6, [.ref k0, .ref t0, .ref h0, .ref l0, .int (nI li.toNat), .ref u0, .ref m0, .ref w0, .ref p0, .int (nI pl.toNat)])), (k0, .inr (1, [.ref k1, .ref k2, .ref k3, .ref k4, .ref k5, .ref k6])), (k1, .inl (cI, 10, .inl (fN K.1))), (k2, .inl (cI, 10, .inl (fN K.2.1))), (k3, .inl (cI, 10, .inl (fN (lfM K)))), (k4, .inl (cI, 10, .inl (fN (mfM K)))), (k5, .inl (cI, 12, .inl (fN (lcM K)))), (k6, .inl (cI, 12, .inl (fN (mcM K)))), (t0, .inr (5, [.int (nI (thM S)), .int (nI (abM S))])), (h0, .inr (0, [.ref h1, .ref h2, .int (nI q)])), (h1, .inl (cI, 20, .inl (fN hf))), (h2, .inl (cI, 20, .inl (fN hs))), (l0, .inr (2, [.ref k0, .ref l1, .int (nI N), .long (lN T), .ref l2, .int (nI te), .int (nI ex)])), (l1, .inl (cJ, 252, .inr (.inl (fL g)))), (l2, .inl (cI, 11, .inl (fN rc)))] s.heap := hP
  obtain ⟨H, hH⟩ : ∃ H, H = s.heap := ⟨_, rfl⟩
  rw [← hH] at hP
  obtain ⟨locs, hlocs⟩ : ∃ q : List Loc, q = [] := ⟨_, rfl⟩
  have hS : va_S (aA [x0, k0, k1, k2, k3, k4, k5, k6, t0, h0, h1, h2, l0, l1, l2]) s.heap H locs := by rw [hH, hlocs]; exact hS
  rw [← hH, ← hlocs]
  clear hH hlocs
  refine lv_aload_n hx hb dX6_changeFinding_0 rfl (lv_at hl 0 rfl) ?_
  refine va_get (D := D) (ci := 6) (v := .ref h0) (C := RX6) (T := TX6) (N := 10) hx hb hts inA6 hown hK.1 hP 0 rfl rfl 2 (by decide) (hts _ kf_RX6_28) (fun _ h9 => h9) rfl dX6_changeFinding_1 ?_
  refine lv_iload_n hx hb dX6_changeFinding_4 rfl (lv_at hl 1 rfl) ?_
  refine lv_aload_n hx hb dX6_changeFinding_5 rfl (lv_at hl 0 rfl) ?_
  refine va_get (D := D) (ci := 6) (v := .ref t0) (C := RX6) (T := TX6) (N := 10) hx hb hts inA6 hown hK.1 hP 0 rfl rfl 1 (by decide) (hts _ kf_RX6_21) (fun _ h9 => h9) rfl dX6_changeFinding_6 ?_
  refine lv_iload_n hx hb dX6_changeFinding_9 rfl (lv_at hl 1 rfl) ?_
  refine vp_callSi (va_Run.run (va_runV (As := [.int (nI fi)]) (rest := [.int (nI fi), .ref h0]) ⟨hx, hb, hml, hown, hts⟩ (mt_X5_stateOf l D cI cJ cZ t0 S fi (hfi) (hS2 fi)) (cwV 1 hts (gV km_RX6_114 ki_yX5_stateOf kl_yX5_stateOf kn_RX5 kc_yX5_stateOf) rfl rfl rfl (by decide +kernel) (by rw [hR]; exact ⟨Nat.le_of_ble_eq_true rfl, Nat.le_of_ble_eq_true rfl⟩)) (cP_V (q0 := 0) (ci := 5) hK (hP.sub [8] rfl) rfl rfl) rfl rfl hl.1 rfl (lv_room (Nat.le_of_ble_eq_true rfl)) dX6_changeFinding_10 ⟨Nat.zero_le _, Nat.zero_le _⟩)) (fun r_ hr_ => ?_)
  subst hr_
  refine mc_v (va_runV (As := [.int (nI fi), .int (nI (S fi))]) (rest := []) ⟨hx, hb, hml, hown, hts⟩ (mt_X0_remember l D cI cJ cZ h0 h1 h2 q hf hs fi (S fi) (nd_sub hN [9, 10, 11] (by decide) rfl) (by first | assumption | omega)) (cwV 2 hts (gV km_RX6_252 ki_yX0_remember kl_yX0_remember kn_RX0 kc_yX0_remember) rfl rfl rfl (by decide +kernel) (by rw [hR]; exact ⟨Nat.le_of_ble_eq_true rfl, Nat.le_of_ble_eq_true rfl⟩)) (cP_V (q0 := 0) (ci := 0) hK (hP.sub [9, 10, 11] rfl) rfl rfl) rfl rfl hl.1 rfl (lv_room (Nat.le_of_ble_eq_true rfl)) dX6_changeFinding_13 ⟨Nat.zero_le _, Nat.zero_le _⟩) hS (aA_sub [9, 10, 11] rfl) (fun H locs hp_ hk_ hS => ?_)
  have hP1 := hp_
  have hP := pj (wr := [(x0, .inr (6, [.ref k0, .ref t0, .ref h0, .ref l0, .int (nI li.toNat), .ref u0, .ref m0, .ref w0, .ref p0, .int (nI pl.toNat)])), (k0, .inr (1, [.ref k1, .ref k2, .ref k3, .ref k4, .ref k5, .ref k6])), (k1, .inl (cI, 10, .inl (fN K.1))), (k2, .inl (cI, 10, .inl (fN K.2.1))), (k3, .inl (cI, 10, .inl (fN (lfM K)))), (k4, .inl (cI, 10, .inl (fN (mfM K)))), (k5, .inl (cI, 12, .inl (fN (lcM K)))), (k6, .inl (cI, 12, .inl (fN (mcM K)))), (t0, .inr (5, [.int (nI (thM S)), .int (nI (abM S))])), (l0, .inr (2, [.ref k0, .ref l1, .int (nI N), .long (lN T), .ref l2, .int (nI te), .int (nI ex)])), (l1, .inl (cJ, 252, .inr (.inl (fL g)))), (l2, .inl (cI, 11, .inl (fN rc)))]) (w1 := [(h0, .inr (0, [.ref h1, .ref h2, .int (nI (hpN q))])), (h1, .inl (cI, 20, .inl (fN (hpF q hf fi)))), (h2, .inl (cI, 20, .inl (fN (hpF q hs (S fi)))))]) (lc := [h0, h1, h2]) hP hD [9, 10, 11] [0, 1, 2, 3, 4, 5, 6, 7, 8, 12, 13, 14] rfl rfl (by decide) hk_ hP1
  have hP : va_P D vwCl [(x0, .inr (6, [.ref k0, .ref t0, .ref h0, .ref l0, .int (nI li.toNat), .ref u0, .ref m0, .ref w0, .ref p0, .int (nI pl.toNat)])), (k0, .inr (1, [.ref k1, .ref k2, .ref k3, .ref k4, .ref k5, .ref k6])), (k1, .inl (cI, 10, .inl (fN K.1))), (k2, .inl (cI, 10, .inl (fN K.2.1))), (k3, .inl (cI, 10, .inl (fN (lfM K)))), (k4, .inl (cI, 10, .inl (fN (mfM K)))), (k5, .inl (cI, 12, .inl (fN (lcM K)))), (k6, .inl (cI, 12, .inl (fN (mcM K)))), (t0, .inr (5, [.int (nI (thM S)), .int (nI (abM S))])), (l0, .inr (2, [.ref k0, .ref l1, .int (nI N), .long (lN T), .ref l2, .int (nI te), .int (nI ex)])), (l1, .inl (cJ, 252, .inr (.inl (fL g)))), (l2, .inl (cI, 11, .inl (fN rc))), (h0, .inr (0, [.ref h1, .ref h2, .int (nI (hpN q))])), (h1, .inl (cI, 20, .inl (fN (hpF q hf fi)))), (h2, .inl (cI, 20, .inl (fN (hpF q hs (S fi)))))] H := hP
  have hD : va_D (aA [x0, k0, k1, k2, k3, k4, k5, k6, t0, h0, h1, h2, l0, l1, l2]) [(x0, .inr (6, [.ref k0, .ref t0, .ref h0, .ref l0, .int (nI li.toNat), .ref u0, .ref m0, .ref w0, .ref p0, .int (nI pl.toNat)])), (k0, .inr (1, [.ref k1, .ref k2, .ref k3, .ref k4, .ref k5, .ref k6])), (k1, .inl (cI, 10, .inl (fN K.1))), (k2, .inl (cI, 10, .inl (fN K.2.1))), (k3, .inl (cI, 10, .inl (fN (lfM K)))), (k4, .inl (cI, 10, .inl (fN (mfM K)))), (k5, .inl (cI, 12, .inl (fN (lcM K)))), (k6, .inl (cI, 12, .inl (fN (mcM K)))), (t0, .inr (5, [.int (nI (thM S)), .int (nI (abM S))])), (l0, .inr (2, [.ref k0, .ref l1, .int (nI N), .long (lN T), .ref l2, .int (nI te), .int (nI ex)])), (l1, .inl (cJ, 252, .inr (.inl (fL g)))), (l2, .inl (cI, 11, .inl (fN rc))), (h0, .inr (0, [.ref h1, .ref h2, .int (nI (hpN q))])), (h1, .inl (cI, 20, .inl (fN (hpF q hf fi)))), (h2, .inl (cI, 20, .inl (fN (hpF q hs (S fi)))))] := hD.re [0, 1, 2, 3, 4, 5, 6, 7, 8, 12, 13, 14, 9, 10, 11] (by decide) rfl
  refine lv_aload_n hx hb dX6_changeFinding_16 rfl (lv_at hl 0 rfl) ?_
  refine va_get (D := D) (ci := 6) (v := .ref t0) (C := RX6) (T := TX6) (N := 10) hx hb hts inA6 hown hK.1 hP 0 rfl rfl 1 (by decide) (hts _ kf_RX6_21) (fun _ h9 => h9) rfl dX6_changeFinding_17 ?_
  refine lv_iload_n hx hb dX6_changeFinding_20 rfl (lv_at hl 1 rfl) ?_
  refine lv_iload_n hx hb dX6_changeFinding_21 rfl (lv_at hl 2 rfl) ?_
  refine mc_v (va_runV (As := [.int (nI fi), .int (nI v)]) (rest := []) ⟨hx, hb, hml, hown, hts⟩ (mt_X5_put l D cI cJ cZ t0 S fi v (nd_sub hN [8] (by decide) rfl) (hfi) (by first | assumption | omega)) (cwV 2 hts (gV km_RX6_219 ki_yX5_put kl_yX5_put kn_RX5 kc_yX5_put) rfl rfl rfl (by decide +kernel) (by rw [hR]; exact ⟨Nat.le_of_ble_eq_true rfl, Nat.le_of_ble_eq_true rfl⟩)) (cP_V (q0 := 0) (ci := 5) hK (hP.sub [8] rfl) rfl rfl) rfl rfl hl.1 rfl (lv_room (Nat.le_of_ble_eq_true rfl)) dX6_changeFinding_22 ⟨Nat.zero_le _, Nat.zero_le _⟩) hS (aA_sub [8] rfl) (fun H locs hp_ hk_ hS => ?_)
  have hP1 := hp_
  have hP := pj (wr := [(x0, .inr (6, [.ref k0, .ref t0, .ref h0, .ref l0, .int (nI li.toNat), .ref u0, .ref m0, .ref w0, .ref p0, .int (nI pl.toNat)])), (k0, .inr (1, [.ref k1, .ref k2, .ref k3, .ref k4, .ref k5, .ref k6])), (k1, .inl (cI, 10, .inl (fN K.1))), (k2, .inl (cI, 10, .inl (fN K.2.1))), (k3, .inl (cI, 10, .inl (fN (lfM K)))), (k4, .inl (cI, 10, .inl (fN (mfM K)))), (k5, .inl (cI, 12, .inl (fN (lcM K)))), (k6, .inl (cI, 12, .inl (fN (mcM K)))), (l0, .inr (2, [.ref k0, .ref l1, .int (nI N), .long (lN T), .ref l2, .int (nI te), .int (nI ex)])), (l1, .inl (cJ, 252, .inr (.inl (fL g)))), (l2, .inl (cI, 11, .inl (fN rc))), (h0, .inr (0, [.ref h1, .ref h2, .int (nI (hpN q))])), (h1, .inl (cI, 20, .inl (fN (hpF q hf fi)))), (h2, .inl (cI, 20, .inl (fN (hpF q hs (S fi)))))]) (w1 := [(t0, .inr (5, [.int (nI (thM (va_up S fi v))), .int (nI (abM (va_up S fi v)))]))]) (lc := [t0]) hP hD [8] [0, 1, 2, 3, 4, 5, 6, 7, 9, 10, 11, 12, 13, 14] rfl rfl (by decide) hk_ hP1
  have hP : va_P D vwCl [(x0, .inr (6, [.ref k0, .ref t0, .ref h0, .ref l0, .int (nI li.toNat), .ref u0, .ref m0, .ref w0, .ref p0, .int (nI pl.toNat)])), (k0, .inr (1, [.ref k1, .ref k2, .ref k3, .ref k4, .ref k5, .ref k6])), (k1, .inl (cI, 10, .inl (fN K.1))), (k2, .inl (cI, 10, .inl (fN K.2.1))), (k3, .inl (cI, 10, .inl (fN (lfM K)))), (k4, .inl (cI, 10, .inl (fN (mfM K)))), (k5, .inl (cI, 12, .inl (fN (lcM K)))), (k6, .inl (cI, 12, .inl (fN (mcM K)))), (l0, .inr (2, [.ref k0, .ref l1, .int (nI N), .long (lN T), .ref l2, .int (nI te), .int (nI ex)])), (l1, .inl (cJ, 252, .inr (.inl (fL g)))), (l2, .inl (cI, 11, .inl (fN rc))), (h0, .inr (0, [.ref h1, .ref h2, .int (nI (hpN q))])), (h1, .inl (cI, 20, .inl (fN (hpF q hf fi)))), (h2, .inl (cI, 20, .inl (fN (hpF q hs (S fi))))), (t0, .inr (5, [.int (nI (thM (va_up S fi v))), .int (nI (abM (va_up S fi v)))]))] H := hP
  have hD : va_D (aA [x0, k0, k1, k2, k3, k4, k5, k6, t0, h0, h1, h2, l0, l1, l2]) [(x0, .inr (6, [.ref k0, .ref t0, .ref h0, .ref l0, .int (nI li.toNat), .ref u0, .ref m0, .ref w0, .ref p0, .int (nI pl.toNat)])), (k0, .inr (1, [.ref k1, .ref k2, .ref k3, .ref k4, .ref k5, .ref k6])), (k1, .inl (cI, 10, .inl (fN K.1))), (k2, .inl (cI, 10, .inl (fN K.2.1))), (k3, .inl (cI, 10, .inl (fN (lfM K)))), (k4, .inl (cI, 10, .inl (fN (mfM K)))), (k5, .inl (cI, 12, .inl (fN (lcM K)))), (k6, .inl (cI, 12, .inl (fN (mcM K)))), (l0, .inr (2, [.ref k0, .ref l1, .int (nI N), .long (lN T), .ref l2, .int (nI te), .int (nI ex)])), (l1, .inl (cJ, 252, .inr (.inl (fL g)))), (l2, .inl (cI, 11, .inl (fN rc))), (h0, .inr (0, [.ref h1, .ref h2, .int (nI (hpN q))])), (h1, .inl (cI, 20, .inl (fN (hpF q hf fi)))), (h2, .inl (cI, 20, .inl (fN (hpF q hs (S fi))))), (t0, .inr (5, [.int (nI (thM (va_up S fi v))), .int (nI (abM (va_up S fi v)))]))] := hD.re [0, 1, 2, 3, 4, 5, 6, 7, 9, 10, 11, 12, 13, 14, 8] (by decide) rfl
  refine lv_aload_n hx hb dX6_changeFinding_25 rfl (lv_at hl 0 rfl) ?_
  refine mc_v (va_runV (As := []) (rest := []) ⟨hx, hb, hml, hown, hts⟩ (mt_X6_forgetWhatFollowed l D cI cJ cZ x0 t0 h0 l0 u0 m0 w0 p0 li pl k0 (nd_sub hN [0] (by decide) rfl)) (cwV 0 hts (gV km_RX6_75 ki_yX6_forgetWhatFollowed kl_yX6_forgetWhatFollowed kn_RX6 kc_yX6_forgetWhatFollowed) rfl rfl rfl (by decide +kernel) (by rw [hR]; exact ⟨Nat.le_of_ble_eq_true rfl, Nat.le_of_ble_eq_true rfl⟩)) (cP_V (q0 := 0) (ci := 6) hK (hP.sub [0] rfl) rfl rfl) rfl rfl hl.1 rfl (lv_room (Nat.le_of_ble_eq_true rfl)) dX6_changeFinding_26 ⟨Nat.zero_le _, Nat.zero_le _⟩) hS (aA_sub [0] rfl) (fun H locs hp_ hk_ hS => ?_)
  have hP1 := hp_
  have hP := pj (wr := [(k0, .inr (1, [.ref k1, .ref k2, .ref k3, .ref k4, .ref k5, .ref k6])), (k1, .inl (cI, 10, .inl (fN K.1))), (k2, .inl (cI, 10, .inl (fN K.2.1))), (k3, .inl (cI, 10, .inl (fN (lfM K)))), (k4, .inl (cI, 10, .inl (fN (mfM K)))), (k5, .inl (cI, 12, .inl (fN (lcM K)))), (k6, .inl (cI, 12, .inl (fN (mcM K)))), (l0, .inr (2, [.ref k0, .ref l1, .int (nI N), .long (lN T), .ref l2, .int (nI te), .int (nI ex)])), (l1, .inl (cJ, 252, .inr (.inl (fL g)))), (l2, .inl (cI, 11, .inl (fN rc))), (h0, .inr (0, [.ref h1, .ref h2, .int (nI (hpN q))])), (h1, .inl (cI, 20, .inl (fN (hpF q hf fi)))), (h2, .inl (cI, 20, .inl (fN (hpF q hs (S fi))))), (t0, .inr (5, [.int (nI (thM (va_up S fi v))), .int (nI (abM (va_up S fi v)))]))]) (w1 := [(x0, .inr (6, [.ref k0, .ref t0, .ref h0, .ref l0, .int (nI false.toNat), .ref u0, .ref m0, .ref w0, .ref p0, .int (nI false.toNat)]))]) (lc := [x0]) hP hD [0] [1, 2, 3, 4, 5, 6, 7, 8, 9, 10, 11, 12, 13, 14] rfl rfl (by decide) hk_ hP1
  have hP : va_P D vwCl [(k0, .inr (1, [.ref k1, .ref k2, .ref k3, .ref k4, .ref k5, .ref k6])), (k1, .inl (cI, 10, .inl (fN K.1))), (k2, .inl (cI, 10, .inl (fN K.2.1))), (k3, .inl (cI, 10, .inl (fN (lfM K)))), (k4, .inl (cI, 10, .inl (fN (mfM K)))), (k5, .inl (cI, 12, .inl (fN (lcM K)))), (k6, .inl (cI, 12, .inl (fN (mcM K)))), (l0, .inr (2, [.ref k0, .ref l1, .int (nI N), .long (lN T), .ref l2, .int (nI te), .int (nI ex)])), (l1, .inl (cJ, 252, .inr (.inl (fL g)))), (l2, .inl (cI, 11, .inl (fN rc))), (h0, .inr (0, [.ref h1, .ref h2, .int (nI (hpN q))])), (h1, .inl (cI, 20, .inl (fN (hpF q hf fi)))), (h2, .inl (cI, 20, .inl (fN (hpF q hs (S fi))))), (t0, .inr (5, [.int (nI (thM (va_up S fi v))), .int (nI (abM (va_up S fi v)))])), (x0, .inr (6, [.ref k0, .ref t0, .ref h0, .ref l0, .int (nI false.toNat), .ref u0, .ref m0, .ref w0, .ref p0, .int (nI false.toNat)]))] H := hP
  have hD : va_D (aA [x0, k0, k1, k2, k3, k4, k5, k6, t0, h0, h1, h2, l0, l1, l2]) [(k0, .inr (1, [.ref k1, .ref k2, .ref k3, .ref k4, .ref k5, .ref k6])), (k1, .inl (cI, 10, .inl (fN K.1))), (k2, .inl (cI, 10, .inl (fN K.2.1))), (k3, .inl (cI, 10, .inl (fN (lfM K)))), (k4, .inl (cI, 10, .inl (fN (mfM K)))), (k5, .inl (cI, 12, .inl (fN (lcM K)))), (k6, .inl (cI, 12, .inl (fN (mcM K)))), (l0, .inr (2, [.ref k0, .ref l1, .int (nI N), .long (lN T), .ref l2, .int (nI te), .int (nI ex)])), (l1, .inl (cJ, 252, .inr (.inl (fL g)))), (l2, .inl (cI, 11, .inl (fN rc))), (h0, .inr (0, [.ref h1, .ref h2, .int (nI (hpN q))])), (h1, .inl (cI, 20, .inl (fN (hpF q hf fi)))), (h2, .inl (cI, 20, .inl (fN (hpF q hs (S fi))))), (t0, .inr (5, [.int (nI (thM (va_up S fi v))), .int (nI (abM (va_up S fi v)))])), (x0, .inr (6, [.ref k0, .ref t0, .ref h0, .ref l0, .int (nI false.toNat), .ref u0, .ref m0, .ref w0, .ref p0, .int (nI false.toNat)]))] := hD.re [1, 2, 3, 4, 5, 6, 7, 8, 9, 10, 11, 12, 13, 14, 0] (by decide) rfl
  refine lv_aload_n hx hb dX6_changeFinding_29 rfl (lv_at hl 0 rfl) ?_
  refine mc_r (va_runV (As := []) (rest := []) ⟨hx, hb, hml, hown, hts⟩ (mt_X6_upToDate l D cI cJ cZ ga gb x0 t0 h0 l0 u0 m0 w0 p0 false false k0 k1 k2 k3 k4 k5 k6 K (va_up S fi v) l1 l2 N T te ex g rc (nd_sub hN [0, 1, 2, 3, 4, 5, 6, 7, 8, 12, 13, 14] (by decide) rfl) (fun h => hga (aA_sub [0, 1, 2, 3, 4, 5, 6, 7, 8, 12, 13, 14] rfl _ h)) (fun h => hgb (aA_sub [0, 1, 2, 3, 4, 5, 6, 7, 8, 12, 13, 14] rfl _ h)) (by first | assumption | omega) (by first | assumption | omega) (fun h => by cases h)) (cwV 0 hts (gV km_RX6_107 ki_yX6_upToDate kl_yX6_upToDate kn_RX6 kc_yX6_upToDate) rfl rfl rfl (by decide +kernel) (by rw [hR]; exact ⟨Nat.le_of_ble_eq_true rfl, Nat.le_of_ble_eq_true rfl⟩)) (cG_V (q0 := 0) (ci := 6) hK (hP.sub [14, 0, 1, 2, 3, 4, 5, 6, 13, 7, 8, 9] rfl) (hG.now hS hga hgb) rfl rfl) rfl rfl hl.1 rfl (lv_room (Nat.le_of_ble_eq_true rfl)) dX6_changeFinding_30 ⟨Nat.zero_le _, Nat.zero_le _⟩) hS (aA_sub [0, 1, 2, 3, 4, 5, 6, 7, 8, 12, 13, 14] rfl) (fun H locs hp_ hk_ hS => ?_)
  obtain ⟨g1_4, rc1_4, te1_4, ex1_4, hk1_4, hrc1_4, hP1⟩ := hp_
  have hP := pj (wr := [(h0, .inr (0, [.ref h1, .ref h2, .int (nI (hpN q))])), (h1, .inl (cI, 20, .inl (fN (hpF q hf fi)))), (h2, .inl (cI, 20, .inl (fN (hpF q hs (S fi)))))]) (w1 := [(x0, .inr (6, [.ref k0, .ref t0, .ref h0, .ref l0, .int (nI true.toNat), .ref u0, .ref m0, .ref w0, .ref p0, .int (nI false.toNat)])), (k0, .inr (1, [.ref k1, .ref k2, .ref k3, .ref k4, .ref k5, .ref k6])), (k1, .inl (cI, 10, .inl (fN K.1))), (k2, .inl (cI, 10, .inl (fN K.2.1))), (k3, .inl (cI, 10, .inl (fN (lfM K)))), (k4, .inl (cI, 10, .inl (fN (mfM K)))), (k5, .inl (cI, 12, .inl (fN (lcM K)))), (k6, .inl (cI, 12, .inl (fN (mcM K)))), (t0, .inr (5, [.int (nI (thM (va_up S fi v))), .int (nI (abM (va_up S fi v)))])), (l0, .inr (2, [.ref k0, .ref l1, .int (nI (nE K (va_up S fi v))), .long (lN (tot K (va_up S fi v))), .ref l2, .int (nI te1_4), .int (nI ex1_4)])), (l1, .inl (cJ, 252, .inr (.inl (fL g1_4)))), (l2, .inl (cI, 11, .inl (fN rc1_4)))]) (lc := [x0, k0, k1, k2, k3, k4, k5, k6, t0, l0, l1, l2]) hP hD [14, 0, 1, 2, 3, 4, 5, 6, 13, 7, 8, 9] [10, 11, 12] rfl rfl (by decide) hk_ hP1
  have hP : va_P D vwCl [(h0, .inr (0, [.ref h1, .ref h2, .int (nI (hpN q))])), (h1, .inl (cI, 20, .inl (fN (hpF q hf fi)))), (h2, .inl (cI, 20, .inl (fN (hpF q hs (S fi))))), (x0, .inr (6, [.ref k0, .ref t0, .ref h0, .ref l0, .int (nI true.toNat), .ref u0, .ref m0, .ref w0, .ref p0, .int (nI false.toNat)])), (k0, .inr (1, [.ref k1, .ref k2, .ref k3, .ref k4, .ref k5, .ref k6])), (k1, .inl (cI, 10, .inl (fN K.1))), (k2, .inl (cI, 10, .inl (fN K.2.1))), (k3, .inl (cI, 10, .inl (fN (lfM K)))), (k4, .inl (cI, 10, .inl (fN (mfM K)))), (k5, .inl (cI, 12, .inl (fN (lcM K)))), (k6, .inl (cI, 12, .inl (fN (mcM K)))), (t0, .inr (5, [.int (nI (thM (va_up S fi v))), .int (nI (abM (va_up S fi v)))])), (l0, .inr (2, [.ref k0, .ref l1, .int (nI (nE K (va_up S fi v))), .long (lN (tot K (va_up S fi v))), .ref l2, .int (nI te1_4), .int (nI ex1_4)])), (l1, .inl (cJ, 252, .inr (.inl (fL g1_4)))), (l2, .inl (cI, 11, .inl (fN rc1_4)))] H := hP
  have hD : va_D (aA [x0, k0, k1, k2, k3, k4, k5, k6, t0, h0, h1, h2, l0, l1, l2]) [(h0, .inr (0, [.ref h1, .ref h2, .int (nI (hpN q))])), (h1, .inl (cI, 20, .inl (fN (hpF q hf fi)))), (h2, .inl (cI, 20, .inl (fN (hpF q hs (S fi))))), (x0, .inr (6, [.ref k0, .ref t0, .ref h0, .ref l0, .int (nI true.toNat), .ref u0, .ref m0, .ref w0, .ref p0, .int (nI false.toNat)])), (k0, .inr (1, [.ref k1, .ref k2, .ref k3, .ref k4, .ref k5, .ref k6])), (k1, .inl (cI, 10, .inl (fN K.1))), (k2, .inl (cI, 10, .inl (fN K.2.1))), (k3, .inl (cI, 10, .inl (fN (lfM K)))), (k4, .inl (cI, 10, .inl (fN (mfM K)))), (k5, .inl (cI, 12, .inl (fN (lcM K)))), (k6, .inl (cI, 12, .inl (fN (mcM K)))), (t0, .inr (5, [.int (nI (thM (va_up S fi v))), .int (nI (abM (va_up S fi v)))])), (l0, .inr (2, [.ref k0, .ref l1, .int (nI (nE K (va_up S fi v))), .long (lN (tot K (va_up S fi v))), .ref l2, .int (nI te1_4), .int (nI ex1_4)])), (l1, .inl (cJ, 252, .inr (.inl (fL g1_4)))), (l2, .inl (cI, 11, .inl (fN rc1_4)))] := hD.re [10, 11, 12, 14, 0, 1, 2, 3, 4, 5, 6, 13, 7, 8, 9] (by decide) rfl
  refine va_get (D := D) (ci := 2) (v := .int (nI (nE K (va_up S fi v)))) (C := RX2) (T := TX2) (N := 7) hx hb hts inA2 hown hK.1 hP 12 rfl rfl 2 (by decide) (hts _ kf_RX6_136) (fun _ h9 => h9) rfl dX6_changeFinding_33 ?_
  rw [hQ]
  exact W.iret (v := nI (nE K (va_up S fi v))) hx hb hr (fun t ht hW => ⟨⟨_, H, rfl, ⟨g1_4, rc1_4, te1_4, ex1_4, rfl, hk1_4, hrc1_4, hP.sub [3, 4, 5, 6, 7, 8, 9, 10, 11, 0, 1, 2, 12, 13, 14] rfl⟩, ht⟩, hS.F ht⟩) hS.2.2 dX6_changeFinding_36
