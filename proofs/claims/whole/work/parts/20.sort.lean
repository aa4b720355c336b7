set_option maxHeartbeats 4000000 in
set_option maxRecDepth 100000 in
theorem mt_X2_list (l : Launch) (D : va_G) (cI cJ cZ : ClassId) (l0 : Nat) (l1 : Nat) (l2 : Nat) (N : Nat) (T : Nat) (te : Nat) (ex : Nat) (g : Nat → Nat) (rc : Nat → Nat) (k0 : Nat) (k1 : Nat) (k2 : Nat) (k3 : Nat) (k4 : Nat) (k5 : Nat) (k6 : Nat) (K : Kn) (t0 : Nat) (S : Nat → Nat) (hN : [l0, l1, l2, k0, k1, k2, k3, k4, k5, k6, t0].Nodup) (hKO : KO K) (hrc0 : rc 0 = 0) : Met l yX2_list (aW yX2_list cX2_list 4 none) { frames := 14, cells := 0, slots := 0, locals := 390 } (cP D cI cJ cZ [.ref l0, .ref t0] [(l0, .inr (2, [.ref k0, .ref l1, .int (nI N), .long (lN T), .ref l2, .int (nI te), .int (nI ex)])), (l1, .inl (cJ, 252, .inr (.inl (fL g)))), (l2, .inl (cI, 11, .inl (fN rc))), (k0, .inr (1, [.ref k1, .ref k2, .ref k3, .ref k4, .ref k5, .ref k6])), (k1, .inl (cI, 10, .inl (fN K.1))), (k2, .inl (cI, 10, .inl (fN K.2.1))), (k3, .inl (cI, 10, .inl (fN (lfM K)))), (k4, .inl (cI, 10, .inl (fN (mfM K)))), (k5, .inl (cI, 12, .inl (fN (lcM K)))), (k6, .inl (cI, 12, .inl (fN (mcM K)))), (t0, .inr (5, [.int (nI (thM S)), .int (nI (abM S))]))]) (va_Qv (fun H1 : Heap => ∃ (g1 : Nat → Nat) (rc1 : Nat → Nat), (∀ k, k < nE K S → g1 k = key K (eU K S k)) ∧ (rc1 0 = 0) ∧ va_P D vwCl [(l0, .inr (2, [.ref k0, .ref l1, .int (nI (nE K S)), .long (lN (tot K S)), .ref l2, .int (nI (thM S)), .int (nI (exM K S))])), (l1, .inl (cJ, 252, .inr (.inl (fL g1)))), (l2, .inl (cI, 11, .inl (fN rc1))), (k0, .inr (1, [.ref k1, .ref k2, .ref k3, .ref k4, .ref k5, .ref k6])), (k1, .inl (cI, 10, .inl (fN K.1))), (k2, .inl (cI, 10, .inl (fN K.2.1))), (k3, .inl (cI, 10, .inl (fN (lfM K)))), (k4, .inl (cI, 10, .inl (fN (mfM K)))), (k5, .inl (cI, 12, .inl (fN (lcM K)))), (k6, .inl (cI, 12, .inl (fN (mcM K)))), (t0, .inr (5, [.int (nI (thM S)), .int (nI (abM S))]))] H1) mB (aA [l0, l1, l2, k0, k1, k2, k3, k4, k5, k6, t0])) 0 0 (aA [l0, l1, l2, k0, k1, k2, k3, k4, k5, k6, t0]) := by
  refine Met.ofW (cc := cX2_list) (maxL := 4) (ret := none) (by decide) rfl ?_
  intro p e s m args below meth c s₁ B hml hv
  obtain ⟨hav, hP, hK⟩ := hv
  have hx := B.exec
  have hb := B.bytes
  have hr := B.returns
  have hts := aW_in (atoms_spec (ws := aW yX2_list cX2_list 4 none) B.pre)
  have hown : s.vm.findClass RX2 = some m.cls := findClass_of_methodNamed B.named
  have hlocks := B.notSynchronized
  obtain ⟨R, hR⟩ : ∃ R, R = (headSpec (aW yX2_list cX2_list 4 none) { frames := 14, cells := 0, slots := 0, locals := 390 }).room := ⟨_, rfl⟩
  rw [← hR]
  obtain ⟨Q, hQ⟩ : ∃ Q, Q = MQ below (va_Qv (fun H1 : Heap => ∃ (g1 : Nat → Nat) (rc1 : Nat → Nat), (∀ k, k < nE K S → g1 k = key K (eU K S k)) ∧ (rc1 0 = 0) ∧ va_P D vwCl [(l0, .inr (2, [.ref k0, .ref l1, .int (nI (nE K S)), .long (lN (tot K S)), .ref l2, .int (nI (thM S)), .int (nI (exM K S))])), (l1, .inl (cJ, 252, .inr (.inl (fL g1)))), (l2, .inl (cI, 11, .inl (fN rc1))), (k0, .inr (1, [.ref k1, .ref k2, .ref k3, .ref k4, .ref k5, .ref k6])), (k1, .inl (cI, 10, .inl (fN K.1))), (k2, .inl (cI, 10, .inl (fN K.2.1))), (k3, .inl (cI, 10, .inl (fN (lfM K)))), (k4, .inl (cI, 10, .inl (fN (mfM K)))), (k5, .inl (cI, 12, .inl (fN (lcM K)))), (k6, .inl (cI, 12, .inl (fN (mcM K)))), (t0, .inr (5, [.int (nI (thM S)), .int (nI (abM S))]))] H1) mB (aA [l0, l1, l2, k0, k1, k2, k3, k4, k5, k6, t0])) args s 0 0 (aA [l0, l1, l2, k0, k1, k2, k3, k4, k5, k6, t0]) := ⟨_, rfl⟩
  rw [← hQ]
  have hl := lv_entry [.ref l0, .ref t0] (n := 4) (Nat.le_of_ble_eq_true rfl)
  have hent := lg_entry_eq m [.ref l0, .ref t0] 4
  rw [← hav] at hent
  rw [hent]
  generalize (lg_sl [.ref l0, .ref t0] ++ List.replicate (4 - (lg_sl [.ref l0, .ref t0]).length) Slot.unset).toArray = ls at hl ⊢
  have hl : lv_has ls 4 [(0, .ref l0), (1, .ref t0)] := hl
  have hD : va_D (aA [l0, l1, l2, k0, k1, k2, k3, k4, k5, k6, t0]) [(l0, .inr (2, [.ref k0, .ref l1, .int (nI N), .long (lN T), .ref l2, .int (nI te), .int (nI ex)])), (l1, .inl (cJ, 252, .inr (.inl (fL g)))), (l2, .inl (cI, 11, .inl (fN rc))), (k0, .inr (1, [.ref k1, .ref k2, .ref k3, .ref k4, .ref k5, .ref k6])), (k1, .inl (cI, 10, .inl (fN K.1))), (k2, .inl (cI, 10, .inl (fN K.2.1))), (k3, .inl (cI, 10, .inl (fN (lfM K)))), (k4, .inl (cI, 10, .inl (fN (mfM K)))), (k5, .inl (cI, 12, .inl (fN (lcM K)))), (k6, .inl (cI, 12, .inl (fN (mcM K)))), (t0, .inr (5, [.int (nI (thM S)), .int (nI (abM S))]))] := nd_D hN rfl
  have hS : va_S (aA [l0, l1, l2, k0, k1, k2, k3, k4, k5, k6, t0]) s.heap s.heap [] := va_S.rf
  have hP : va_P D vwCl [(l0, .inr (2, [.ref k0, .ref l1, .int (nI N), .long (lN T), .ref l2, .int (nI te), .int (nI ex)])), (l1, .inl (cJ, 252, .inr (.inl (fL g)))), (l2, .inl (cI, 11, .inl (fN rc))), (k0, .inr (1, [.ref k1, .ref k2, .ref k3, .ref k4, .ref k5, .ref k6])), (k1, .inl (cI, 10, .inl (fN K.1))), (k2, .inl (cI, 10, .inl (fN K.2.1))), (k3, .inl (cI, 10, .inl (fN (lfM K)))), (k4, .inl (cI, 10, .inl (fN (mfM K)))), (k5, .inl (cI, 12, .inl (fN (lcM K)))), (k6, .inl (cI, 12, .inl (fN (mcM K)))), (t0, .inr (5, [.int (nI (thM S)), .int (nI (abM S))]))] s.heap := hP
  obtain ⟨H, hH⟩ : ∃ H, H = s.heap := ⟨_, rfl⟩
  rw [← hH] at hP
  obtain ⟨locs, hlocs⟩ : ∃ q : List Loc, q = [] := ⟨_, rfl⟩
  have hS : va_S (aA [l0, l1, l2, k0, k1, k2, k3, k4, k5, k6, t0]) s.heap H locs := by rw [hH, hlocs]; exact hS
  rw [← hH, ← hlocs]
  clear hH hlocs
  refine lv_aload_n hx hb dX2_list_0 rfl (lv_at hl 0 rfl) ?_
  refine lv_iconst (v := nI 0) hx hb dX2_list_1 (by decide) ?_
  refine va_put (D := D) (ci := 2) (v := .int (nI 0)) (ty := .int) (C := RX2) (T := TX2) (N := 7) hx hb hts inA2 tyX2 tyX2_ok nmX2 hown hK.1 hP hD hS 0 rfl rfl 2 (by decide) (hts _ kf_RX2_23) (fun _ h9 => h9) rfl (by decide +kernel) (rfl) (rfl) (Nat.le_of_ble_eq_true rfl) dX2_list_2 (fun H locs hP hD hS => ?_)
  have hP : va_P D vwCl [(l0, .inr (2, [.ref k0, .ref l1, .int (nI 0), .long (lN T), .ref l2, .int (nI te), .int (nI ex)])), (l1, .inl (cJ, 252, .inr (.inl (fL g)))), (l2, .inl (cI, 11, .inl (fN rc))), (k0, .inr (1, [.ref k1, .ref k2, .ref k3, .ref k4, .ref k5, .ref k6])), (k1, .inl (cI, 10, .inl (fN K.1))), (k2, .inl (cI, 10, .inl (fN K.2.1))), (k3, .inl (cI, 10, .inl (fN (lfM K)))), (k4, .inl (cI, 10, .inl (fN (mfM K)))), (k5, .inl (cI, 12, .inl (fN (lcM K)))), (k6, .inl (cI, 12, .inl (fN (mcM K)))), (t0, .inr (5, [.int (nI (thM S)), .int (nI (abM S))]))] H := hP
  have hD : va_D (aA [l0, l1, l2, k0, k1, k2, k3, k4, k5, k6, t0]) [(l0, .inr (2, [.ref k0, .ref l1, .int (nI 0), .long (lN T), .ref l2, .int (nI te), .int (nI ex)])), (l1, .inl (cJ, 252, .inr (.inl (fL g)))), (l2, .inl (cI, 11, .inl (fN rc))), (k0, .inr (1, [.ref k1, .ref k2, .ref k3, .ref k4, .ref k5, .ref k6])), (k1, .inl (cI, 10, .inl (fN K.1))), (k2, .inl (cI, 10, .inl (fN K.2.1))), (k3, .inl (cI, 10, .inl (fN (lfM K)))), (k4, .inl (cI, 10, .inl (fN (mfM K)))), (k5, .inl (cI, 12, .inl (fN (lcM K)))), (k6, .inl (cI, 12, .inl (fN (mcM K)))), (t0, .inr (5, [.int (nI (thM S)), .int (nI (abM S))]))] := hD
  refine lv_aload_n hx hb dX2_list_5 rfl (lv_at hl 0 rfl) ?_
  refine lv_lconst (v := lN 0) hx hb dX2_list_6 rfl ?_
  refine va_put (D := D) (ci := 2) (v := .long (lN 0)) (ty := .long) (C := RX2) (T := TX2) (N := 7) hx hb hts inA2 tyX2 tyX2_ok nmX2 hown hK.1 hP hD hS 0 rfl rfl 3 (by decide) (hts _ kf_RX2_27) (fun _ h9 => h9) rfl (by decide +kernel) (rfl) (rfl) (Nat.le_of_ble_eq_true rfl) dX2_list_7 (fun H locs hP hD hS => ?_)
  have hP : va_P D vwCl [(l0, .inr (2, [.ref k0, .ref l1, .int (nI 0), .long (lN 0), .ref l2, .int (nI te), .int (nI ex)])), (l1, .inl (cJ, 252, .inr (.inl (fL g)))), (l2, .inl (cI, 11, .inl (fN rc))), (k0, .inr (1, [.ref k1, .ref k2, .ref k3, .ref k4, .ref k5, .ref k6])), (k1, .inl (cI, 10, .inl (fN K.1))), (k2, .inl (cI, 10, .inl (fN K.2.1))), (k3, .inl (cI, 10, .inl (fN (lfM K)))), (k4, .inl (cI, 10, .inl (fN (mfM K)))), (k5, .inl (cI, 12, .inl (fN (lcM K)))), (k6, .inl (cI, 12, .inl (fN (mcM K)))), (t0, .inr (5, [.int (nI (thM S)), .int (nI (abM S))]))] H := hP
  have hD : va_D (aA [l0, l1, l2, k0, k1, k2, k3, k4, k5, k6, t0]) [(l0, .inr (2, [.ref k0, .ref l1, .int (nI 0), .long (lN 0), .ref l2, .int (nI te), .int (nI ex)])), (l1, .inl (cJ, 252, .inr (.inl (fL g)))), (l2, .inl (cI, 11, .inl (fN rc))), (k0, .inr (1, [.ref k1, .ref k2, .ref k3, .ref k4, .ref k5, .ref k6])), (k1, .inl (cI, 10, .inl (fN K.1))), (k2, .inl (cI, 10, .inl (fN K.2.1))), (k3, .inl (cI, 10, .inl (fN (lfM K)))), (k4, .inl (cI, 10, .inl (fN (mfM K)))), (k5, .inl (cI, 12, .inl (fN (lcM K)))), (k6, .inl (cI, 12, .inl (fN (mcM K)))), (t0, .inr (5, [.int (nI (thM S)), .int (nI (abM S))]))] := hD
  refine lv_aload_n hx hb dX2_list_10 rfl (lv_at hl 0 rfl) ?_
  refine lv_aload_n hx hb dX2_list_11 rfl (lv_at hl 1 rfl) ?_
  refine va_get (D := D) (ci := 5) (v := .int (nI (thM S))) (C := RX5) (T := TX5) (N := 2) hx hb hts inA5 hown hK.1 hP 10 rfl rfl 0 (by decide) (hts _ kf_RX2_31) (fun _ h9 => h9) rfl dX2_list_12 ?_
  refine va_put (D := D) (ci := 2) (v := .int (nI (thM S))) (ty := .int) (C := RX2) (T := TX2) (N := 7) hx hb hts inA2 tyX2 tyX2_ok nmX2 hown hK.1 hP hD hS 0 rfl rfl 5 (by decide) (hts _ kf_RX2_36) (fun _ h9 => h9) rfl (by decide +kernel) (rfl) (rfl) (Nat.le_of_ble_eq_true rfl) dX2_list_15 (fun H locs hP hD hS => ?_)
  have hP : va_P D vwCl [(l0, .inr (2, [.ref k0, .ref l1, .int (nI 0), .long (lN 0), .ref l2, .int (nI (thM S)), .int (nI ex)])), (l1, .inl (cJ, 252, .inr (.inl (fL g)))), (l2, .inl (cI, 11, .inl (fN rc))), (k0, .inr (1, [.ref k1, .ref k2, .ref k3, .ref k4, .ref k5, .ref k6])), (k1, .inl (cI, 10, .inl (fN K.1))), (k2, .inl (cI, 10, .inl (fN K.2.1))), (k3, .inl (cI, 10, .inl (fN (lfM K)))), (k4, .inl (cI, 10, .inl (fN (mfM K)))), (k5, .inl (cI, 12, .inl (fN (lcM K)))), (k6, .inl (cI, 12, .inl (fN (mcM K)))), (t0, .inr (5, [.int (nI (thM S)), .int (nI (abM S))]))] H := hP
  have hD : va_D (aA [l0, l1, l2, k0, k1, k2, k3, k4, k5, k6, t0]) [(l0, .inr (2, [.ref k0, .ref l1, .int (nI 0), .long (lN 0), .ref l2, .int (nI (thM S)), .int (nI ex)])), (l1, .inl (cJ, 252, .inr (.inl (fL g)))), (l2, .inl (cI, 11, .inl (fN rc))), (k0, .inr (1, [.ref k1, .ref k2, .ref k3, .ref k4, .ref k5, .ref k6])), (k1, .inl (cI, 10, .inl (fN K.1))), (k2, .inl (cI, 10, .inl (fN K.2.1))), (k3, .inl (cI, 10, .inl (fN (lfM K)))), (k4, .inl (cI, 10, .inl (fN (mfM K)))), (k5, .inl (cI, 12, .inl (fN (lcM K)))), (k6, .inl (cI, 12, .inl (fN (mcM K)))), (t0, .inr (5, [.int (nI (thM S)), .int (nI (abM S))]))] := hD
  refine lv_aload_n hx hb dX2_list_18 rfl (lv_at hl 0 rfl) ?_
  refine lv_aload_n hx hb dX2_list_19 rfl (lv_at hl 0 rfl) ?_
  refine va_get (D := D) (ci := 2) (v := .ref k0) (C := RX2) (T := TX2) (N := 7) hx hb hts inA2 hown hK.1 hP 0 rfl rfl 0 (by decide) (hts _ kf_RX2_19) (fun _ h9 => h9) rfl dX2_list_20 ?_
  refine lv_aload_n hx hb dX2_list_23 rfl (lv_at hl 1 rfl) ?_
  refine va_get (D := D) (ci := 5) (v := .int (nI (abM S))) (C := RX5) (T := TX5) (N := 2) hx hb hts inA5 hown hK.1 hP 10 rfl rfl 1 (by decide) (hts _ kf_RX2_39) (fun _ h9 => h9) rfl dX2_list_24 ?_
  refine vp_callSi (va_Run.run (va_runV (As := [.int (nI (abM S))]) (rest := [.ref l0]) ⟨hx, hb, hml, hown, hts⟩ (mt_X1_excludedBy l D cI cJ cZ k0 k1 k2 k3 k4 k5 k6 K S) (cwV 1 hts (gV km_RX2_42 ki_yX1_excludedBy kl_yX1_excludedBy kn_RX1 kc_yX1_excludedBy) rfl rfl rfl (by decide +kernel) (by rw [hR]; exact ⟨Nat.le_of_ble_eq_true rfl, Nat.le_of_ble_eq_true rfl⟩)) (cP_V (q0 := 0) (ci := 1) hK (hP.sub [3, 4, 5, 6, 7, 8, 9] rfl) rfl rfl) rfl rfl hl.1 rfl (lv_room (Nat.le_of_ble_eq_true rfl)) dX2_list_27 ⟨Nat.zero_le _, Nat.zero_le _⟩)) (fun r_ hr_ => ?_)
  subst hr_
  refine va_put (D := D) (ci := 2) (v := .int (nI (exM K S))) (ty := .int) (C := RX2) (T := TX2) (N := 7) hx hb hts inA2 tyX2 tyX2_ok nmX2 hown hK.1 hP hD hS 0 rfl rfl 6 (by decide) (hts _ kf_RX2_48) (fun _ h9 => h9) rfl (by decide +kernel) (rfl) (rfl) (Nat.le_of_ble_eq_true rfl) dX2_list_30 (fun H locs hP hD hS => ?_)
  have hP : va_P D vwCl [(l0, .inr (2, [.ref k0, .ref l1, .int (nI 0), .long (lN 0), .ref l2, .int (nI (thM S)), .int (nI (exM K S))])), (l1, .inl (cJ, 252, .inr (.inl (fL g)))), (l2, .inl (cI, 11, .inl (fN rc))), (k0, .inr (1, [.ref k1, .ref k2, .ref k3, .ref k4, .ref k5, .ref k6])), (k1, .inl (cI, 10, .inl (fN K.1))), (k2, .inl (cI, 10, .inl (fN K.2.1))), (k3, .inl (cI, 10, .inl (fN (lfM K)))), (k4, .inl (cI, 10, .inl (fN (mfM K)))), (k5, .inl (cI, 12, .inl (fN (lcM K)))), (k6, .inl (cI, 12, .inl (fN (mcM K)))), (t0, .inr (5, [.int (nI (thM S)), .int (nI (abM S))]))] H := hP
  have hD : va_D (aA [l0, l1, l2, k0, k1, k2, k3, k4, k5, k6, t0]) [(l0, .inr (2, [.ref k0, .ref l1, .int (nI 0), .long (lN 0), .ref l2, .int (nI (thM S)), .int (nI (exM K S))])), (l1, .inl (cJ, 252, .inr (.inl (fL g)))), (l2, .inl (cI, 11, .inl (fN rc))), (k0, .inr (1, [.ref k1, .ref k2, .ref k3, .ref k4, .ref k5, .ref k6])), (k1, .inl (cI, 10, .inl (fN K.1))), (k2, .inl (cI, 10, .inl (fN K.2.1))), (k3, .inl (cI, 10, .inl (fN (lfM K)))), (k4, .inl (cI, 10, .inl (fN (mfM K)))), (k5, .inl (cI, 12, .inl (fN (lcM K)))), (k6, .inl (cI, 12, .inl (fN (mcM K)))), (t0, .inr (5, [.int (nI (thM S)), .int (nI (abM S))]))] := hD
  refine lv_iconst (v := nI 0) hx hb dX2_list_33 (by decide) ?_
  refine lv_istore_n (lv' := [(2, .int (nI 0)), (0, .ref l0), (1, .ref t0)]) hx hb dX2_list_34 rfl hl (by decide) rfl (fun ls hl => ?_)
  have lp35 : ∀ (n : Nat) (j : Nat) (rr : Nat → Nat) (H : Heap) (locs : List Loc) (ls : Array Slot), (j + n = 10) → (∀ i, i ≤ j → rr i = rch K S i) → va_P D vwCl [(l0, .inr (2, [.ref k0, .ref l1, .int (nI 0), .long (lN 0), .ref l2, .int (nI (thM S)), .int (nI (exM K S))])), (l1, .inl (cJ, 252, .inr (.inl (fL g)))), (l2, .inl (cI, 11, .inl (fN rr))), (k0, .inr (1, [.ref k1, .ref k2, .ref k3, .ref k4, .ref k5, .ref k6])), (k1, .inl (cI, 10, .inl (fN K.1))), (k2, .inl (cI, 10, .inl (fN K.2.1))), (k3, .inl (cI, 10, .inl (fN (lfM K)))), (k4, .inl (cI, 10, .inl (fN (mfM K)))), (k5, .inl (cI, 12, .inl (fN (lcM K)))), (k6, .inl (cI, 12, .inl (fN (mcM K)))), (t0, .inr (5, [.int (nI (thM S)), .int (nI (abM S))]))] H → va_D (aA [l0, l1, l2, k0, k1, k2, k3, k4, k5, k6, t0]) [(l0, .inr (2, [.ref k0, .ref l1, .int (nI 0), .long (lN 0), .ref l2, .int (nI (thM S)), .int (nI (exM K S))])), (l1, .inl (cJ, 252, .inr (.inl (fL g)))), (l2, .inl (cI, 11, .inl (fN rr))), (k0, .inr (1, [.ref k1, .ref k2, .ref k3, .ref k4, .ref k5, .ref k6])), (k1, .inl (cI, 10, .inl (fN K.1))), (k2, .inl (cI, 10, .inl (fN K.2.1))), (k3, .inl (cI, 10, .inl (fN (lfM K)))), (k4, .inl (cI, 10, .inl (fN (mfM K)))), (k5, .inl (cI, 12, .inl (fN (lcM K)))), (k6, .inl (cI, 12, .inl (fN (mcM K)))), (t0, .inr (5, [.int (nI (thM S)), .int (nI (abM S))]))] → va_S (aA [l0, l1, l2, k0, k1, k2, k3, k4, k5, k6, t0]) s.heap H locs → lv_has ls 4 [(2, .int (nI j)), (0, .ref l0), (1, .ref t0)] → W p l e R s m args below meth c H locs 0 0 Q (F0 m 35 ls []) := by
    intro n
    induction n with
    | zero =>
      intro j rr H locs ls hn hrr hP hD hS hl
      refine lv_iload_n hx hb dX2_list_35 rfl (lv_at hl 0 rfl) ?_
      refine lv_bipush (v := nI 10) hx hb dX2_list_36 (by decide) ?_
      refine x_cge (a := j) (b := 10) (tgt := 88) hx hb (by first | assumption | omega) (by decide) dX2_list_38 (by decide) (fun c38 => ?_) (fun c38 => (by omega))
      refine lv_aload_n hx hb dX2_list_88 rfl (lv_at hl 1 rfl) ?_
      refine lv_bipush (v := nI 10) hx hb dX2_list_89 (by decide) ?_
      refine lv_iconst (v := nI 0) hx hb dX2_list_91 (by decide) ?_
      refine lv_iconst (v := nI 0) hx hb dX2_list_92 (by decide) ?_
      refine x_top (show nI 0 = nI (thM S &&& foM K 0) from by rw [foM_0, Nat.and_zero]) ?_
      refine lv_iconst (v := nI 0) hx hb dX2_list_93 (by decide) ?_
      refine x_top (show nI 0 = nI (onM K S 0) from by rw [onM_0]) ?_
      refine lv_lconst (v := lN 1) hx hb dX2_list_94 rfl ?_
      refine mc_v (va_runS (As := [.ref l0, .int (nI 10), .int (nI 0), .int (nI (thM S &&& foM K 0)), .int (nI (onM K S 0)), .long (lN 1)]) (rest := []) ⟨hx, hb, hml, hown, hts⟩ (mt_X2_choose l D cI cJ cZ 10 l0 l1 l2 0 0 g rr k0 k1 k2 k3 k4 k5 k6 K S 0 1 (nd_sub hN [0, 1, 2, 3, 4, 5, 6, 7, 8, 9] (by decide) rfl) (by decide) (by decide) (by decide) (Nat.zero_and _) (alone_0 _ _) (fun y _ _ => Nat.one_mul _) (fun i hi => hrr i (by omega)) (by first | assumption | omega) (Ginv_0 K S g)) (va_cwS 6 hts (gS km_RX2_58 ks_yX2_choose kn_RX2 kc_yX2_choose) rfl rfl rfl (by decide +kernel) (by rw [hR]; exact ⟨Nat.le_of_ble_eq_true rfl, Nat.le_of_ble_eq_true rfl⟩)) (cP_S hK (hP.sub [0, 1, 2, 3, 4, 5, 6, 7, 8, 9] rfl)) rfl rfl hl.1 rfl (lv_room (Nat.le_of_ble_eq_true rfl)) dX2_list_95 ⟨Nat.zero_le _, Nat.zero_le _⟩) hS (aA_sub [0, 1, 2, 3, 4, 5, 6, 7, 8, 9] rfl) (fun H locs hp_ hk_ hS => ?_)
      obtain ⟨N1_1, T1_1, g1_1, hI1_1, hP1⟩ := hp_
      have hP := pj (wr := [(t0, .inr (5, [.int (nI (thM S)), .int (nI (abM S))]))]) (w1 := [(l0, .inr (2, [.ref k0, .ref l1, .int (nI N1_1), .long (lN T1_1), .ref l2, .int (nI (thM S)), .int (nI (exM K S))])), (l1, .inl (cJ, 252, .inr (.inl (fL g1_1)))), (l2, .inl (cI, 11, .inl (fN rr))), (k0, .inr (1, [.ref k1, .ref k2, .ref k3, .ref k4, .ref k5, .ref k6])), (k1, .inl (cI, 10, .inl (fN K.1))), (k2, .inl (cI, 10, .inl (fN K.2.1))), (k3, .inl (cI, 10, .inl (fN (lfM K)))), (k4, .inl (cI, 10, .inl (fN (mfM K)))), (k5, .inl (cI, 12, .inl (fN (lcM K)))), (k6, .inl (cI, 12, .inl (fN (mcM K))))]) (lc := [l0, l1, l2, k0, k1, k2, k3, k4, k5, k6]) hP hD [0, 1, 2, 3, 4, 5, 6, 7, 8, 9] [10] rfl rfl (by decide) hk_ hP1
      have hP : va_P D vwCl [(t0, .inr (5, [.int (nI (thM S)), .int (nI (abM S))])), (l0, .inr (2, [.ref k0, .ref l1, .int (nI N1_1), .long (lN T1_1), .ref l2, .int (nI (thM S)), .int (nI (exM K S))])), (l1, .inl (cJ, 252, .inr (.inl (fL g1_1)))), (l2, .inl (cI, 11, .inl (fN rr))), (k0, .inr (1, [.ref k1, .ref k2, .ref k3, .ref k4, .ref k5, .ref k6])), (k1, .inl (cI, 10, .inl (fN K.1))), (k2, .inl (cI, 10, .inl (fN K.2.1))), (k3, .inl (cI, 10, .inl (fN (lfM K)))), (k4, .inl (cI, 10, .inl (fN (mfM K)))), (k5, .inl (cI, 12, .inl (fN (lcM K)))), (k6, .inl (cI, 12, .inl (fN (mcM K))))] H := hP
      have hD : va_D (aA [l0, l1, l2, k0, k1, k2, k3, k4, k5, k6, t0]) [(t0, .inr (5, [.int (nI (thM S)), .int (nI (abM S))])), (l0, .inr (2, [.ref k0, .ref l1, .int (nI N1_1), .long (lN T1_1), .ref l2, .int (nI (thM S)), .int (nI (exM K S))])), (l1, .inl (cJ, 252, .inr (.inl (fL g1_1)))), (l2, .inl (cI, 11, .inl (fN rr))), (k0, .inr (1, [.ref k1, .ref k2, .ref k3, .ref k4, .ref k5, .ref k6])), (k1, .inl (cI, 10, .inl (fN K.1))), (k2, .inl (cI, 10, .inl (fN K.2.1))), (k3, .inl (cI, 10, .inl (fN (lfM K)))), (k4, .inl (cI, 10, .inl (fN (mfM K)))), (k5, .inl (cI, 12, .inl (fN (lcM K)))), (k6, .inl (cI, 12, .inl (fN (mcM K))))] := hD.re [10, 0, 1, 2, 3, 4, 5, 6, 7, 8, 9] (by decide) rfl
      rw [hQ]
      exact W.vret hx hb hr (fun t ht hW => ⟨⟨H, rfl, by have hI2 : Ginv K S 1024 N1_1 T1_1 g1_1 := hI1_1; have e1 : N1_1 = nE K S := hI2.1; have e2 : T1_1 = tot K S := hI2.2.1; rw [e1, e2] at hP; exact ⟨g1_1, rr, hI2.eU, (hrr 0 (by omega)).trans (rch_0 K S), hP.sub [1, 2, 3, 4, 5, 6, 7, 8, 9, 10, 0] rfl⟩, ht⟩, hS.F ht⟩) hS.2.2 dX2_list_98
    | succ n ih35 =>
      intro j rr H locs ls hn hrr hP hD hS hl
      refine lv_iload_n hx hb dX2_list_35 rfl (lv_at hl 0 rfl) ?_
      refine lv_bipush (v := nI 10) hx hb dX2_list_36 (by decide) ?_
      refine x_cge (a := j) (b := 10) (tgt := 88) hx hb (by first | assumption | omega) (by decide) dX2_list_38 (by decide) (fun c38 => (by omega)) (fun c38 => ?_)
      refine lv_aload_n hx hb dX2_list_41 rfl (lv_at hl 1 rfl) ?_
      refine va_get (D := D) (ci := 2) (v := .int (nI (exM K S))) (C := RX2) (T := TX2) (N := 7) hx hb hts inA2 hown hK.1 hP 0 rfl rfl 6 (by decide) (hts _ kf_RX2_48) (fun _ h9 => h9) rfl dX2_list_42 ?_
      refine lv_iload_n hx hb dX2_list_45 rfl (lv_at hl 0 rfl) ?_
      refine vp_callSi (va_Run.run (va_runSN (As := [.int (nI (exM K S)), .int (nI j)]) (rest := []) ⟨hx, hb, hml, hown, hts⟩ (mt_X6_has l D cI cJ cZ (exM K S) j (Nat.lt_trans (exM_lt K S) (by decide)) (by first | assumption | omega)) ⟨va_cnB 2 hts (aW_good kc_yX6_has) rfl rfl rfl hK.2.2.1 (hts _ kn_RX6) (by decide +kernel) (by rw [hR]; exact ⟨Nat.le_of_ble_eq_true rfl, Nat.le_of_ble_eq_true rfl⟩), hts _ ks_yX6_has, trivial⟩ (cP_S hK (fun k q h => by simp at h)) rfl rfl hl.1 rfl (lv_room (Nat.le_of_ble_eq_true rfl)) dX2_list_46 ⟨Nat.zero_le _, Nat.zero_le _⟩)) (fun r_ hr_ => ?_)
      subst hr_
      have j65 : W p l e R s m args below meth c H locs 0 0 Q (F0 m 65 ls [.int (nI (if exc K S j then 0 else lfM K j))]) := by
        refine lv_istore_n (lv' := [(3, .int (nI (if exc K S j then 0 else lfM K j))), (2, .int (nI j)), (0, .ref l0), (1, .ref t0)]) hx hb dX2_list_65 rfl hl (by decide) rfl (fun ls hl => ?_)
        refine lv_aload_n hx hb dX2_list_66 rfl (lv_at hl 2 rfl) ?_
        refine va_get (D := D) (ci := 2) (v := .ref l2) (C := RX2) (T := TX2) (N := 7) hx hb hts inA2 hown hK.1 hP 0 rfl rfl 4 (by decide) (hts _ kf_RX2_15) (fun _ h9 => h9) rfl dX2_list_67 ?_
        refine lv_iload_n hx hb dX2_list_70 rfl (lv_at hl 1 rfl) ?_
        refine lv_iconst (v := nI 1) hx hb dX2_list_71 (by decide) ?_
        refine x_iadd (z := nI (j + 1)) hx hb dX2_list_72 (nI_add _ _) ?_
        refine lv_aload_n hx hb dX2_list_73 rfl (lv_at hl 2 rfl) ?_
        refine va_get (D := D) (ci := 2) (v := .ref l2) (C := RX2) (T := TX2) (N := 7) hx hb hts inA2 hown hK.1 hP 0 rfl rfl 4 (by decide) (hts _ kf_RX2_15) (fun _ h9 => h9) rfl dX2_list_74 ?_
        refine lv_iload_n hx hb dX2_list_77 rfl (lv_at hl 1 rfl) ?_
        refine x_ildN hx hb hK.1 hP 2 0 rfl rfl (by first | assumption | omega) (by decide) dX2_list_78 ?_
        refine lv_iload_n hx hb dX2_list_79 rfl (lv_at hl 0 rfl) ?_
        refine x_ior (z := nI ((rr j) ||| (if exc K S j then 0 else lfM K j))) hx hb dX2_list_80 (z_or _ _) ?_
        refine x_istN (v := (rr j) ||| (if exc K S j then 0 else lfM K j)) hx hb hK.1 hP hD hS 2 0 rfl rfl (by first | assumption | omega) (by decide) dX2_list_81 (fun H locs hP hD hS => ?_)
        have hP : va_P D vwCl [(l0, .inr (2, [.ref k0, .ref l1, .int (nI 0), .long (lN 0), .ref l2, .int (nI (thM S)), .int (nI (exM K S))])), (l1, .inl (cJ, 252, .inr (.inl (fL g)))), (l2, .inl (cI, 11, .inl (fN (va_up rr (j + 1) ((rr j) ||| (if exc K S j then 0 else lfM K j)))))), (k0, .inr (1, [.ref k1, .ref k2, .ref k3, .ref k4, .ref k5, .ref k6])), (k1, .inl (cI, 10, .inl (fN K.1))), (k2, .inl (cI, 10, .inl (fN K.2.1))), (k3, .inl (cI, 10, .inl (fN (lfM K)))), (k4, .inl (cI, 10, .inl (fN (mfM K)))), (k5, .inl (cI, 12, .inl (fN (lcM K)))), (k6, .inl (cI, 12, .inl (fN (mcM K)))), (t0, .inr (5, [.int (nI (thM S)), .int (nI (abM S))]))] H := hP
        have hD : va_D (aA [l0, l1, l2, k0, k1, k2, k3, k4, k5, k6, t0]) [(l0, .inr (2, [.ref k0, .ref l1, .int (nI 0), .long (lN 0), .ref l2, .int (nI (thM S)), .int (nI (exM K S))])), (l1, .inl (cJ, 252, .inr (.inl (fL g)))), (l2, .inl (cI, 11, .inl (fN (va_up rr (j + 1) ((rr j) ||| (if exc K S j then 0 else lfM K j)))))), (k0, .inr (1, [.ref k1, .ref k2, .ref k3, .ref k4, .ref k5, .ref k6])), (k1, .inl (cI, 10, .inl (fN K.1))), (k2, .inl (cI, 10, .inl (fN K.2.1))), (k3, .inl (cI, 10, .inl (fN (lfM K)))), (k4, .inl (cI, 10, .inl (fN (mfM K)))), (k5, .inl (cI, 12, .inl (fN (lcM K)))), (k6, .inl (cI, 12, .inl (fN (mcM K)))), (t0, .inr (5, [.int (nI (thM S)), .int (nI (abM S))]))] := hD
        refine lv_iinc (v := nI (j + 1)) (lv' := [(2, .int (nI (j + 1))), (3, .int (nI (if exc K S j then 0 else lfM K j))), (0, .ref l0), (1, .ref t0)]) hx hb dX2_list_82 hl (k := 1) rfl (x_inc1 _) (by decide) rfl (fun ls hl => ?_)
        refine lv_goto (tgt := 35) hx hb dX2_list_85 (by decide) ?_
        exact ih35 (j + 1) (va_up rr (j + 1) ((rr j) ||| (if exc K S j then 0 else lfM K j))) _ _ ls (by omega) (rch_up hrr) (hP.sub [0, 1, 2, 3, 4, 5, 6, 7, 8, 9, 10] rfl) (hD.re [0, 1, 2, 3, 4, 5, 6, 7, 8, 9, 10] (by decide) rfl) hS (lv_sub hl [0, 2, 3] rfl)
      refine x_beq (tgt := 56) hx hb dX2_list_49 (by decide) (fun c49 => ?_) (fun c49 => ?_)
      · refine lv_aload_n hx hb dX2_list_56 rfl (lv_at hl 1 rfl) ?_
        refine va_get (D := D) (ci := 2) (v := .ref k0) (C := RX2) (T := TX2) (N := 7) hx hb hts inA2 hown hK.1 hP 0 rfl rfl 0 (by decide) (hts _ kf_RX2_19) (fun _ h9 => h9) rfl dX2_list_57 ?_
        refine va_get (D := D) (ci := 1) (v := .ref k3) (C := RX1) (T := TX1) (N := 6) hx hb hts inA1 hown hK.1 hP 3 rfl rfl 2 (by decide) (hts _ kf_RX2_55) (fun _ h9 => h9) rfl dX2_list_60 ?_
        refine lv_iload_n hx hb dX2_list_63 rfl (lv_at hl 0 rfl) ?_
        refine x_ildN hx hb hK.1 hP 6 0 rfl rfl (by first | assumption | omega) (by decide) dX2_list_64 ?_
        refine x_top (show nI ((lfM K) j) = nI (if exc K S j then 0 else lfM K j) from by rw [exM_bit K S (by omega)] at c49; rw [c49]; rfl) ?_
        exact j65
      · refine lv_iconst (v := nI 0) hx hb dX2_list_52 (by decide) ?_
        refine lv_goto (tgt := 65) hx hb dX2_list_53 (by decide) ?_
        refine x_top (show nI 0 = nI (if exc K S j then 0 else lfM K j) from by rw [exM_bit K S (by omega)] at c49; rw [c49]; rfl) ?_
        exact j65
  exact lp35 (10) 0 rc _ _ ls (by omega) (fun i hi => by rw [show i = 0 by omega, hrc0, rch_0]) (hP.sub [0, 1, 2, 3, 4, 5, 6, 7, 8, 9, 10] rfl) (hD.re [0, 1, 2, 3, 4, 5, 6, 7, 8, 9, 10] (by decide) rfl) hS (lv_sub hl [0, 1, 2] rfl)

set_option maxHeartbeats 4000000 in
set_option maxRecDepth 100000 in
theorem mt_X2_bringForward (l : Launch) (D : va_G) (cI cJ cZ : ClassId) (l0 : Nat) (l1 : Nat) (l2 : Nat) (N : Nat) (T : Nat) (te : Nat) (ex : Nat) (g : Nat → Nat) (rc : Nat → Nat) (k0 : Nat) (fr : Nat) (gp : Nat) (hN : [l0, l1, l2].Nodup) (hN2 : N ≤ 252) (hfr : fr < N) (hgp : 1 ≤ gp) (hgp2 : gp ≤ 57) (hJ0 : Inj N g) (hb0 : ∀ k, k < N → g k < 2 ^ 63) : Met l yX2_bringForward (aW yX2_bringForward cX2_bringForward 6 none) { frames := 0, cells := 0, slots := 0, locals := 0 } (cP D cI cJ cZ [.ref l0, .int (nI fr), .int (nI gp)] [(l0, .inr (2, [.ref k0, .ref l1, .int (nI N), .long (lN T), .ref l2, .int (nI te), .int (nI ex)])), (l1, .inl (cJ, 252, .inr (.inl (fL g)))), (l2, .inl (cI, 11, .inl (fN rc)))]) (va_Qv (fun H1 : Heap => ∃ (g1 : Nat → Nat), (Sam N g g1) ∧ (Inj N g1) ∧ (gp = 1 → Dcr fr g → Dcr (fr + 1) g1) ∧ va_P D vwCl [(l0, .inr (2, [.ref k0, .ref l1, .int (nI N), .long (lN T), .ref l2, .int (nI te), .int (nI ex)])), (l1, .inl (cJ, 252, .inr (.inl (fL g1)))), (l2, .inl (cI, 11, .inl (fN rc)))] H1) mB (aA [l0, l1, l2])) 0 0 (aA [l0, l1, l2]) := by
  refine Met.ofW (cc := cX2_bringForward) (maxL := 6) (ret := none) (by decide) rfl ?_
  intro p e s m args below meth c s₁ B hml hv
  obtain ⟨hav, hP, hK⟩ := hv
  have hx := B.exec
  have hb := B.bytes
  have hr := B.returns
  have hts := aW_in (atoms_spec (ws := aW yX2_bringForward cX2_bringForward 6 none) B.pre)
  have hown : s.vm.findClass RX2 = some m.cls := findClass_of_methodNamed B.named
  have hlocks := B.notSynchronized
  obtain ⟨R, hR⟩ : ∃ R, R = (headSpec (aW yX2_bringForward cX2_bringForward 6 none) { frames := 0, cells := 0, slots := 0, locals := 0 }).room := ⟨_, rfl⟩
  rw [← hR]
  obtain ⟨Q, hQ⟩ : ∃ Q, Q = MQ below (va_Qv (fun H1 : Heap => ∃ (g1 : Nat → Nat), (Sam N g g1) ∧ (Inj N g1) ∧ (gp = 1 → Dcr fr g → Dcr (fr + 1) g1) ∧ va_P D vwCl [(l0, .inr (2, [.ref k0, .ref l1, .int (nI N), .long (lN T), .ref l2, .int (nI te), .int (nI ex)])), (l1, .inl (cJ, 252, .inr (.inl (fL g1)))), (l2, .inl (cI, 11, .inl (fN rc)))] H1) mB (aA [l0, l1, l2])) args s 0 0 (aA [l0, l1, l2]) := ⟨_, rfl⟩
  rw [← hQ]
  have hl := lv_entry [.ref l0, .int (nI fr), .int (nI gp)] (n := 6) (Nat.le_of_ble_eq_true rfl)
  have hent := lg_entry_eq m [.ref l0, .int (nI fr), .int (nI gp)] 6
  rw [← hav] at hent
  rw [hent]
  generalize (lg_sl [.ref l0, .int (nI fr), .int (nI gp)] ++ List.replicate (6 - (lg_sl [.ref l0, .int (nI fr), .int (nI gp)]).length) Slot.unset).toArray = ls at hl ⊢
  have hl : lv_has ls 6 [(0, .ref l0), (1, .int (nI fr)), (2, .int (nI gp))] := hl
  have hD : va_D (aA [l0, l1, l2]) [(l0, .inr (2, [.ref k0, .ref l1, .int (nI N), .long (lN T), .ref l2, .int (nI te), .int (nI ex)])), (l1, .inl (cJ, 252, .inr (.inl (fL g)))), (l2, .inl (cI, 11, .inl (fN rc)))] := nd_D hN rfl
  have hS : va_S (aA [l0, l1, l2]) s.heap s.heap [] := va_S.rf
  have hP : va_P D vwCl [(l0, .inr (2, [.ref k0, .ref l1, .int (nI N), .long (lN T), .ref l2, .int (nI te), .int (nI ex)])), (l1, .inl (cJ, 252, .inr (.inl (fL g)))), (l2, .inl (cI, 11, .inl (fN rc)))] s.heap := hP
  obtain ⟨H, hH⟩ : ∃ H, H = s.heap := ⟨_, rfl⟩
  rw [← hH] at hP
  obtain ⟨locs, hlocs⟩ : ∃ q : List Loc, q = [] := ⟨_, rfl⟩
  have hS : va_S (aA [l0, l1, l2]) s.heap H locs := by rw [hH, hlocs]; exact hS
  rw [← hH, ← hlocs]
  clear hH hlocs
  refine lv_aload_n hx hb dX2_bringForward_0 rfl (lv_at hl 0 rfl) ?_
  refine va_get (D := D) (ci := 2) (v := .ref l1) (C := RX2) (T := TX2) (N := 7) hx hb hts inA2 hown hK.1 hP 0 rfl rfl 1 (by decide) (hts _ kf_RX2_11) (fun _ h9 => h9) rfl dX2_bringForward_1 ?_
  refine lv_iload_n hx hb dX2_bringForward_4 rfl (lv_at hl 1 rfl) ?_
  refine x_lldL hx hb hK.1 hP 1 1 rfl rfl (by first | assumption | omega) (by decide) dX2_bringForward_5 ?_
  refine lv_lstore_n (lv' := [(3, .long (lN (g fr))), (0, .ref l0), (1, .int (nI fr)), (2, .int (nI gp))]) hx hb dX2_bringForward_6 rfl hl (by decide) rfl (fun ls hl => ?_)
  refine lv_iload_n hx hb dX2_bringForward_7 rfl (lv_at hl 2 rfl) ?_
  refine lv_istore (lv' := [(5, .int (nI fr)), (3, .long (lN (g fr))), (0, .ref l0), (1, .int (nI fr)), (2, .int (nI gp))]) hx hb dX2_bringForward_8 hl (by decide) rfl (fun ls hl => ?_)
  have lp10 : ∀ (n : Nat) (q : Nat) (h : Nat → Nat) (H : Heap) (locs : List Loc) (ls : Array Slot), (q ≤ n) → (q ≤ fr) → (Sam N g (va_up h q (g fr))) → (Inj N (va_up h q (g fr))) → (gp = 1 → Dcr fr g → Srt h q (g fr) fr) → (∀ k, k < N → h k < 2 ^ 63) → va_P D vwCl [(l0, .inr (2, [.ref k0, .ref l1, .int (nI N), .long (lN T), .ref l2, .int (nI te), .int (nI ex)])), (l1, .inl (cJ, 252, .inr (.inl (fL h)))), (l2, .inl (cI, 11, .inl (fN rc)))] H → va_D (aA [l0, l1, l2]) [(l0, .inr (2, [.ref k0, .ref l1, .int (nI N), .long (lN T), .ref l2, .int (nI te), .int (nI ex)])), (l1, .inl (cJ, 252, .inr (.inl (fL h)))), (l2, .inl (cI, 11, .inl (fN rc)))] → va_S (aA [l0, l1, l2]) s.heap H locs → lv_has ls 6 [(5, .int (nI q)), (3, .long (lN (g fr))), (0, .ref l0), (1, .int (nI fr)), (2, .int (nI gp))] → W p l e R s m args below meth c H locs 0 0 Q (F0 m 10 ls []) := by
    intro n
    induction n with
    | zero =>
      intro q h H locs ls hn hq hF hJ hs hb1 hP hD hS hl
      refine lv_iload hx hb dX2_bringForward_10 (lv_at hl 0 rfl) ?_
      refine lv_iload_n hx hb dX2_bringForward_12 rfl (lv_at hl 4 rfl) ?_
      refine x_clt (a := q) (b := gp) (tgt := 55) hx hb (by first | assumption | omega) (by first | assumption | omega) dX2_bringForward_13 (by decide) (fun c13 => ?_) (fun c13 => (by omega))
      refine lv_aload_n hx hb dX2_bringForward_55 rfl (lv_at hl 2 rfl) ?_
      refine va_get (D := D) (ci := 2) (v := .ref l1) (C := RX2) (T := TX2) (N := 7) hx hb hts inA2 hown hK.1 hP 0 rfl rfl 1 (by decide) (hts _ kf_RX2_11) (fun _ h9 => h9) rfl dX2_bringForward_56 ?_
      refine lv_iload hx hb dX2_bringForward_59 (lv_at hl 0 rfl) ?_
      refine lv_lload_n hx hb dX2_bringForward_61 rfl (lv_at hl 1 rfl) ?_
      refine x_lstL (v := g fr) hx hb hK.1 hP hD hS 1 1 rfl rfl (by first | assumption | omega) (by decide) dX2_bringForward_62 (fun H locs hP hD hS => ?_)
      have hP : va_P D vwCl [(l0, .inr (2, [.ref k0, .ref l1, .int (nI N), .long (lN T), .ref l2, .int (nI te), .int (nI ex)])), (l1, .inl (cJ, 252, .inr (.inl (fL (va_up h q (g fr)))))), (l2, .inl (cI, 11, .inl (fN rc)))] H := hP
      have hD : va_D (aA [l0, l1, l2]) [(l0, .inr (2, [.ref k0, .ref l1, .int (nI N), .long (lN T), .ref l2, .int (nI te), .int (nI ex)])), (l1, .inl (cJ, 252, .inr (.inl (fL (va_up h q (g fr)))))), (l2, .inl (cI, 11, .inl (fN rc)))] := hD
      rw [hQ]
      exact W.vret hx hb hr (fun t ht hW => ⟨⟨H, rfl, ⟨_, hF, hJ, fun e1 e2 => Srt.fin (hs e1 e2) hq hfr hJ (by first | exact Or.inl (by omega) | (subst e1; exact Or.inr (by omega))), hP.sub [0, 1, 2] rfl⟩, ht⟩, hS.F ht⟩) hS.2.2 dX2_bringForward_63
    | succ n ih10 =>
      intro q h H locs ls hn hq hF hJ hs hb1 hP hD hS hl
      refine lv_iload hx hb dX2_bringForward_10 (lv_at hl 0 rfl) ?_
      refine lv_iload_n hx hb dX2_bringForward_12 rfl (lv_at hl 4 rfl) ?_
      refine x_clt (a := q) (b := gp) (tgt := 55) hx hb (by first | assumption | omega) (by first | assumption | omega) dX2_bringForward_13 (by decide) (fun c13 => ?_) (fun c13 => ?_)
      · refine lv_aload_n hx hb dX2_bringForward_55 rfl (lv_at hl 2 rfl) ?_
        refine va_get (D := D) (ci := 2) (v := .ref l1) (C := RX2) (T := TX2) (N := 7) hx hb hts inA2 hown hK.1 hP 0 rfl rfl 1 (by decide) (hts _ kf_RX2_11) (fun _ h9 => h9) rfl dX2_bringForward_56 ?_
        refine lv_iload hx hb dX2_bringForward_59 (lv_at hl 0 rfl) ?_
        refine lv_lload_n hx hb dX2_bringForward_61 rfl (lv_at hl 1 rfl) ?_
        refine x_lstL (v := g fr) hx hb hK.1 hP hD hS 1 1 rfl rfl (by first | assumption | omega) (by decide) dX2_bringForward_62 (fun H locs hP hD hS => ?_)
        have hP : va_P D vwCl [(l0, .inr (2, [.ref k0, .ref l1, .int (nI N), .long (lN T), .ref l2, .int (nI te), .int (nI ex)])), (l1, .inl (cJ, 252, .inr (.inl (fL (va_up h q (g fr)))))), (l2, .inl (cI, 11, .inl (fN rc)))] H := hP
        have hD : va_D (aA [l0, l1, l2]) [(l0, .inr (2, [.ref k0, .ref l1, .int (nI N), .long (lN T), .ref l2, .int (nI te), .int (nI ex)])), (l1, .inl (cJ, 252, .inr (.inl (fL (va_up h q (g fr)))))), (l2, .inl (cI, 11, .inl (fN rc)))] := hD
        rw [hQ]
        exact W.vret hx hb hr (fun t ht hW => ⟨⟨H, rfl, ⟨_, hF, hJ, fun e1 e2 => Srt.fin (hs e1 e2) hq hfr hJ (by first | exact Or.inl (by omega) | (subst e1; exact Or.inr (by omega))), hP.sub [0, 1, 2] rfl⟩, ht⟩, hS.F ht⟩) hS.2.2 dX2_bringForward_63
      · refine lv_aload_n hx hb dX2_bringForward_16 rfl (lv_at hl 2 rfl) ?_
        refine va_get (D := D) (ci := 2) (v := .ref l1) (C := RX2) (T := TX2) (N := 7) hx hb hts inA2 hown hK.1 hP 0 rfl rfl 1 (by decide) (hts _ kf_RX2_11) (fun _ h9 => h9) rfl dX2_bringForward_17 ?_
        refine lv_iload hx hb dX2_bringForward_20 (lv_at hl 0 rfl) ?_
        refine lv_iload_n hx hb dX2_bringForward_22 rfl (lv_at hl 4 rfl) ?_
        refine x_isub (z := nI (q - gp)) hx hb dX2_bringForward_23 (pk_sub (by first | assumption | omega)) ?_
        refine x_lldL hx hb hK.1 hP 1 1 rfl rfl (by first | assumption | omega) (by decide) dX2_bringForward_24 ?_
        refine lv_lload_n hx hb dX2_bringForward_25 rfl (lv_at hl 1 rfl) ?_
        refine x_lge (tgt := 55) hx hb (hb1 _ (by omega)) (hb0 _ (by omega)) dX2_bringForward_26 dX2_bringForward_27 (by decide) (fun c26 => ?_) (fun c26 => ?_)
        · refine lv_aload_n hx hb dX2_bringForward_55 rfl (lv_at hl 2 rfl) ?_
          refine va_get (D := D) (ci := 2) (v := .ref l1) (C := RX2) (T := TX2) (N := 7) hx hb hts inA2 hown hK.1 hP 0 rfl rfl 1 (by decide) (hts _ kf_RX2_11) (fun _ h9 => h9) rfl dX2_bringForward_56 ?_
          refine lv_iload hx hb dX2_bringForward_59 (lv_at hl 0 rfl) ?_
          refine lv_lload_n hx hb dX2_bringForward_61 rfl (lv_at hl 1 rfl) ?_
          refine x_lstL (v := g fr) hx hb hK.1 hP hD hS 1 1 rfl rfl (by first | assumption | omega) (by decide) dX2_bringForward_62 (fun H locs hP hD hS => ?_)
          have hP : va_P D vwCl [(l0, .inr (2, [.ref k0, .ref l1, .int (nI N), .long (lN T), .ref l2, .int (nI te), .int (nI ex)])), (l1, .inl (cJ, 252, .inr (.inl (fL (va_up h q (g fr)))))), (l2, .inl (cI, 11, .inl (fN rc)))] H := hP
          have hD : va_D (aA [l0, l1, l2]) [(l0, .inr (2, [.ref k0, .ref l1, .int (nI N), .long (lN T), .ref l2, .int (nI te), .int (nI ex)])), (l1, .inl (cJ, 252, .inr (.inl (fL (va_up h q (g fr)))))), (l2, .inl (cI, 11, .inl (fN rc)))] := hD
          rw [hQ]
          exact W.vret hx hb hr (fun t ht hW => ⟨⟨H, rfl, ⟨_, hF, hJ, fun e1 e2 => Srt.fin (hs e1 e2) hq hfr hJ (by first | exact Or.inl (by omega) | (subst e1; exact Or.inr (by omega))), hP.sub [0, 1, 2] rfl⟩, ht⟩, hS.F ht⟩) hS.2.2 dX2_bringForward_63
        · refine lv_aload_n hx hb dX2_bringForward_30 rfl (lv_at hl 2 rfl) ?_
          refine va_get (D := D) (ci := 2) (v := .ref l1) (C := RX2) (T := TX2) (N := 7) hx hb hts inA2 hown hK.1 hP 0 rfl rfl 1 (by decide) (hts _ kf_RX2_11) (fun _ h9 => h9) rfl dX2_bringForward_31 ?_
          refine lv_iload hx hb dX2_bringForward_34 (lv_at hl 0 rfl) ?_
          refine lv_aload_n hx hb dX2_bringForward_36 rfl (lv_at hl 2 rfl) ?_
          refine va_get (D := D) (ci := 2) (v := .ref l1) (C := RX2) (T := TX2) (N := 7) hx hb hts inA2 hown hK.1 hP 0 rfl rfl 1 (by decide) (hts _ kf_RX2_11) (fun _ h9 => h9) rfl dX2_bringForward_37 ?_
          refine lv_iload hx hb dX2_bringForward_40 (lv_at hl 0 rfl) ?_
          refine lv_iload_n hx hb dX2_bringForward_42 rfl (lv_at hl 4 rfl) ?_
          refine x_isub (z := nI (q - gp)) hx hb dX2_bringForward_43 (pk_sub (by first | assumption | omega)) ?_
          refine x_lldL hx hb hK.1 hP 1 1 rfl rfl (by first | assumption | omega) (by decide) dX2_bringForward_44 ?_
          refine x_lstL (v := h (q - gp)) hx hb hK.1 hP hD hS 1 1 rfl rfl (by first | assumption | omega) (by decide) dX2_bringForward_45 (fun H locs hP hD hS => ?_)
          have hP : va_P D vwCl [(l0, .inr (2, [.ref k0, .ref l1, .int (nI N), .long (lN T), .ref l2, .int (nI te), .int (nI ex)])), (l1, .inl (cJ, 252, .inr (.inl (fL (va_up h q (h (q - gp))))))), (l2, .inl (cI, 11, .inl (fN rc)))] H := hP
          have hD : va_D (aA [l0, l1, l2]) [(l0, .inr (2, [.ref k0, .ref l1, .int (nI N), .long (lN T), .ref l2, .int (nI te), .int (nI ex)])), (l1, .inl (cJ, 252, .inr (.inl (fL (va_up h q (h (q - gp))))))), (l2, .inl (cI, 11, .inl (fN rc)))] := hD
          refine lv_iload hx hb dX2_bringForward_46 (lv_at hl 0 rfl) ?_
          refine lv_iload_n hx hb dX2_bringForward_48 rfl (lv_at hl 4 rfl) ?_
          refine x_isub (z := nI (q - gp)) hx hb dX2_bringForward_49 (pk_sub (by first | assumption | omega)) ?_
          refine lv_istore (lv' := [(5, .int (nI (q - gp))), (3, .long (lN (g fr))), (0, .ref l0), (1, .int (nI fr)), (2, .int (nI gp))]) hx hb dX2_bringForward_50 hl (by decide) rfl (fun ls hl => ?_)
          refine lv_goto (tgt := 10) hx hb dX2_bringForward_52 (by decide) ?_
          exact ih10 (q - gp) (va_up h q (h (q - gp))) _ _ ls (by omega) (by omega) (by rw [bf_step (by omega)]; exact hF.tr (Sam.swap _ (by omega) (by omega))) (by rw [bf_step (by omega)]; exact hJ.swap (by omega) (by omega)) (fun e1 e2 => by subst e1; exact (hs rfl e2).step (by omega) hq (by omega)) (up_lt hb1 (hb1 _ (by omega))) (hP.sub [0, 1, 2] rfl) (hD.re [0, 1, 2] (by decide) rfl) hS (lv_sub hl [0, 1, 2, 3, 4] rfl)
  exact lp10 (fr) fr g _ _ ls (Nat.le_refl _) (Nat.le_refl _) (by rw [va_up_same]; exact Sam.rf _ _) (by rw [va_up_same]; exact hJ0) (fun _ e2 => Srt.start e2) (hb0) (hP.sub [0, 1, 2] rfl) (hD.re [0, 1, 2] (by decide) rfl) hS (lv_sub hl [0, 1, 2, 3, 4] rfl)

set_option maxHeartbeats 4000000 in
set_option maxRecDepth 100000 in
theorem mt_X2_putInOrder (l : Launch) (D : va_G) (cI cJ cZ : ClassId) (ga gb : Nat) (l0 : Nat) (l1 : Nat) (l2 : Nat) (N : Nat) (T : Nat) (te : Nat) (ex : Nat) (g : Nat → Nat) (rc : Nat → Nat) (k0 : Nat) (hN : [l0, l1, l2].Nodup) (hga : ga ∉ [l0, l1, l2]) (hgb : gb ∉ [l0, l1, l2]) (hN2 : N ≤ 252) (hJ0 : Inj N g) (hb0 : ∀ k, k < N → g k < 2 ^ 63) : Met l yX2_putInOrder (aW yX2_putInOrder cX2_putInOrder 6 none) { frames := 1, cells := 0, slots := 0, locals := 25 } (cG D cI cJ cZ ga gb [.ref l0] [(l0, .inr (2, [.ref k0, .ref l1, .int (nI N), .long (lN T), .ref l2, .int (nI te), .int (nI ex)])), (l1, .inl (cJ, 252, .inr (.inl (fL g)))), (l2, .inl (cI, 11, .inl (fN rc)))]) (va_Qv (fun H1 : Heap => ∃ (g1 : Nat → Nat), (Sam N g g1) ∧ (Inj N g1) ∧ (Dcr N g1) ∧ va_P D vwCl [(l0, .inr (2, [.ref k0, .ref l1, .int (nI N), .long (lN T), .ref l2, .int (nI te), .int (nI ex)])), (l1, .inl (cJ, 252, .inr (.inl (fL g1)))), (l2, .inl (cI, 11, .inl (fN rc)))] H1) mB (aA [l0, l1, l2])) 0 0 (aA [l0, l1, l2]) := by
  refine Met.ofW (cc := cX2_putInOrder) (maxL := 6) (ret := none) (by decide) rfl ?_
  intro p e s m args below meth c s₁ B hml hv
  obtain ⟨hav, hP, hK, hG⟩ := hv
  have hx := B.exec
  have hb := B.bytes
  have hr := B.returns
  have hts := aW_in (atoms_spec (ws := aW yX2_putInOrder cX2_putInOrder 6 none) B.pre)
  have hown : s.vm.findClass RX2 = some m.cls := findClass_of_methodNamed B.named
  have hlocks := B.notSynchronized
  obtain ⟨R, hR⟩ : ∃ R, R = (headSpec (aW yX2_putInOrder cX2_putInOrder 6 none) { frames := 1, cells := 0, slots := 0, locals := 25 }).room := ⟨_, rfl⟩
  rw [← hR]
  obtain ⟨Q, hQ⟩ : ∃ Q, Q = MQ below (va_Qv (fun H1 : Heap => ∃ (g1 : Nat → Nat), (Sam N g g1) ∧ (Inj N g1) ∧ (Dcr N g1) ∧ va_P D vwCl [(l0, .inr (2, [.ref k0, .ref l1, .int (nI N), .long (lN T), .ref l2, .int (nI te), .int (nI ex)])), (l1, .inl (cJ, 252, .inr (.inl (fL g1)))), (l2, .inl (cI, 11, .inl (fN rc)))] H1) mB (aA [l0, l1, l2])) args s 0 0 (aA [l0, l1, l2]) := ⟨_, rfl⟩
  rw [← hQ]
  have hl := lv_entry [.ref l0] (n := 6) (Nat.le_of_ble_eq_true rfl)
  have hent := lg_entry_eq m [.ref l0] 6
  rw [← hav] at hent
  rw [hent]
  generalize (lg_sl [.ref l0] ++ List.replicate (6 - (lg_sl [.ref l0]).length) Slot.unset).toArray = ls at hl ⊢
  have hl : lv_has ls 6 [(0, .ref l0)] := hl
  have hD : va_D (aA [l0, l1, l2]) [(l0, .inr (2, [.ref k0, .ref l1, .int (nI N), .long (lN T), .ref l2, .int (nI te), .int (nI ex)])), (l1, .inl (cJ, 252, .inr (.inl (fL g)))), (l2, .inl (cI, 11, .inl (fN rc)))] := nd_D hN rfl
  have hS : va_S (aA [l0, l1, l2]) s.heap s.heap [] := va_S.rf
  have hP : va_P D vwCl [(l0, .inr (2, [.ref k0, .ref l1, .int (nI N), .long (lN T), .ref l2, .int (nI te), .int (nI ex)])), (l1, .inl (cJ, 252, .inr (.inl (fL g)))), (l2, .inl (cI, 11, .inl (fN rc)))] s.heap := hP
  obtain ⟨H, hH⟩ : ∃ H, H = s.heap := ⟨_, rfl⟩
  rw [← hH] at hP
  obtain ⟨locs, hlocs⟩ : ∃ q : List Loc, q = [] := ⟨_, rfl⟩
  have hS : va_S (aA [l0, l1, l2]) s.heap H locs := by rw [hH, hlocs]; exact hS
  rw [← hH, ← hlocs]
  clear hH hlocs
  refine va_gets (v := .ref gb) hx hb (hG.1.narrow (fun q hq => fun e => hga (e ▸ hq))) hS hown (hts _ kf_RX2_80) (fun _ h9 => h9) dX2_putInOrder_0 ?_
  refine lv_astore_n (lv' := [(1, .ref gb), (0, .ref l0)]) hx hb dX2_putInOrder_3 rfl hl (by decide) rfl (fun ls hl => ?_)
  refine lv_aload_n hx hb dX2_putInOrder_4 rfl (lv_at hl 0 rfl) ?_
  refine x_gapl hx hb hG hS hgb dX2_putInOrder_5 ?_
  refine lv_istore_n (lv' := [(2, .int (nI 5)), (1, .ref gb), (0, .ref l0)]) hx hb dX2_putInOrder_6 rfl hl (by decide) rfl (fun ls hl => ?_)
  refine lv_iconst (v := nI 0) hx hb dX2_putInOrder_7 (by decide) ?_
  refine lv_istore_n (lv' := [(3, .int (nI 0)), (2, .int (nI 5)), (1, .ref gb), (0, .ref l0)]) hx hb dX2_putInOrder_8 rfl hl (by decide) rfl (fun ls hl => ?_)
  have lp9 : ∀ (n : Nat) (j : Nat) (h : Nat → Nat) (H : Heap) (locs : List Loc) (ls : Array Slot), (j + n = 5) → (Sam N g h) → (Inj N h) → (j = 5 → Dcr N h) → va_P D vwCl [(l0, .inr (2, [.ref k0, .ref l1, .int (nI N), .long (lN T), .ref l2, .int (nI te), .int (nI ex)])), (l1, .inl (cJ, 252, .inr (.inl (fL h)))), (l2, .inl (cI, 11, .inl (fN rc)))] H → va_D (aA [l0, l1, l2]) [(l0, .inr (2, [.ref k0, .ref l1, .int (nI N), .long (lN T), .ref l2, .int (nI te), .int (nI ex)])), (l1, .inl (cJ, 252, .inr (.inl (fL h)))), (l2, .inl (cI, 11, .inl (fN rc)))] → va_S (aA [l0, l1, l2]) s.heap H locs → lv_has ls 6 [(3, .int (nI j)), (2, .int (nI 5)), (1, .ref gb), (0, .ref l0)] → W p l e R s m args below meth c H locs 0 0 Q (F0 m 9 ls []) := by
    intro n
    induction n with
    | zero =>
      intro j h H locs ls hn oS oJ oD hP hD hS hl
      refine lv_iload_n hx hb dX2_putInOrder_9 rfl (lv_at hl 0 rfl) ?_
      refine lv_iload_n hx hb dX2_putInOrder_10 rfl (lv_at hl 1 rfl) ?_
      refine x_cge (a := j) (b := 5) (tgt := 52) hx hb (by first | assumption | omega) (by decide) dX2_putInOrder_11 (by decide) (fun c11 => ?_) (fun c11 => (by omega))
      rw [hQ]
      exact W.vret hx hb hr (fun t ht hW => ⟨⟨H, rfl, ⟨_, oS, oJ, oD (by omega), hP.sub [0, 1, 2] rfl⟩, ht⟩, hS.F ht⟩) hS.2.2 dX2_putInOrder_52
    | succ n ih9 =>
      intro j h H locs ls hn oS oJ oD hP hD hS hl
      have hgj := gpN_in j
      refine lv_iload_n hx hb dX2_putInOrder_9 rfl (lv_at hl 0 rfl) ?_
      refine lv_iload_n hx hb dX2_putInOrder_10 rfl (lv_at hl 1 rfl) ?_
      refine x_cge (a := j) (b := 5) (tgt := 52) hx hb (by first | assumption | omega) (by decide) dX2_putInOrder_11 (by decide) (fun c11 => (by omega)) (fun c11 => ?_)
      refine lv_aload_n hx hb dX2_putInOrder_14 rfl (lv_at hl 2 rfl) ?_
      refine lv_iload_n hx hb dX2_putInOrder_15 rfl (lv_at hl 0 rfl) ?_
      refine x_gap hx hb hG hS hgb (by first | assumption | omega) dX2_putInOrder_16 ?_
      refine lv_istore (lv' := [(4, .int (nI (gpN j))), (3, .int (nI j)), (2, .int (nI 5)), (1, .ref gb), (0, .ref l0)]) hx hb dX2_putInOrder_17 hl (by decide) rfl (fun ls hl => ?_)
      refine lv_iload hx hb dX2_putInOrder_19 (lv_at hl 0 rfl) ?_
      refine lv_istore (lv' := [(5, .int (nI (gpN j))), (4, .int (nI (gpN j))), (3, .int (nI j)), (2, .int (nI 5)), (1, .ref gb), (0, .ref l0)]) hx hb dX2_putInOrder_21 hl (by decide) rfl (fun ls hl => ?_)
      have lp23 : ∀ (n : Nat) (i : Nat) (h2 : Nat → Nat) (H : Heap) (locs : List Loc) (ls : Array Slot), (N ≤ i + n) → (gpN j ≤ i ∧ i ≤ N + 57) → (Sam N g h2) → (Inj N h2) → (gpN j = 1 → Dcr i h2) → va_P D vwCl [(l0, .inr (2, [.ref k0, .ref l1, .int (nI N), .long (lN T), .ref l2, .int (nI te), .int (nI ex)])), (l1, .inl (cJ, 252, .inr (.inl (fL h2)))), (l2, .inl (cI, 11, .inl (fN rc)))] H → va_D (aA [l0, l1, l2]) [(l0, .inr (2, [.ref k0, .ref l1, .int (nI N), .long (lN T), .ref l2, .int (nI te), .int (nI ex)])), (l1, .inl (cJ, 252, .inr (.inl (fL h2)))), (l2, .inl (cI, 11, .inl (fN rc)))] → va_S (aA [l0, l1, l2]) s.heap H locs → lv_has ls 6 [(5, .int (nI i)), (4, .int (nI (gpN j))), (3, .int (nI j)), (2, .int (nI 5)), (1, .ref gb), (0, .ref l0)] → W p l e R s m args below meth c H locs 0 0 Q (F0 m 23 ls []) := by
        intro n
        induction n with
        | zero =>
          intro i h2 H locs ls hn hi iS iJ iD hP hD hS hl
          refine lv_iload hx hb dX2_putInOrder_23 (lv_at hl 0 rfl) ?_
          refine lv_aload_n hx hb dX2_putInOrder_25 rfl (lv_at hl 5 rfl) ?_
          refine va_get (D := D) (ci := 2) (v := .int (nI N)) (C := RX2) (T := TX2) (N := 7) hx hb hts inA2 hown hK.1 hP 0 rfl rfl 2 (by decide) (hts _ kf_RX2_23) (fun _ h9 => h9) rfl dX2_putInOrder_26 ?_
          refine x_cge (a := i) (b := N) (tgt := 46) hx hb (by first | assumption | omega) (by first | assumption | omega) dX2_putInOrder_29 (by decide) (fun c29 => ?_) (fun c29 => (by omega))
          refine lv_iinc (v := nI (j + 1)) (lv' := [(3, .int (nI (j + 1))), (5, .int (nI i)), (4, .int (nI (gpN j))), (2, .int (nI 5)), (1, .ref gb), (0, .ref l0)]) hx hb dX2_putInOrder_46 hl (k := 2) rfl (x_inc1 _) (by decide) rfl (fun ls hl => ?_)
          refine lv_goto (tgt := 9) hx hb dX2_putInOrder_49 (by decide) ?_
          exact ih9 (j + 1) h2 _ _ ls (by omega) (iS) (iJ) (fun e => (iD (by rw [show j = 4 by omega]; rfl)).mono (by omega)) (hP.sub [0, 1, 2] rfl) (hD.re [0, 1, 2] (by decide) rfl) hS (lv_sub hl [0, 3, 4, 5] rfl)
        | succ n ih23 =>
          intro i h2 H locs ls hn hi iS iJ iD hP hD hS hl
          refine lv_iload hx hb dX2_putInOrder_23 (lv_at hl 0 rfl) ?_
          refine lv_aload_n hx hb dX2_putInOrder_25 rfl (lv_at hl 5 rfl) ?_
          refine va_get (D := D) (ci := 2) (v := .int (nI N)) (C := RX2) (T := TX2) (N := 7) hx hb hts inA2 hown hK.1 hP 0 rfl rfl 2 (by decide) (hts _ kf_RX2_23) (fun _ h9 => h9) rfl dX2_putInOrder_26 ?_
          refine x_cge (a := i) (b := N) (tgt := 46) hx hb (by first | assumption | omega) (by first | assumption | omega) dX2_putInOrder_29 (by decide) (fun c29 => ?_) (fun c29 => ?_)
          · refine lv_iinc (v := nI (j + 1)) (lv' := [(3, .int (nI (j + 1))), (5, .int (nI i)), (4, .int (nI (gpN j))), (2, .int (nI 5)), (1, .ref gb), (0, .ref l0)]) hx hb dX2_putInOrder_46 hl (k := 2) rfl (x_inc1 _) (by decide) rfl (fun ls hl => ?_)
            refine lv_goto (tgt := 9) hx hb dX2_putInOrder_49 (by decide) ?_
            exact ih9 (j + 1) h2 _ _ ls (by omega) (iS) (iJ) (fun e => (iD (by rw [show j = 4 by omega]; rfl)).mono (by omega)) (hP.sub [0, 1, 2] rfl) (hD.re [0, 1, 2] (by decide) rfl) hS (lv_sub hl [0, 3, 4, 5] rfl)
          · refine lv_aload_n hx hb dX2_putInOrder_32 rfl (lv_at hl 5 rfl) ?_
            refine lv_iload hx hb dX2_putInOrder_33 (lv_at hl 0 rfl) ?_
            refine lv_iload hx hb dX2_putInOrder_35 (lv_at hl 1 rfl) ?_
            refine mc_v (va_runV (As := [.int (nI i), .int (nI (gpN j))]) (rest := []) ⟨hx, hb, hml, hown, hts⟩ (mt_X2_bringForward l D cI cJ cZ l0 l1 l2 N T te ex h2 rc k0 i (gpN j) (nd_sub hN [0, 1, 2] (by decide) rfl) (by first | assumption | omega) (by first | assumption | omega) (by first | assumption | omega) (by first | assumption | omega) (iJ) (iS.lt hb0)) (cwV 2 hts (gV km_RX2_83 ki_yX2_bringForward kl_yX2_bringForward kn_RX2 kc_yX2_bringForward) rfl rfl rfl (by decide +kernel) (by rw [hR]; exact ⟨Nat.le_of_ble_eq_true rfl, Nat.le_of_ble_eq_true rfl⟩)) (cP_V (q0 := 0) (ci := 2) hK (hP.sub [0, 1, 2] rfl) rfl rfl) rfl rfl hl.1 rfl (lv_room (Nat.le_of_ble_eq_true rfl)) dX2_putInOrder_37 ⟨Nat.zero_le _, Nat.zero_le _⟩) hS (aA_sub [0, 1, 2] rfl) (fun H locs hp_ hk_ hS => ?_)
            obtain ⟨g1_1, hs1_1, hi1_1, hd1_1, hP1⟩ := hp_
            have hP := pj (wr := []) (w1 := [(l0, .inr (2, [.ref k0, .ref l1, .int (nI N), .long (lN T), .ref l2, .int (nI te), .int (nI ex)])), (l1, .inl (cJ, 252, .inr (.inl (fL g1_1)))), (l2, .inl (cI, 11, .inl (fN rc)))]) (lc := [l0, l1, l2]) hP hD [0, 1, 2] [] rfl rfl (by decide) hk_ hP1
            have hP : va_P D vwCl [(l0, .inr (2, [.ref k0, .ref l1, .int (nI N), .long (lN T), .ref l2, .int (nI te), .int (nI ex)])), (l1, .inl (cJ, 252, .inr (.inl (fL g1_1)))), (l2, .inl (cI, 11, .inl (fN rc)))] H := hP
            have hD : va_D (aA [l0, l1, l2]) [(l0, .inr (2, [.ref k0, .ref l1, .int (nI N), .long (lN T), .ref l2, .int (nI te), .int (nI ex)])), (l1, .inl (cJ, 252, .inr (.inl (fL g1_1)))), (l2, .inl (cI, 11, .inl (fN rc)))] := hD.re [0, 1, 2] (by decide) rfl
            refine lv_iinc (v := nI (i + 1)) (lv' := [(5, .int (nI (i + 1))), (4, .int (nI (gpN j))), (3, .int (nI j)), (2, .int (nI 5)), (1, .ref gb), (0, .ref l0)]) hx hb dX2_putInOrder_40 hl (k := 0) rfl (x_inc1 _) (by decide) rfl (fun ls hl => ?_)
            refine lv_goto (tgt := 23) hx hb dX2_putInOrder_43 (by decide) ?_
            exact ih23 (i + 1) g1_1 _ _ ls (by omega) (by omega) (iS.tr hs1_1) (hi1_1) (fun e => hd1_1 e (iD e)) (hP.sub [0, 1, 2] rfl) (hD.re [0, 1, 2] (by decide) rfl) hS (lv_sub hl [0, 1, 2, 3, 4, 5] rfl)
      exact lp23 (N) (gpN j) h _ _ ls (by omega) (⟨Nat.le_refl _, by omega⟩) (oS) (oJ) (fun e a b h1 h2 => by omega) (hP.sub [0, 1, 2] rfl) (hD.re [0, 1, 2] (by decide) rfl) hS (lv_sub hl [0, 1, 2, 3, 4, 5] rfl)
  exact lp9 (5) 0 g _ _ ls (by omega) (Sam.rf _ _) (hJ0) (fun e => by omega) (hP.sub [0, 1, 2] rfl) (hD.re [0, 1, 2] (by decide) rfl) hS (lv_sub hl [0, 1, 2, 3] rfl)
