set_option maxHeartbeats 4000000 in
set_option maxRecDepth 100000 in
theorem mt_X2_choose (l : Launch) (D : va_G) (cI cJ cZ : ClassId) : ∀ (u : Nat) (l0 : Nat) (l1 : Nat) (l2 : Nat) (N : Nat) (T : Nat) (g : Nat → Nat) (rc : Nat → Nat) (k0 : Nat) (k1 : Nat) (k2 : Nat) (k3 : Nat) (k4 : Nat) (k5 : Nat) (k6 : Nat) (K : Kn) (S : Nat → Nat) (x : Nat) (w : Nat) (hN : [l0, l1, l2, k0, k1, k2, k3, k4, k5, k6].Nodup) (hu : u ≤ 10) (hxu : x + 2 ^ u ≤ 1024) (hd : x % 2 ^ u = 0) (hxe : x &&& exM K S = 0) (hal : alone K x (onM K S x) = true) (hw : ∀ y, x ≤ y → y < x + 2 ^ u → w * wtI K y u = wt K y) (hrc : ∀ i, i ≤ 10 → rc i = rch K S i) (hKO : KO K) (hI : Ginv K S x N T g), Met l yX2_choose (aW yX2_choose cX2_choose 11 none) { frames := u + 3, cells := 0, slots := 0, locals := 30 * u + 60 } (cP D cI cJ cZ [.ref l0, .int (nI u), .int (nI x), .int (nI (thM S &&& foM K x)), .int (nI (onM K S x)), .long (lN w)] [(l0, .inr (2, [.ref k0, .ref l1, .int (nI N), .long (lN T), .ref l2, .int (nI (thM S)), .int (nI (exM K S))])), (l1, .inl (cJ, 252, .inr (.inl (fL g)))), (l2, .inl (cI, 11, .inl (fN rc))), (k0, .inr (1, [.ref k1, .ref k2, .ref k3, .ref k4, .ref k5, .ref k6])), (k1, .inl (cI, 10, .inl (fN K.1))), (k2, .inl (cI, 10, .inl (fN K.2.1))), (k3, .inl (cI, 10, .inl (fN (lfM K)))), (k4, .inl (cI, 10, .inl (fN (mfM K)))), (k5, .inl (cI, 12, .inl (fN (lcM K)))), (k6, .inl (cI, 12, .inl (fN (mcM K))))]) (va_Qv (fun H1 : Heap => ∃ (N1 : Nat) (T1 : Nat) (g1 : Nat → Nat), (Ginv K S (x + 2 ^ u) N1 T1 g1) ∧ va_P D vwCl [(l0, .inr (2, [.ref k0, .ref l1, .int (nI N1), .long (lN T1), .ref l2, .int (nI (thM S)), .int (nI (exM K S))])), (l1, .inl (cJ, 252, .inr (.inl (fL g1)))), (l2, .inl (cI, 11, .inl (fN rc))), (k0, .inr (1, [.ref k1, .ref k2, .ref k3, .ref k4, .ref k5, .ref k6])), (k1, .inl (cI, 10, .inl (fN K.1))), (k2, .inl (cI, 10, .inl (fN K.2.1))), (k3, .inl (cI, 10, .inl (fN (lfM K)))), (k4, .inl (cI, 10, .inl (fN (mfM K)))), (k5, .inl (cI, 12, .inl (fN (lcM K)))), (k6, .inl (cI, 12, .inl (fN (mcM K))))] H1) mB (aA [l0, l1, l2, k0, k1, k2, k3, k4, k5, k6])) 0 0 (aA [l0, l1, l2, k0, k1, k2, k3, k4, k5, k6]) := by
  intro u
  induction u with
  | zero =>
    intro l0 l1 l2 N T g rc k0 k1 k2 k3 k4 k5 k6 K S x w hN hu hxu hd hxe hal hw hrc hKO hI
    refine Met.ofW (cc := cX2_choose) (maxL := 11) (ret := none) (by decide) rfl ?_
    intro p e s m args below meth c s₁ B hml hv
    obtain ⟨hav, hP, hK⟩ := hv
    have hx := B.exec
    have hb := B.bytes
    have hr := B.returns
    have hts := aW_in (atoms_spec (ws := aW yX2_choose cX2_choose 11 none) B.pre)
    have hown : s.vm.findClass RX2 = some m.cls := findClass_of_methodNamed B.named
    have hlocks := B.notSynchronized
    obtain ⟨R, hR⟩ : ∃ R, R = (headSpec (aW yX2_choose cX2_choose 11 none) { frames := 0 + 3, cells := 0, slots := 0, locals := 30 * 0 + 60 }).room := ⟨_, rfl⟩
    rw [← hR]
    obtain ⟨Q, hQ⟩ : ∃ Q, Q = MQ below (va_Qv (fun H1 : Heap => ∃ (N1 : Nat) (T1 : Nat) (g1 : Nat → Nat), (Ginv K S (x + 2 ^ 0) N1 T1 g1) ∧ va_P D vwCl [(l0, .inr (2, [.ref k0, .ref l1, .int (nI N1), .long (lN T1), .ref l2, .int (nI (thM S)), .int (nI (exM K S))])), (l1, .inl (cJ, 252, .inr (.inl (fL g1)))), (l2, .inl (cI, 11, .inl (fN rc))), (k0, .inr (1, [.ref k1, .ref k2, .ref k3, .ref k4, .ref k5, .ref k6])), (k1, .inl (cI, 10, .inl (fN K.1))), (k2, .inl (cI, 10, .inl (fN K.2.1))), (k3, .inl (cI, 10, .inl (fN (lfM K)))), (k4, .inl (cI, 10, .inl (fN (mfM K)))), (k5, .inl (cI, 12, .inl (fN (lcM K)))), (k6, .inl (cI, 12, .inl (fN (mcM K))))] H1) mB (aA [l0, l1, l2, k0, k1, k2, k3, k4, k5, k6])) args s 0 0 (aA [l0, l1, l2, k0, k1, k2, k3, k4, k5, k6]) := ⟨_, rfl⟩
    rw [← hQ]
    have hl := lv_entry [.ref l0, .int (nI 0), .int (nI x), .int (nI (thM S &&& foM K x)), .int (nI (onM K S x)), .long (lN w)] (n := 11) (Nat.le_of_ble_eq_true rfl)
    have hent := lg_entry_eq m [.ref l0, .int (nI 0), .int (nI x), .int (nI (thM S &&& foM K x)), .int (nI (onM K S x)), .long (lN w)] 11
    rw [← hav] at hent
    rw [hent]
    generalize (lg_sl [.ref l0, .int (nI 0), .int (nI x), .int (nI (thM S &&& foM K x)), .int (nI (onM K S x)), .long (lN w)] ++ List.replicate (11 - (lg_sl [.ref l0, .int (nI 0), .int (nI x), .int (nI (thM S &&& foM K x)), .int (nI (onM K S x)), .long (lN w)]).length) Slot.unset).toArray = ls at hl ⊢
    have hl : lv_has ls 11 [(0, .ref l0), (1, .int (nI 0)), (2, .int (nI x)), (3, .int (nI (thM S &&& foM K x))), (4, .int (nI (onM K S x))), (5, .long (lN w))] := hl
    have hD : va_D (aA [l0, l1, l2, k0, k1, k2, k3, k4, k5, k6]) [(l0, .inr (2, [.ref k0, .ref l1, .int (nI N), .long (lN T), .ref l2, .int (nI (thM S)), .int (nI (exM K S))])), (l1, .inl (cJ, 252, .inr (.inl (fL g)))), (l2, .inl (cI, 11, .inl (fN rc))), (k0, .inr (1, [.ref k1, .ref k2, .ref k3, .ref k4, .ref k5, .ref k6])), (k1, .inl (cI, 10, .inl (fN K.1))), (k2, .inl (cI, 10, .inl (fN K.2.1))), (k3, .inl (cI, 10, .inl (fN (lfM K)))), (k4, .inl (cI, 10, .inl (fN (mfM K)))), (k5, .inl (cI, 12, .inl (fN (lcM K)))), (k6, .inl (cI, 12, .inl (fN (mcM K))))] := nd_D hN rfl
    have hS : va_S (aA [l0, l1, l2, k0, k1, k2, k3, k4, k5, k6]) s.heap s.heap [] := va_S.rf
    have hP : va_P D vwCl [(l0, .inr (2, [.ref k0, .ref l1, .int (nI N), .long (lN T), .ref l2, .int (nI (thM S)), .int (nI (exM K S))])), (l1, .inl (cJ, 252, .inr (.inl (fL g)))), (l2, .inl (cI, 11, .inl (fN rc))), (k0, .inr (1, [.ref k1, .ref k2, .ref k3, .ref k4, .ref k5, .ref k6])), (k1, .inl (cI, 10, .inl (fN K.1))), (k2, .inl (cI, 10, .inl (fN K.2.1))), (k3, .inl (cI, 10, .inl (fN (lfM K)))), (k4, .inl (cI, 10, .inl (fN (mfM K)))), (k5, .inl (cI, 12, .inl (fN (lcM K)))), (k6, .inl (cI, 12, .inl (fN (mcM K))))] s.heap := hP
    obtain ⟨H, hH⟩ : ∃ H, H = s.heap := ⟨_, rfl⟩
    rw [← hH] at hP
    obtain ⟨locs, hlocs⟩ : ∃ q : List Loc, q = [] := ⟨_, rfl⟩
    have hS : va_S (aA [l0, l1, l2, k0, k1, k2, k3, k4, k5, k6]) s.heap H locs := by rw [hH, hlocs]; exact hS
    rw [← hH, ← hlocs]
    clear hH hlocs
    refine lv_iload_n hx hb dX2_choose_0 rfl (lv_at hl 1 rfl) ?_
    refine x_zlt (tgt := 10) hx hb (by decide) dX2_choose_1 (by decide) (fun c1 => (c1.elim)) (fun c1 => ?_)
    refine lv_iload_n hx hb dX2_choose_4 rfl (lv_at hl 1 rfl) ?_
    refine lv_bipush (v := nI 10) hx hb dX2_choose_5 (by decide) ?_
    refine x_cle (a := 0) (b := 10) (tgt := 11) hx hb (by decide) (by decide) dX2_choose_7 (by decide) (fun c7 => ?_) (fun c7 => (by omega))
    refine lv_aload_n hx hb dX2_choose_11 rfl (lv_at hl 0 rfl) ?_
    refine va_get (D := D) (ci := 2) (v := .int (nI (thM S))) (C := RX2) (T := TX2) (N := 7) hx hb hts inA2 hown hK.1 hP 0 rfl rfl 5 (by decide) (hts _ kf_RX2_36) (fun _ h9 => h9) rfl dX2_choose_12 ?_
    refine lv_iload_n hx hb dX2_choose_15 rfl (lv_at hl 3 rfl) ?_
    refine lv_iconst (v := (-1)) hx hb dX2_choose_16 (by decide) ?_
    refine x_ixor (z := nI (thM S &&& foM K x) ^^^ (-1)) hx hb dX2_choose_17 (rfl) ?_
    refine x_iand (z := nI (ndf (thM S) (thM S &&& foM K x))) hx hb dX2_choose_18 (z_ndf _ _) ?_
    refine lv_aload_n hx hb dX2_choose_19 rfl (lv_at hl 0 rfl) ?_
    refine va_get (D := D) (ci := 2) (v := .ref l2) (C := RX2) (T := TX2) (N := 7) hx hb hts inA2 hown hK.1 hP 0 rfl rfl 4 (by decide) (hts _ kf_RX2_15) (fun _ h9 => h9) rfl dX2_choose_20 ?_
    refine lv_iload_n hx hb dX2_choose_23 rfl (lv_at hl 1 rfl) ?_
    refine x_ildN hx hb hK.1 hP 2 0 rfl rfl (by first | assumption | omega) (by decide) dX2_choose_24 ?_
    refine lv_iconst (v := (-1)) hx hb dX2_choose_25 (by decide) ?_
    refine x_ixor (z := nI (rc 0) ^^^ (-1)) hx hb dX2_choose_26 (rfl) ?_
    refine x_iand (z := nI (ndf (ndf (thM S) (thM S &&& foM K x)) (rc 0))) hx hb dX2_choose_27 (z_ndf _ _) ?_
    refine x_zeq (tgt := 32) hx hb (Nat.lt_trans (ndf_lt _ (ndf_lt _ (thM_lt S))) (by decide)) dX2_choose_28 (by decide) (fun c28 => ?_) (fun c28 => ?_)
    · refine lv_iload_n hx hb dX2_choose_32 rfl (lv_at hl 1 rfl) ?_
      refine x_zne (tgt := 44) hx hb (by decide) dX2_choose_33 (by decide) (fun c33 => (by omega)) (fun c33 => ?_)
      have hE := leaf_isE (show x < 1024 by omega) hxe hal (by rw [← hrc 0 (by omega)]; exact c28)
      have hwx : w = wt K x := by
        have q := hw x (Nat.le_refl _) (by omega)
        rw [wtI, Nat.mul_one] at q
        exact q
      have hG := hI.add hE
      unfold key at hG
      rw [← hwx] at hG
      refine lv_aload_n hx hb dX2_choose_36 rfl (lv_at hl 0 rfl) ?_
      refine lv_iload_n hx hb dX2_choose_37 rfl (lv_at hl 2 rfl) ?_
      refine lv_lload hx hb dX2_choose_38 (lv_at hl 5 rfl) ?_
      refine mc_v (va_runV (As := [.int (nI x), .long (lN w)]) (rest := []) ⟨hx, hb, hml, hown, hts⟩ (mt_X2_enter l D cI cJ cZ l0 l1 l2 N T (thM S) (exM K S) g rc k0 x w (nd_sub hN [0, 1, 2] (by decide) rfl) (hI.lt (by omega) hE) (by omega)) (cwV 2 hts (gV km_RX2_62 ki_yX2_enter kl_yX2_enter kn_RX2 kc_yX2_enter) rfl rfl rfl (by decide +kernel) (by rw [hR]; exact ⟨by show 1 + 1 ≤ 0 + 3; omega, by show 8 + (8 + 11) + 20 ≤ 30 * 0 + 60; omega⟩)) (cP_V (q0 := 0) (ci := 2) hK (hP.sub [0, 1, 2] rfl) rfl rfl) rfl rfl hl.1 rfl (lv_room (Nat.le_of_ble_eq_true rfl)) dX2_choose_40 ⟨Nat.zero_le _, Nat.zero_le _⟩) hS (aA_sub [0, 1, 2] rfl) (fun H locs hp_ hk_ hS => ?_)
      have hP1 := hp_
      have hP := pj (wr := [(k0, .inr (1, [.ref k1, .ref k2, .ref k3, .ref k4, .ref k5, .ref k6])), (k1, .inl (cI, 10, .inl (fN K.1))), (k2, .inl (cI, 10, .inl (fN K.2.1))), (k3, .inl (cI, 10, .inl (fN (lfM K)))), (k4, .inl (cI, 10, .inl (fN (mfM K)))), (k5, .inl (cI, 12, .inl (fN (lcM K)))), (k6, .inl (cI, 12, .inl (fN (mcM K))))]) (w1 := [(l0, .inr (2, [.ref k0, .ref l1, .int (nI (N + 1)), .long (lN (T + w)), .ref l2, .int (nI (thM S)), .int (nI (exM K S))])), (l1, .inl (cJ, 252, .inr (.inl (fL (va_up g N ((w * 16 + (15 - pop x)) * 1024 + (1023 - x))))))), (l2, .inl (cI, 11, .inl (fN rc)))]) (lc := [l0, l1, l2]) hP hD [0, 1, 2] [3, 4, 5, 6, 7, 8, 9] rfl rfl (by decide) hk_ hP1
      have hP : va_P D vwCl [(k0, .inr (1, [.ref k1, .ref k2, .ref k3, .ref k4, .ref k5, .ref k6])), (k1, .inl (cI, 10, .inl (fN K.1))), (k2, .inl (cI, 10, .inl (fN K.2.1))), (k3, .inl (cI, 10, .inl (fN (lfM K)))), (k4, .inl (cI, 10, .inl (fN (mfM K)))), (k5, .inl (cI, 12, .inl (fN (lcM K)))), (k6, .inl (cI, 12, .inl (fN (mcM K)))), (l0, .inr (2, [.ref k0, .ref l1, .int (nI (N + 1)), .long (lN (T + w)), .ref l2, .int (nI (thM S)), .int (nI (exM K S))])), (l1, .inl (cJ, 252, .inr (.inl (fL (va_up g N ((w * 16 + (15 - pop x)) * 1024 + (1023 - x))))))), (l2, .inl (cI, 11, .inl (fN rc)))] H := hP
      have hD : va_D (aA [l0, l1, l2, k0, k1, k2, k3, k4, k5, k6]) [(k0, .inr (1, [.ref k1, .ref k2, .ref k3, .ref k4, .ref k5, .ref k6])), (k1, .inl (cI, 10, .inl (fN K.1))), (k2, .inl (cI, 10, .inl (fN K.2.1))), (k3, .inl (cI, 10, .inl (fN (lfM K)))), (k4, .inl (cI, 10, .inl (fN (mfM K)))), (k5, .inl (cI, 12, .inl (fN (lcM K)))), (k6, .inl (cI, 12, .inl (fN (mcM K)))), (l0, .inr (2, [.ref k0, .ref l1, .int (nI (N + 1)), .long (lN (T + w)), .ref l2, .int (nI (thM S)), .int (nI (exM K S))])), (l1, .inl (cJ, 252, .inr (.inl (fL (va_up g N ((w * 16 + (15 - pop x)) * 1024 + (1023 - x))))))), (l2, .inl (cI, 11, .inl (fN rc)))] := hD.re [3, 4, 5, 6, 7, 8, 9, 0, 1, 2] (by decide) rfl
      rw [hQ]
      exact W.vret hx hb hr (fun t ht hW => ⟨⟨H, rfl, ⟨_, _, _, hG, hP.sub [7, 8, 9, 0, 1, 2, 3, 4, 5, 6] rfl⟩, ht⟩, hS.F ht⟩) hS.2.2 dX2_choose_43
    · rw [hQ]
      exact W.vret hx hb hr (fun t ht hW => ⟨⟨H, rfl, by rw [hrc _ (by omega)] at c28; exact ⟨N, T, g, hI.skip (Nat.le_add_right _ _) (fun y h1 h2 => prune_reach hd c28 h1 h2), hP.sub [0, 1, 2, 3, 4, 5, 6, 7, 8, 9] rfl⟩, ht⟩, hS.F ht⟩) hS.2.2 dX2_choose_31
  | succ v ih =>
    intro l0 l1 l2 N T g rc k0 k1 k2 k3 k4 k5 k6 K S x w hN hu hxu hd hxe hal hw hrc hKO hI
    have hp2 : 2 ^ (v + 1) = 2 ^ v + 2 ^ v := by rw [Nat.pow_succ]; omega
    have hp0 := Nat.two_pow_pos v
    refine Met.ofW (cc := cX2_choose) (maxL := 11) (ret := none) (by decide) rfl ?_
    intro p e s m args below meth c s₁ B hml hv
    obtain ⟨hav, hP, hK⟩ := hv
    have hx := B.exec
    have hb := B.bytes
    have hr := B.returns
    have hts := aW_in (atoms_spec (ws := aW yX2_choose cX2_choose 11 none) B.pre)
    have hown : s.vm.findClass RX2 = some m.cls := findClass_of_methodNamed B.named
    have hlocks := B.notSynchronized
    obtain ⟨R, hR⟩ : ∃ R, R = (headSpec (aW yX2_choose cX2_choose 11 none) { frames := (v + 1) + 3, cells := 0, slots := 0, locals := 30 * (v + 1) + 60 }).room := ⟨_, rfl⟩
    rw [← hR]
    obtain ⟨Q, hQ⟩ : ∃ Q, Q = MQ below (va_Qv (fun H1 : Heap => ∃ (N1 : Nat) (T1 : Nat) (g1 : Nat → Nat), (Ginv K S (x + 2 ^ (v + 1)) N1 T1 g1) ∧ va_P D vwCl [(l0, .inr (2, [.ref k0, .ref l1, .int (nI N1), .long (lN T1), .ref l2, .int (nI (thM S)), .int (nI (exM K S))])), (l1, .inl (cJ, 252, .inr (.inl (fL g1)))), (l2, .inl (cI, 11, .inl (fN rc))), (k0, .inr (1, [.ref k1, .ref k2, .ref k3, .ref k4, .ref k5, .ref k6])), (k1, .inl (cI, 10, .inl (fN K.1))), (k2, .inl (cI, 10, .inl (fN K.2.1))), (k3, .inl (cI, 10, .inl (fN (lfM K)))), (k4, .inl (cI, 10, .inl (fN (mfM K)))), (k5, .inl (cI, 12, .inl (fN (lcM K)))), (k6, .inl (cI, 12, .inl (fN (mcM K))))] H1) mB (aA [l0, l1, l2, k0, k1, k2, k3, k4, k5, k6])) args s 0 0 (aA [l0, l1, l2, k0, k1, k2, k3, k4, k5, k6]) := ⟨_, rfl⟩
    rw [← hQ]
    have hl := lv_entry [.ref l0, .int (nI (v + 1)), .int (nI x), .int (nI (thM S &&& foM K x)), .int (nI (onM K S x)), .long (lN w)] (n := 11) (Nat.le_of_ble_eq_true rfl)
    have hent := lg_entry_eq m [.ref l0, .int (nI (v + 1)), .int (nI x), .int (nI (thM S &&& foM K x)), .int (nI (onM K S x)), .long (lN w)] 11
    rw [← hav] at hent
    rw [hent]
    generalize (lg_sl [.ref l0, .int (nI (v + 1)), .int (nI x), .int (nI (thM S &&& foM K x)), .int (nI (onM K S x)), .long (lN w)] ++ List.replicate (11 - (lg_sl [.ref l0, .int (nI (v + 1)), .int (nI x), .int (nI (thM S &&& foM K x)), .int (nI (onM K S x)), .long (lN w)]).length) Slot.unset).toArray = ls at hl ⊢
    have hl : lv_has ls 11 [(0, .ref l0), (1, .int (nI (v + 1))), (2, .int (nI x)), (3, .int (nI (thM S &&& foM K x))), (4, .int (nI (onM K S x))), (5, .long (lN w))] := hl
    have hD : va_D (aA [l0, l1, l2, k0, k1, k2, k3, k4, k5, k6]) [(l0, .inr (2, [.ref k0, .ref l1, .int (nI N), .long (lN T), .ref l2, .int (nI (thM S)), .int (nI (exM K S))])), (l1, .inl (cJ, 252, .inr (.inl (fL g)))), (l2, .inl (cI, 11, .inl (fN rc))), (k0, .inr (1, [.ref k1, .ref k2, .ref k3, .ref k4, .ref k5, .ref k6])), (k1, .inl (cI, 10, .inl (fN K.1))), (k2, .inl (cI, 10, .inl (fN K.2.1))), (k3, .inl (cI, 10, .inl (fN (lfM K)))), (k4, .inl (cI, 10, .inl (fN (mfM K)))), (k5, .inl (cI, 12, .inl (fN (lcM K)))), (k6, .inl (cI, 12, .inl (fN (mcM K))))] := nd_D hN rfl
    have hS : va_S (aA [l0, l1, l2, k0, k1, k2, k3, k4, k5, k6]) s.heap s.heap [] := va_S.rf
    have hP : va_P D vwCl [(l0, .inr (2, [.ref k0, .ref l1, .int (nI N), .long (lN T), .ref l2, .int (nI (thM S)), .int (nI (exM K S))])), (l1, .inl (cJ, 252, .inr (.inl (fL g)))), (l2, .inl (cI, 11, .inl (fN rc))), (k0, .inr (1, [.ref k1, .ref k2, .ref k3, .ref k4, .ref k5, .ref k6])), (k1, .inl (cI, 10, .inl (fN K.1))), (k2, .inl (cI, 10, .inl (fN K.2.1))), (k3, .inl (cI, 10, .inl (fN (lfM K)))), (k4, .inl (cI, 10, .inl (fN (mfM K)))), (k5, .inl (cI, 12, .inl (fN (lcM K)))), (k6, .inl (cI, 12, .inl (fN (mcM K))))] s.heap := hP
    obtain ⟨H, hH⟩ : ∃ H, H = s.heap := ⟨_, rfl⟩
    rw [← hH] at hP
    obtain ⟨locs, hlocs⟩ : ∃ q : List Loc, q = [] := ⟨_, rfl⟩
    have hS : va_S (aA [l0, l1, l2, k0, k1, k2, k3, k4, k5, k6]) s.heap H locs := by rw [hH, hlocs]; exact hS
    rw [← hH, ← hlocs]
    clear hH hlocs
    refine lv_iload_n hx hb dX2_choose_0 rfl (lv_at hl 1 rfl) ?_
    refine x_zlt (tgt := 10) hx hb (by first | assumption | omega) dX2_choose_1 (by decide) (fun c1 => (c1.elim)) (fun c1 => ?_)
    refine lv_iload_n hx hb dX2_choose_4 rfl (lv_at hl 1 rfl) ?_
    refine lv_bipush (v := nI 10) hx hb dX2_choose_5 (by decide) ?_
    refine x_cle (a := (v + 1)) (b := 10) (tgt := 11) hx hb (by first | assumption | omega) (by decide) dX2_choose_7 (by decide) (fun c7 => ?_) (fun c7 => (by omega))
    refine lv_aload_n hx hb dX2_choose_11 rfl (lv_at hl 0 rfl) ?_
    refine va_get (D := D) (ci := 2) (v := .int (nI (thM S))) (C := RX2) (T := TX2) (N := 7) hx hb hts inA2 hown hK.1 hP 0 rfl rfl 5 (by decide) (hts _ kf_RX2_36) (fun _ h9 => h9) rfl dX2_choose_12 ?_
    refine lv_iload_n hx hb dX2_choose_15 rfl (lv_at hl 3 rfl) ?_
    refine lv_iconst (v := (-1)) hx hb dX2_choose_16 (by decide) ?_
    refine x_ixor (z := nI (thM S &&& foM K x) ^^^ (-1)) hx hb dX2_choose_17 (rfl) ?_
    refine x_iand (z := nI (ndf (thM S) (thM S &&& foM K x))) hx hb dX2_choose_18 (z_ndf _ _) ?_
    refine lv_aload_n hx hb dX2_choose_19 rfl (lv_at hl 0 rfl) ?_
    refine va_get (D := D) (ci := 2) (v := .ref l2) (C := RX2) (T := TX2) (N := 7) hx hb hts inA2 hown hK.1 hP 0 rfl rfl 4 (by decide) (hts _ kf_RX2_15) (fun _ h9 => h9) rfl dX2_choose_20 ?_
    refine lv_iload_n hx hb dX2_choose_23 rfl (lv_at hl 1 rfl) ?_
    refine x_ildN hx hb hK.1 hP 2 0 rfl rfl (by first | assumption | omega) (by decide) dX2_choose_24 ?_
    refine lv_iconst (v := (-1)) hx hb dX2_choose_25 (by decide) ?_
    refine x_ixor (z := nI (rc (v + 1)) ^^^ (-1)) hx hb dX2_choose_26 (rfl) ?_
    refine x_iand (z := nI (ndf (ndf (thM S) (thM S &&& foM K x)) (rc (v + 1)))) hx hb dX2_choose_27 (z_ndf _ _) ?_
    refine x_zeq (tgt := 32) hx hb (Nat.lt_trans (ndf_lt _ (ndf_lt _ (thM_lt S))) (by decide)) dX2_choose_28 (by decide) (fun c28 => ?_) (fun c28 => ?_)
    · refine lv_iload_n hx hb dX2_choose_32 rfl (lv_at hl 1 rfl) ?_
      refine x_zne (tgt := 44) hx hb (by first | assumption | omega) dX2_choose_33 (by decide) (fun c33 => ?_) (fun c33 => (by omega))
      refine lv_iload_n hx hb dX2_choose_44 rfl (lv_at hl 1 rfl) ?_
      refine lv_iconst (v := nI 1) hx hb dX2_choose_45 (by decide) ?_
      refine x_isub (z := nI v) hx hb dX2_choose_46 (nI_pred v) ?_
      refine lv_istore (lv' := [(7, .int (nI v)), (0, .ref l0), (1, .int (nI (v + 1))), (2, .int (nI x)), (3, .int (nI (thM S &&& foM K x))), (4, .int (nI (onM K S x))), (5, .long (lN w))]) hx hb dX2_choose_47 hl (by decide) rfl (fun ls hl => ?_)
      refine lv_aload_n hx hb dX2_choose_49 rfl (lv_at hl 1 rfl) ?_
      refine lv_iload hx hb dX2_choose_50 (lv_at hl 0 rfl) ?_
      refine lv_iload_n hx hb dX2_choose_52 rfl (lv_at hl 3 rfl) ?_
      refine lv_iload_n hx hb dX2_choose_53 rfl (lv_at hl 4 rfl) ?_
      refine lv_iload hx hb dX2_choose_54 (lv_at hl 5 rfl) ?_
      refine lv_lload hx hb dX2_choose_56 (lv_at hl 6 rfl) ?_
      refine lv_aload_n hx hb dX2_choose_58 rfl (lv_at hl 1 rfl) ?_
      refine va_get (D := D) (ci := 2) (v := .ref k0) (C := RX2) (T := TX2) (N := 7) hx hb hts inA2 hown hK.1 hP 0 rfl rfl 0 (by decide) (hts _ kf_RX2_19) (fun _ h9 => h9) rfl dX2_choose_59 ?_
      refine va_get (D := D) (ci := 1) (v := .ref k2) (C := RX1) (T := TX1) (N := 6) hx hb hts inA1 hown hK.1 hP 3 rfl rfl 1 (by decide) (hts _ kf_RX2_66) (fun _ h9 => h9) rfl dX2_choose_62 ?_
      refine lv_iload hx hb dX2_choose_65 (lv_at hl 0 rfl) ?_
      refine x_ildN hx hb hK.1 hP 5 0 rfl rfl (by first | assumption | omega) (by decide) dX2_choose_67 ?_
      refine lv_i2l (v := lN (K.2.1 v)) hx hb dX2_choose_68 (nI_l (by have := hKO v (by omega); omega)) ?_
      refine x_lmul (z := lN (w * (K.2.1 v))) hx hb dX2_choose_69 (lN_mul _ _) ?_
      refine mc_v (va_runS (As := [.ref l0, .int (nI v), .int (nI x), .int (nI (thM S &&& foM K x)), .int (nI (onM K S x)), .long (lN (w * (K.2.1 v)))]) (rest := []) ⟨hx, hb, hml, hown, hts⟩ (ih l0 l1 l2 N T g rc k0 k1 k2 k3 k4 k5 k6 K S x (w * (K.2.1 v)) (nd_sub hN [0, 1, 2, 3, 4, 5, 6, 7, 8, 9] (by decide) rfl) (by omega) (by omega) (mod_v hd) (by first | assumption | omega) (by first | assumption | omega) (fun y h1 h2 => by
              have q := hw y (by omega) (by omega)
              rw [wtI, top_bit hd h1 h2, if_neg (by decide)] at q
              rw [Nat.mul_assoc, Nat.mul_comm (K.2.1 v)]
              exact q) (by first | assumption | omega) (by first | assumption | omega) (by first | assumption | omega)) (va_cwS 6 hts (gS km_RX2_58 ks_yX2_choose kn_RX2 kc_yX2_choose) rfl rfl rfl (by decide +kernel) (by rw [hR]; exact ⟨by show v + 3 + 1 ≤ v + 1 + 3; omega, by show 8 + (11 + 11) + (30 * v + 60) ≤ 30 * (v + 1) + 60; omega⟩)) (cP_S hK (hP.sub [0, 1, 2, 3, 4, 5, 6, 7, 8, 9] rfl)) rfl rfl hl.1 rfl (lv_room (Nat.le_of_ble_eq_true rfl)) dX2_choose_70 ⟨Nat.zero_le _, Nat.zero_le _⟩) hS (aA_sub [0, 1, 2, 3, 4, 5, 6, 7, 8, 9] rfl) (fun H locs hp_ hk_ hS => ?_)
      obtain ⟨N1_1, T1_1, g1_1, hI1_1, hP1⟩ := hp_
      have hP := pj (wr := []) (w1 := [(l0, .inr (2, [.ref k0, .ref l1, .int (nI N1_1), .long (lN T1_1), .ref l2, .int (nI (thM S)), .int (nI (exM K S))])), (l1, .inl (cJ, 252, .inr (.inl (fL g1_1)))), (l2, .inl (cI, 11, .inl (fN rc))), (k0, .inr (1, [.ref k1, .ref k2, .ref k3, .ref k4, .ref k5, .ref k6])), (k1, .inl (cI, 10, .inl (fN K.1))), (k2, .inl (cI, 10, .inl (fN K.2.1))), (k3, .inl (cI, 10, .inl (fN (lfM K)))), (k4, .inl (cI, 10, .inl (fN (mfM K)))), (k5, .inl (cI, 12, .inl (fN (lcM K)))), (k6, .inl (cI, 12, .inl (fN (mcM K))))]) (lc := [l0, l1, l2, k0, k1, k2, k3, k4, k5, k6]) hP hD [0, 1, 2, 3, 4, 5, 6, 7, 8, 9] [] rfl rfl (by decide) hk_ hP1
      have hP : va_P D vwCl [(l0, .inr (2, [.ref k0, .ref l1, .int (nI N1_1), .long (lN T1_1), .ref l2, .int (nI (thM S)), .int (nI (exM K S))])), (l1, .inl (cJ, 252, .inr (.inl (fL g1_1)))), (l2, .inl (cI, 11, .inl (fN rc))), (k0, .inr (1, [.ref k1, .ref k2, .ref k3, .ref k4, .ref k5, .ref k6])), (k1, .inl (cI, 10, .inl (fN K.1))), (k2, .inl (cI, 10, .inl (fN K.2.1))), (k3, .inl (cI, 10, .inl (fN (lfM K)))), (k4, .inl (cI, 10, .inl (fN (mfM K)))), (k5, .inl (cI, 12, .inl (fN (lcM K)))), (k6, .inl (cI, 12, .inl (fN (mcM K))))] H := hP
      have hD : va_D (aA [l0, l1, l2, k0, k1, k2, k3, k4, k5, k6]) [(l0, .inr (2, [.ref k0, .ref l1, .int (nI N1_1), .long (lN T1_1), .ref l2, .int (nI (thM S)), .int (nI (exM K S))])), (l1, .inl (cJ, 252, .inr (.inl (fL g1_1)))), (l2, .inl (cI, 11, .inl (fN rc))), (k0, .inr (1, [.ref k1, .ref k2, .ref k3, .ref k4, .ref k5, .ref k6])), (k1, .inl (cI, 10, .inl (fN K.1))), (k2, .inl (cI, 10, .inl (fN K.2.1))), (k3, .inl (cI, 10, .inl (fN (lfM K)))), (k4, .inl (cI, 10, .inl (fN (mfM K)))), (k5, .inl (cI, 12, .inl (fN (lcM K)))), (k6, .inl (cI, 12, .inl (fN (mcM K))))] := hD.re [0, 1, 2, 3, 4, 5, 6, 7, 8, 9] (by decide) rfl
      refine lv_aload_n hx hb dX2_choose_73 rfl (lv_at hl 1 rfl) ?_
      refine va_get (D := D) (ci := 2) (v := .int (nI (exM K S))) (C := RX2) (T := TX2) (N := 7) hx hb hts inA2 hown hK.1 hP 0 rfl rfl 6 (by decide) (hts _ kf_RX2_48) (fun _ h9 => h9) rfl dX2_choose_74 ?_
      refine lv_iload hx hb dX2_choose_77 (lv_at hl 0 rfl) ?_
      refine vp_callSi (va_Run.run (va_runSN (As := [.int (nI (exM K S)), .int (nI v)]) (rest := []) ⟨hx, hb, hml, hown, hts⟩ (mt_X6_has l D cI cJ cZ (exM K S) v (Nat.lt_trans (exM_lt K S) (by decide)) (by first | assumption | omega)) ⟨va_cnB 2 hts (aW_good kc_yX6_has) rfl rfl rfl hK.2.2.1 (hts _ kn_RX6) (by decide +kernel) (by rw [hR]; exact ⟨by show 0 + 1 ≤ v + 1 + 3; omega, by show 8 + (2 + 11) + 0 ≤ 30 * (v + 1) + 60; omega⟩), hts _ ks_yX6_has, trivial⟩ (cP_S hK (fun k q h => by simp at h)) rfl rfl hl.1 rfl (lv_room (Nat.le_of_ble_eq_true rfl)) dX2_choose_79 ⟨Nat.zero_le _, Nat.zero_le _⟩)) (fun r_ hr_ => ?_)
      subst hr_
      refine x_beq (tgt := 86) hx hb dX2_choose_82 (by decide) (fun c82 => ?_) (fun c82 => ?_)
      · refine lv_aload_n hx hb dX2_choose_86 rfl (lv_at hl 1 rfl) ?_
        refine va_get (D := D) (ci := 2) (v := .int (nI (thM S))) (C := RX2) (T := TX2) (N := 7) hx hb hts inA2 hown hK.1 hP 0 rfl rfl 5 (by decide) (hts _ kf_RX2_36) (fun _ h9 => h9) rfl dX2_choose_87 ?_
        refine lv_aload_n hx hb dX2_choose_90 rfl (lv_at hl 1 rfl) ?_
        refine va_get (D := D) (ci := 2) (v := .ref k0) (C := RX2) (T := TX2) (N := 7) hx hb hts inA2 hown hK.1 hP 0 rfl rfl 0 (by decide) (hts _ kf_RX2_19) (fun _ h9 => h9) rfl dX2_choose_91 ?_
        refine va_get (D := D) (ci := 1) (v := .ref k3) (C := RX1) (T := TX1) (N := 6) hx hb hts inA1 hown hK.1 hP 3 rfl rfl 2 (by decide) (hts _ kf_RX2_55) (fun _ h9 => h9) rfl dX2_choose_94 ?_
        refine lv_iload hx hb dX2_choose_97 (lv_at hl 0 rfl) ?_
        refine x_ildN hx hb hK.1 hP 6 0 rfl rfl (by first | assumption | omega) (by decide) dX2_choose_99 ?_
        refine x_iand (z := nI ((thM S) &&& ((lfM K) v))) hx hb dX2_choose_100 (z_and _ _) ?_
        refine lv_istore (lv' := [(8, .int (nI ((thM S) &&& ((lfM K) v)))), (7, .int (nI v)), (0, .ref l0), (1, .int (nI (v + 1))), (2, .int (nI x)), (3, .int (nI (thM S &&& foM K x))), (4, .int (nI (onM K S x))), (5, .long (lN w))]) hx hb dX2_choose_101 hl (by decide) rfl (fun ls hl => ?_)
        refine lv_iload_n hx hb dX2_choose_103 rfl (lv_at hl 4 rfl) ?_
        refine lv_iconst (v := nI 1) hx hb dX2_choose_104 (by decide) ?_
        refine lv_iload hx hb dX2_choose_105 (lv_at hl 1 rfl) ?_
        refine x_ishl (z := nI (2 ^ v)) hx hb dX2_choose_107 (z_shl1 (by first | assumption | omega)) ?_
        refine x_ior (z := nI (x + 2 ^ v)) hx hb dX2_choose_108 (by rw [z_or, or_v hd]) ?_
        refine lv_istore (lv' := [(9, .int (nI (x + 2 ^ v))), (8, .int (nI ((thM S) &&& ((lfM K) v)))), (7, .int (nI v)), (0, .ref l0), (1, .int (nI (v + 1))), (2, .int (nI x)), (3, .int (nI (thM S &&& foM K x))), (4, .int (nI (onM K S x))), (5, .long (lN w))]) hx hb dX2_choose_109 hl (by decide) rfl (fun ls hl => ?_)
        refine lv_iload hx hb dX2_choose_111 (lv_at hl 7 rfl) ?_
        refine lv_iload hx hb dX2_choose_113 (lv_at hl 1 rfl) ?_
        refine lv_iconst (v := (-1)) hx hb dX2_choose_115 (by decide) ?_
        refine x_ixor (z := nI ((thM S) &&& ((lfM K) v)) ^^^ (-1)) hx hb dX2_choose_116 (rfl) ?_
        refine x_iand (z := nI (ndf (onM K S x) ((thM S) &&& ((lfM K) v)))) hx hb dX2_choose_117 (z_ndf _ _) ?_
        refine lv_iload hx hb dX2_choose_118 (lv_at hl 1 rfl) ?_
        refine lv_iload_n hx hb dX2_choose_120 rfl (lv_at hl 6 rfl) ?_
        refine lv_iconst (v := (-1)) hx hb dX2_choose_121 (by decide) ?_
        refine x_ixor (z := nI (thM S &&& foM K x) ^^^ (-1)) hx hb dX2_choose_122 (rfl) ?_
        refine x_iand (z := nI (ndf ((thM S) &&& ((lfM K) v)) (thM S &&& foM K x))) hx hb dX2_choose_123 (z_ndf _ _) ?_
        refine x_ior (z := nI (onM K S (x + 2 ^ v))) hx hb dX2_choose_124 (by rw [z_or, once_or (by omega) hd]) ?_
        refine lv_istore (lv' := [(10, .int (nI (onM K S (x + 2 ^ v)))), (9, .int (nI (x + 2 ^ v))), (8, .int (nI ((thM S) &&& ((lfM K) v)))), (7, .int (nI v)), (0, .ref l0), (1, .int (nI (v + 1))), (2, .int (nI x)), (3, .int (nI (thM S &&& foM K x))), (4, .int (nI (onM K S x))), (5, .long (lN w))]) hx hb dX2_choose_125 hl (by decide) rfl (fun ls hl => ?_)
        refine lv_aload_n hx hb dX2_choose_127 rfl (lv_at hl 4 rfl) ?_
        refine lv_iload hx hb dX2_choose_128 (lv_at hl 1 rfl) ?_
        refine lv_iload hx hb dX2_choose_130 (lv_at hl 0 rfl) ?_
        refine vp_callSi (va_Run.run (va_runV (As := [.int (nI (x + 2 ^ v)), .int (nI (onM K S (x + 2 ^ v)))]) (rest := []) ⟨hx, hb, hml, hown, hts⟩ (mt_X2_allAreAloneForOne l D cI cJ cZ l0 l1 l2 N1_1 T1_1 (thM S) (exM K S) g1_1 rc k0 k1 k2 k3 k4 k5 k6 K (x + 2 ^ v) (onM K S (x + 2 ^ v)) (by omega) (mkN_lt _ _)) (cwV 2 hts (gV km_RX2_69 ki_yX2_allAreAloneForOne kl_yX2_allAreAloneForOne kn_RX2 kc_yX2_allAreAloneForOne) rfl rfl rfl (by decide +kernel) (by rw [hR]; exact ⟨by show 1 + 1 ≤ v + 1 + 3; omega, by show 8 + (4 + 11) + 21 ≤ 30 * (v + 1) + 60; omega⟩)) (cP_V (q0 := 0) (ci := 2) hK (hP.sub [0, 1, 2, 3, 4, 5, 6, 7, 8, 9] rfl) rfl rfl) rfl rfl hl.1 rfl (lv_room (Nat.le_of_ble_eq_true rfl)) dX2_choose_132 ⟨Nat.zero_le _, Nat.zero_le _⟩)) (fun r_ hr_ => ?_)
        subst hr_
        refine x_beq (tgt := 166) hx hb dX2_choose_135 (by decide) (fun c135 => ?_) (fun c135 => ?_)
        · rw [hQ]
          exact W.vret hx hb hr (fun t ht hW => ⟨⟨H, rfl, by first | exact ⟨N1_2, T1_2, g1_2, by rw [hp2, ← Nat.add_assoc]; exact hI1_2, hP.sub [0, 1, 2, 3, 4, 5, 6, 7, 8, 9] rfl⟩ | exact ⟨N1_1, T1_1, g1_1, by rw [hp2, ← Nat.add_assoc]; exact hI1_1.skip (Nat.le_add_right _ _) (fun y h1 h2 => prune_alone (by omega) hd c135 h1 h2), hP.sub [0, 1, 2, 3, 4, 5, 6, 7, 8, 9] rfl⟩, ht⟩, hS.F ht⟩) hS.2.2 dX2_choose_166
        · refine lv_aload_n hx hb dX2_choose_138 rfl (lv_at hl 4 rfl) ?_
          refine lv_iload hx hb dX2_choose_139 (lv_at hl 3 rfl) ?_
          refine lv_iload hx hb dX2_choose_141 (lv_at hl 1 rfl) ?_
          refine lv_iload_n hx hb dX2_choose_143 rfl (lv_at hl 7 rfl) ?_
          refine lv_iload hx hb dX2_choose_144 (lv_at hl 2 rfl) ?_
          refine x_ior (z := nI (thM S &&& foM K (x + 2 ^ v))) hx hb dX2_choose_146 (by rw [z_or, expl_or (by omega) hd]) ?_
          refine lv_iload hx hb dX2_choose_147 (lv_at hl 0 rfl) ?_
          refine lv_lload hx hb dX2_choose_149 (lv_at hl 9 rfl) ?_
          refine lv_aload_n hx hb dX2_choose_151 rfl (lv_at hl 4 rfl) ?_
          refine va_get (D := D) (ci := 2) (v := .ref k0) (C := RX2) (T := TX2) (N := 7) hx hb hts inA2 hown hK.1 hP 0 rfl rfl 0 (by decide) (hts _ kf_RX2_19) (fun _ h9 => h9) rfl dX2_choose_152 ?_
          refine va_get (D := D) (ci := 1) (v := .ref k1) (C := RX1) (T := TX1) (N := 6) hx hb hts inA1 hown hK.1 hP 3 rfl rfl 0 (by decide) (hts _ kf_RX2_72) (fun _ h9 => h9) rfl dX2_choose_155 ?_
          refine lv_iload hx hb dX2_choose_158 (lv_at hl 3 rfl) ?_
          refine x_ildN hx hb hK.1 hP 4 0 rfl rfl (by first | assumption | omega) (by decide) dX2_choose_160 ?_
          refine lv_i2l (v := lN (K.1 v)) hx hb dX2_choose_161 (nI_l (by have := hKO v (by omega); omega)) ?_
          refine x_lmul (z := lN (w * (K.1 v))) hx hb dX2_choose_162 (lN_mul _ _) ?_
          refine mc_v (va_runS (As := [.ref l0, .int (nI v), .int (nI (x + 2 ^ v)), .int (nI (thM S &&& foM K (x + 2 ^ v))), .int (nI (onM K S (x + 2 ^ v))), .long (lN (w * (K.1 v)))]) (rest := []) ⟨hx, hb, hml, hown, hts⟩ (ih l0 l1 l2 N1_1 T1_1 g1_1 rc k0 k1 k2 k3 k4 k5 k6 K S (x + 2 ^ v) (w * (K.1 v)) (nd_sub hN [0, 1, 2, 3, 4, 5, 6, 7, 8, 9] (by decide) rfl) (by omega) (by omega) (mod_v2 hd) (exc_or hd hxe c82) (c135) (fun y h1 h2 => by
                  have q := hw y (by omega) (by omega)
                  rw [wtI, bit_v hd h1 h2, if_pos rfl] at q
                  rw [Nat.mul_assoc, Nat.mul_comm (K.1 v)]
                  exact q) (by first | assumption | omega) (by first | assumption | omega) (hI1_1)) (va_cwS 6 hts (gS km_RX2_58 ks_yX2_choose kn_RX2 kc_yX2_choose) rfl rfl rfl (by decide +kernel) (by rw [hR]; exact ⟨by show v + 3 + 1 ≤ v + 1 + 3; omega, by show 8 + (11 + 11) + (30 * v + 60) ≤ 30 * (v + 1) + 60; omega⟩)) (cP_S hK (hP.sub [0, 1, 2, 3, 4, 5, 6, 7, 8, 9] rfl)) rfl rfl hl.1 rfl (lv_room (Nat.le_of_ble_eq_true rfl)) dX2_choose_163 ⟨Nat.zero_le _, Nat.zero_le _⟩) hS (aA_sub [0, 1, 2, 3, 4, 5, 6, 7, 8, 9] rfl) (fun H locs hp_ hk_ hS => ?_)
          obtain ⟨N1_2, T1_2, g1_2, hI1_2, hP1⟩ := hp_
          have hP := pj (wr := []) (w1 := [(l0, .inr (2, [.ref k0, .ref l1, .int (nI N1_2), .long (lN T1_2), .ref l2, .int (nI (thM S)), .int (nI (exM K S))])), (l1, .inl (cJ, 252, .inr (.inl (fL g1_2)))), (l2, .inl (cI, 11, .inl (fN rc))), (k0, .inr (1, [.ref k1, .ref k2, .ref k3, .ref k4, .ref k5, .ref k6])), (k1, .inl (cI, 10, .inl (fN K.1))), (k2, .inl (cI, 10, .inl (fN K.2.1))), (k3, .inl (cI, 10, .inl (fN (lfM K)))), (k4, .inl (cI, 10, .inl (fN (mfM K)))), (k5, .inl (cI, 12, .inl (fN (lcM K)))), (k6, .inl (cI, 12, .inl (fN (mcM K))))]) (lc := [l0, l1, l2, k0, k1, k2, k3, k4, k5, k6]) hP hD [0, 1, 2, 3, 4, 5, 6, 7, 8, 9] [] rfl rfl (by decide) hk_ hP1
          have hP : va_P D vwCl [(l0, .inr (2, [.ref k0, .ref l1, .int (nI N1_2), .long (lN T1_2), .ref l2, .int (nI (thM S)), .int (nI (exM K S))])), (l1, .inl (cJ, 252, .inr (.inl (fL g1_2)))), (l2, .inl (cI, 11, .inl (fN rc))), (k0, .inr (1, [.ref k1, .ref k2, .ref k3, .ref k4, .ref k5, .ref k6])), (k1, .inl (cI, 10, .inl (fN K.1))), (k2, .inl (cI, 10, .inl (fN K.2.1))), (k3, .inl (cI, 10, .inl (fN (lfM K)))), (k4, .inl (cI, 10, .inl (fN (mfM K)))), (k5, .inl (cI, 12, .inl (fN (lcM K)))), (k6, .inl (cI, 12, .inl (fN (mcM K))))] H := hP
          have hD : va_D (aA [l0, l1, l2, k0, k1, k2, k3, k4, k5, k6]) [(l0, .inr (2, [.ref k0, .ref l1, .int (nI N1_2), .long (lN T1_2), .ref l2, .int (nI (thM S)), .int (nI (exM K S))])), (l1, .inl (cJ, 252, .inr (.inl (fL g1_2)))), (l2, .inl (cI, 11, .inl (fN rc))), (k0, .inr (1, [.ref k1, .ref k2, .ref k3, .ref k4, .ref k5, .ref k6])), (k1, .inl (cI, 10, .inl (fN K.1))), (k2, .inl (cI, 10, .inl (fN K.2.1))), (k3, .inl (cI, 10, .inl (fN (lfM K)))), (k4, .inl (cI, 10, .inl (fN (mfM K)))), (k5, .inl (cI, 12, .inl (fN (lcM K)))), (k6, .inl (cI, 12, .inl (fN (mcM K))))] := hD.re [0, 1, 2, 3, 4, 5, 6, 7, 8, 9] (by decide) rfl
          rw [hQ]
          exact W.vret hx hb hr (fun t ht hW => ⟨⟨H, rfl, by first | exact ⟨N1_2, T1_2, g1_2, by rw [hp2, ← Nat.add_assoc]; exact hI1_2, hP.sub [0, 1, 2, 3, 4, 5, 6, 7, 8, 9] rfl⟩ | exact ⟨N1_1, T1_1, g1_1, by rw [hp2, ← Nat.add_assoc]; exact hI1_1.skip (Nat.le_add_right _ _) (fun y h1 h2 => prune_alone (by omega) hd c135 h1 h2), hP.sub [0, 1, 2, 3, 4, 5, 6, 7, 8, 9] rfl⟩, ht⟩, hS.F ht⟩) hS.2.2 dX2_choose_166
      · rw [hQ]
        exact W.vret hx hb hr (fun t ht hW => ⟨⟨H, rfl, ⟨N1_1, T1_1, g1_1, by rw [hp2, ← Nat.add_assoc]; exact hI1_1.skip (Nat.le_add_right _ _) (fun y h1 h2 => prune_exc (by omega) hd c82 h1 h2), hP.sub [0, 1, 2, 3, 4, 5, 6, 7, 8, 9] rfl⟩, ht⟩, hS.F ht⟩) hS.2.2 dX2_choose_85
    · rw [hQ]
      exact W.vret hx hb hr (fun t ht hW => ⟨⟨H, rfl, by rw [hrc _ (by omega)] at c28; exact ⟨N, T, g, hI.skip (Nat.le_add_right _ _) (fun y h1 h2 => prune_reach hd c28 h1 h2), hP.sub [0, 1, 2, 3, 4, 5, 6, 7, 8, 9] rfl⟩, ht⟩, hS.F ht⟩) hS.2.2 dX2_choose_31
