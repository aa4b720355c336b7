set_option maxHeartbeats 4000000 in
set_option maxRecDepth 100000 in
theorem mt_X3_weigh (l : Launch) (D : va_G) (cI cJ cZ : ClassId) (w0 : Nat) (sa : Nat) (sb : Nat) (sc : Nat) (l0 : Nat) (l1 : Nat) (l2 : Nat) (N : Nat) (T : Nat) (te : Nat) (ex : Nat) (g : Nat → Nat) (rc : Nat → Nat) (k0 : Nat) (k1 : Nat) (k2 : Nat) (k3 : Nat) (k4 : Nat) (k5 : Nat) (k6 : Nat) (K : Kn) (ee : Nat → Nat) (fi : Nat) (hN : [w0, l0, l1, l2, k0, k1, k2, k3, k4, k5, k6].Nodup) (hN2 : N ≤ 252) (hKO : KO K) (hg : ∀ k, k < N → g k = key K (ee k)) (he : ∀ k, k < N → ee k < 1024) (hf : fi < 12) : Met l yX3_weigh (aW yX3_weigh cX3_weigh 7 none) { frames := 2, cells := 0, slots := 0, locals := 44 } (cP D cI cJ cZ [.ref w0, .ref l0, .int (nI fi)] [(w0, .inr (3, [.long (lN sa), .long (lN sb), .long (lN sc)])), (l0, .inr (2, [.ref k0, .ref l1, .int (nI N), .long (lN T), .ref l2, .int (nI te), .int (nI ex)])), (l1, .inl (cJ, 252, .inr (.inl (fL g)))), (l2, .inl (cI, 11, .inl (fN rc))), (k0, .inr (1, [.ref k1, .ref k2, .ref k3, .ref k4, .ref k5, .ref k6])), (k1, .inl (cI, 10, .inl (fN K.1))), (k2, .inl (cI, 10, .inl (fN K.2.1))), (k3, .inl (cI, 10, .inl (fN (lfM K)))), (k4, .inl (cI, 10, .inl (fN (mfM K)))), (k5, .inl (cI, 12, .inl (fN (lcM K)))), (k6, .inl (cI, 12, .inl (fN (mcM K))))]) (va_Qv (fun H1 : Heap => va_P D vwCl [(w0, .inr (3, [.long (lN (smF K ee fi 1 N)), .long (lN (smF K ee fi 2 N)), .long (lN (smF K ee fi 0 N))])), (l0, .inr (2, [.ref k0, .ref l1, .int (nI N), .long (lN T), .ref l2, .int (nI te), .int (nI ex)])), (l1, .inl (cJ, 252, .inr (.inl (fL g)))), (l2, .inl (cI, 11, .inl (fN rc))), (k0, .inr (1, [.ref k1, .ref k2, .ref k3, .ref k4, .ref k5, .ref k6])), (k1, .inl (cI, 10, .inl (fN K.1))), (k2, .inl (cI, 10, .inl (fN K.2.1))), (k3, .inl (cI, 10, .inl (fN (lfM K)))), (k4, .inl (cI, 10, .inl (fN (mfM K)))), (k5, .inl (cI, 12, .inl (fN (lcM K)))), (k6, .inl (cI, 12, .inl (fN (mcM K))))] H1) mB (aA [w0, l0, l1, l2, k0, k1, k2, k3, k4, k5, k6])) 0 0 (aA [w0, l0, l1, l2, k0, k1, k2, k3, k4, k5, k6]) := by
  refine Met.ofW (cc := cX3_weigh) (maxL := 7) (ret := none) (by decide) rfl ?_
  intro p e s m args below meth c s₁ B hml hv
  obtain ⟨hav, hP, hK⟩ := hv
  have hx := B.exec
  have hb := B.bytes
  have hr := B.returns
  have hts := aW_in (atoms_spec (ws := aW yX3_weigh cX3_weigh 7 none) B.pre)
  have hown : s.vm.findClass RX3 = some m.cls := findClass_of_methodNamed B.named
  have hlocks := B.notSynchronized
  obtain ⟨R, hR⟩ : ∃ R, R = (headSpec (aW yX3_weigh cX3_weigh 7 none) { frames := 2, cells := 0, slots := 0, locals := 44 }).room := ⟨_, rfl⟩
  rw [← hR]
  obtain ⟨Q, hQ⟩ : ∃ Q, Q = MQ below (va_Qv (fun H1 : Heap => va_P D vwCl [(w0, .inr (3, [.long (lN (smF K ee fi 1 N)), .long (lN (smF K ee fi 2 N)), .long (lN (smF K ee fi 0 N))])), (l0, .inr (2, [.ref k0, .ref l1, .int (nI N), .long (lN T), .ref l2, .int (nI te), .int (nI ex)])), (l1, .inl (cJ, 252, .inr (.inl (fL g)))), (l2, .inl (cI, 11, .inl (fN rc))), (k0, .inr (1, [.ref k1, .ref k2, .ref k3, .ref k4, .ref k5, .ref k6])), (k1, .inl (cI, 10, .inl (fN K.1))), (k2, .inl (cI, 10, .inl (fN K.2.1))), (k3, .inl (cI, 10, .inl (fN (lfM K)))), (k4, .inl (cI, 10, .inl (fN (mfM K)))), (k5, .inl (cI, 12, .inl (fN (lcM K)))), (k6, .inl (cI, 12, .inl (fN (mcM K))))] H1) mB (aA [w0, l0, l1, l2, k0, k1, k2, k3, k4, k5, k6])) args s 0 0 (aA [w0, l0, l1, l2, k0, k1, k2, k3, k4, k5, k6]) := ⟨_, rfl⟩
  rw [← hQ]
  have hl := lv_entry [.ref w0, .ref l0, .int (nI fi)] (n := 7) (Nat.le_of_ble_eq_true rfl)
  have hent := lg_entry_eq m [.ref w0, .ref l0, .int (nI fi)] 7
  rw [← hav] at hent
  rw [hent]
  generalize (lg_sl [.ref w0, .ref l0, .int (nI fi)] ++ List.replicate (7 - (lg_sl [.ref w0, .ref l0, .int (nI fi)]).length) Slot.unset).toArray = ls at hl ⊢
  have hl : lv_has ls 7 [(0, .ref w0), (1, .ref l0), (2, .int (nI fi))] := hl
  have hD : va_D (aA [w0, l0, l1, l2, k0, k1, k2, k3, k4, k5, k6]) [(w0, .inr (3, [.long (lN sa), .long (lN sb), .long (lN sc)])), (l0, .inr (2, [.ref k0, .ref l1, .int (nI N), .long (lN T), .ref l2, .int (nI te), .int (nI ex)])), (l1, .inl (cJ, 252, .inr (.inl (fL g)))), (l2, .inl (cI, 11, .inl (fN rc))), (k0, .inr (1, [.ref k1, .ref k2, .ref k3, .ref k4, .ref k5, .ref k6])), (k1, .inl (cI, 10, .inl (fN K.1))), (k2, .inl (cI, 10, .inl (fN K.2.1))), (k3, .inl (cI, 10, .inl (fN (lfM K)))), (k4, .inl (cI, 10, .inl (fN (mfM K)))), (k5, .inl (cI, 12, .inl (fN (lcM K)))), (k6, .inl (cI, 12, .inl (fN (mcM K))))] := nd_D hN rfl
  have hS : va_S (aA [w0, l0, l1, l2, k0, k1, k2, k3, k4, k5, k6]) s.heap s.heap [] := va_S.rf
  have hP : va_P D vwCl [(w0, .inr (3, [.long (lN sa), .long (lN sb), .long (lN sc)])), (l0, .inr (2, [.ref k0, .ref l1, .int (nI N), .long (lN T), .ref l2, .int (nI te), .int (nI ex)])), (l1, .inl (cJ, 252, .inr (.inl (fL g)))), (l2, .inl (cI, 11, .inl (fN rc))), (k0, .inr (1, [.ref k1, .ref k2, .ref k3, .ref k4, .ref k5, .ref k6])), (k1, .inl (cI, 10, .inl (fN K.1))), (k2, .inl (cI, 10, .inl (fN K.2.1))), (k3, .inl (cI, 10, .inl (fN (lfM K)))), (k4, .inl (cI, 10, .inl (fN (mfM K)))), (k5, .inl (cI, 12, .inl (fN (lcM K)))), (k6, .inl (cI, 12, .inl (fN (mcM K))))] s.heap := hP
  obtain ⟨H, hH⟩ : ∃ H, H = s.heap := ⟨_, rfl⟩
  rw [← hH] at hP
  obtain ⟨locs, hlocs⟩ : ∃ q : List Loc, q = [] := ⟨_, rfl⟩
  have hS : va_S (aA [w0, l0, l1, l2, k0, k1, k2, k3, k4, k5, k6]) s.heap H locs := by rw [hH, hlocs]; exact hS
  rw [← hH, ← hlocs]
  clear hH hlocs
  refine lv_aload_n hx hb dX3_weigh_0 rfl (lv_at hl 0 rfl) ?_
  refine lv_lconst (v := lN 0) hx hb dX3_weigh_1 rfl ?_
  refine va_put (D := D) (ci := 3) (v := .long (lN 0)) (ty := .long) (C := RX3) (T := TX3) (N := 3) hx hb hts inA3 tyX3 tyX3_ok nmX3 hown hK.1 hP hD hS 0 rfl rfl 0 (by decide) (hts _ kf_RX3_9) (fun _ h9 => h9) rfl (by decide +kernel) (rfl) (rfl) (Nat.le_of_ble_eq_true rfl) dX3_weigh_2 (fun H locs hP hD hS => ?_)
  have hP : va_P D vwCl [(w0, .inr (3, [.long (lN 0), .long (lN sb), .long (lN sc)])), (l0, .inr (2, [.ref k0, .ref l1, .int (nI N), .long (lN T), .ref l2, .int (nI te), .int (nI ex)])), (l1, .inl (cJ, 252, .inr (.inl (fL g)))), (l2, .inl (cI, 11, .inl (fN rc))), (k0, .inr (1, [.ref k1, .ref k2, .ref k3, .ref k4, .ref k5, .ref k6])), (k1, .inl (cI, 10, .inl (fN K.1))), (k2, .inl (cI, 10, .inl (fN K.2.1))), (k3, .inl (cI, 10, .inl (fN (lfM K)))), (k4, .inl (cI, 10, .inl (fN (mfM K)))), (k5, .inl (cI, 12, .inl (fN (lcM K)))), (k6, .inl (cI, 12, .inl (fN (mcM K))))] H := hP
  have hD : va_D (aA [w0, l0, l1, l2, k0, k1, k2, k3, k4, k5, k6]) [(w0, .inr (3, [.long (lN 0), .long (lN sb), .long (lN sc)])), (l0, .inr (2, [.ref k0, .ref l1, .int (nI N), .long (lN T), .ref l2, .int (nI te), .int (nI ex)])), (l1, .inl (cJ, 252, .inr (.inl (fL g)))), (l2, .inl (cI, 11, .inl (fN rc))), (k0, .inr (1, [.ref k1, .ref k2, .ref k3, .ref k4, .ref k5, .ref k6])), (k1, .inl (cI, 10, .inl (fN K.1))), (k2, .inl (cI, 10, .inl (fN K.2.1))), (k3, .inl (cI, 10, .inl (fN (lfM K)))), (k4, .inl (cI, 10, .inl (fN (mfM K)))), (k5, .inl (cI, 12, .inl (fN (lcM K)))), (k6, .inl (cI, 12, .inl (fN (mcM K))))] := hD
  refine lv_aload_n hx hb dX3_weigh_5 rfl (lv_at hl 0 rfl) ?_
  refine lv_lconst (v := lN 0) hx hb dX3_weigh_6 rfl ?_
  refine va_put (D := D) (ci := 3) (v := .long (lN 0)) (ty := .long) (C := RX3) (T := TX3) (N := 3) hx hb hts inA3 tyX3 tyX3_ok nmX3 hown hK.1 hP hD hS 0 rfl rfl 1 (by decide) (hts _ kf_RX3_15) (fun _ h9 => h9) rfl (by decide +kernel) (rfl) (rfl) (Nat.le_of_ble_eq_true rfl) dX3_weigh_7 (fun H locs hP hD hS => ?_)
  have hP : va_P D vwCl [(w0, .inr (3, [.long (lN 0), .long (lN 0), .long (lN sc)])), (l0, .inr (2, [.ref k0, .ref l1, .int (nI N), .long (lN T), .ref l2, .int (nI te), .int (nI ex)])), (l1, .inl (cJ, 252, .inr (.inl (fL g)))), (l2, .inl (cI, 11, .inl (fN rc))), (k0, .inr (1, [.ref k1, .ref k2, .ref k3, .ref k4, .ref k5, .ref k6])), (k1, .inl (cI, 10, .inl (fN K.1))), (k2, .inl (cI, 10, .inl (fN K.2.1))), (k3, .inl (cI, 10, .inl (fN (lfM K)))), (k4, .inl (cI, 10, .inl (fN (mfM K)))), (k5, .inl (cI, 12, .inl (fN (lcM K)))), (k6, .inl (cI, 12, .inl (fN (mcM K))))] H := hP
  have hD : va_D (aA [w0, l0, l1, l2, k0, k1, k2, k3, k4, k5, k6]) [(w0, .inr (3, [.long (lN 0), .long (lN 0), .long (lN sc)])), (l0, .inr (2, [.ref k0, .ref l1, .int (nI N), .long (lN T), .ref l2, .int (nI te), .int (nI ex)])), (l1, .inl (cJ, 252, .inr (.inl (fL g)))), (l2, .inl (cI, 11, .inl (fN rc))), (k0, .inr (1, [.ref k1, .ref k2, .ref k3, .ref k4, .ref k5, .ref k6])), (k1, .inl (cI, 10, .inl (fN K.1))), (k2, .inl (cI, 10, .inl (fN K.2.1))), (k3, .inl (cI, 10, .inl (fN (lfM K)))), (k4, .inl (cI, 10, .inl (fN (mfM K)))), (k5, .inl (cI, 12, .inl (fN (lcM K)))), (k6, .inl (cI, 12, .inl (fN (mcM K))))] := hD
  refine lv_aload_n hx hb dX3_weigh_10 rfl (lv_at hl 0 rfl) ?_
  refine lv_lconst (v := lN 0) hx hb dX3_weigh_11 rfl ?_
  refine va_put (D := D) (ci := 3) (v := .long (lN 0)) (ty := .long) (C := RX3) (T := TX3) (N := 3) hx hb hts inA3 tyX3 tyX3_ok nmX3 hown hK.1 hP hD hS 0 rfl rfl 2 (by decide) (hts _ kf_RX3_18) (fun _ h9 => h9) rfl (by decide +kernel) (rfl) (rfl) (Nat.le_of_ble_eq_true rfl) dX3_weigh_12 (fun H locs hP hD hS => ?_)
  have hP : va_P D vwCl [(w0, .inr (3, [.long (lN 0), .long (lN 0), .long (lN 0)])), (l0, .inr (2, [.ref k0, .ref l1, .int (nI N), .long (lN T), .ref l2, .int (nI te), .int (nI ex)])), (l1, .inl (cJ, 252, .inr (.inl (fL g)))), (l2, .inl (cI, 11, .inl (fN rc))), (k0, .inr (1, [.ref k1, .ref k2, .ref k3, .ref k4, .ref k5, .ref k6])), (k1, .inl (cI, 10, .inl (fN K.1))), (k2, .inl (cI, 10, .inl (fN K.2.1))), (k3, .inl (cI, 10, .inl (fN (lfM K)))), (k4, .inl (cI, 10, .inl (fN (mfM K)))), (k5, .inl (cI, 12, .inl (fN (lcM K)))), (k6, .inl (cI, 12, .inl (fN (mcM K))))] H := hP
  have hD : va_D (aA [w0, l0, l1, l2, k0, k1, k2, k3, k4, k5, k6]) [(w0, .inr (3, [.long (lN 0), .long (lN 0), .long (lN 0)])), (l0, .inr (2, [.ref k0, .ref l1, .int (nI N), .long (lN T), .ref l2, .int (nI te), .int (nI ex)])), (l1, .inl (cJ, 252, .inr (.inl (fL g)))), (l2, .inl (cI, 11, .inl (fN rc))), (k0, .inr (1, [.ref k1, .ref k2, .ref k3, .ref k4, .ref k5, .ref k6])), (k1, .inl (cI, 10, .inl (fN K.1))), (k2, .inl (cI, 10, .inl (fN K.2.1))), (k3, .inl (cI, 10, .inl (fN (lfM K)))), (k4, .inl (cI, 10, .inl (fN (mfM K)))), (k5, .inl (cI, 12, .inl (fN (lcM K)))), (k6, .inl (cI, 12, .inl (fN (mcM K))))] := hD
  refine lv_iconst (v := nI 0) hx hb dX3_weigh_15 (by decide) ?_
  refine lv_istore_n (lv' := [(3, .int (nI 0)), (0, .ref w0), (1, .ref l0), (2, .int (nI fi))]) hx hb dX3_weigh_16 rfl hl (by decide) rfl (fun ls hl => ?_)
  have lp17 : ∀ (n : Nat) (j : Nat) (ua : Nat) (ub : Nat) (uc : Nat) (H : Heap) (locs : List Loc) (ls : Array Slot), (j + n = N) → (ua = smF K ee fi 1 j) → (ub = smF K ee fi 2 j) → (uc = smF K ee fi 0 j) → va_P D vwCl [(w0, .inr (3, [.long (lN ua), .long (lN ub), .long (lN uc)])), (l0, .inr (2, [.ref k0, .ref l1, .int (nI N), .long (lN T), .ref l2, .int (nI te), .int (nI ex)])), (l1, .inl (cJ, 252, .inr (.inl (fL g)))), (l2, .inl (cI, 11, .inl (fN rc))), (k0, .inr (1, [.ref k1, .ref k2, .ref k3, .ref k4, .ref k5, .ref k6])), (k1, .inl (cI, 10, .inl (fN K.1))), (k2, .inl (cI, 10, .inl (fN K.2.1))), (k3, .inl (cI, 10, .inl (fN (lfM K)))), (k4, .inl (cI, 10, .inl (fN (mfM K)))), (k5, .inl (cI, 12, .inl (fN (lcM K)))), (k6, .inl (cI, 12, .inl (fN (mcM K))))] H → va_D (aA [w0, l0, l1, l2, k0, k1, k2, k3, k4, k5, k6]) [(w0, .inr (3, [.long (lN ua), .long (lN ub), .long (lN uc)])), (l0, .inr (2, [.ref k0, .ref l1, .int (nI N), .long (lN T), .ref l2, .int (nI te), .int (nI ex)])), (l1, .inl (cJ, 252, .inr (.inl (fL g)))), (l2, .inl (cI, 11, .inl (fN rc))), (k0, .inr (1, [.ref k1, .ref k2, .ref k3, .ref k4, .ref k5, .ref k6])), (k1, .inl (cI, 10, .inl (fN K.1))), (k2, .inl (cI, 10, .inl (fN K.2.1))), (k3, .inl (cI, 10, .inl (fN (lfM K)))), (k4, .inl (cI, 10, .inl (fN (mfM K)))), (k5, .inl (cI, 12, .inl (fN (lcM K)))), (k6, .inl (cI, 12, .inl (fN (mcM K))))] → va_S (aA [w0, l0, l1, l2, k0, k1, k2, k3, k4, k5, k6]) s.heap H locs → lv_has ls 7 [(3, .int (nI j)), (0, .ref w0), (1, .ref l0), (2, .int (nI fi))] → W p l e R s m args below meth c H locs 0 0 Q (F0 m 17 ls []) := by
    intro n
    induction n with
    | zero =>
      intro j ua ub uc H locs ls hn h1 h2 h3 hP hD hS hl
      refine lv_iload_n hx hb dX3_weigh_17 rfl (lv_at hl 0 rfl) ?_
      refine lv_aload_n hx hb dX3_weigh_18 rfl (lv_at hl 2 rfl) ?_
      refine va_get (D := D) (ci := 2) (v := .int (nI N)) (C := RX2) (T := TX2) (N := 7) hx hb hts inA2 hown hK.1 hP 1 rfl rfl 2 (by decide) (hts _ kf_RX3_21) (fun _ h9 => h9) rfl dX3_weigh_19 ?_
      refine x_cge (a := j) (b := N) (tgt := 97) hx hb (by first | assumption | omega) (by first | assumption | omega) dX3_weigh_22 (by decide) (fun c22 => ?_) (fun c22 => (by omega))
      rw [hQ]
      exact W.vret hx hb hr (fun t ht hW => ⟨⟨H, rfl, by rw [h1, h2, h3, show j = N by omega] at hP; exact hP.sub [0, 1, 2, 3, 4, 5, 6, 7, 8, 9, 10] rfl, ht⟩, hS.F ht⟩) hS.2.2 dX3_weigh_97
    | succ n ih17 =>
      intro j ua ub uc H locs ls hn h1 h2 h3 hP hD hS hl
      have hfo := fort_le K (ee j) fi
      refine lv_iload_n hx hb dX3_weigh_17 rfl (lv_at hl 0 rfl) ?_
      refine lv_aload_n hx hb dX3_weigh_18 rfl (lv_at hl 2 rfl) ?_
      refine va_get (D := D) (ci := 2) (v := .int (nI N)) (C := RX2) (T := TX2) (N := 7) hx hb hts inA2 hown hK.1 hP 1 rfl rfl 2 (by decide) (hts _ kf_RX3_21) (fun _ h9 => h9) rfl dX3_weigh_19 ?_
      refine x_cge (a := j) (b := N) (tgt := 97) hx hb (by first | assumption | omega) (by first | assumption | omega) dX3_weigh_22 (by decide) (fun c22 => (by omega)) (fun c22 => ?_)
      refine lv_aload_n hx hb dX3_weigh_25 rfl (lv_at hl 2 rfl) ?_
      refine lv_iload_n hx hb dX3_weigh_26 rfl (lv_at hl 0 rfl) ?_
      refine vp_callSl (va_Run.run (va_runV (As := [.int (nI j)]) (rest := []) ⟨hx, hb, hml, hown, hts⟩ (mt_X2_weightOf l D cI cJ cZ l0 l1 l2 N T te ex g rc k0 k1 k2 k3 k4 k5 k6 K ee j (by first | assumption | omega) (by first | assumption | omega) (by first | assumption | omega) (by first | assumption | omega) (by first | assumption | omega)) (cwV 1 hts (gV km_RX3_27 ki_yX2_weightOf kl_yX2_weightOf kn_RX2 kc_yX2_weightOf) rfl rfl rfl (by decide +kernel) (by rw [hR]; exact ⟨Nat.le_of_ble_eq_true rfl, Nat.le_of_ble_eq_true rfl⟩)) (cP_V (q0 := 0) (ci := 2) hK (hP.sub [1, 2, 3, 4, 5, 6, 7, 8, 9, 10] rfl) rfl rfl) rfl rfl hl.1 rfl (lv_room (Nat.le_of_ble_eq_true rfl)) dX3_weigh_27 ⟨Nat.zero_le _, Nat.zero_le _⟩)) (fun r_ hr_ => ?_)
      subst hr_
      refine lv_lstore (lv' := [(4, .long (lN (wt K (ee j)))), (3, .int (nI j)), (0, .ref w0), (1, .ref l0), (2, .int (nI fi))]) hx hb dX3_weigh_30 hl (by decide) rfl (fun ls hl => ?_)
      refine lv_aload_n hx hb dX3_weigh_32 rfl (lv_at hl 3 rfl) ?_
      refine lv_iload_n hx hb dX3_weigh_33 rfl (lv_at hl 1 rfl) ?_
      refine lv_iload_n hx hb dX3_weigh_34 rfl (lv_at hl 4 rfl) ?_
      refine vp_callSi (va_Run.run (va_runV (As := [.int (nI j), .int (nI fi)]) (rest := []) ⟨hx, hb, hml, hown, hts⟩ (mt_X2_foretoldBy l D cI cJ cZ l0 l1 l2 N T te ex g rc k0 k1 k2 k3 k4 k5 k6 K ee j fi (by first | assumption | omega) (by first | assumption | omega) (by first | assumption | omega) (by first | assumption | omega) (by first | assumption | omega) (by first | assumption | omega)) (cwV 2 hts (gV km_RX3_31 ki_yX2_foretoldBy kl_yX2_foretoldBy kn_RX2 kc_yX2_foretoldBy) rfl rfl rfl (by decide +kernel) (by rw [hR]; exact ⟨Nat.le_of_ble_eq_true rfl, Nat.le_of_ble_eq_true rfl⟩)) (cP_V (q0 := 0) (ci := 2) hK (hP.sub [1, 2, 3, 4, 5, 6, 7, 8, 9, 10] rfl) rfl rfl) rfl rfl hl.1 rfl (lv_room (Nat.le_of_ble_eq_true rfl)) dX3_weigh_35 ⟨Nat.zero_le _, Nat.zero_le _⟩)) (fun r_ hr_ => ?_)
      subst hr_
      refine lv_istore (lv' := [(6, .int (nI (fort K (ee j) fi))), (4, .long (lN (wt K (ee j)))), (3, .int (nI j)), (0, .ref w0), (1, .ref l0), (2, .int (nI fi))]) hx hb dX3_weigh_38 hl (by decide) rfl (fun ls hl => ?_)
      refine lv_iload hx hb dX3_weigh_40 (lv_at hl 0 rfl) ?_
      refine lv_iconst (v := nI 1) hx hb dX3_weigh_42 (by decide) ?_
      refine x_cne (a := fort K (ee j) fi) (b := 1) (tgt := 60) hx hb (Nat.lt_of_le_of_lt (fort_le _ _ _) (by decide)) (by decide) dX3_weigh_43 (by decide) (fun c43 => ?_) (fun c43 => ?_)
      · refine lv_iload hx hb dX3_weigh_60 (lv_at hl 0 rfl) ?_
        refine lv_iconst (v := nI 2) hx hb dX3_weigh_62 (by decide) ?_
        refine x_cne (a := fort K (ee j) fi) (b := 2) (tgt := 80) hx hb (Nat.lt_of_le_of_lt (fort_le _ _ _) (by decide)) (by decide) dX3_weigh_63 (by decide) (fun c63 => ?_) (fun c63 => ?_)
        · refine lv_aload_n hx hb dX3_weigh_80 rfl (lv_at hl 3 rfl) ?_
          refine lv_dup hx hb dX3_weigh_81 rfl ?_
          refine va_get (D := D) (ci := 3) (v := .long (lN uc)) (C := RX3) (T := TX3) (N := 3) hx hb hts inA3 hown hK.1 hP 0 rfl rfl 2 (by decide) (hts _ kf_RX3_18) (fun _ h9 => h9) rfl dX3_weigh_82 ?_
          refine lv_lload hx hb dX3_weigh_85 (lv_at hl 1 rfl) ?_
          refine x_ladd (z := lN (uc + (wt K (ee j)))) hx hb dX3_weigh_87 (lN_add _ _) ?_
          refine va_put (D := D) (ci := 3) (v := .long (lN (uc + (wt K (ee j))))) (ty := .long) (C := RX3) (T := TX3) (N := 3) hx hb hts inA3 tyX3 tyX3_ok nmX3 hown hK.1 hP hD hS 0 rfl rfl 2 (by decide) (hts _ kf_RX3_18) (fun _ h9 => h9) rfl (by decide +kernel) (rfl) (rfl) (Nat.le_of_ble_eq_true rfl) dX3_weigh_88 (fun H locs hP hD hS => ?_)
          have hP : va_P D vwCl [(w0, .inr (3, [.long (lN ua), .long (lN ub), .long (lN (uc + (wt K (ee j))))])), (l0, .inr (2, [.ref k0, .ref l1, .int (nI N), .long (lN T), .ref l2, .int (nI te), .int (nI ex)])), (l1, .inl (cJ, 252, .inr (.inl (fL g)))), (l2, .inl (cI, 11, .inl (fN rc))), (k0, .inr (1, [.ref k1, .ref k2, .ref k3, .ref k4, .ref k5, .ref k6])), (k1, .inl (cI, 10, .inl (fN K.1))), (k2, .inl (cI, 10, .inl (fN K.2.1))), (k3, .inl (cI, 10, .inl (fN (lfM K)))), (k4, .inl (cI, 10, .inl (fN (mfM K)))), (k5, .inl (cI, 12, .inl (fN (lcM K)))), (k6, .inl (cI, 12, .inl (fN (mcM K))))] H := hP
          have hD : va_D (aA [w0, l0, l1, l2, k0, k1, k2, k3, k4, k5, k6]) [(w0, .inr (3, [.long (lN ua), .long (lN ub), .long (lN (uc + (wt K (ee j))))])), (l0, .inr (2, [.ref k0, .ref l1, .int (nI N), .long (lN T), .ref l2, .int (nI te), .int (nI ex)])), (l1, .inl (cJ, 252, .inr (.inl (fL g)))), (l2, .inl (cI, 11, .inl (fN rc))), (k0, .inr (1, [.ref k1, .ref k2, .ref k3, .ref k4, .ref k5, .ref k6])), (k1, .inl (cI, 10, .inl (fN K.1))), (k2, .inl (cI, 10, .inl (fN K.2.1))), (k3, .inl (cI, 10, .inl (fN (lfM K)))), (k4, .inl (cI, 10, .inl (fN (mfM K)))), (k5, .inl (cI, 12, .inl (fN (lcM K)))), (k6, .inl (cI, 12, .inl (fN (mcM K))))] := hD
          refine lv_iinc (v := nI (j + 1)) (lv' := [(3, .int (nI (j + 1))), (6, .int (nI (fort K (ee j) fi))), (4, .long (lN (wt K (ee j)))), (0, .ref w0), (1, .ref l0), (2, .int (nI fi))]) hx hb dX3_weigh_91 hl (k := 2) rfl (x_inc1 _) (by decide) rfl (fun ls hl => ?_)
          refine lv_goto (tgt := 17) hx hb dX3_weigh_94 (by decide) ?_
          exact ih17 (j + 1) ua ub (uc + (wt K (ee j))) _ _ ls (by omega) (by rw [h1]; first | exact smF_t (by first | assumption | omega) | exact smF_f (by first | assumption | omega)) (by rw [h2]; first | exact smF_t (by first | assumption | omega) | exact smF_f (by first | assumption | omega)) (by rw [h3]; first | exact smF_t (by first | assumption | omega) | exact smF_f (by first | assumption | omega)) (hP.sub [0, 1, 2, 3, 4, 5, 6, 7, 8, 9, 10] rfl) (hD.re [0, 1, 2, 3, 4, 5, 6, 7, 8, 9, 10] (by decide) rfl) hS (lv_sub hl [0, 3, 4, 5] rfl)
        · refine lv_aload_n hx hb dX3_weigh_66 rfl (lv_at hl 3 rfl) ?_
          refine lv_dup hx hb dX3_weigh_67 rfl ?_
          refine va_get (D := D) (ci := 3) (v := .long (lN ub)) (C := RX3) (T := TX3) (N := 3) hx hb hts inA3 hown hK.1 hP 0 rfl rfl 1 (by decide) (hts _ kf_RX3_15) (fun _ h9 => h9) rfl dX3_weigh_68 ?_
          refine lv_lload hx hb dX3_weigh_71 (lv_at hl 1 rfl) ?_
          refine x_ladd (z := lN (ub + (wt K (ee j)))) hx hb dX3_weigh_73 (lN_add _ _) ?_
          refine va_put (D := D) (ci := 3) (v := .long (lN (ub + (wt K (ee j))))) (ty := .long) (C := RX3) (T := TX3) (N := 3) hx hb hts inA3 tyX3 tyX3_ok nmX3 hown hK.1 hP hD hS 0 rfl rfl 1 (by decide) (hts _ kf_RX3_15) (fun _ h9 => h9) rfl (by decide +kernel) (rfl) (rfl) (Nat.le_of_ble_eq_true rfl) dX3_weigh_74 (fun H locs hP hD hS => ?_)
          have hP : va_P D vwCl [(w0, .inr (3, [.long (lN ua), .long (lN (ub + (wt K (ee j)))), .long (lN uc)])), (l0, .inr (2, [.ref k0, .ref l1, .int (nI N), .long (lN T), .ref l2, .int (nI te), .int (nI ex)])), (l1, .inl (cJ, 252, .inr (.inl (fL g)))), (l2, .inl (cI, 11, .inl (fN rc))), (k0, .inr (1, [.ref k1, .ref k2, .ref k3, .ref k4, .ref k5, .ref k6])), (k1, .inl (cI, 10, .inl (fN K.1))), (k2, .inl (cI, 10, .inl (fN K.2.1))), (k3, .inl (cI, 10, .inl (fN (lfM K)))), (k4, .inl (cI, 10, .inl (fN (mfM K)))), (k5, .inl (cI, 12, .inl (fN (lcM K)))), (k6, .inl (cI, 12, .inl (fN (mcM K))))] H := hP
          have hD : va_D (aA [w0, l0, l1, l2, k0, k1, k2, k3, k4, k5, k6]) [(w0, .inr (3, [.long (lN ua), .long (lN (ub + (wt K (ee j)))), .long (lN uc)])), (l0, .inr (2, [.ref k0, .ref l1, .int (nI N), .long (lN T), .ref l2, .int (nI te), .int (nI ex)])), (l1, .inl (cJ, 252, .inr (.inl (fL g)))), (l2, .inl (cI, 11, .inl (fN rc))), (k0, .inr (1, [.ref k1, .ref k2, .ref k3, .ref k4, .ref k5, .ref k6])), (k1, .inl (cI, 10, .inl (fN K.1))), (k2, .inl (cI, 10, .inl (fN K.2.1))), (k3, .inl (cI, 10, .inl (fN (lfM K)))), (k4, .inl (cI, 10, .inl (fN (mfM K)))), (k5, .inl (cI, 12, .inl (fN (lcM K)))), (k6, .inl (cI, 12, .inl (fN (mcM K))))] := hD
          refine lv_goto (tgt := 91) hx hb dX3_weigh_77 (by decide) ?_
          refine lv_iinc (v := nI (j + 1)) (lv' := [(3, .int (nI (j + 1))), (6, .int (nI (fort K (ee j) fi))), (4, .long (lN (wt K (ee j)))), (0, .ref w0), (1, .ref l0), (2, .int (nI fi))]) hx hb dX3_weigh_91 hl (k := 2) rfl (x_inc1 _) (by decide) rfl (fun ls hl => ?_)
          refine lv_goto (tgt := 17) hx hb dX3_weigh_94 (by decide) ?_
          exact ih17 (j + 1) ua (ub + (wt K (ee j))) uc _ _ ls (by omega) (by rw [h1]; first | exact smF_t (by first | assumption | omega) | exact smF_f (by first | assumption | omega)) (by rw [h2]; first | exact smF_t (by first | assumption | omega) | exact smF_f (by first | assumption | omega)) (by rw [h3]; first | exact smF_t (by first | assumption | omega) | exact smF_f (by first | assumption | omega)) (hP.sub [0, 1, 2, 3, 4, 5, 6, 7, 8, 9, 10] rfl) (hD.re [0, 1, 2, 3, 4, 5, 6, 7, 8, 9, 10] (by decide) rfl) hS (lv_sub hl [0, 3, 4, 5] rfl)
      · refine lv_aload_n hx hb dX3_weigh_46 rfl (lv_at hl 3 rfl) ?_
        refine lv_dup hx hb dX3_weigh_47 rfl ?_
        refine va_get (D := D) (ci := 3) (v := .long (lN ua)) (C := RX3) (T := TX3) (N := 3) hx hb hts inA3 hown hK.1 hP 0 rfl rfl 0 (by decide) (hts _ kf_RX3_9) (fun _ h9 => h9) rfl dX3_weigh_48 ?_
        refine lv_lload hx hb dX3_weigh_51 (lv_at hl 1 rfl) ?_
        refine x_ladd (z := lN (ua + (wt K (ee j)))) hx hb dX3_weigh_53 (lN_add _ _) ?_
        refine va_put (D := D) (ci := 3) (v := .long (lN (ua + (wt K (ee j))))) (ty := .long) (C := RX3) (T := TX3) (N := 3) hx hb hts inA3 tyX3 tyX3_ok nmX3 hown hK.1 hP hD hS 0 rfl rfl 0 (by decide) (hts _ kf_RX3_9) (fun _ h9 => h9) rfl (by decide +kernel) (rfl) (rfl) (Nat.le_of_ble_eq_true rfl) dX3_weigh_54 (fun H locs hP hD hS => ?_)
        have hP : va_P D vwCl [(w0, .inr (3, [.long (lN (ua + (wt K (ee j)))), .long (lN ub), .long (lN uc)])), (l0, .inr (2, [.ref k0, .ref l1, .int (nI N), .long (lN T), .ref l2, .int (nI te), .int (nI ex)])), (l1, .inl (cJ, 252, .inr (.inl (fL g)))), (l2, .inl (cI, 11, .inl (fN rc))), (k0, .inr (1, [.ref k1, .ref k2, .ref k3, .ref k4, .ref k5, .ref k6])), (k1, .inl (cI, 10, .inl (fN K.1))), (k2, .inl (cI, 10, .inl (fN K.2.1))), (k3, .inl (cI, 10, .inl (fN (lfM K)))), (k4, .inl (cI, 10, .inl (fN (mfM K)))), (k5, .inl (cI, 12, .inl (fN (lcM K)))), (k6, .inl (cI, 12, .inl (fN (mcM K))))] H := hP
        have hD : va_D (aA [w0, l0, l1, l2, k0, k1, k2, k3, k4, k5, k6]) [(w0, .inr (3, [.long (lN (ua + (wt K (ee j)))), .long (lN ub), .long (lN uc)])), (l0, .inr (2, [.ref k0, .ref l1, .int (nI N), .long (lN T), .ref l2, .int (nI te), .int (nI ex)])), (l1, .inl (cJ, 252, .inr (.inl (fL g)))), (l2, .inl (cI, 11, .inl (fN rc))), (k0, .inr (1, [.ref k1, .ref k2, .ref k3, .ref k4, .ref k5, .ref k6])), (k1, .inl (cI, 10, .inl (fN K.1))), (k2, .inl (cI, 10, .inl (fN K.2.1))), (k3, .inl (cI, 10, .inl (fN (lfM K)))), (k4, .inl (cI, 10, .inl (fN (mfM K)))), (k5, .inl (cI, 12, .inl (fN (lcM K)))), (k6, .inl (cI, 12, .inl (fN (mcM K))))] := hD
        refine lv_goto (tgt := 91) hx hb dX3_weigh_57 (by decide) ?_
        refine lv_iinc (v := nI (j + 1)) (lv' := [(3, .int (nI (j + 1))), (6, .int (nI (fort K (ee j) fi))), (4, .long (lN (wt K (ee j)))), (0, .ref w0), (1, .ref l0), (2, .int (nI fi))]) hx hb dX3_weigh_91 hl (k := 2) rfl (x_inc1 _) (by decide) rfl (fun ls hl => ?_)
        refine lv_goto (tgt := 17) hx hb dX3_weigh_94 (by decide) ?_
        exact ih17 (j + 1) (ua + (wt K (ee j))) ub uc _ _ ls (by omega) (by rw [h1]; first | exact smF_t (by first | assumption | omega) | exact smF_f (by first | assumption | omega)) (by rw [h2]; first | exact smF_t (by first | assumption | omega) | exact smF_f (by first | assumption | omega)) (by rw [h3]; first | exact smF_t (by first | assumption | omega) | exact smF_f (by first | assumption | omega)) (hP.sub [0, 1, 2, 3, 4, 5, 6, 7, 8, 9, 10] rfl) (hD.re [0, 1, 2, 3, 4, 5, 6, 7, 8, 9, 10] (by decide) rfl) hS (lv_sub hl [0, 3, 4, 5] rfl)
  exact lp17 (N) 0 0 0 0 _ _ ls (by omega) (rfl) (rfl) (rfl) (hP.sub [0, 1, 2, 3, 4, 5, 6, 7, 8, 9, 10] rfl) (hD.re [0, 1, 2, 3, 4, 5, 6, 7, 8, 9, 10] (by decide) rfl) hS (lv_sub hl [0, 1, 2, 3] rfl)

set_option maxHeartbeats 4000000 in
set_option maxRecDepth 100000 in
theorem mt_X2_enter (l : Launch) (D : va_G) (cI cJ cZ : ClassId) (l0 : Nat) (l1 : Nat) (l2 : Nat) (N : Nat) (T : Nat) (te : Nat) (ex : Nat) (g : Nat → Nat) (rc : Nat → Nat) (k0 : Nat) (x : Nat) (w : Nat) (hN : [l0, l1, l2].Nodup) (hN2 : N < 252) (hx0 : x < 1024) : Met l yX2_enter (aW yX2_enter cX2_enter 8 none) { frames := 1, cells := 0, slots := 0, locals := 20 } (cP D cI cJ cZ [.ref l0, .int (nI x), .long (lN w)] [(l0, .inr (2, [.ref k0, .ref l1, .int (nI N), .long (lN T), .ref l2, .int (nI te), .int (nI ex)])), (l1, .inl (cJ, 252, .inr (.inl (fL g)))), (l2, .inl (cI, 11, .inl (fN rc)))]) (va_Qv (fun H1 : Heap => va_P D vwCl [(l0, .inr (2, [.ref k0, .ref l1, .int (nI (N + 1)), .long (lN (T + w)), .ref l2, .int (nI te), .int (nI ex)])), (l1, .inl (cJ, 252, .inr (.inl (fL (va_up g N ((w * 16 + (15 - pop x)) * 1024 + (1023 - x))))))), (l2, .inl (cI, 11, .inl (fN rc)))] H1) mB (aA [l0, l1, l2])) 0 0 (aA [l0, l1, l2]) := by
  refine Met.ofW (cc := cX2_enter) (maxL := 8) (ret := none) (by decide) rfl ?_
  intro p e s m args below meth c s₁ B hml hv
  obtain ⟨hav, hP, hK⟩ := hv
  have hx := B.exec
  have hb := B.bytes
  have hr := B.returns
  have hts := aW_in (atoms_spec (ws := aW yX2_enter cX2_enter 8 none) B.pre)
  have hown : s.vm.findClass RX2 = some m.cls := findClass_of_methodNamed B.named
  have hlocks := B.notSynchronized
  obtain ⟨R, hR⟩ : ∃ R, R = (headSpec (aW yX2_enter cX2_enter 8 none) { frames := 1, cells := 0, slots := 0, locals := 20 }).room := ⟨_, rfl⟩
  rw [← hR]
  obtain ⟨Q, hQ⟩ : ∃ Q, Q = MQ below (va_Qv (fun H1 : Heap => va_P D vwCl [(l0, .inr (2, [.ref k0, .ref l1, .int (nI (N + 1)), .long (lN (T + w)), .ref l2, .int (nI te), .int (nI ex)])), (l1, .inl (cJ, 252, .inr (.inl (fL (va_up g N ((w * 16 + (15 - pop x)) * 1024 + (1023 - x))))))), (l2, .inl (cI, 11, .inl (fN rc)))] H1) mB (aA [l0, l1, l2])) args s 0 0 (aA [l0, l1, l2]) := ⟨_, rfl⟩
  rw [← hQ]
  have hl := lv_entry [.ref l0, .int (nI x), .long (lN w)] (n := 8) (Nat.le_of_ble_eq_true rfl)
  have hent := lg_entry_eq m [.ref l0, .int (nI x), .long (lN w)] 8
  rw [← hav] at hent
  rw [hent]
  generalize (lg_sl [.ref l0, .int (nI x), .long (lN w)] ++ List.replicate (8 - (lg_sl [.ref l0, .int (nI x), .long (lN w)]).length) Slot.unset).toArray = ls at hl ⊢
  have hl : lv_has ls 8 [(0, .ref l0), (1, .int (nI x)), (2, .long (lN w))] := hl
  have hD : va_D (aA [l0, l1, l2]) [(l0, .inr (2, [.ref k0, .ref l1, .int (nI N), .long (lN T), .ref l2, .int (nI te), .int (nI ex)])), (l1, .inl (cJ, 252, .inr (.inl (fL g)))), (l2, .inl (cI, 11, .inl (fN rc)))] := nd_D hN rfl
  have hS : va_S (aA [l0, l1, l2]) s.heap s.heap [] := va_S.rf
  have hP : va_P D vwCl [(l0, .inr (2, [.ref k0, .ref l1, .int (nI N), .long (lN T), .ref l2, .int (nI te), .int (nI ex)])), (l1, .inl (cJ, 252, .inr (.inl (fL g)))), (l2, .inl (cI, 11, .inl (fN rc)))] s.heap := hP
  obtain ⟨H, hH⟩ : ∃ H, H = s.heap := ⟨_, rfl⟩
  rw [← hH] at hP
  obtain ⟨locs, hlocs⟩ : ∃ q : List Loc, q = [] := ⟨_, rfl⟩
  have hS : va_S (aA [l0, l1, l2]) s.heap H locs := by rw [hH, hlocs]; exact hS
  rw [← hH, ← hlocs]
  clear hH hlocs
  refine lv_aload_n hx hb dX2_enter_0 rfl (lv_at hl 0 rfl) ?_
  refine va_get (D := D) (ci := 2) (v := .int (nI N)) (C := RX2) (T := TX2) (N := 7) hx hb hts inA2 hown hK.1 hP 0 rfl rfl 2 (by decide) (hts _ kf_RX2_23) (fun _ h9 => h9) rfl dX2_enter_1 ?_
  refine lv_sipush (v := nI 252) hx hb dX2_enter_4 (by decide) ?_
  refine x_clt (a := N) (b := 252) (tgt := 11) hx hb (by first | assumption | omega) (by decide) dX2_enter_7 (by decide) (fun c7 => ?_) (fun c7 => (by omega))
  have hpop := pop_le x
  refine lv_bipush (v := nI 15) hx hb dX2_enter_11 (by decide) ?_
  refine lv_iload_n hx hb dX2_enter_13 rfl (lv_at hl 1 rfl) ?_
  refine vp_callSi (va_Run.run (va_runS (As := [.int (nI x)]) (rest := [.int (nI 15)]) ⟨hx, hb, hml, hown, hts⟩ (mt_J6_bitCount_0f7a4 l D cI cJ cZ x (Nat.lt_trans hx0 (by decide))) (va_cwS 1 hts (gS km_RX2_75 ks_yJ6_bitCount_0f7a4 kn_RJ6 kc_yJ6_bitCount_0f7a4) rfl rfl rfl (by decide +kernel) (by rw [hR]; exact ⟨Nat.le_of_ble_eq_true rfl, Nat.le_of_ble_eq_true rfl⟩)) (cP_S hK (fun k q h => by simp at h)) rfl rfl hl.1 rfl (lv_room (Nat.le_of_ble_eq_true rfl)) dX2_enter_14 ⟨Nat.zero_le _, Nat.zero_le _⟩)) (fun r_ hr_ => ?_)
  subst hr_
  refine x_isub (z := nI (15 - (pop x))) hx hb dX2_enter_17 (pk_sub (by first | assumption | omega)) ?_
  refine lv_istore (lv' := [(4, .int (nI (15 - (pop x)))), (0, .ref l0), (1, .int (nI x)), (2, .long (lN w))]) hx hb dX2_enter_18 hl (by decide) rfl (fun ls hl => ?_)
  refine lv_sipush (v := nI 1023) hx hb dX2_enter_20 (by decide) ?_
  refine lv_iload_n hx hb dX2_enter_23 rfl (lv_at hl 2 rfl) ?_
  refine x_isub (z := nI (1023 - x)) hx hb dX2_enter_24 (pk_sub (by first | assumption | omega)) ?_
  refine lv_istore (lv' := [(5, .int (nI (1023 - x))), (4, .int (nI (15 - (pop x)))), (0, .ref l0), (1, .int (nI x)), (2, .long (lN w))]) hx hb dX2_enter_25 hl (by decide) rfl (fun ls hl => ?_)
  refine lv_lload_n hx hb dX2_enter_27 rfl (lv_at hl 4 rfl) ?_
  refine lv_iconst (v := nI 4) hx hb dX2_enter_28 (by decide) ?_
  refine lv_lshl (v := lN (w * 2 ^ 4)) hx hb dX2_enter_29 (wb_shl _ (by decide)) ?_
  refine lv_iload hx hb dX2_enter_30 (lv_at hl 1 rfl) ?_
  refine lv_i2l (v := lN (15 - (pop x))) hx hb dX2_enter_32 (nI_l (by first | assumption | omega)) ?_
  refine x_lor (z := lN (w * 16 + (15 - pop x))) hx hb dX2_enter_33 (by rw [z_lor, or4 _ (by omega)]) ?_
  refine lv_lstore (lv' := [(6, .long (lN (w * 16 + (15 - pop x)))), (5, .int (nI (1023 - x))), (4, .int (nI (15 - (pop x)))), (0, .ref l0), (1, .int (nI x)), (2, .long (lN w))]) hx hb dX2_enter_34 hl (by decide) rfl (fun ls hl => ?_)
  refine lv_aload_n hx hb dX2_enter_36 rfl (lv_at hl 3 rfl) ?_
  refine va_get (D := D) (ci := 2) (v := .ref l1) (C := RX2) (T := TX2) (N := 7) hx hb hts inA2 hown hK.1 hP 0 rfl rfl 1 (by decide) (hts _ kf_RX2_11) (fun _ h9 => h9) rfl dX2_enter_37 ?_
  refine lv_aload_n hx hb dX2_enter_40 rfl (lv_at hl 3 rfl) ?_
  refine va_get (D := D) (ci := 2) (v := .int (nI N)) (C := RX2) (T := TX2) (N := 7) hx hb hts inA2 hown hK.1 hP 0 rfl rfl 2 (by decide) (hts _ kf_RX2_23) (fun _ h9 => h9) rfl dX2_enter_41 ?_
  refine lv_lload hx hb dX2_enter_44 (lv_at hl 0 rfl) ?_
  refine lv_bipush (v := nI 10) hx hb dX2_enter_46 (by decide) ?_
  refine lv_lshl (v := lN ((w * 16 + (15 - pop x)) * 2 ^ 10)) hx hb dX2_enter_48 (wb_shl _ (by decide)) ?_
  refine lv_iload hx hb dX2_enter_49 (lv_at hl 1 rfl) ?_
  refine lv_i2l (v := lN (1023 - x)) hx hb dX2_enter_51 (nI_l (by first | assumption | omega)) ?_
  refine x_lor (z := lN ((w * 16 + (15 - pop x)) * 1024 + (1023 - x))) hx hb dX2_enter_52 (by rw [z_lor, or10 _ (by omega)]) ?_
  refine x_lstL (v := (w * 16 + (15 - pop x)) * 1024 + (1023 - x)) hx hb hK.1 hP hD hS 1 1 rfl rfl (by first | assumption | omega) (by decide) dX2_enter_53 (fun H locs hP hD hS => ?_)
  have hP : va_P D vwCl [(l0, .inr (2, [.ref k0, .ref l1, .int (nI N), .long (lN T), .ref l2, .int (nI te), .int (nI ex)])), (l1, .inl (cJ, 252, .inr (.inl (fL (va_up g N ((w * 16 + (15 - pop x)) * 1024 + (1023 - x))))))), (l2, .inl (cI, 11, .inl (fN rc)))] H := hP
  have hD : va_D (aA [l0, l1, l2]) [(l0, .inr (2, [.ref k0, .ref l1, .int (nI N), .long (lN T), .ref l2, .int (nI te), .int (nI ex)])), (l1, .inl (cJ, 252, .inr (.inl (fL (va_up g N ((w * 16 + (15 - pop x)) * 1024 + (1023 - x))))))), (l2, .inl (cI, 11, .inl (fN rc)))] := hD
  refine lv_aload_n hx hb dX2_enter_54 rfl (lv_at hl 3 rfl) ?_
  refine lv_dup hx hb dX2_enter_55 rfl ?_
  refine va_get (D := D) (ci := 2) (v := .int (nI N)) (C := RX2) (T := TX2) (N := 7) hx hb hts inA2 hown hK.1 hP 0 rfl rfl 2 (by decide) (hts _ kf_RX2_23) (fun _ h9 => h9) rfl dX2_enter_56 ?_
  refine lv_iconst (v := nI 1) hx hb dX2_enter_59 (by decide) ?_
  refine x_iadd (z := nI (N + 1)) hx hb dX2_enter_60 (nI_add _ _) ?_
  refine va_put (D := D) (ci := 2) (v := .int (nI (N + 1))) (ty := .int) (C := RX2) (T := TX2) (N := 7) hx hb hts inA2 tyX2 tyX2_ok nmX2 hown hK.1 hP hD hS 0 rfl rfl 2 (by decide) (hts _ kf_RX2_23) (fun _ h9 => h9) rfl (by decide +kernel) (rfl) (rfl) (Nat.le_of_ble_eq_true rfl) dX2_enter_61 (fun H locs hP hD hS => ?_)
  have hP : va_P D vwCl [(l0, .inr (2, [.ref k0, .ref l1, .int (nI (N + 1)), .long (lN T), .ref l2, .int (nI te), .int (nI ex)])), (l1, .inl (cJ, 252, .inr (.inl (fL (va_up g N ((w * 16 + (15 - pop x)) * 1024 + (1023 - x))))))), (l2, .inl (cI, 11, .inl (fN rc)))] H := hP
  have hD : va_D (aA [l0, l1, l2]) [(l0, .inr (2, [.ref k0, .ref l1, .int (nI (N + 1)), .long (lN T), .ref l2, .int (nI te), .int (nI ex)])), (l1, .inl (cJ, 252, .inr (.inl (fL (va_up g N ((w * 16 + (15 - pop x)) * 1024 + (1023 - x))))))), (l2, .inl (cI, 11, .inl (fN rc)))] := hD
  refine lv_aload_n hx hb dX2_enter_64 rfl (lv_at hl 3 rfl) ?_
  refine lv_dup hx hb dX2_enter_65 rfl ?_
  refine va_get (D := D) (ci := 2) (v := .long (lN T)) (C := RX2) (T := TX2) (N := 7) hx hb hts inA2 hown hK.1 hP 0 rfl rfl 3 (by decide) (hts _ kf_RX2_27) (fun _ h9 => h9) rfl dX2_enter_66 ?_
  refine lv_lload_n hx hb dX2_enter_69 rfl (lv_at hl 5 rfl) ?_
  refine x_ladd (z := lN (T + w)) hx hb dX2_enter_70 (lN_add _ _) ?_
  refine va_put (D := D) (ci := 2) (v := .long (lN (T + w))) (ty := .long) (C := RX2) (T := TX2) (N := 7) hx hb hts inA2 tyX2 tyX2_ok nmX2 hown hK.1 hP hD hS 0 rfl rfl 3 (by decide) (hts _ kf_RX2_27) (fun _ h9 => h9) rfl (by decide +kernel) (rfl) (rfl) (Nat.le_of_ble_eq_true rfl) dX2_enter_71 (fun H locs hP hD hS => ?_)
  have hP : va_P D vwCl [(l0, .inr (2, [.ref k0, .ref l1, .int (nI (N + 1)), .long (lN (T + w)), .ref l2, .int (nI te), .int (nI ex)])), (l1, .inl (cJ, 252, .inr (.inl (fL (va_up g N ((w * 16 + (15 - pop x)) * 1024 + (1023 - x))))))), (l2, .inl (cI, 11, .inl (fN rc)))] H := hP
  have hD : va_D (aA [l0, l1, l2]) [(l0, .inr (2, [.ref k0, .ref l1, .int (nI (N + 1)), .long (lN (T + w)), .ref l2, .int (nI te), .int (nI ex)])), (l1, .inl (cJ, 252, .inr (.inl (fL (va_up g N ((w * 16 + (15 - pop x)) * 1024 + (1023 - x))))))), (l2, .inl (cI, 11, .inl (fN rc)))] := hD
  rw [hQ]
  exact W.vret hx hb hr (fun t ht hW => ⟨⟨H, rfl, hP.sub [0, 1, 2] rfl, ht⟩, hS.F ht⟩) hS.2.2 dX2_enter_74

set_option maxHeartbeats 4000000 in
set_option maxRecDepth 100000 in
theorem mt_X2_allAreAloneForOne (l : Launch) (D : va_G) (cI cJ cZ : ClassId) (l0 : Nat) (l1 : Nat) (l2 : Nat) (N : Nat) (T : Nat) (te : Nat) (ex : Nat) (g : Nat → Nat) (rc : Nat → Nat) (k0 : Nat) (k1 : Nat) (k2 : Nat) (k3 : Nat) (k4 : Nat) (k5 : Nat) (k6 : Nat) (K : Kn) (x : Nat) (o : Nat) (hx0 : x < 1024) (ho : o < 2 ^ 12) : Met l yX2_allAreAloneForOne (aW yX2_allAreAloneForOne cX2_allAreAloneForOne 4 (some .boolean)) { frames := 1, cells := 0, slots := 0, locals := 21 } (cP D cI cJ cZ [.ref l0, .int (nI x), .int (nI o)] [(l0, .inr (2, [.ref k0, .ref l1, .int (nI N), .long (lN T), .ref l2, .int (nI te), .int (nI ex)])), (l1, .inl (cJ, 252, .inr (.inl (fL g)))), (l2, .inl (cI, 11, .inl (fN rc))), (k0, .inr (1, [.ref k1, .ref k2, .ref k3, .ref k4, .ref k5, .ref k6])), (k1, .inl (cI, 10, .inl (fN K.1))), (k2, .inl (cI, 10, .inl (fN K.2.1))), (k3, .inl (cI, 10, .inl (fN (lfM K)))), (k4, .inl (cI, 10, .inl (fN (mfM K)))), (k5, .inl (cI, 12, .inl (fN (lcM K)))), (k6, .inl (cI, 12, .inl (fN (mcM K))))]) (vp_Si (fun r => r = nI (alone K x o).toNat)) 0 0 (fun _ => False) := by
  refine Met.ofW (cc := cX2_allAreAloneForOne) (maxL := 4) (ret := (some .boolean)) (by decide) rfl ?_
  intro p e s m args below meth c s₁ B hml hv
  obtain ⟨hav, hP, hK⟩ := hv
  have hx := B.exec
  have hb := B.bytes
  have hr := B.returns
  have hts := aW_in (atoms_spec (ws := aW yX2_allAreAloneForOne cX2_allAreAloneForOne 4 (some .boolean)) B.pre)
  have hown : s.vm.findClass RX2 = some m.cls := findClass_of_methodNamed B.named
  have hlocks := B.notSynchronized
  obtain ⟨R, hR⟩ : ∃ R, R = (headSpec (aW yX2_allAreAloneForOne cX2_allAreAloneForOne 4 (some .boolean)) { frames := 1, cells := 0, slots := 0, locals := 21 }).room := ⟨_, rfl⟩
  rw [← hR]
  obtain ⟨Q, hQ⟩ : ∃ Q, Q = MQ below (vp_Si (fun r => r = nI (alone K x o).toNat)) args s 0 0 (fun _ => False) := ⟨_, rfl⟩
  rw [← hQ]
  have hl := lv_entry [.ref l0, .int (nI x), .int (nI o)] (n := 4) (Nat.le_of_ble_eq_true rfl)
  have hent := lg_entry_eq m [.ref l0, .int (nI x), .int (nI o)] 4
  rw [← hav] at hent
  rw [hent]
  generalize (lg_sl [.ref l0, .int (nI x), .int (nI o)] ++ List.replicate (4 - (lg_sl [.ref l0, .int (nI x), .int (nI o)]).length) Slot.unset).toArray = ls at hl ⊢
  have hl : lv_has ls 4 [(0, .ref l0), (1, .int (nI x)), (2, .int (nI o))] := hl
  refine lv_iconst (v := nI 0) hx hb dX2_allAreAloneForOne_0 (by decide) ?_
  refine lv_istore_n (lv' := [(3, .int (nI 0)), (0, .ref l0), (1, .int (nI x)), (2, .int (nI o))]) hx hb dX2_allAreAloneForOne_1 rfl hl (by decide) rfl (fun ls hl => ?_)
  have lp2 : ∀ (n : Nat) (j : Nat) (ls : Array Slot), (j + n = 10) → (anyN (fun z => x.testBit z && (lfM K z &&& o == 0)) j = false) → lv_has ls 4 [(3, .int (nI j)), (0, .ref l0), (1, .int (nI x)), (2, .int (nI o))] → W p l e R s m args below meth c s.heap [] 0 0 Q (F0 m 2 ls []) := by
    intro n
    induction n with
    | zero =>
      intro j ls hn ha hl
      refine lv_iload_n hx hb dX2_allAreAloneForOne_2 rfl (lv_at hl 0 rfl) ?_
      refine lv_bipush (v := nI 10) hx hb dX2_allAreAloneForOne_3 (by decide) ?_
      refine x_cge (a := j) (b := 10) (tgt := 38) hx hb (by first | assumption | omega) (by decide) dX2_allAreAloneForOne_5 (by decide) (fun c5 => ?_) (fun c5 => (by omega))
      refine lv_iconst (v := nI 1) hx hb dX2_allAreAloneForOne_38 (by decide) ?_
      rw [hQ]
      exact W.zret (v := nI 1) hx hb hr (rfl) (fun t ht hW => ⟨_, rfl, b_1 (by unfold alone; rw [← show j = 10 by omega, ha]; rfl), ht⟩) (fun _ h => by cases h) dX2_allAreAloneForOne_39
    | succ n ih2 =>
      intro j ls hn ha hl
      refine lv_iload_n hx hb dX2_allAreAloneForOne_2 rfl (lv_at hl 0 rfl) ?_
      refine lv_bipush (v := nI 10) hx hb dX2_allAreAloneForOne_3 (by decide) ?_
      refine x_cge (a := j) (b := 10) (tgt := 38) hx hb (by first | assumption | omega) (by decide) dX2_allAreAloneForOne_5 (by decide) (fun c5 => (by omega)) (fun c5 => ?_)
      refine lv_iload_n hx hb dX2_allAreAloneForOne_8 rfl (lv_at hl 2 rfl) ?_
      refine lv_iload_n hx hb dX2_allAreAloneForOne_9 rfl (lv_at hl 0 rfl) ?_
      refine vp_callSi (va_Run.run (va_runSN (As := [.int (nI x), .int (nI j)]) (rest := []) ⟨hx, hb, hml, hown, hts⟩ (mt_X6_has l D cI cJ cZ x j (by first | assumption | omega) (by first | assumption | omega)) ⟨va_cnB 2 hts (aW_good kc_yX6_has) rfl rfl rfl hK.2.2.1 (hts _ kn_RX6) (by decide +kernel) (by rw [hR]; exact ⟨Nat.le_of_ble_eq_true rfl, Nat.le_of_ble_eq_true rfl⟩), hts _ ks_yX6_has, trivial⟩ (cP_S hK (fun k q h => by simp at h)) rfl rfl hl.1 rfl (lv_room (Nat.le_of_ble_eq_true rfl)) dX2_allAreAloneForOne_10 ⟨Nat.zero_le _, Nat.zero_le _⟩)) (fun r_ hr_ => ?_)
      subst hr_
      refine x_beq (tgt := 32) hx hb dX2_allAreAloneForOne_13 (by decide) (fun c13 => ?_) (fun c13 => ?_)
      · refine lv_iinc (v := nI (j + 1)) (lv' := [(3, .int (nI (j + 1))), (0, .ref l0), (1, .int (nI x)), (2, .int (nI o))]) hx hb dX2_allAreAloneForOne_32 hl (k := 0) rfl (x_inc1 _) (by decide) rfl (fun ls hl => ?_)
        refine lv_goto (tgt := 2) hx hb dX2_allAreAloneForOne_35 (by decide) ?_
        exact ih2 (j + 1) ls (by omega) (by first | exact anyN_next ha (by rw [c13]; rfl) | exact anyN_next ha (by rw [c13, Bool.true_and]; simpa using c27)) (lv_sub hl [0, 1, 2, 3] rfl)
      · refine lv_aload_n hx hb dX2_allAreAloneForOne_16 rfl (lv_at hl 1 rfl) ?_
        refine va_get (D := D) (ci := 2) (v := .ref k0) (C := RX2) (T := TX2) (N := 7) hx hb hts inA2 hown hK.1 hP 0 rfl rfl 0 (by decide) (hts _ kf_RX2_19) (fun _ h9 => h9) rfl dX2_allAreAloneForOne_17 ?_
        refine va_get (D := D) (ci := 1) (v := .ref k3) (C := RX1) (T := TX1) (N := 6) hx hb hts inA1 hown hK.1 hP 3 rfl rfl 2 (by decide) (hts _ kf_RX2_55) (fun _ h9 => h9) rfl dX2_allAreAloneForOne_20 ?_
        refine lv_iload_n hx hb dX2_allAreAloneForOne_23 rfl (lv_at hl 0 rfl) ?_
        refine x_ildN hx hb hK.1 hP 6 0 rfl rfl (by first | assumption | omega) (by decide) dX2_allAreAloneForOne_24 ?_
        refine lv_iload_n hx hb dX2_allAreAloneForOne_25 rfl (lv_at hl 3 rfl) ?_
        refine x_iand (z := nI (((lfM K) j) &&& o)) hx hb dX2_allAreAloneForOne_26 (z_and _ _) ?_
        refine x_zne (tgt := 32) hx hb (Nat.lt_trans (Nat.lt_of_le_of_lt Nat.and_le_right ho) (by decide)) dX2_allAreAloneForOne_27 (by decide) (fun c27 => ?_) (fun c27 => ?_)
        · refine lv_iinc (v := nI (j + 1)) (lv' := [(3, .int (nI (j + 1))), (0, .ref l0), (1, .int (nI x)), (2, .int (nI o))]) hx hb dX2_allAreAloneForOne_32 hl (k := 0) rfl (x_inc1 _) (by decide) rfl (fun ls hl => ?_)
          refine lv_goto (tgt := 2) hx hb dX2_allAreAloneForOne_35 (by decide) ?_
          exact ih2 (j + 1) ls (by omega) (by first | exact anyN_next ha (by rw [c13]; rfl) | exact anyN_next ha (by rw [c13, Bool.true_and]; simpa using c27)) (lv_sub hl [0, 1, 2, 3] rfl)
        · refine lv_iconst (v := nI 0) hx hb dX2_allAreAloneForOne_30 (by decide) ?_
          rw [hQ]
          exact W.zret (v := nI 0) hx hb hr (rfl) (fun t ht hW => ⟨_, rfl, b_0 (by unfold alone; rw [anyN_true (show j < 10 by omega) (by rw [c13, c27]; rfl)]; rfl), ht⟩) (fun _ h => by cases h) dX2_allAreAloneForOne_31
  exact lp2 (10) 0 ls (by omega) (rfl) (lv_sub hl [0, 1, 2, 3] rfl)
