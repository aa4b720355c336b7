set_option maxHeartbeats 4000000 in
set_option maxRecDepth 100000 in
theorem mt_J6_bitCount_0f7a4 (l : Launch) (D : va_G) (cI cJ cZ : ClassId) (x : Nat) (hx0 : x < 4096) : Met l yJ6_bitCount_0f7a4 (aW yJ6_bitCount_0f7a4 cJ6_bitCount_0f7a4 1 (some .int)) { frames := 0, cells := 0, slots := 0, locals := 0 } (cP D cI cJ cZ [.int (nI x)] []) (vp_Si (fun r => r = nI (pop x))) 0 0 (fun _ => False) := by
  refine Met.ofW (cc := cJ6_bitCount_0f7a4) (maxL := 1) (ret := (some .int)) (by decide) rfl ?_
  intro p e s m args below meth c s₁ B hml hv
  obtain ⟨hav, hP, hK⟩ := hv
  have hx := B.exec
  have hb := B.bytes
  have hr := B.returns
  have hts := aW_in (atoms_spec (ws := aW yJ6_bitCount_0f7a4 cJ6_bitCount_0f7a4 1 (some .int)) B.pre)
  have hown : s.vm.findClass RJ6 = some m.cls := findClass_of_methodNamed B.named
  have hlocks := B.notSynchronized
  obtain ⟨R, hR⟩ : ∃ R, R = (headSpec (aW yJ6_bitCount_0f7a4 cJ6_bitCount_0f7a4 1 (some .int)) { frames := 0, cells := 0, slots := 0, locals := 0 }).room := ⟨_, rfl⟩
  rw [← hR]
  obtain ⟨Q, hQ⟩ : ∃ Q, Q = MQ below (vp_Si (fun r => r = nI (pop x))) args s 0 0 (fun _ => False) := ⟨_, rfl⟩
  rw [← hQ]
  have hl := lv_entry [.int (nI x)] (n := 1) (Nat.le_of_ble_eq_true rfl)
  have hent := lg_entry_eq m [.int (nI x)] 1
  rw [← hav] at hent
  rw [hent]
  generalize (lg_sl [.int (nI x)] ++ List.replicate (1 - (lg_sl [.int (nI x)]).length) Slot.unset).toArray = ls at hl ⊢
  have hl : lv_has ls 1 [(0, .int (nI x))] := hl
  have hbc := bc_lt hx0
  refine lv_iload_n hx hb dJ6_bitCount_0f7a4_0 rfl (lv_at hl 0 rfl) ?_
  refine lv_iload_n hx hb dJ6_bitCount_0f7a4_1 rfl (lv_at hl 0 rfl) ?_
  refine lv_iconst (v := nI 1) hx hb dJ6_bitCount_0f7a4_2 (by decide) ?_
  refine lv_iushr (v := nI (x >>> 1)) hx hb dJ6_bitCount_0f7a4_3 (z_ushr (by first | assumption | omega) (by decide)) ?_
  refine lv_ldcw (v := 1431655765) hx hb hown (hts _ kk_RJ6_265) dJ6_bitCount_0f7a4_4 ?_
  refine x_top (show (1431655765 : Int32) = nI 1431655765 from rfl) ?_
  refine x_iand (z := nI ((x >>> 1) &&& 1431655765)) hx hb dJ6_bitCount_0f7a4_7 (z_and _ _) ?_
  refine x_isub (z := nI (x - ((x >>> 1) &&& 1431655765))) hx hb dJ6_bitCount_0f7a4_8 (pk_sub (bc1_le x)) ?_
  refine x_top (show nI (x - ((x >>> 1) &&& 1431655765)) = nI (bc1 x) from rfl) ?_
  refine lv_istore_n (lv' := [(0, .int (nI (bc1 x)))]) hx hb dJ6_bitCount_0f7a4_9 rfl hl (by decide) rfl (fun ls hl => ?_)
  refine lv_iload_n hx hb dJ6_bitCount_0f7a4_10 rfl (lv_at hl 0 rfl) ?_
  refine lv_ldcw (v := 858993459) hx hb hown (hts _ kk_RJ6_266) dJ6_bitCount_0f7a4_11 ?_
  refine x_top (show (858993459 : Int32) = nI 858993459 from rfl) ?_
  refine x_iand (z := nI ((bc1 x) &&& 858993459)) hx hb dJ6_bitCount_0f7a4_14 (z_and _ _) ?_
  refine lv_iload_n hx hb dJ6_bitCount_0f7a4_15 rfl (lv_at hl 0 rfl) ?_
  refine lv_iconst (v := nI 2) hx hb dJ6_bitCount_0f7a4_16 (by decide) ?_
  refine lv_iushr (v := nI ((bc1 x) >>> 2)) hx hb dJ6_bitCount_0f7a4_17 (z_ushr (by first | assumption | omega) (by decide)) ?_
  refine lv_ldcw (v := 858993459) hx hb hown (hts _ kk_RJ6_266) dJ6_bitCount_0f7a4_18 ?_
  refine x_top (show (858993459 : Int32) = nI 858993459 from rfl) ?_
  refine x_iand (z := nI (((bc1 x) >>> 2) &&& 858993459)) hx hb dJ6_bitCount_0f7a4_21 (z_and _ _) ?_
  refine x_iadd (z := nI (((bc1 x) &&& 858993459) + (((bc1 x) >>> 2) &&& 858993459))) hx hb dJ6_bitCount_0f7a4_22 (nI_add _ _) ?_
  refine x_top (show nI (((bc1 x) &&& 858993459) + (((bc1 x) >>> 2) &&& 858993459)) = nI (bc2 (bc1 x)) from rfl) ?_
  refine lv_istore_n (lv' := [(0, .int (nI (bc2 (bc1 x))))]) hx hb dJ6_bitCount_0f7a4_23 rfl hl (by decide) rfl (fun ls hl => ?_)
  refine lv_iload_n hx hb dJ6_bitCount_0f7a4_24 rfl (lv_at hl 0 rfl) ?_
  refine lv_iload_n hx hb dJ6_bitCount_0f7a4_25 rfl (lv_at hl 0 rfl) ?_
  refine lv_iconst (v := nI 4) hx hb dJ6_bitCount_0f7a4_26 (by decide) ?_
  refine lv_iushr (v := nI ((bc2 (bc1 x)) >>> 4)) hx hb dJ6_bitCount_0f7a4_27 (z_ushr (by first | assumption | omega) (by decide)) ?_
  refine x_iadd (z := nI ((bc2 (bc1 x)) + ((bc2 (bc1 x)) >>> 4))) hx hb dJ6_bitCount_0f7a4_28 (nI_add _ _) ?_
  refine lv_ldcw (v := 252645135) hx hb hown (hts _ kk_RJ6_267) dJ6_bitCount_0f7a4_29 ?_
  refine x_top (show (252645135 : Int32) = nI 252645135 from rfl) ?_
  refine x_iand (z := nI (((bc2 (bc1 x)) + ((bc2 (bc1 x)) >>> 4)) &&& 252645135)) hx hb dJ6_bitCount_0f7a4_32 (z_and _ _) ?_
  refine x_top (show nI (((bc2 (bc1 x)) + ((bc2 (bc1 x)) >>> 4)) &&& 252645135) = nI (bc3 (bc2 (bc1 x))) from rfl) ?_
  refine lv_istore_n (lv' := [(0, .int (nI (bc3 (bc2 (bc1 x)))))]) hx hb dJ6_bitCount_0f7a4_33 rfl hl (by decide) rfl (fun ls hl => ?_)
  refine lv_iload_n hx hb dJ6_bitCount_0f7a4_34 rfl (lv_at hl 0 rfl) ?_
  refine lv_iload_n hx hb dJ6_bitCount_0f7a4_35 rfl (lv_at hl 0 rfl) ?_
  refine lv_bipush (v := nI 8) hx hb dJ6_bitCount_0f7a4_36 (by decide) ?_
  refine lv_iushr (v := nI ((bc3 (bc2 (bc1 x))) >>> 8)) hx hb dJ6_bitCount_0f7a4_38 (z_ushr (by first | assumption | omega) (by decide)) ?_
  refine x_iadd (z := nI ((bc3 (bc2 (bc1 x))) + ((bc3 (bc2 (bc1 x))) >>> 8))) hx hb dJ6_bitCount_0f7a4_39 (nI_add _ _) ?_
  refine x_top (show nI ((bc3 (bc2 (bc1 x))) + ((bc3 (bc2 (bc1 x))) >>> 8)) = nI (bc4 (bc3 (bc2 (bc1 x)))) from rfl) ?_
  refine lv_istore_n (lv' := [(0, .int (nI (bc4 (bc3 (bc2 (bc1 x))))))]) hx hb dJ6_bitCount_0f7a4_40 rfl hl (by decide) rfl (fun ls hl => ?_)
  refine lv_iload_n hx hb dJ6_bitCount_0f7a4_41 rfl (lv_at hl 0 rfl) ?_
  refine lv_iload_n hx hb dJ6_bitCount_0f7a4_42 rfl (lv_at hl 0 rfl) ?_
  refine lv_bipush (v := nI 16) hx hb dJ6_bitCount_0f7a4_43 (by decide) ?_
  refine lv_iushr (v := nI ((bc4 (bc3 (bc2 (bc1 x)))) >>> 16)) hx hb dJ6_bitCount_0f7a4_45 (z_ushr (by first | assumption | omega) (by decide)) ?_
  refine x_iadd (z := nI ((bc4 (bc3 (bc2 (bc1 x)))) + ((bc4 (bc3 (bc2 (bc1 x)))) >>> 16))) hx hb dJ6_bitCount_0f7a4_46 (nI_add _ _) ?_
  refine x_top (show nI ((bc4 (bc3 (bc2 (bc1 x)))) + ((bc4 (bc3 (bc2 (bc1 x)))) >>> 16)) = nI (bc5 (bc4 (bc3 (bc2 (bc1 x))))) from rfl) ?_
  refine lv_istore_n (lv' := [(0, .int (nI (bc5 (bc4 (bc3 (bc2 (bc1 x)))))))]) hx hb dJ6_bitCount_0f7a4_47 rfl hl (by decide) rfl (fun ls hl => ?_)
  refine lv_iload_n hx hb dJ6_bitCount_0f7a4_48 rfl (lv_at hl 0 rfl) ?_
  refine lv_bipush (v := nI 63) hx hb dJ6_bitCount_0f7a4_49 (by decide) ?_
  refine x_iand (z := nI ((bc5 (bc4 (bc3 (bc2 (bc1 x))))) &&& 63)) hx hb dJ6_bitCount_0f7a4_51 (z_and _ _) ?_
  rw [hQ]
  exact W.iret (v := nI ((bc5 (bc4 (bc3 (bc2 (bc1 x))))) &&& 63)) hx hb hr (fun t ht hW => ⟨_, rfl, by rw [bc_pop hx0], ht⟩) (fun _ h => by cases h) dJ6_bitCount_0f7a4_52

set_option maxHeartbeats 4000000 in
set_option maxRecDepth 100000 in
theorem mt_X1_countLinks (l : Launch) (D : va_G) (cI cJ cZ : ClassId) (k0 : Nat) (k1 : Nat) (k2 : Nat) (k3 : Nat) (k4 : Nat) (k5 : Nat) (k6 : Nat) (K : Kn) : Met l yX1_countLinks (aW yX1_countLinks cX1_countLinks 3 (some .int)) { frames := 1, cells := 0, slots := 0, locals := 20 } (cP D cI cJ cZ [.ref k0] [(k0, .inr (1, [.ref k1, .ref k2, .ref k3, .ref k4, .ref k5, .ref k6])), (k1, .inl (cI, 10, .inl (fN K.1))), (k2, .inl (cI, 10, .inl (fN K.2.1))), (k3, .inl (cI, 10, .inl (fN (lfM K)))), (k4, .inl (cI, 10, .inl (fN (mfM K)))), (k5, .inl (cI, 12, .inl (fN (lcM K)))), (k6, .inl (cI, 12, .inl (fN (mcM K))))]) (vp_Si (fun r => r = nI (cntL K 10))) 0 0 (fun _ => False) := by
  refine Met.ofW (cc := cX1_countLinks) (maxL := 3) (ret := (some .int)) (by decide) rfl ?_
  intro p e s m args below meth c s₁ B hml hv
  obtain ⟨hav, hP, hK⟩ := hv
  have hx := B.exec
  have hb := B.bytes
  have hr := B.returns
  have hts := aW_in (atoms_spec (ws := aW yX1_countLinks cX1_countLinks 3 (some .int)) B.pre)
  have hown : s.vm.findClass RX1 = some m.cls := findClass_of_methodNamed B.named
  have hlocks := B.notSynchronized
  obtain ⟨R, hR⟩ : ∃ R, R = (headSpec (aW yX1_countLinks cX1_countLinks 3 (some .int)) { frames := 1, cells := 0, slots := 0, locals := 20 }).room := ⟨_, rfl⟩
  rw [← hR]
  obtain ⟨Q, hQ⟩ : ∃ Q, Q = MQ below (vp_Si (fun r => r = nI (cntL K 10))) args s 0 0 (fun _ => False) := ⟨_, rfl⟩
  rw [← hQ]
  have hl := lv_entry [.ref k0] (n := 3) (Nat.le_of_ble_eq_true rfl)
  have hent := lg_entry_eq m [.ref k0] 3
  rw [← hav] at hent
  rw [hent]
  generalize (lg_sl [.ref k0] ++ List.replicate (3 - (lg_sl [.ref k0]).length) Slot.unset).toArray = ls at hl ⊢
  have hl : lv_has ls 3 [(0, .ref k0)] := hl
  refine lv_iconst (v := nI 0) hx hb dX1_countLinks_0 (by decide) ?_
  refine lv_istore_n (lv' := [(1, .int (nI 0)), (0, .ref k0)]) hx hb dX1_countLinks_1 rfl hl (by decide) rfl (fun ls hl => ?_)
  refine lv_iconst (v := nI 0) hx hb dX1_countLinks_2 (by decide) ?_
  refine lv_istore_n (lv' := [(2, .int (nI 0)), (1, .int (nI 0)), (0, .ref k0)]) hx hb dX1_countLinks_3 rfl hl (by decide) rfl (fun ls hl => ?_)
  have lp4 : ∀ (n : Nat) (j : Nat) (a : Nat) (ls : Array Slot), (j + n = 10) → (a = cntL K j) → lv_has ls 3 [(2, .int (nI j)), (1, .int (nI a)), (0, .ref k0)] → W p l e R s m args below meth c s.heap [] 0 0 Q (F0 m 4 ls []) := by
    intro n
    induction n with
    | zero =>
      intro j a ls hn ha hl
      refine lv_iload_n hx hb dX1_countLinks_4 rfl (lv_at hl 0 rfl) ?_
      refine lv_bipush (v := nI 10) hx hb dX1_countLinks_5 (by decide) ?_
      refine x_cge (a := j) (b := 10) (tgt := 28) hx hb (by first | assumption | omega) (by decide) dX1_countLinks_7 (by decide) (fun c7 => ?_) (fun c7 => (by omega))
      refine lv_iload_n hx hb dX1_countLinks_28 rfl (lv_at hl 1 rfl) ?_
      rw [hQ]
      exact W.iret (v := nI a) hx hb hr (fun t ht hW => ⟨_, rfl, by rw [ha, show j = 10 by omega], ht⟩) (fun _ h => by cases h) dX1_countLinks_29
    | succ n ih4 =>
      intro j a ls hn ha hl
      refine lv_iload_n hx hb dX1_countLinks_4 rfl (lv_at hl 0 rfl) ?_
      refine lv_bipush (v := nI 10) hx hb dX1_countLinks_5 (by decide) ?_
      refine x_cge (a := j) (b := 10) (tgt := 28) hx hb (by first | assumption | omega) (by decide) dX1_countLinks_7 (by decide) (fun c7 => (by omega)) (fun c7 => ?_)
      refine lv_iload_n hx hb dX1_countLinks_10 rfl (lv_at hl 1 rfl) ?_
      refine lv_aload_n hx hb dX1_countLinks_11 rfl (lv_at hl 2 rfl) ?_
      refine va_get (D := D) (ci := 1) (v := .ref k3) (C := RX1) (T := TX1) (N := 6) hx hb hts inA1 hown hK.1 hP 0 rfl rfl 2 (by decide) (hts _ kf_RX1_18) (fun _ h9 => h9) rfl dX1_countLinks_12 ?_
      refine lv_iload_n hx hb dX1_countLinks_15 rfl (lv_at hl 0 rfl) ?_
      refine x_ildN hx hb hK.1 hP 3 0 rfl rfl (by first | assumption | omega) (by decide) dX1_countLinks_16 ?_
      refine vp_callSi (va_Run.run (va_runS (As := [.int (nI ((lfM K) j))]) (rest := [.int (nI a)]) ⟨hx, hb, hml, hown, hts⟩ (mt_J6_bitCount_0f7a4 l D cI cJ cZ ((lfM K) j) (lfM_lt K j)) (va_cwS 1 hts (gS km_RX1_38 ks_yJ6_bitCount_0f7a4 kn_RJ6 kc_yJ6_bitCount_0f7a4) rfl rfl rfl (by decide +kernel) (by rw [hR]; exact ⟨Nat.le_of_ble_eq_true rfl, Nat.le_of_ble_eq_true rfl⟩)) (cP_S hK (fun k q h => by simp at h)) rfl rfl hl.1 rfl (lv_room (Nat.le_of_ble_eq_true rfl)) dX1_countLinks_17 ⟨Nat.zero_le _, Nat.zero_le _⟩)) (fun r_ hr_ => ?_)
      subst hr_
      refine x_iadd (z := nI (a + (pop ((lfM K) j)))) hx hb dX1_countLinks_20 (nI_add _ _) ?_
      refine lv_istore_n (lv' := [(1, .int (nI (a + (pop ((lfM K) j))))), (2, .int (nI j)), (0, .ref k0)]) hx hb dX1_countLinks_21 rfl hl (by decide) rfl (fun ls hl => ?_)
      refine lv_iinc (v := nI (j + 1)) (lv' := [(2, .int (nI (j + 1))), (1, .int (nI (a + (pop ((lfM K) j))))), (0, .ref k0)]) hx hb dX1_countLinks_22 hl (k := 1) rfl (x_inc1 _) (by decide) rfl (fun ls hl => ?_)
      refine lv_goto (tgt := 4) hx hb dX1_countLinks_25 (by decide) ?_
      exact ih4 (j + 1) (a + (pop ((lfM K) j))) ls (by omega) (by rw [ha]; rfl) (lv_sub hl [0, 1, 2] rfl)
  exact lp4 (10) 0 0 ls (by omega) (rfl) (lv_sub hl [0, 1, 2] rfl)

set_option maxHeartbeats 4000000 in
set_option maxRecDepth 100000 in
theorem mt_X1_putLink (l : Launch) (D : va_G) (cI cJ cZ : ClassId) (k0 : Nat) (k1 : Nat) (k2 : Nat) (k3 : Nat) (k4 : Nat) (k5 : Nat) (k6 : Nat) (K : Kn) (fi : Nat) (ca : Nat) (v : Nat) (hN : [k0, k1, k2, k3, k4, k5, k6].Nodup) (hf : fi < 12) (hc : ca < 10) (hv : v ≤ 2) : Met l yX1_putLink (aW yX1_putLink cX1_putLink 4 none) { frames := 1, cells := 0, slots := 0, locals := 22 } (cP D cI cJ cZ [.ref k0, .int (nI fi), .int (nI ca), .int (nI v)] [(k0, .inr (1, [.ref k1, .ref k2, .ref k3, .ref k4, .ref k5, .ref k6])), (k1, .inl (cI, 10, .inl (fN K.1))), (k2, .inl (cI, 10, .inl (fN K.2.1))), (k3, .inl (cI, 10, .inl (fN (lfM K)))), (k4, .inl (cI, 10, .inl (fN (mfM K)))), (k5, .inl (cI, 12, .inl (fN (lcM K)))), (k6, .inl (cI, 12, .inl (fN (mcM K))))]) (va_Qv (fun H1 : Heap => va_P D vwCl [(k0, .inr (1, [.ref k1, .ref k2, .ref k3, .ref k4, .ref k5, .ref k6])), (k1, .inl (cI, 10, .inl (fN ((setL K fi ca v).1)))), (k2, .inl (cI, 10, .inl (fN ((setL K fi ca v).2.1)))), (k3, .inl (cI, 10, .inl (fN (lfM (setL K fi ca v))))), (k4, .inl (cI, 10, .inl (fN (mfM (setL K fi ca v))))), (k5, .inl (cI, 12, .inl (fN (lcM (setL K fi ca v))))), (k6, .inl (cI, 12, .inl (fN (mcM (setL K fi ca v)))))] H1) mB (aA [k0, k1, k2, k3, k4, k5, k6])) 0 0 (aA [k0, k1, k2, k3, k4, k5, k6]) := by
  refine Met.ofW (cc := cX1_putLink) (maxL := 4) (ret := none) (by decide) rfl ?_
  intro p e s m args below meth c s₁ B hml hv
  obtain ⟨hav, hP, hK⟩ := hv
  have hx := B.exec
  have hb := B.bytes
  have hr := B.returns
  have hts := aW_in (atoms_spec (ws := aW yX1_putLink cX1_putLink 4 none) B.pre)
  have hown : s.vm.findClass RX1 = some m.cls := findClass_of_methodNamed B.named
  have hlocks := B.notSynchronized
  obtain ⟨R, hR⟩ : ∃ R, R = (headSpec (aW yX1_putLink cX1_putLink 4 none) { frames := 1, cells := 0, slots := 0, locals := 22 }).room := ⟨_, rfl⟩
  rw [← hR]
  obtain ⟨Q, hQ⟩ : ∃ Q, Q = MQ below (va_Qv (fun H1 : Heap => va_P D vwCl [(k0, .inr (1, [.ref k1, .ref k2, .ref k3, .ref k4, .ref k5, .ref k6])), (k1, .inl (cI, 10, .inl (fN ((setL K fi ca v).1)))), (k2, .inl (cI, 10, .inl (fN ((setL K fi ca v).2.1)))), (k3, .inl (cI, 10, .inl (fN (lfM (setL K fi ca v))))), (k4, .inl (cI, 10, .inl (fN (mfM (setL K fi ca v))))), (k5, .inl (cI, 12, .inl (fN (lcM (setL K fi ca v))))), (k6, .inl (cI, 12, .inl (fN (mcM (setL K fi ca v)))))] H1) mB (aA [k0, k1, k2, k3, k4, k5, k6])) args s 0 0 (aA [k0, k1, k2, k3, k4, k5, k6]) := ⟨_, rfl⟩
  rw [← hQ]
  have hl := lv_entry [.ref k0, .int (nI fi), .int (nI ca), .int (nI v)] (n := 4) (Nat.le_of_ble_eq_true rfl)
  have hent := lg_entry_eq m [.ref k0, .int (nI fi), .int (nI ca), .int (nI v)] 4
  rw [← hav] at hent
  rw [hent]
  generalize (lg_sl [.ref k0, .int (nI fi), .int (nI ca), .int (nI v)] ++ List.replicate (4 - (lg_sl [.ref k0, .int (nI fi), .int (nI ca), .int (nI v)]).length) Slot.unset).toArray = ls at hl ⊢
  have hl : lv_has ls 4 [(0, .ref k0), (1, .int (nI fi)), (2, .int (nI ca)), (3, .int (nI v))] := hl
  have hD : va_D (aA [k0, k1, k2, k3, k4, k5, k6]) [(k0, .inr (1, [.ref k1, .ref k2, .ref k3, .ref k4, .ref k5, .ref k6])), (k1, .inl (cI, 10, .inl (fN K.1))), (k2, .inl (cI, 10, .inl (fN K.2.1))), (k3, .inl (cI, 10, .inl (fN (lfM K)))), (k4, .inl (cI, 10, .inl (fN (mfM K)))), (k5, .inl (cI, 12, .inl (fN (lcM K)))), (k6, .inl (cI, 12, .inl (fN (mcM K))))] := nd_D hN rfl
  have hS : va_S (aA [k0, k1, k2, k3, k4, k5, k6]) s.heap s.heap [] := va_S.rf
  have hP : va_P D vwCl [(k0, .inr (1, [.ref k1, .ref k2, .ref k3, .ref k4, .ref k5, .ref k6])), (k1, .inl (cI, 10, .inl (fN K.1))), (k2, .inl (cI, 10, .inl (fN K.2.1))), (k3, .inl (cI, 10, .inl (fN (lfM K)))), (k4, .inl (cI, 10, .inl (fN (mfM K)))), (k5, .inl (cI, 12, .inl (fN (lcM K)))), (k6, .inl (cI, 12, .inl (fN (mcM K))))] s.heap := hP
  obtain ⟨H, hH⟩ : ∃ H, H = s.heap := ⟨_, rfl⟩
  rw [← hH] at hP
  obtain ⟨locs, hlocs⟩ : ∃ q : List Loc, q = [] := ⟨_, rfl⟩
  have hS : va_S (aA [k0, k1, k2, k3, k4, k5, k6]) s.heap H locs := by rw [hH, hlocs]; exact hS
  rw [← hH, ← hlocs]
  clear hH hlocs
  refine lv_aload_n hx hb dX1_putLink_0 rfl (lv_at hl 0 rfl) ?_
  refine va_get (D := D) (ci := 1) (v := .ref k3) (C := RX1) (T := TX1) (N := 6) hx hb hts inA1 hown hK.1 hP 0 rfl rfl 2 (by decide) (hts _ kf_RX1_18) (fun _ h9 => h9) rfl dX1_putLink_1 ?_
  refine lv_iload_n hx hb dX1_putLink_4 rfl (lv_at hl 2 rfl) ?_
  refine lv_aload_n hx hb dX1_putLink_5 rfl (lv_at hl 0 rfl) ?_
  refine va_get (D := D) (ci := 1) (v := .ref k3) (C := RX1) (T := TX1) (N := 6) hx hb hts inA1 hown hK.1 hP 0 rfl rfl 2 (by decide) (hts _ kf_RX1_18) (fun _ h9 => h9) rfl dX1_putLink_6 ?_
  refine lv_iload_n hx hb dX1_putLink_9 rfl (lv_at hl 2 rfl) ?_
  refine x_ildN hx hb hK.1 hP 3 0 rfl rfl (by first | assumption | omega) (by decide) dX1_putLink_10 ?_
  refine lv_iload_n hx hb dX1_putLink_11 rfl (lv_at hl 1 rfl) ?_
  refine lv_iload_n hx hb dX1_putLink_12 rfl (lv_at hl 3 rfl) ?_
  have j21 : W p l e R s m args below meth c H locs 0 0 Q (F0 m 21 ls [.int (nI (v != 0).toNat), .int (nI fi), .int (nI ((lfM K) ca)), .int (nI ca), .ref k3]) := by
    refine vp_callSi (va_Run.run (va_runS (As := [.int (nI ((lfM K) ca)), .int (nI fi), .int (nI (v != 0).toNat)]) (rest := [.int (nI ca), .ref k3]) ⟨hx, hb, hml, hown, hts⟩ (mt_X1_with l D cI cJ cZ ((lfM K) ca) fi (v != 0) (by first | assumption | omega)) (va_cwS 3 hts (gS km_RX1_34 ks_yX1_with kn_RX1 kc_yX1_with) rfl rfl rfl (by decide +kernel) (by rw [hR]; exact ⟨Nat.le_of_ble_eq_true rfl, Nat.le_of_ble_eq_true rfl⟩)) (cP_S hK (fun k q h => by simp at h)) rfl rfl hl.1 rfl (lv_room (Nat.le_of_ble_eq_true rfl)) dX1_putLink_21 ⟨Nat.zero_le _, Nat.zero_le _⟩)) (fun r_ hr_ => ?_)
    subst hr_
    refine x_istN (v := wth ((lfM K) ca) fi (v != 0)) hx hb hK.1 hP hD hS 3 0 rfl rfl (by first | assumption | omega) (by decide) dX1_putLink_24 (fun H locs hP hD hS => ?_)
    have hP : va_P D vwCl [(k0, .inr (1, [.ref k1, .ref k2, .ref k3, .ref k4, .ref k5, .ref k6])), (k1, .inl (cI, 10, .inl (fN K.1))), (k2, .inl (cI, 10, .inl (fN K.2.1))), (k3, .inl (cI, 10, .inl (fN (va_up (lfM K) ca (wth ((lfM K) ca) fi (v != 0)))))), (k4, .inl (cI, 10, .inl (fN (mfM K)))), (k5, .inl (cI, 12, .inl (fN (lcM K)))), (k6, .inl (cI, 12, .inl (fN (mcM K))))] H := hP
    have hD : va_D (aA [k0, k1, k2, k3, k4, k5, k6]) [(k0, .inr (1, [.ref k1, .ref k2, .ref k3, .ref k4, .ref k5, .ref k6])), (k1, .inl (cI, 10, .inl (fN K.1))), (k2, .inl (cI, 10, .inl (fN K.2.1))), (k3, .inl (cI, 10, .inl (fN (va_up (lfM K) ca (wth ((lfM K) ca) fi (v != 0)))))), (k4, .inl (cI, 10, .inl (fN (mfM K)))), (k5, .inl (cI, 12, .inl (fN (lcM K)))), (k6, .inl (cI, 12, .inl (fN (mcM K))))] := hD
    refine lv_aload_n hx hb dX1_putLink_25 rfl (lv_at hl 0 rfl) ?_
    refine va_get (D := D) (ci := 1) (v := .ref k4) (C := RX1) (T := TX1) (N := 6) hx hb hts inA1 hown hK.1 hP 0 rfl rfl 3 (by decide) (hts _ kf_RX1_21) (fun _ h9 => h9) rfl dX1_putLink_26 ?_
    refine lv_iload_n hx hb dX1_putLink_29 rfl (lv_at hl 2 rfl) ?_
    refine lv_aload_n hx hb dX1_putLink_30 rfl (lv_at hl 0 rfl) ?_
    refine va_get (D := D) (ci := 1) (v := .ref k4) (C := RX1) (T := TX1) (N := 6) hx hb hts inA1 hown hK.1 hP 0 rfl rfl 3 (by decide) (hts _ kf_RX1_21) (fun _ h9 => h9) rfl dX1_putLink_31 ?_
    refine lv_iload_n hx hb dX1_putLink_34 rfl (lv_at hl 2 rfl) ?_
    refine x_ildN hx hb hK.1 hP 4 0 rfl rfl (by first | assumption | omega) (by decide) dX1_putLink_35 ?_
    refine lv_iload_n hx hb dX1_putLink_36 rfl (lv_at hl 1 rfl) ?_
    refine lv_iload_n hx hb dX1_putLink_37 rfl (lv_at hl 3 rfl) ?_
    refine lv_iconst (v := nI 2) hx hb dX1_putLink_38 (by decide) ?_
    have j47 : W p l e R s m args below meth c H locs 0 0 Q (F0 m 47 ls [.int (nI (v == 2).toNat), .int (nI fi), .int (nI ((mfM K) ca)), .int (nI ca), .ref k4]) := by
      refine vp_callSi (va_Run.run (va_runS (As := [.int (nI ((mfM K) ca)), .int (nI fi), .int (nI (v == 2).toNat)]) (rest := [.int (nI ca), .ref k4]) ⟨hx, hb, hml, hown, hts⟩ (mt_X1_with l D cI cJ cZ ((mfM K) ca) fi (v == 2) (by first | assumption | omega)) (va_cwS 3 hts (gS km_RX1_34 ks_yX1_with kn_RX1 kc_yX1_with) rfl rfl rfl (by decide +kernel) (by rw [hR]; exact ⟨Nat.le_of_ble_eq_true rfl, Nat.le_of_ble_eq_true rfl⟩)) (cP_S hK (fun k q h => by simp at h)) rfl rfl hl.1 rfl (lv_room (Nat.le_of_ble_eq_true rfl)) dX1_putLink_47 ⟨Nat.zero_le _, Nat.zero_le _⟩)) (fun r_ hr_ => ?_)
      subst hr_
      refine x_istN (v := wth ((mfM K) ca) fi (v == 2)) hx hb hK.1 hP hD hS 4 0 rfl rfl (by first | assumption | omega) (by decide) dX1_putLink_50 (fun H locs hP hD hS => ?_)
      have hP : va_P D vwCl [(k0, .inr (1, [.ref k1, .ref k2, .ref k3, .ref k4, .ref k5, .ref k6])), (k1, .inl (cI, 10, .inl (fN K.1))), (k2, .inl (cI, 10, .inl (fN K.2.1))), (k3, .inl (cI, 10, .inl (fN (va_up (lfM K) ca (wth ((lfM K) ca) fi (v != 0)))))), (k4, .inl (cI, 10, .inl (fN (va_up (mfM K) ca (wth ((mfM K) ca) fi (v == 2)))))), (k5, .inl (cI, 12, .inl (fN (lcM K)))), (k6, .inl (cI, 12, .inl (fN (mcM K))))] H := hP
      have hD : va_D (aA [k0, k1, k2, k3, k4, k5, k6]) [(k0, .inr (1, [.ref k1, .ref k2, .ref k3, .ref k4, .ref k5, .ref k6])), (k1, .inl (cI, 10, .inl (fN K.1))), (k2, .inl (cI, 10, .inl (fN K.2.1))), (k3, .inl (cI, 10, .inl (fN (va_up (lfM K) ca (wth ((lfM K) ca) fi (v != 0)))))), (k4, .inl (cI, 10, .inl (fN (va_up (mfM K) ca (wth ((mfM K) ca) fi (v == 2)))))), (k5, .inl (cI, 12, .inl (fN (lcM K)))), (k6, .inl (cI, 12, .inl (fN (mcM K))))] := hD
      refine lv_aload_n hx hb dX1_putLink_51 rfl (lv_at hl 0 rfl) ?_
      refine va_get (D := D) (ci := 1) (v := .ref k5) (C := RX1) (T := TX1) (N := 6) hx hb hts inA1 hown hK.1 hP 0 rfl rfl 4 (by decide) (hts _ kf_RX1_24) (fun _ h9 => h9) rfl dX1_putLink_52 ?_
      refine lv_iload_n hx hb dX1_putLink_55 rfl (lv_at hl 1 rfl) ?_
      refine lv_aload_n hx hb dX1_putLink_56 rfl (lv_at hl 0 rfl) ?_
      refine va_get (D := D) (ci := 1) (v := .ref k5) (C := RX1) (T := TX1) (N := 6) hx hb hts inA1 hown hK.1 hP 0 rfl rfl 4 (by decide) (hts _ kf_RX1_24) (fun _ h9 => h9) rfl dX1_putLink_57 ?_
      refine lv_iload_n hx hb dX1_putLink_60 rfl (lv_at hl 1 rfl) ?_
      refine x_ildN hx hb hK.1 hP 5 0 rfl rfl (by first | assumption | omega) (by decide) dX1_putLink_61 ?_
      refine lv_iload_n hx hb dX1_putLink_62 rfl (lv_at hl 2 rfl) ?_
      refine lv_iload_n hx hb dX1_putLink_63 rfl (lv_at hl 3 rfl) ?_
      have j72 : W p l e R s m args below meth c H locs 0 0 Q (F0 m 72 ls [.int (nI (v != 0).toNat), .int (nI ca), .int (nI ((lcM K) fi)), .int (nI fi), .ref k5]) := by
        refine vp_callSi (va_Run.run (va_runS (As := [.int (nI ((lcM K) fi)), .int (nI ca), .int (nI (v != 0).toNat)]) (rest := [.int (nI fi), .ref k5]) ⟨hx, hb, hml, hown, hts⟩ (mt_X1_with l D cI cJ cZ ((lcM K) fi) ca (v != 0) (by first | assumption | omega)) (va_cwS 3 hts (gS km_RX1_34 ks_yX1_with kn_RX1 kc_yX1_with) rfl rfl rfl (by decide +kernel) (by rw [hR]; exact ⟨Nat.le_of_ble_eq_true rfl, Nat.le_of_ble_eq_true rfl⟩)) (cP_S hK (fun k q h => by simp at h)) rfl rfl hl.1 rfl (lv_room (Nat.le_of_ble_eq_true rfl)) dX1_putLink_72 ⟨Nat.zero_le _, Nat.zero_le _⟩)) (fun r_ hr_ => ?_)
        subst hr_
        refine x_istN (v := wth ((lcM K) fi) ca (v != 0)) hx hb hK.1 hP hD hS 5 0 rfl rfl (by first | assumption | omega) (by decide) dX1_putLink_75 (fun H locs hP hD hS => ?_)
        have hP : va_P D vwCl [(k0, .inr (1, [.ref k1, .ref k2, .ref k3, .ref k4, .ref k5, .ref k6])), (k1, .inl (cI, 10, .inl (fN K.1))), (k2, .inl (cI, 10, .inl (fN K.2.1))), (k3, .inl (cI, 10, .inl (fN (va_up (lfM K) ca (wth ((lfM K) ca) fi (v != 0)))))), (k4, .inl (cI, 10, .inl (fN (va_up (mfM K) ca (wth ((mfM K) ca) fi (v == 2)))))), (k5, .inl (cI, 12, .inl (fN (va_up (lcM K) fi (wth ((lcM K) fi) ca (v != 0)))))), (k6, .inl (cI, 12, .inl (fN (mcM K))))] H := hP
        have hD : va_D (aA [k0, k1, k2, k3, k4, k5, k6]) [(k0, .inr (1, [.ref k1, .ref k2, .ref k3, .ref k4, .ref k5, .ref k6])), (k1, .inl (cI, 10, .inl (fN K.1))), (k2, .inl (cI, 10, .inl (fN K.2.1))), (k3, .inl (cI, 10, .inl (fN (va_up (lfM K) ca (wth ((lfM K) ca) fi (v != 0)))))), (k4, .inl (cI, 10, .inl (fN (va_up (mfM K) ca (wth ((mfM K) ca) fi (v == 2)))))), (k5, .inl (cI, 12, .inl (fN (va_up (lcM K) fi (wth ((lcM K) fi) ca (v != 0)))))), (k6, .inl (cI, 12, .inl (fN (mcM K))))] := hD
        refine lv_aload_n hx hb dX1_putLink_76 rfl (lv_at hl 0 rfl) ?_
        refine va_get (D := D) (ci := 1) (v := .ref k6) (C := RX1) (T := TX1) (N := 6) hx hb hts inA1 hown hK.1 hP 0 rfl rfl 5 (by decide) (hts _ kf_RX1_27) (fun _ h9 => h9) rfl dX1_putLink_77 ?_
        refine lv_iload_n hx hb dX1_putLink_80 rfl (lv_at hl 1 rfl) ?_
        refine lv_aload_n hx hb dX1_putLink_81 rfl (lv_at hl 0 rfl) ?_
        refine va_get (D := D) (ci := 1) (v := .ref k6) (C := RX1) (T := TX1) (N := 6) hx hb hts inA1 hown hK.1 hP 0 rfl rfl 5 (by decide) (hts _ kf_RX1_27) (fun _ h9 => h9) rfl dX1_putLink_82 ?_
        refine lv_iload_n hx hb dX1_putLink_85 rfl (lv_at hl 1 rfl) ?_
        refine x_ildN hx hb hK.1 hP 6 0 rfl rfl (by first | assumption | omega) (by decide) dX1_putLink_86 ?_
        refine lv_iload_n hx hb dX1_putLink_87 rfl (lv_at hl 2 rfl) ?_
        refine lv_iload_n hx hb dX1_putLink_88 rfl (lv_at hl 3 rfl) ?_
        refine lv_iconst (v := nI 2) hx hb dX1_putLink_89 (by decide) ?_
        have j98 : W p l e R s m args below meth c H locs 0 0 Q (F0 m 98 ls [.int (nI (v == 2).toNat), .int (nI ca), .int (nI ((mcM K) fi)), .int (nI fi), .ref k6]) := by
          refine vp_callSi (va_Run.run (va_runS (As := [.int (nI ((mcM K) fi)), .int (nI ca), .int (nI (v == 2).toNat)]) (rest := [.int (nI fi), .ref k6]) ⟨hx, hb, hml, hown, hts⟩ (mt_X1_with l D cI cJ cZ ((mcM K) fi) ca (v == 2) (by first | assumption | omega)) (va_cwS 3 hts (gS km_RX1_34 ks_yX1_with kn_RX1 kc_yX1_with) rfl rfl rfl (by decide +kernel) (by rw [hR]; exact ⟨Nat.le_of_ble_eq_true rfl, Nat.le_of_ble_eq_true rfl⟩)) (cP_S hK (fun k q h => by simp at h)) rfl rfl hl.1 rfl (lv_room (Nat.le_of_ble_eq_true rfl)) dX1_putLink_98 ⟨Nat.zero_le _, Nat.zero_le _⟩)) (fun r_ hr_ => ?_)
          subst hr_
          refine x_istN (v := wth ((mcM K) fi) ca (v == 2)) hx hb hK.1 hP hD hS 6 0 rfl rfl (by first | assumption | omega) (by decide) dX1_putLink_101 (fun H locs hP hD hS => ?_)
          have hP : va_P D vwCl [(k0, .inr (1, [.ref k1, .ref k2, .ref k3, .ref k4, .ref k5, .ref k6])), (k1, .inl (cI, 10, .inl (fN K.1))), (k2, .inl (cI, 10, .inl (fN K.2.1))), (k3, .inl (cI, 10, .inl (fN (va_up (lfM K) ca (wth ((lfM K) ca) fi (v != 0)))))), (k4, .inl (cI, 10, .inl (fN (va_up (mfM K) ca (wth ((mfM K) ca) fi (v == 2)))))), (k5, .inl (cI, 12, .inl (fN (va_up (lcM K) fi (wth ((lcM K) fi) ca (v != 0)))))), (k6, .inl (cI, 12, .inl (fN (va_up (mcM K) fi (wth ((mcM K) fi) ca (v == 2))))))] H := hP
          have hD : va_D (aA [k0, k1, k2, k3, k4, k5, k6]) [(k0, .inr (1, [.ref k1, .ref k2, .ref k3, .ref k4, .ref k5, .ref k6])), (k1, .inl (cI, 10, .inl (fN K.1))), (k2, .inl (cI, 10, .inl (fN K.2.1))), (k3, .inl (cI, 10, .inl (fN (va_up (lfM K) ca (wth ((lfM K) ca) fi (v != 0)))))), (k4, .inl (cI, 10, .inl (fN (va_up (mfM K) ca (wth ((mfM K) ca) fi (v == 2)))))), (k5, .inl (cI, 12, .inl (fN (va_up (lcM K) fi (wth ((lcM K) fi) ca (v != 0)))))), (k6, .inl (cI, 12, .inl (fN (va_up (mcM K) fi (wth ((mcM K) fi) ca (v == 2))))))] := hD
          rw [hQ]
          exact W.vret hx hb hr (fun t ht hW => ⟨⟨H, rfl, by rw [← lfM_set K ca v hf, ← mfM_set K ca v hf, ← lcM_set K fi v hc, ← mcM_set K fi v hc]; exact hP.sub [0, 1, 2, 3, 4, 5, 6] rfl, ht⟩, hS.F ht⟩) hS.2.2 dX1_putLink_102
        refine x_cne (a := v) (b := 2) (tgt := 97) hx hb (by first | assumption | omega) (by decide) dX1_putLink_90 (by decide) (fun c90 => ?_) (fun c90 => ?_)
        · refine lv_iconst (v := nI 0) hx hb dX1_putLink_97 (by decide) ?_
          refine x_top (show nI 0 = nI (v == 2).toNat from by first | exact b_1 (by simpa using c90) | exact b_0 (by simpa using c90)) ?_
          exact j98
        · refine lv_iconst (v := nI 1) hx hb dX1_putLink_93 (by decide) ?_
          refine lv_goto (tgt := 98) hx hb dX1_putLink_94 (by decide) ?_
          refine x_top (show nI 1 = nI (v == 2).toNat from by first | exact b_1 (by simpa using c90) | exact b_0 (by simpa using c90)) ?_
          exact j98
      refine x_zeq (tgt := 71) hx hb (by first | assumption | omega) dX1_putLink_64 (by decide) (fun c64 => ?_) (fun c64 => ?_)
      · refine lv_iconst (v := nI 0) hx hb dX1_putLink_71 (by decide) ?_
        refine x_top (show nI 0 = nI (v != 0).toNat from by first | exact b_1 (by simpa using c64) | exact b_0 (by simpa using c64)) ?_
        exact j72
      · refine lv_iconst (v := nI 1) hx hb dX1_putLink_67 (by decide) ?_
        refine lv_goto (tgt := 72) hx hb dX1_putLink_68 (by decide) ?_
        refine x_top (show nI 1 = nI (v != 0).toNat from by first | exact b_1 (by simpa using c64) | exact b_0 (by simpa using c64)) ?_
        exact j72
    refine x_cne (a := v) (b := 2) (tgt := 46) hx hb (by first | assumption | omega) (by decide) dX1_putLink_39 (by decide) (fun c39 => ?_) (fun c39 => ?_)
    · refine lv_iconst (v := nI 0) hx hb dX1_putLink_46 (by decide) ?_
      refine x_top (show nI 0 = nI (v == 2).toNat from by first | exact b_1 (by simpa using c39) | exact b_0 (by simpa using c39)) ?_
      exact j47
    · refine lv_iconst (v := nI 1) hx hb dX1_putLink_42 (by decide) ?_
      refine lv_goto (tgt := 47) hx hb dX1_putLink_43 (by decide) ?_
      refine x_top (show nI 1 = nI (v == 2).toNat from by first | exact b_1 (by simpa using c39) | exact b_0 (by simpa using c39)) ?_
      exact j47
  refine x_zeq (tgt := 20) hx hb (by first | assumption | omega) dX1_putLink_13 (by decide) (fun c13 => ?_) (fun c13 => ?_)
  · refine lv_iconst (v := nI 0) hx hb dX1_putLink_20 (by decide) ?_
    refine x_top (show nI 0 = nI (v != 0).toNat from by first | exact b_1 (by simpa using c13) | exact b_0 (by simpa using c13)) ?_
    exact j21
  · refine lv_iconst (v := nI 1) hx hb dX1_putLink_16 (by decide) ?_
    refine lv_goto (tgt := 21) hx hb dX1_putLink_17 (by decide) ?_
    refine x_top (show nI 1 = nI (v != 0).toNat from by first | exact b_1 (by simpa using c13) | exact b_0 (by simpa using c13)) ?_
    exact j21

set_option maxHeartbeats 4000000 in
set_option maxRecDepth 100000 in
theorem mt_X5_stateOf (l : Launch) (D : va_G) (cI cJ cZ : ClassId) (t0 : Nat) (S : Nat → Nat) (fi : Nat) (hf : fi < 12) (hS2 : S fi ≤ 2) : Met l yX5_stateOf (aW yX5_stateOf cX5_stateOf 2 (some .int)) { frames := 1, cells := 0, slots := 0, locals := 21 } (cP D cI cJ cZ [.ref t0, .int (nI fi)] [(t0, .inr (5, [.int (nI (thM S)), .int (nI (abM S))]))]) (vp_Si (fun r => r = nI (S fi))) 0 0 (fun _ => False) := by
  refine Met.ofW (cc := cX5_stateOf) (maxL := 2) (ret := (some .int)) (by decide) rfl ?_
  intro p e s m args below meth c s₁ B hml hv
  obtain ⟨hav, hP, hK⟩ := hv
  have hx := B.exec
  have hb := B.bytes
  have hr := B.returns
  have hts := aW_in (atoms_spec (ws := aW yX5_stateOf cX5_stateOf 2 (some .int)) B.pre)
  have hown : s.vm.findClass RX5 = some m.cls := findClass_of_methodNamed B.named
  have hlocks := B.notSynchronized
  obtain ⟨R, hR⟩ : ∃ R, R = (headSpec (aW yX5_stateOf cX5_stateOf 2 (some .int)) { frames := 1, cells := 0, slots := 0, locals := 21 }).room := ⟨_, rfl⟩
  rw [← hR]
  obtain ⟨Q, hQ⟩ : ∃ Q, Q = MQ below (vp_Si (fun r => r = nI (S fi))) args s 0 0 (fun _ => False) := ⟨_, rfl⟩
  rw [← hQ]
  have hl := lv_entry [.ref t0, .int (nI fi)] (n := 2) (Nat.le_of_ble_eq_true rfl)
  have hent := lg_entry_eq m [.ref t0, .int (nI fi)] 2
  rw [← hav] at hent
  rw [hent]
  generalize (lg_sl [.ref t0, .int (nI fi)] ++ List.replicate (2 - (lg_sl [.ref t0, .int (nI fi)]).length) Slot.unset).toArray = ls at hl ⊢
  have hl : lv_has ls 2 [(0, .ref t0), (1, .int (nI fi))] := hl
  refine lv_aload_n hx hb dX5_stateOf_0 rfl (lv_at hl 0 rfl) ?_
  refine va_get (D := D) (ci := 5) (v := .int (nI (thM S))) (C := RX5) (T := TX5) (N := 2) hx hb hts inA5 hown hK.1 hP 0 rfl rfl 0 (by decide) (hts _ kf_RX5_9) (fun _ h9 => h9) rfl dX5_stateOf_1 ?_
  refine lv_iload_n hx hb dX5_stateOf_4 rfl (lv_at hl 1 rfl) ?_
  refine vp_callSi (va_Run.run (va_runSN (As := [.int (nI (thM S)), .int (nI fi)]) (rest := []) ⟨hx, hb, hml, hown, hts⟩ (mt_X6_has l D cI cJ cZ (thM S) fi (Nat.lt_trans (mkN_lt _ _) (by decide)) (by first | assumption | omega)) ⟨va_cnB 2 hts (aW_good kc_yX6_has) rfl rfl rfl hK.2.2.2 (hts _ kn_RX6) (by decide +kernel) (by rw [hR]; exact ⟨Nat.le_of_ble_eq_true rfl, Nat.le_of_ble_eq_true rfl⟩), hts _ ks_yX6_has, trivial⟩ (cP_S hK (fun k q h => by simp at h)) rfl rfl hl.1 rfl (lv_room (Nat.le_of_ble_eq_true rfl)) dX5_stateOf_5 ⟨Nat.zero_le _, Nat.zero_le _⟩)) (fun r_ hr_ => ?_)
  subst hr_
  refine x_beq (tgt := 13) hx hb dX5_stateOf_8 (by decide) (fun c8 => ?_) (fun c8 => ?_)
  · refine lv_aload_n hx hb dX5_stateOf_13 rfl (lv_at hl 0 rfl) ?_
    refine va_get (D := D) (ci := 5) (v := .int (nI (abM S))) (C := RX5) (T := TX5) (N := 2) hx hb hts inA5 hown hK.1 hP 0 rfl rfl 1 (by decide) (hts _ kf_RX5_19) (fun _ h9 => h9) rfl dX5_stateOf_14 ?_
    refine lv_iload_n hx hb dX5_stateOf_17 rfl (lv_at hl 1 rfl) ?_
    refine vp_callSi (va_Run.run (va_runSN (As := [.int (nI (abM S)), .int (nI fi)]) (rest := []) ⟨hx, hb, hml, hown, hts⟩ (mt_X6_has l D cI cJ cZ (abM S) fi (Nat.lt_trans (mkN_lt _ _) (by decide)) (by first | assumption | omega)) ⟨va_cnB 2 hts (aW_good kc_yX6_has) rfl rfl rfl hK.2.2.2 (hts _ kn_RX6) (by decide +kernel) (by rw [hR]; exact ⟨Nat.le_of_ble_eq_true rfl, Nat.le_of_ble_eq_true rfl⟩), hts _ ks_yX6_has, trivial⟩ (cP_S hK (fun k q h => by simp at h)) rfl rfl hl.1 rfl (lv_room (Nat.le_of_ble_eq_true rfl)) dX5_stateOf_18 ⟨Nat.zero_le _, Nat.zero_le _⟩)) (fun r_ hr_ => ?_)
    subst hr_
    refine x_beq (tgt := 28) hx hb dX5_stateOf_21 (by decide) (fun c21 => ?_) (fun c21 => ?_)
    · refine lv_iconst (v := nI 0) hx hb dX5_stateOf_28 (by decide) ?_
      rw [hQ]
      exact W.iret (v := nI 0) hx hb hr (fun t ht hW => ⟨_, rfl, by first | exact st_2 hf c21 | exact st_0 hS2 hf c8 c21, ht⟩) (fun _ h => by cases h) dX5_stateOf_29
    · refine lv_iconst (v := nI 2) hx hb dX5_stateOf_24 (by decide) ?_
      refine lv_goto (tgt := 29) hx hb dX5_stateOf_25 (by decide) ?_
      rw [hQ]
      exact W.iret (v := nI 2) hx hb hr (fun t ht hW => ⟨_, rfl, by first | exact st_2 hf c21 | exact st_0 hS2 hf c8 c21, ht⟩) (fun _ h => by cases h) dX5_stateOf_29
  · refine lv_iconst (v := nI 1) hx hb dX5_stateOf_11 (by decide) ?_
    rw [hQ]
    exact W.iret (v := nI 1) hx hb hr (fun t ht hW => ⟨_, rfl, st_1 hf c8, ht⟩) (fun _ h => by cases h) dX5_stateOf_12

set_option maxHeartbeats 4000000 in
set_option maxRecDepth 100000 in
theorem mt_X5_put (l : Launch) (D : va_G) (cI cJ cZ : ClassId) (t0 : Nat) (S : Nat → Nat) (fi : Nat) (v : Nat) (hN : [t0].Nodup) (hf : fi < 12) (hv : v ≤ 2) : Met l yX5_put (aW yX5_put cX5_put 4 none) { frames := 0, cells := 0, slots := 0, locals := 0 } (cP D cI cJ cZ [.ref t0, .int (nI fi), .int (nI v)] [(t0, .inr (5, [.int (nI (thM S)), .int (nI (abM S))]))]) (va_Qv (fun H1 : Heap => va_P D vwCl [(t0, .inr (5, [.int (nI (thM (va_up S fi v))), .int (nI (abM (va_up S fi v)))]))] H1) mB (aA [t0])) 0 0 (aA [t0]) := by
  refine Met.ofW (cc := cX5_put) (maxL := 4) (ret := none) (by decide) rfl ?_
  intro p e s m args below meth c s₁ B hml hv
  obtain ⟨hav, hP, hK⟩ := hv
  have hx := B.exec
  have hb := B.bytes
  have hr := B.returns
  have hts := aW_in (atoms_spec (ws := aW yX5_put cX5_put 4 none) B.pre)
  have hown : s.vm.findClass RX5 = some m.cls := findClass_of_methodNamed B.named
  have hlocks := B.notSynchronized
  obtain ⟨R, hR⟩ : ∃ R, R = (headSpec (aW yX5_put cX5_put 4 none) { frames := 0, cells := 0, slots := 0, locals := 0 }).room := ⟨_, rfl⟩
  rw [← hR]
  obtain ⟨Q, hQ⟩ : ∃ Q, Q = MQ below (va_Qv (fun H1 : Heap => va_P D vwCl [(t0, .inr (5, [.int (nI (thM (va_up S fi v))), .int (nI (abM (va_up S fi v)))]))] H1) mB (aA [t0])) args s 0 0 (aA [t0]) := ⟨_, rfl⟩
  rw [← hQ]
  have hl := lv_entry [.ref t0, .int (nI fi), .int (nI v)] (n := 4) (Nat.le_of_ble_eq_true rfl)
  have hent := lg_entry_eq m [.ref t0, .int (nI fi), .int (nI v)] 4
  rw [← hav] at hent
  rw [hent]
  generalize (lg_sl [.ref t0, .int (nI fi), .int (nI v)] ++ List.replicate (4 - (lg_sl [.ref t0, .int (nI fi), .int (nI v)]).length) Slot.unset).toArray = ls at hl ⊢
  have hl : lv_has ls 4 [(0, .ref t0), (1, .int (nI fi)), (2, .int (nI v))] := hl
  have hD : va_D (aA [t0]) [(t0, .inr (5, [.int (nI (thM S)), .int (nI (abM S))]))] := nd_D hN rfl
  have hS : va_S (aA [t0]) s.heap s.heap [] := va_S.rf
  have hP : va_P D vwCl [(t0, .inr (5, [.int (nI (thM S)), .int (nI (abM S))]))] s.heap := hP
  obtain ⟨H, hH⟩ : ∃ H, H = s.heap := ⟨_, rfl⟩
  rw [← hH] at hP
  obtain ⟨locs, hlocs⟩ : ∃ q : List Loc, q = [] := ⟨_, rfl⟩
  have hS : va_S (aA [t0]) s.heap H locs := by rw [hH, hlocs]; exact hS
  rw [← hH, ← hlocs]
  clear hH hlocs
  refine lv_iconst (v := nI 1) hx hb dX5_put_0 (by decide) ?_
  refine lv_iload_n hx hb dX5_put_1 rfl (lv_at hl 1 rfl) ?_
  refine x_ishl (z := nI (2 ^ fi)) hx hb dX5_put_2 (z_shl1 (by first | assumption | omega)) ?_
  refine lv_iconst (v := (-1)) hx hb dX5_put_3 (by decide) ?_
  refine x_ixor (z := nI (2 ^ fi) ^^^ (-1)) hx hb dX5_put_4 (rfl) ?_
  refine lv_istore_n (lv' := [(3, .int (nI (2 ^ fi) ^^^ (-1))), (0, .ref t0), (1, .int (nI fi)), (2, .int (nI v))]) hx hb dX5_put_5 rfl hl (by decide) rfl (fun ls hl => ?_)
  refine lv_aload_n hx hb dX5_put_6 rfl (lv_at hl 1 rfl) ?_
  refine lv_dup hx hb dX5_put_7 rfl ?_
  refine va_get (D := D) (ci := 5) (v := .int (nI (thM S))) (C := RX5) (T := TX5) (N := 2) hx hb hts inA5 hown hK.1 hP 0 rfl rfl 0 (by decide) (hts _ kf_RX5_9) (fun _ h9 => h9) rfl dX5_put_8 ?_
  refine lv_iload_n hx hb dX5_put_11 rfl (lv_at hl 0 rfl) ?_
  refine x_iand (z := nI (ndf (thM S) (2 ^ fi))) hx hb dX5_put_12 (z_ndf _ _) ?_
  refine va_put (D := D) (ci := 5) (v := .int (nI (ndf (thM S) (2 ^ fi)))) (ty := .int) (C := RX5) (T := TX5) (N := 2) hx hb hts inA5 tyX5 tyX5_ok nmX5 hown hK.1 hP hD hS 0 rfl rfl 0 (by decide) (hts _ kf_RX5_9) (fun _ h9 => h9) rfl (by decide +kernel) (rfl) (rfl) (Nat.le_of_ble_eq_true rfl) dX5_put_13 (fun H locs hP hD hS => ?_)
  have hP : va_P D vwCl [(t0, .inr (5, [.int (nI (ndf (thM S) (2 ^ fi))), .int (nI (abM S))]))] H := hP
  have hD : va_D (aA [t0]) [(t0, .inr (5, [.int (nI (ndf (thM S) (2 ^ fi))), .int (nI (abM S))]))] := hD
  refine lv_aload_n hx hb dX5_put_16 rfl (lv_at hl 1 rfl) ?_
  refine lv_dup hx hb dX5_put_17 rfl ?_
  refine va_get (D := D) (ci := 5) (v := .int (nI (abM S))) (C := RX5) (T := TX5) (N := 2) hx hb hts inA5 hown hK.1 hP 0 rfl rfl 1 (by decide) (hts _ kf_RX5_19) (fun _ h9 => h9) rfl dX5_put_18 ?_
  refine lv_iload_n hx hb dX5_put_21 rfl (lv_at hl 0 rfl) ?_
  refine x_iand (z := nI (ndf (abM S) (2 ^ fi))) hx hb dX5_put_22 (z_ndf _ _) ?_
  refine va_put (D := D) (ci := 5) (v := .int (nI (ndf (abM S) (2 ^ fi)))) (ty := .int) (C := RX5) (T := TX5) (N := 2) hx hb hts inA5 tyX5 tyX5_ok nmX5 hown hK.1 hP hD hS 0 rfl rfl 1 (by decide) (hts _ kf_RX5_19) (fun _ h9 => h9) rfl (by decide +kernel) (rfl) (rfl) (Nat.le_of_ble_eq_true rfl) dX5_put_23 (fun H locs hP hD hS => ?_)
  have hP : va_P D vwCl [(t0, .inr (5, [.int (nI (ndf (thM S) (2 ^ fi))), .int (nI (ndf (abM S) (2 ^ fi)))]))] H := hP
  have hD : va_D (aA [t0]) [(t0, .inr (5, [.int (nI (ndf (thM S) (2 ^ fi))), .int (nI (ndf (abM S) (2 ^ fi)))]))] := hD
  refine lv_iload_n hx hb dX5_put_26 rfl (lv_at hl 3 rfl) ?_
  refine lv_iconst (v := nI 1) hx hb dX5_put_27 (by decide) ?_
  refine x_cne (a := v) (b := 1) (tgt := 46) hx hb (by first | assumption | omega) (by decide) dX5_put_28 (by decide) (fun c28 => ?_) (fun c28 => ?_)
  · refine lv_iload_n hx hb dX5_put_46 rfl (lv_at hl 3 rfl) ?_
    refine lv_iconst (v := nI 2) hx hb dX5_put_47 (by decide) ?_
    refine x_cne (a := v) (b := 2) (tgt := 63) hx hb (by first | assumption | omega) (by decide) dX5_put_48 (by decide) (fun c48 => ?_) (fun c48 => ?_)
    · rw [hQ]
      exact W.vret hx hb hr (fun t ht hW => ⟨⟨H, rfl, by rw [thM_up S v hf, abM_up S v hf]; first | (rw [← wth_t _ _ (show (v == 1) = true by simpa using c28), ← wth_f _ _ (show (v == 2) = false by simp; omega)]; exact hP.sub [0] rfl) | (rw [← wth_t _ _ (show (v == 2) = true by simpa using c48), ← wth_f _ _ (show (v == 1) = false by simpa using c28)]; exact hP.sub [0] rfl) | (rw [← wth_f _ _ (show (v == 2) = false by simpa using c48), ← wth_f _ _ (show (v == 1) = false by simpa using c28)]; exact hP.sub [0] rfl), ht⟩, hS.F ht⟩) hS.2.2 dX5_put_63
    · refine lv_aload_n hx hb dX5_put_51 rfl (lv_at hl 1 rfl) ?_
      refine lv_dup hx hb dX5_put_52 rfl ?_
      refine va_get (D := D) (ci := 5) (v := .int (nI (ndf (abM S) (2 ^ fi)))) (C := RX5) (T := TX5) (N := 2) hx hb hts inA5 hown hK.1 hP 0 rfl rfl 1 (by decide) (hts _ kf_RX5_19) (fun _ h9 => h9) rfl dX5_put_53 ?_
      refine lv_iconst (v := nI 1) hx hb dX5_put_56 (by decide) ?_
      refine lv_iload_n hx hb dX5_put_57 rfl (lv_at hl 2 rfl) ?_
      refine x_ishl (z := nI (2 ^ fi)) hx hb dX5_put_58 (z_shl1 (by first | assumption | omega)) ?_
      refine x_ior (z := nI ((ndf (abM S) (2 ^ fi)) ||| (2 ^ fi))) hx hb dX5_put_59 (z_or _ _) ?_
      refine va_put (D := D) (ci := 5) (v := .int (nI ((ndf (abM S) (2 ^ fi)) ||| (2 ^ fi)))) (ty := .int) (C := RX5) (T := TX5) (N := 2) hx hb hts inA5 tyX5 tyX5_ok nmX5 hown hK.1 hP hD hS 0 rfl rfl 1 (by decide) (hts _ kf_RX5_19) (fun _ h9 => h9) rfl (by decide +kernel) (rfl) (rfl) (Nat.le_of_ble_eq_true rfl) dX5_put_60 (fun H locs hP hD hS => ?_)
      have hP : va_P D vwCl [(t0, .inr (5, [.int (nI (ndf (thM S) (2 ^ fi))), .int (nI ((ndf (abM S) (2 ^ fi)) ||| (2 ^ fi)))]))] H := hP
      have hD : va_D (aA [t0]) [(t0, .inr (5, [.int (nI (ndf (thM S) (2 ^ fi))), .int (nI ((ndf (abM S) (2 ^ fi)) ||| (2 ^ fi)))]))] := hD
      rw [hQ]
      exact W.vret hx hb hr (fun t ht hW => ⟨⟨H, rfl, by rw [thM_up S v hf, abM_up S v hf]; first | (rw [← wth_t _ _ (show (v == 1) = true by simpa using c28), ← wth_f _ _ (show (v == 2) = false by simp; omega)]; exact hP.sub [0] rfl) | (rw [← wth_t _ _ (show (v == 2) = true by simpa using c48), ← wth_f _ _ (show (v == 1) = false by simpa using c28)]; exact hP.sub [0] rfl) | (rw [← wth_f _ _ (show (v == 2) = false by simpa using c48), ← wth_f _ _ (show (v == 1) = false by simpa using c28)]; exact hP.sub [0] rfl), ht⟩, hS.F ht⟩) hS.2.2 dX5_put_63
  · refine lv_aload_n hx hb dX5_put_31 rfl (lv_at hl 1 rfl) ?_
    refine lv_dup hx hb dX5_put_32 rfl ?_
    refine va_get (D := D) (ci := 5) (v := .int (nI (ndf (thM S) (2 ^ fi)))) (C := RX5) (T := TX5) (N := 2) hx hb hts inA5 hown hK.1 hP 0 rfl rfl 0 (by decide) (hts _ kf_RX5_9) (fun _ h9 => h9) rfl dX5_put_33 ?_
    refine lv_iconst (v := nI 1) hx hb dX5_put_36 (by decide) ?_
    refine lv_iload_n hx hb dX5_put_37 rfl (lv_at hl 2 rfl) ?_
    refine x_ishl (z := nI (2 ^ fi)) hx hb dX5_put_38 (z_shl1 (by first | assumption | omega)) ?_
    refine x_ior (z := nI ((ndf (thM S) (2 ^ fi)) ||| (2 ^ fi))) hx hb dX5_put_39 (z_or _ _) ?_
    refine va_put (D := D) (ci := 5) (v := .int (nI ((ndf (thM S) (2 ^ fi)) ||| (2 ^ fi)))) (ty := .int) (C := RX5) (T := TX5) (N := 2) hx hb hts inA5 tyX5 tyX5_ok nmX5 hown hK.1 hP hD hS 0 rfl rfl 0 (by decide) (hts _ kf_RX5_9) (fun _ h9 => h9) rfl (by decide +kernel) (rfl) (rfl) (Nat.le_of_ble_eq_true rfl) dX5_put_40 (fun H locs hP hD hS => ?_)
    have hP : va_P D vwCl [(t0, .inr (5, [.int (nI ((ndf (thM S) (2 ^ fi)) ||| (2 ^ fi))), .int (nI (ndf (abM S) (2 ^ fi)))]))] H := hP
    have hD : va_D (aA [t0]) [(t0, .inr (5, [.int (nI ((ndf (thM S) (2 ^ fi)) ||| (2 ^ fi))), .int (nI (ndf (abM S) (2 ^ fi)))]))] := hD
    refine lv_goto (tgt := 63) hx hb dX5_put_43 (by decide) ?_
    rw [hQ]
    exact W.vret hx hb hr (fun t ht hW => ⟨⟨H, rfl, by rw [thM_up S v hf, abM_up S v hf]; first | (rw [← wth_t _ _ (show (v == 1) = true by simpa using c28), ← wth_f _ _ (show (v == 2) = false by simp; omega)]; exact hP.sub [0] rfl) | (rw [← wth_t _ _ (show (v == 2) = true by simpa using c48), ← wth_f _ _ (show (v == 1) = false by simpa using c28)]; exact hP.sub [0] rfl) | (rw [← wth_f _ _ (show (v == 2) = false by simpa using c48), ← wth_f _ _ (show (v == 1) = false by simpa using c28)]; exact hP.sub [0] rfl), ht⟩, hS.F ht⟩) hS.2.2 dX5_put_63

set_option maxHeartbeats 4000000 in
set_option maxRecDepth 100000 in
theorem mt_X5_copyFrom (l : Launch) (D : va_G) (cI cJ cZ : ClassId) (t0 : Nat) (u0 : Nat) (S : Nat → Nat) (S2 : Nat → Nat) (hN : [t0, u0].Nodup) : Met l yX5_copyFrom (aW yX5_copyFrom cX5_copyFrom 2 none) { frames := 0, cells := 0, slots := 0, locals := 0 } (cP D cI cJ cZ [.ref t0, .ref u0] [(t0, .inr (5, [.int (nI (thM S2)), .int (nI (abM S2))])), (u0, .inr (5, [.int (nI (thM S)), .int (nI (abM S))]))]) (va_Qv (fun H1 : Heap => va_P D vwCl [(t0, .inr (5, [.int (nI (thM S)), .int (nI (abM S))])), (u0, .inr (5, [.int (nI (thM S)), .int (nI (abM S))]))] H1) mB (aA [t0, u0])) 0 0 (aA [t0, u0]) := by
  refine Met.ofW (cc := cX5_copyFrom) (maxL := 2) (ret := none) (by decide) rfl ?_
  intro p e s m args below meth c s₁ B hml hv
  obtain ⟨hav, hP, hK⟩ := hv
  have hx := B.exec
  have hb := B.bytes
  have hr := B.returns
  have hts := aW_in (atoms_spec (ws := aW yX5_copyFrom cX5_copyFrom 2 none) B.pre)
  have hown : s.vm.findClass RX5 = some m.cls := findClass_of_methodNamed B.named
  have hlocks := B.notSynchronized
  obtain ⟨R, hR⟩ : ∃ R, R = (headSpec (aW yX5_copyFrom cX5_copyFrom 2 none) { frames := 0, cells := 0, slots := 0, locals := 0 }).room := ⟨_, rfl⟩
  rw [← hR]
  obtain ⟨Q, hQ⟩ : ∃ Q, Q = MQ below (va_Qv (fun H1 : Heap => va_P D vwCl [(t0, .inr (5, [.int (nI (thM S)), .int (nI (abM S))])), (u0, .inr (5, [.int (nI (thM S)), .int (nI (abM S))]))] H1) mB (aA [t0, u0])) args s 0 0 (aA [t0, u0]) := ⟨_, rfl⟩
  rw [← hQ]
  have hl := lv_entry [.ref t0, .ref u0] (n := 2) (Nat.le_of_ble_eq_true rfl)
  have hent := lg_entry_eq m [.ref t0, .ref u0] 2
  rw [← hav] at hent
  rw [hent]
  generalize (lg_sl [.ref t0, .ref u0] ++ List.replicate (2 - (lg_sl [.ref t0, .ref u0]).length) Slot.unset).toArray = ls at hl ⊢
  have hl : lv_has ls 2 [(0, .ref t0), (1, .ref u0)] := hl
  have hD : va_D (aA [t0, u0]) [(t0, .inr (5, [.int (nI (thM S2)), .int (nI (abM S2))])), (u0, .inr (5, [.int (nI (thM S)), .int (nI (abM S))]))] := nd_D hN rfl
  have hS : va_S (aA [t0, u0]) s.heap s.heap [] := va_S.rf
  have hP : va_P D vwCl [(t0, .inr (5, [.int (nI (thM S2)), .int (nI (abM S2))])), (u0, .inr (5, [.int (nI (thM S)), .int (nI (abM S))]))] s.heap := hP
  obtain ⟨H, hH⟩ : ∃ H, H = s.heap := ⟨_, rfl⟩
  rw [← hH] at hP
  obtain ⟨locs, hlocs⟩ : ∃ q : List Loc, q = [] := ⟨_, rfl⟩
  have hS : va_S (aA [t0, u0]) s.heap H locs := by rw [hH, hlocs]; exact hS
  rw [← hH, ← hlocs]
  clear hH hlocs
  refine lv_aload_n hx hb dX5_copyFrom_0 rfl (lv_at hl 0 rfl) ?_
  refine lv_aload_n hx hb dX5_copyFrom_1 rfl (lv_at hl 1 rfl) ?_
  refine va_get (D := D) (ci := 5) (v := .int (nI (thM S))) (C := RX5) (T := TX5) (N := 2) hx hb hts inA5 hown hK.1 hP 1 rfl rfl 0 (by decide) (hts _ kf_RX5_9) (fun _ h9 => h9) rfl dX5_copyFrom_2 ?_
  refine va_put (D := D) (ci := 5) (v := .int (nI (thM S))) (ty := .int) (C := RX5) (T := TX5) (N := 2) hx hb hts inA5 tyX5 tyX5_ok nmX5 hown hK.1 hP hD hS 0 rfl rfl 0 (by decide) (hts _ kf_RX5_9) (fun _ h9 => h9) rfl (by decide +kernel) (rfl) (rfl) (Nat.le_of_ble_eq_true rfl) dX5_copyFrom_5 (fun H locs hP hD hS => ?_)
  have hP : va_P D vwCl [(t0, .inr (5, [.int (nI (thM S)), .int (nI (abM S2))])), (u0, .inr (5, [.int (nI (thM S)), .int (nI (abM S))]))] H := hP
  have hD : va_D (aA [t0, u0]) [(t0, .inr (5, [.int (nI (thM S)), .int (nI (abM S2))])), (u0, .inr (5, [.int (nI (thM S)), .int (nI (abM S))]))] := hD
  refine lv_aload_n hx hb dX5_copyFrom_8 rfl (lv_at hl 0 rfl) ?_
  refine lv_aload_n hx hb dX5_copyFrom_9 rfl (lv_at hl 1 rfl) ?_
  refine va_get (D := D) (ci := 5) (v := .int (nI (abM S))) (C := RX5) (T := TX5) (N := 2) hx hb hts inA5 hown hK.1 hP 1 rfl rfl 1 (by decide) (hts _ kf_RX5_19) (fun _ h9 => h9) rfl dX5_copyFrom_10 ?_
  refine va_put (D := D) (ci := 5) (v := .int (nI (abM S))) (ty := .int) (C := RX5) (T := TX5) (N := 2) hx hb hts inA5 tyX5 tyX5_ok nmX5 hown hK.1 hP hD hS 0 rfl rfl 1 (by decide) (hts _ kf_RX5_19) (fun _ h9 => h9) rfl (by decide +kernel) (rfl) (rfl) (Nat.le_of_ble_eq_true rfl) dX5_copyFrom_13 (fun H locs hP hD hS => ?_)
  have hP : va_P D vwCl [(t0, .inr (5, [.int (nI (thM S)), .int (nI (abM S))])), (u0, .inr (5, [.int (nI (thM S)), .int (nI (abM S))]))] H := hP
  have hD : va_D (aA [t0, u0]) [(t0, .inr (5, [.int (nI (thM S)), .int (nI (abM S))])), (u0, .inr (5, [.int (nI (thM S)), .int (nI (abM S))]))] := hD
  rw [hQ]
  exact W.vret hx hb hr (fun t ht hW => ⟨⟨H, rfl, hP.sub [0, 1] rfl, ht⟩, hS.F ht⟩) hS.2.2 dX5_copyFrom_16

set_option maxHeartbeats 4000000 in
set_option maxRecDepth 100000 in
theorem mt_X0_dropOldest (l : Launch) (D : va_G) (cI cJ cZ : ClassId) (h0 : Nat) (h1 : Nat) (h2 : Nat) (q : Nat) (hf : Nat → Nat) (hs : Nat → Nat) (hN : [h0, h1, h2].Nodup) : Met l yX0_dropOldest (aW yX0_dropOldest cX0_dropOldest 2 none) { frames := 0, cells := 0, slots := 0, locals := 0 } (cP D cI cJ cZ [.ref h0] [(h0, .inr (0, [.ref h1, .ref h2, .int (nI q)])), (h1, .inl (cI, 20, .inl (fN hf))), (h2, .inl (cI, 20, .inl (fN hs)))]) (va_Qv (fun H1 : Heap => va_P D vwCl [(h0, .inr (0, [.ref h1, .ref h2, .int (nI 19)])), (h1, .inl (cI, 20, .inl (fN (shI hf 20)))), (h2, .inl (cI, 20, .inl (fN (shI hs 20))))] H1) mB (aA [h0, h1, h2])) 0 0 (aA [h0, h1, h2]) := by
  refine Met.ofW (cc := cX0_dropOldest) (maxL := 2) (ret := none) (by decide) rfl ?_
  intro p e s m args below meth c s₁ B hml hv
  obtain ⟨hav, hP, hK⟩ := hv
  have hx := B.exec
  have hb := B.bytes
  have hr := B.returns
  have hts := aW_in (atoms_spec (ws := aW yX0_dropOldest cX0_dropOldest 2 none) B.pre)
  have hown : s.vm.findClass RX0 = some m.cls := findClass_of_methodNamed B.named
  have hlocks := B.notSynchronized
  obtain ⟨R, hR⟩ : ∃ R, R = (headSpec (aW yX0_dropOldest cX0_dropOldest 2 none) { frames := 0, cells := 0, slots := 0, locals := 0 }).room := ⟨_, rfl⟩
  rw [← hR]
  obtain ⟨Q, hQ⟩ : ∃ Q, Q = MQ below (va_Qv (fun H1 : Heap => va_P D vwCl [(h0, .inr (0, [.ref h1, .ref h2, .int (nI 19)])), (h1, .inl (cI, 20, .inl (fN (shI hf 20)))), (h2, .inl (cI, 20, .inl (fN (shI hs 20))))] H1) mB (aA [h0, h1, h2])) args s 0 0 (aA [h0, h1, h2]) := ⟨_, rfl⟩
  rw [← hQ]
  have hl := lv_entry [.ref h0] (n := 2) (Nat.le_of_ble_eq_true rfl)
  have hent := lg_entry_eq m [.ref h0] 2
  rw [← hav] at hent
  rw [hent]
  generalize (lg_sl [.ref h0] ++ List.replicate (2 - (lg_sl [.ref h0]).length) Slot.unset).toArray = ls at hl ⊢
  have hl : lv_has ls 2 [(0, .ref h0)] := hl
  have hD : va_D (aA [h0, h1, h2]) [(h0, .inr (0, [.ref h1, .ref h2, .int (nI q)])), (h1, .inl (cI, 20, .inl (fN hf))), (h2, .inl (cI, 20, .inl (fN hs)))] := nd_D hN rfl
  have hS : va_S (aA [h0, h1, h2]) s.heap s.heap [] := va_S.rf
  have hP : va_P D vwCl [(h0, .inr (0, [.ref h1, .ref h2, .int (nI q)])), (h1, .inl (cI, 20, .inl (fN hf))), (h2, .inl (cI, 20, .inl (fN hs)))] s.heap := hP
  obtain ⟨H, hH⟩ : ∃ H, H = s.heap := ⟨_, rfl⟩
  rw [← hH] at hP
  obtain ⟨locs, hlocs⟩ : ∃ q : List Loc, q = [] := ⟨_, rfl⟩
  have hS : va_S (aA [h0, h1, h2]) s.heap H locs := by rw [hH, hlocs]; exact hS
  rw [← hH, ← hlocs]
  clear hH hlocs
  refine lv_iconst (v := nI 1) hx hb dX0_dropOldest_0 (by decide) ?_
  refine lv_istore_n (lv' := [(1, .int (nI 1)), (0, .ref h0)]) hx hb dX0_dropOldest_1 rfl hl (by decide) rfl (fun ls hl => ?_)
  have lp2 : ∀ (n : Nat) (j : Nat) (H : Heap) (locs : List Loc) (ls : Array Slot), (j + n = 20) → (1 ≤ j) → va_P D vwCl [(h0, .inr (0, [.ref h1, .ref h2, .int (nI q)])), (h1, .inl (cI, 20, .inl (fN (shI hf j)))), (h2, .inl (cI, 20, .inl (fN (shI hs j))))] H → va_D (aA [h0, h1, h2]) [(h0, .inr (0, [.ref h1, .ref h2, .int (nI q)])), (h1, .inl (cI, 20, .inl (fN (shI hf j)))), (h2, .inl (cI, 20, .inl (fN (shI hs j))))] → va_S (aA [h0, h1, h2]) s.heap H locs → lv_has ls 2 [(1, .int (nI j)), (0, .ref h0)] → W p l e R s m args below meth c H locs 0 0 Q (F0 m 2 ls []) := by
    intro n
    induction n with
    | zero =>
      intro j H locs ls hn hj hP hD hS hl
      refine lv_iload_n hx hb dX0_dropOldest_2 rfl (lv_at hl 0 rfl) ?_
      refine lv_bipush (v := nI 20) hx hb dX0_dropOldest_3 (by decide) ?_
      refine x_cge (a := j) (b := 20) (tgt := 42) hx hb (by first | assumption | omega) (by decide) dX0_dropOldest_5 (by decide) (fun c5 => ?_) (fun c5 => (by omega))
      refine lv_aload_n hx hb dX0_dropOldest_42 rfl (lv_at hl 1 rfl) ?_
      refine lv_bipush (v := nI 19) hx hb dX0_dropOldest_43 (by decide) ?_
      refine va_put (D := D) (ci := 0) (v := .int (nI 19)) (ty := .int) (C := RX0) (T := TX0) (N := 3) hx hb hts inA0 tyX0 tyX0_ok nmX0 hown hK.1 hP hD hS 0 rfl rfl 2 (by decide) (hts _ kf_RX0_18) (fun _ h9 => h9) rfl (by decide +kernel) (rfl) (rfl) (Nat.le_of_ble_eq_true rfl) dX0_dropOldest_45 (fun H locs hP hD hS => ?_)
      have hP : va_P D vwCl [(h0, .inr (0, [.ref h1, .ref h2, .int (nI 19)])), (h1, .inl (cI, 20, .inl (fN (shI hf j)))), (h2, .inl (cI, 20, .inl (fN (shI hs j))))] H := hP
      have hD : va_D (aA [h0, h1, h2]) [(h0, .inr (0, [.ref h1, .ref h2, .int (nI 19)])), (h1, .inl (cI, 20, .inl (fN (shI hf j)))), (h2, .inl (cI, 20, .inl (fN (shI hs j))))] := hD
      rw [hQ]
      exact W.vret hx hb hr (fun t ht hW => ⟨⟨H, rfl, by rw [show j = 20 by omega] at hP; exact hP.sub [0, 1, 2] rfl, ht⟩, hS.F ht⟩) hS.2.2 dX0_dropOldest_48
    | succ n ih2 =>
      intro j H locs ls hn hj hP hD hS hl
      refine lv_iload_n hx hb dX0_dropOldest_2 rfl (lv_at hl 0 rfl) ?_
      refine lv_bipush (v := nI 20) hx hb dX0_dropOldest_3 (by decide) ?_
      refine x_cge (a := j) (b := 20) (tgt := 42) hx hb (by first | assumption | omega) (by decide) dX0_dropOldest_5 (by decide) (fun c5 => (by omega)) (fun c5 => ?_)
      refine lv_aload_n hx hb dX0_dropOldest_8 rfl (lv_at hl 1 rfl) ?_
      refine va_get (D := D) (ci := 0) (v := .ref h1) (C := RX0) (T := TX0) (N := 3) hx hb hts inA0 hown hK.1 hP 0 rfl rfl 0 (by decide) (hts _ kf_RX0_9) (fun _ h9 => h9) rfl dX0_dropOldest_9 ?_
      refine lv_iload_n hx hb dX0_dropOldest_12 rfl (lv_at hl 0 rfl) ?_
      refine lv_iconst (v := nI 1) hx hb dX0_dropOldest_13 (by decide) ?_
      refine x_isub (z := nI (j - 1)) hx hb dX0_dropOldest_14 (pk_sub (by first | assumption | omega)) ?_
      refine lv_aload_n hx hb dX0_dropOldest_15 rfl (lv_at hl 1 rfl) ?_
      refine va_get (D := D) (ci := 0) (v := .ref h1) (C := RX0) (T := TX0) (N := 3) hx hb hts inA0 hown hK.1 hP 0 rfl rfl 0 (by decide) (hts _ kf_RX0_9) (fun _ h9 => h9) rfl dX0_dropOldest_16 ?_
      refine lv_iload_n hx hb dX0_dropOldest_19 rfl (lv_at hl 0 rfl) ?_
      refine x_ildN hx hb hK.1 hP 1 0 rfl rfl (by first | assumption | omega) (by decide) dX0_dropOldest_20 ?_
      refine x_istN (v := (shI hf j) j) hx hb hK.1 hP hD hS 1 0 rfl rfl (by first | assumption | omega) (by decide) dX0_dropOldest_21 (fun H locs hP hD hS => ?_)
      have hP : va_P D vwCl [(h0, .inr (0, [.ref h1, .ref h2, .int (nI q)])), (h1, .inl (cI, 20, .inl (fN (va_up (shI hf j) (j - 1) ((shI hf j) j))))), (h2, .inl (cI, 20, .inl (fN (shI hs j))))] H := hP
      have hD : va_D (aA [h0, h1, h2]) [(h0, .inr (0, [.ref h1, .ref h2, .int (nI q)])), (h1, .inl (cI, 20, .inl (fN (va_up (shI hf j) (j - 1) ((shI hf j) j))))), (h2, .inl (cI, 20, .inl (fN (shI hs j))))] := hD
      refine lv_aload_n hx hb dX0_dropOldest_22 rfl (lv_at hl 1 rfl) ?_
      refine va_get (D := D) (ci := 0) (v := .ref h2) (C := RX0) (T := TX0) (N := 3) hx hb hts inA0 hown hK.1 hP 0 rfl rfl 1 (by decide) (hts _ kf_RX0_15) (fun _ h9 => h9) rfl dX0_dropOldest_23 ?_
      refine lv_iload_n hx hb dX0_dropOldest_26 rfl (lv_at hl 0 rfl) ?_
      refine lv_iconst (v := nI 1) hx hb dX0_dropOldest_27 (by decide) ?_
      refine x_isub (z := nI (j - 1)) hx hb dX0_dropOldest_28 (pk_sub (by first | assumption | omega)) ?_
      refine lv_aload_n hx hb dX0_dropOldest_29 rfl (lv_at hl 1 rfl) ?_
      refine va_get (D := D) (ci := 0) (v := .ref h2) (C := RX0) (T := TX0) (N := 3) hx hb hts inA0 hown hK.1 hP 0 rfl rfl 1 (by decide) (hts _ kf_RX0_15) (fun _ h9 => h9) rfl dX0_dropOldest_30 ?_
      refine lv_iload_n hx hb dX0_dropOldest_33 rfl (lv_at hl 0 rfl) ?_
      refine x_ildN hx hb hK.1 hP 2 0 rfl rfl (by first | assumption | omega) (by decide) dX0_dropOldest_34 ?_
      refine x_istN (v := (shI hs j) j) hx hb hK.1 hP hD hS 2 0 rfl rfl (by first | assumption | omega) (by decide) dX0_dropOldest_35 (fun H locs hP hD hS => ?_)
      have hP : va_P D vwCl [(h0, .inr (0, [.ref h1, .ref h2, .int (nI q)])), (h1, .inl (cI, 20, .inl (fN (va_up (shI hf j) (j - 1) ((shI hf j) j))))), (h2, .inl (cI, 20, .inl (fN (va_up (shI hs j) (j - 1) ((shI hs j) j)))))] H := hP
      have hD : va_D (aA [h0, h1, h2]) [(h0, .inr (0, [.ref h1, .ref h2, .int (nI q)])), (h1, .inl (cI, 20, .inl (fN (va_up (shI hf j) (j - 1) ((shI hf j) j))))), (h2, .inl (cI, 20, .inl (fN (va_up (shI hs j) (j - 1) ((shI hs j) j)))))] := hD
      refine lv_iinc (v := nI (j + 1)) (lv' := [(1, .int (nI (j + 1))), (0, .ref h0)]) hx hb dX0_dropOldest_36 hl (k := 0) rfl (x_inc1 _) (by decide) rfl (fun ls hl => ?_)
      refine lv_goto (tgt := 2) hx hb dX0_dropOldest_39 (by decide) ?_
      rw [shI_step hf hj, shI_step hs hj] at hP hD
      exact ih2 (j + 1) _ _ ls (by omega) (by omega) (hP.sub [0, 1, 2] rfl) (hD.re [0, 1, 2] (by decide) rfl) hS (lv_sub hl [0, 1] rfl)
  exact lp2 (20 - 1) 1 _ _ ls (by omega) (by omega) (hP.sub [0, 1, 2] rfl) (hD.re [0, 1, 2] (by decide) rfl) hS (lv_sub hl [0, 1] rfl)

set_option maxHeartbeats 4000000 in
set_option maxRecDepth 100000 in
theorem mt_X0_remember (l : Launch) (D : va_G) (cI cJ cZ : ClassId) (h0 : Nat) (h1 : Nat) (h2 : Nat) (q : Nat) (hf : Nat → Nat) (hs : Nat → Nat) (fi : Nat) (v : Nat) (hN : [h0, h1, h2].Nodup) (hq : q ≤ 20) : Met l yX0_remember (aW yX0_remember cX0_remember 3 none) { frames := 1, cells := 0, slots := 0, locals := 21 } (cP D cI cJ cZ [.ref h0, .int (nI fi), .int (nI v)] [(h0, .inr (0, [.ref h1, .ref h2, .int (nI q)])), (h1, .inl (cI, 20, .inl (fN hf))), (h2, .inl (cI, 20, .inl (fN hs)))]) (va_Qv (fun H1 : Heap => va_P D vwCl [(h0, .inr (0, [.ref h1, .ref h2, .int (nI (hpN q))])), (h1, .inl (cI, 20, .inl (fN (hpF q hf fi)))), (h2, .inl (cI, 20, .inl (fN (hpF q hs v))))] H1) mB (aA [h0, h1, h2])) 0 0 (aA [h0, h1, h2]) := by
  refine Met.ofW (cc := cX0_remember) (maxL := 3) (ret := none) (by decide) rfl ?_
  intro p e s m args below meth c s₁ B hml hv
  obtain ⟨hav, hP, hK⟩ := hv
  have hx := B.exec
  have hb := B.bytes
  have hr := B.returns
  have hts := aW_in (atoms_spec (ws := aW yX0_remember cX0_remember 3 none) B.pre)
  have hown : s.vm.findClass RX0 = some m.cls := findClass_of_methodNamed B.named
  have hlocks := B.notSynchronized
  obtain ⟨R, hR⟩ : ∃ R, R = (headSpec (aW yX0_remember cX0_remember 3 none) { frames := 1, cells := 0, slots := 0, locals := 21 }).room := ⟨_, rfl⟩
  rw [← hR]
  obtain ⟨Q, hQ⟩ : ∃ Q, Q = MQ below (va_Qv (fun H1 : Heap => va_P D vwCl [(h0, .inr (0, [.ref h1, .ref h2, .int (nI (hpN q))])), (h1, .inl (cI, 20, .inl (fN (hpF q hf fi)))), (h2, .inl (cI, 20, .inl (fN (hpF q hs v))))] H1) mB (aA [h0, h1, h2])) args s 0 0 (aA [h0, h1, h2]) := ⟨_, rfl⟩
  rw [← hQ]
  have hl := lv_entry [.ref h0, .int (nI fi), .int (nI v)] (n := 3) (Nat.le_of_ble_eq_true rfl)
  have hent := lg_entry_eq m [.ref h0, .int (nI fi), .int (nI v)] 3
  rw [← hav] at hent
  rw [hent]
  generalize (lg_sl [.ref h0, .int (nI fi), .int (nI v)] ++ List.replicate (3 - (lg_sl [.ref h0, .int (nI fi), .int (nI v)]).length) Slot.unset).toArray = ls at hl ⊢
  have hl : lv_has ls 3 [(0, .ref h0), (1, .int (nI fi)), (2, .int (nI v))] := hl
  have hD : va_D (aA [h0, h1, h2]) [(h0, .inr (0, [.ref h1, .ref h2, .int (nI q)])), (h1, .inl (cI, 20, .inl (fN hf))), (h2, .inl (cI, 20, .inl (fN hs)))] := nd_D hN rfl
  have hS : va_S (aA [h0, h1, h2]) s.heap s.heap [] := va_S.rf
  have hP : va_P D vwCl [(h0, .inr (0, [.ref h1, .ref h2, .int (nI q)])), (h1, .inl (cI, 20, .inl (fN hf))), (h2, .inl (cI, 20, .inl (fN hs)))] s.heap := hP
  obtain ⟨H, hH⟩ : ∃ H, H = s.heap := ⟨_, rfl⟩
  rw [← hH] at hP
  obtain ⟨locs, hlocs⟩ : ∃ q : List Loc, q = [] := ⟨_, rfl⟩
  have hS : va_S (aA [h0, h1, h2]) s.heap H locs := by rw [hH, hlocs]; exact hS
  rw [← hH, ← hlocs]
  clear hH hlocs
  refine lv_aload_n hx hb dX0_remember_0 rfl (lv_at hl 0 rfl) ?_
  refine va_get (D := D) (ci := 0) (v := .int (nI q)) (C := RX0) (T := TX0) (N := 3) hx hb hts inA0 hown hK.1 hP 0 rfl rfl 2 (by decide) (hts _ kf_RX0_18) (fun _ h9 => h9) rfl dX0_remember_1 ?_
  refine lv_bipush (v := nI 20) hx hb dX0_remember_4 (by decide) ?_
  refine x_clt (a := q) (b := 20) (tgt := 13) hx hb (by first | assumption | omega) (by decide) dX0_remember_6 (by decide) (fun c6 => ?_) (fun c6 => ?_)
  · refine lv_aload_n hx hb dX0_remember_13 rfl (lv_at hl 0 rfl) ?_
    refine va_get (D := D) (ci := 0) (v := .ref h1) (C := RX0) (T := TX0) (N := 3) hx hb hts inA0 hown hK.1 hP 0 rfl rfl 0 (by decide) (hts _ kf_RX0_9) (fun _ h9 => h9) rfl dX0_remember_14 ?_
    refine lv_aload_n hx hb dX0_remember_17 rfl (lv_at hl 0 rfl) ?_
    refine va_get (D := D) (ci := 0) (v := .int (nI q)) (C := RX0) (T := TX0) (N := 3) hx hb hts inA0 hown hK.1 hP 0 rfl rfl 2 (by decide) (hts _ kf_RX0_18) (fun _ h9 => h9) rfl dX0_remember_18 ?_
    refine lv_iload_n hx hb dX0_remember_21 rfl (lv_at hl 1 rfl) ?_
    refine x_istN (v := fi) hx hb hK.1 hP hD hS 1 0 rfl rfl (by first | assumption | omega) (by decide) dX0_remember_22 (fun H locs hP hD hS => ?_)
    have hP : va_P D vwCl [(h0, .inr (0, [.ref h1, .ref h2, .int (nI q)])), (h1, .inl (cI, 20, .inl (fN (va_up hf q fi)))), (h2, .inl (cI, 20, .inl (fN hs)))] H := hP
    have hD : va_D (aA [h0, h1, h2]) [(h0, .inr (0, [.ref h1, .ref h2, .int (nI q)])), (h1, .inl (cI, 20, .inl (fN (va_up hf q fi)))), (h2, .inl (cI, 20, .inl (fN hs)))] := hD
    refine lv_aload_n hx hb dX0_remember_23 rfl (lv_at hl 0 rfl) ?_
    refine va_get (D := D) (ci := 0) (v := .ref h2) (C := RX0) (T := TX0) (N := 3) hx hb hts inA0 hown hK.1 hP 0 rfl rfl 1 (by decide) (hts _ kf_RX0_15) (fun _ h9 => h9) rfl dX0_remember_24 ?_
    refine lv_aload_n hx hb dX0_remember_27 rfl (lv_at hl 0 rfl) ?_
    refine va_get (D := D) (ci := 0) (v := .int (nI q)) (C := RX0) (T := TX0) (N := 3) hx hb hts inA0 hown hK.1 hP 0 rfl rfl 2 (by decide) (hts _ kf_RX0_18) (fun _ h9 => h9) rfl dX0_remember_28 ?_
    refine lv_iload_n hx hb dX0_remember_31 rfl (lv_at hl 2 rfl) ?_
    refine x_istN (v := v) hx hb hK.1 hP hD hS 2 0 rfl rfl (by first | assumption | omega) (by decide) dX0_remember_32 (fun H locs hP hD hS => ?_)
    have hP : va_P D vwCl [(h0, .inr (0, [.ref h1, .ref h2, .int (nI q)])), (h1, .inl (cI, 20, .inl (fN (va_up hf q fi)))), (h2, .inl (cI, 20, .inl (fN (va_up hs q v))))] H := hP
    have hD : va_D (aA [h0, h1, h2]) [(h0, .inr (0, [.ref h1, .ref h2, .int (nI q)])), (h1, .inl (cI, 20, .inl (fN (va_up hf q fi)))), (h2, .inl (cI, 20, .inl (fN (va_up hs q v))))] := hD
    refine lv_aload_n hx hb dX0_remember_33 rfl (lv_at hl 0 rfl) ?_
    refine lv_dup hx hb dX0_remember_34 rfl ?_
    refine va_get (D := D) (ci := 0) (v := .int (nI q)) (C := RX0) (T := TX0) (N := 3) hx hb hts inA0 hown hK.1 hP 0 rfl rfl 2 (by decide) (hts _ kf_RX0_18) (fun _ h9 => h9) rfl dX0_remember_35 ?_
    refine lv_iconst (v := nI 1) hx hb dX0_remember_38 (by decide) ?_
    refine x_iadd (z := nI (q + 1)) hx hb dX0_remember_39 (nI_add _ _) ?_
    refine va_put (D := D) (ci := 0) (v := .int (nI (q + 1))) (ty := .int) (C := RX0) (T := TX0) (N := 3) hx hb hts inA0 tyX0 tyX0_ok nmX0 hown hK.1 hP hD hS 0 rfl rfl 2 (by decide) (hts _ kf_RX0_18) (fun _ h9 => h9) rfl (by decide +kernel) (rfl) (rfl) (Nat.le_of_ble_eq_true rfl) dX0_remember_40 (fun H locs hP hD hS => ?_)
    have hP : va_P D vwCl [(h0, .inr (0, [.ref h1, .ref h2, .int (nI (q + 1))])), (h1, .inl (cI, 20, .inl (fN (va_up hf q fi)))), (h2, .inl (cI, 20, .inl (fN (va_up hs q v))))] H := hP
    have hD : va_D (aA [h0, h1, h2]) [(h0, .inr (0, [.ref h1, .ref h2, .int (nI (q + 1))])), (h1, .inl (cI, 20, .inl (fN (va_up hf q fi)))), (h2, .inl (cI, 20, .inl (fN (va_up hs q v))))] := hD
    rw [hQ]
    exact W.vret hx hb hr (fun t ht hW => ⟨⟨H, rfl, by first | (rw [hpN, hpF, hpF, if_pos c6, if_pos c6, if_pos c6]; exact hP.sub [0, 1, 2] rfl) | (rw [hpN, hpF, hpF, if_neg c6, if_neg c6, if_neg c6]; exact hP.sub [0, 1, 2] rfl), ht⟩, hS.F ht⟩) hS.2.2 dX0_remember_43
  · refine lv_aload_n hx hb dX0_remember_9 rfl (lv_at hl 0 rfl) ?_
    refine mc_v (va_runV (As := []) (rest := []) ⟨hx, hb, hml, hown, hts⟩ (mt_X0_dropOldest l D cI cJ cZ h0 h1 h2 q hf hs (nd_sub hN [0, 1, 2] (by decide) rfl)) (cwV 0 hts (gV km_RX0_22 ki_yX0_dropOldest kl_yX0_dropOldest kn_RX0 kc_yX0_dropOldest) rfl rfl rfl (by decide +kernel) (by rw [hR]; exact ⟨Nat.le_of_ble_eq_true rfl, Nat.le_of_ble_eq_true rfl⟩)) (cP_V (q0 := 0) (ci := 0) hK (hP.sub [0, 1, 2] rfl) rfl rfl) rfl rfl hl.1 rfl (lv_room (Nat.le_of_ble_eq_true rfl)) dX0_remember_10 ⟨Nat.zero_le _, Nat.zero_le _⟩) hS (aA_sub [0, 1, 2] rfl) (fun H locs hp_ hk_ hS => ?_)
    have hP1 := hp_
    have hP := pj (wr := []) (w1 := [(h0, .inr (0, [.ref h1, .ref h2, .int (nI 19)])), (h1, .inl (cI, 20, .inl (fN (shI hf 20)))), (h2, .inl (cI, 20, .inl (fN (shI hs 20))))]) (lc := [h0, h1, h2]) hP hD [0, 1, 2] [] rfl rfl (by decide) hk_ hP1
    have hP : va_P D vwCl [(h0, .inr (0, [.ref h1, .ref h2, .int (nI 19)])), (h1, .inl (cI, 20, .inl (fN (shI hf 20)))), (h2, .inl (cI, 20, .inl (fN (shI hs 20))))] H := hP
    have hD : va_D (aA [h0, h1, h2]) [(h0, .inr (0, [.ref h1, .ref h2, .int (nI 19)])), (h1, .inl (cI, 20, .inl (fN (shI hf 20)))), (h2, .inl (cI, 20, .inl (fN (shI hs 20))))] := hD.re [0, 1, 2] (by decide) rfl
    refine lv_aload_n hx hb dX0_remember_13 rfl (lv_at hl 0 rfl) ?_
    refine va_get (D := D) (ci := 0) (v := .ref h1) (C := RX0) (T := TX0) (N := 3) hx hb hts inA0 hown hK.1 hP 0 rfl rfl 0 (by decide) (hts _ kf_RX0_9) (fun _ h9 => h9) rfl dX0_remember_14 ?_
    refine lv_aload_n hx hb dX0_remember_17 rfl (lv_at hl 0 rfl) ?_
    refine va_get (D := D) (ci := 0) (v := .int (nI 19)) (C := RX0) (T := TX0) (N := 3) hx hb hts inA0 hown hK.1 hP 0 rfl rfl 2 (by decide) (hts _ kf_RX0_18) (fun _ h9 => h9) rfl dX0_remember_18 ?_
    refine lv_iload_n hx hb dX0_remember_21 rfl (lv_at hl 1 rfl) ?_
    refine x_istN (v := fi) hx hb hK.1 hP hD hS 1 0 rfl rfl (by first | assumption | omega) (by decide) dX0_remember_22 (fun H locs hP hD hS => ?_)
    have hP : va_P D vwCl [(h0, .inr (0, [.ref h1, .ref h2, .int (nI 19)])), (h1, .inl (cI, 20, .inl (fN (va_up (shI hf 20) 19 fi)))), (h2, .inl (cI, 20, .inl (fN (shI hs 20))))] H := hP
    have hD : va_D (aA [h0, h1, h2]) [(h0, .inr (0, [.ref h1, .ref h2, .int (nI 19)])), (h1, .inl (cI, 20, .inl (fN (va_up (shI hf 20) 19 fi)))), (h2, .inl (cI, 20, .inl (fN (shI hs 20))))] := hD
    refine lv_aload_n hx hb dX0_remember_23 rfl (lv_at hl 0 rfl) ?_
    refine va_get (D := D) (ci := 0) (v := .ref h2) (C := RX0) (T := TX0) (N := 3) hx hb hts inA0 hown hK.1 hP 0 rfl rfl 1 (by decide) (hts _ kf_RX0_15) (fun _ h9 => h9) rfl dX0_remember_24 ?_
    refine lv_aload_n hx hb dX0_remember_27 rfl (lv_at hl 0 rfl) ?_
    refine va_get (D := D) (ci := 0) (v := .int (nI 19)) (C := RX0) (T := TX0) (N := 3) hx hb hts inA0 hown hK.1 hP 0 rfl rfl 2 (by decide) (hts _ kf_RX0_18) (fun _ h9 => h9) rfl dX0_remember_28 ?_
    refine lv_iload_n hx hb dX0_remember_31 rfl (lv_at hl 2 rfl) ?_
    refine x_istN (v := v) hx hb hK.1 hP hD hS 2 0 rfl rfl (by first | assumption | omega) (by decide) dX0_remember_32 (fun H locs hP hD hS => ?_)
    have hP : va_P D vwCl [(h0, .inr (0, [.ref h1, .ref h2, .int (nI 19)])), (h1, .inl (cI, 20, .inl (fN (va_up (shI hf 20) 19 fi)))), (h2, .inl (cI, 20, .inl (fN (va_up (shI hs 20) 19 v))))] H := hP
    have hD : va_D (aA [h0, h1, h2]) [(h0, .inr (0, [.ref h1, .ref h2, .int (nI 19)])), (h1, .inl (cI, 20, .inl (fN (va_up (shI hf 20) 19 fi)))), (h2, .inl (cI, 20, .inl (fN (va_up (shI hs 20) 19 v))))] := hD
    refine lv_aload_n hx hb dX0_remember_33 rfl (lv_at hl 0 rfl) ?_
    refine lv_dup hx hb dX0_remember_34 rfl ?_
    refine va_get (D := D) (ci := 0) (v := .int (nI 19)) (C := RX0) (T := TX0) (N := 3) hx hb hts inA0 hown hK.1 hP 0 rfl rfl 2 (by decide) (hts _ kf_RX0_18) (fun _ h9 => h9) rfl dX0_remember_35 ?_
    refine lv_iconst (v := nI 1) hx hb dX0_remember_38 (by decide) ?_
    refine x_iadd (z := nI (19 + 1)) hx hb dX0_remember_39 (nI_add _ _) ?_
    refine va_put (D := D) (ci := 0) (v := .int (nI (19 + 1))) (ty := .int) (C := RX0) (T := TX0) (N := 3) hx hb hts inA0 tyX0 tyX0_ok nmX0 hown hK.1 hP hD hS 0 rfl rfl 2 (by decide) (hts _ kf_RX0_18) (fun _ h9 => h9) rfl (by decide +kernel) (rfl) (rfl) (Nat.le_of_ble_eq_true rfl) dX0_remember_40 (fun H locs hP hD hS => ?_)
    have hP : va_P D vwCl [(h0, .inr (0, [.ref h1, .ref h2, .int (nI (19 + 1))])), (h1, .inl (cI, 20, .inl (fN (va_up (shI hf 20) 19 fi)))), (h2, .inl (cI, 20, .inl (fN (va_up (shI hs 20) 19 v))))] H := hP
    have hD : va_D (aA [h0, h1, h2]) [(h0, .inr (0, [.ref h1, .ref h2, .int (nI (19 + 1))])), (h1, .inl (cI, 20, .inl (fN (va_up (shI hf 20) 19 fi)))), (h2, .inl (cI, 20, .inl (fN (va_up (shI hs 20) 19 v))))] := hD
    rw [hQ]
    exact W.vret hx hb hr (fun t ht hW => ⟨⟨H, rfl, by first | (rw [hpN, hpF, hpF, if_pos c6, if_pos c6, if_pos c6]; exact hP.sub [0, 1, 2] rfl) | (rw [hpN, hpF, hpF, if_neg c6, if_neg c6, if_neg c6]; exact hP.sub [0, 1, 2] rfl), ht⟩, hS.F ht⟩) hS.2.2 dX0_remember_43

set_option maxHeartbeats 4000000 in
set_option maxRecDepth 100000 in
theorem mt_X0_takeBackLast (l : Launch) (D : va_G) (cI cJ cZ : ClassId) (h0 : Nat) (h1 : Nat) (h2 : Nat) (q : Nat) (hf : Nat → Nat) (hs : Nat → Nat) (t0 : Nat) (S : Nat → Nat) (hN : [h0, h1, h2, t0].Nodup) (hq0 : 0 < q) (hq : q ≤ 20) (hfq : hf (q - 1) < 12) (hsq : hs (q - 1) ≤ 2) : Met l yX0_takeBackLast (aW yX0_takeBackLast cX0_takeBackLast 2 none) { frames := 1, cells := 0, slots := 0, locals := 23 } (cP D cI cJ cZ [.ref h0, .ref t0] [(h0, .inr (0, [.ref h1, .ref h2, .int (nI q)])), (h1, .inl (cI, 20, .inl (fN hf))), (h2, .inl (cI, 20, .inl (fN hs))), (t0, .inr (5, [.int (nI (thM S)), .int (nI (abM S))]))]) (va_Qv (fun H1 : Heap => va_P D vwCl [(h0, .inr (0, [.ref h1, .ref h2, .int (nI (q - 1))])), (h1, .inl (cI, 20, .inl (fN hf))), (h2, .inl (cI, 20, .inl (fN hs))), (t0, .inr (5, [.int (nI (thM (va_up S (hf (q - 1)) (hs (q - 1))))), .int (nI (abM (va_up S (hf (q - 1)) (hs (q - 1)))))]))] H1) mB (aA [h0, h1, h2, t0])) 0 0 (aA [h0, h1, h2, t0]) := by
  refine Met.ofW (cc := cX0_takeBackLast) (maxL := 2) (ret := none) (by decide) rfl ?_
  intro p e s m args below meth c s₁ B hml hv
  obtain ⟨hav, hP, hK⟩ := hv
  have hx := B.exec
  have hb := B.bytes
  have hr := B.returns
  have hts := aW_in (atoms_spec (ws := aW yX0_takeBackLast cX0_takeBackLast 2 none) B.pre)
  have hown : s.vm.findClass RX0 = some m.cls := findClass_of_methodNamed B.named
  have hlocks := B.notSynchronized
  obtain ⟨R, hR⟩ : ∃ R, R = (headSpec (aW yX0_takeBackLast cX0_takeBackLast 2 none) { frames := 1, cells := 0, slots := 0, locals := 23 }).room := ⟨_, rfl⟩
  rw [← hR]
  obtain ⟨Q, hQ⟩ : ∃ Q, Q = MQ below (va_Qv (fun H1 : Heap => va_P D vwCl [(h0, .inr (0, [.ref h1, .ref h2, .int (nI (q - 1))])), (h1, .inl (cI, 20, .inl (fN hf))), (h2, .inl (cI, 20, .inl (fN hs))), (t0, .inr (5, [.int (nI (thM (va_up S (hf (q - 1)) (hs (q - 1))))), .int (nI (abM (va_up S (hf (q - 1)) (hs (q - 1)))))]))] H1) mB (aA [h0, h1, h2, t0])) args s 0 0 (aA [h0, h1, h2, t0]) := ⟨_, rfl⟩
  rw [← hQ]
  have hl := lv_entry [.ref h0, .ref t0] (n := 2) (Nat.le_of_ble_eq_true rfl)
  have hent := lg_entry_eq m [.ref h0, .ref t0] 2
  rw [← hav] at hent
  rw [hent]
  generalize (lg_sl [.ref h0, .ref t0] ++ List.replicate (2 - (lg_sl [.ref h0, .ref t0]).length) Slot.unset).toArray = ls at hl ⊢
  have hl : lv_has ls 2 [(0, .ref h0), (1, .ref t0)] := hl
  have hD : va_D (aA [h0, h1, h2, t0]) [(h0, .inr (0, [.ref h1, .ref h2, .int (nI q)])), (h1, .inl (cI, 20, .inl (fN hf))), (h2, .inl (cI, 20, .inl (fN hs))), (t0, .inr (5, [.int (nI (thM S)), .int (nI (abM S))]))] := nd_D hN rfl
  have hS : va_S (aA [h0, h1, h2, t0]) s.heap s.heap [] := va_S.rf
  have hP : va_P D vwCl [(h0, .inr (0, [.ref h1, .ref h2, .int (nI q)])), (h1, .inl (cI, 20, .inl (fN hf))), (h2, .inl (cI, 20, .inl (fN hs))), (t0, .inr (5, [.int (nI (thM S)), .int (nI (abM S))]))] s.heap := hP
  obtain ⟨H, hH⟩ : ∃ H, H = s.heap := ⟨_, rfl⟩
  rw [← hH] at hP
  obtain ⟨locs, hlocs⟩ : ∃ q : List Loc, q = [] := ⟨_, rfl⟩
  have hS : va_S (aA [h0, h1, h2, t0]) s.heap H locs := by rw [hH, hlocs]; exact hS
  rw [← hH, ← hlocs]
  clear hH hlocs
  refine lv_aload_n hx hb dX0_takeBackLast_0 rfl (lv_at hl 0 rfl) ?_
  refine va_get (D := D) (ci := 0) (v := .int (nI q)) (C := RX0) (T := TX0) (N := 3) hx hb hts inA0 hown hK.1 hP 0 rfl rfl 2 (by decide) (hts _ kf_RX0_18) (fun _ h9 => h9) rfl dX0_takeBackLast_1 ?_
  refine x_zle (tgt := 39) hx hb (by first | assumption | omega) dX0_takeBackLast_4 (by decide) (fun c4 => (by omega)) (fun c4 => ?_)
  refine lv_aload_n hx hb dX0_takeBackLast_7 rfl (lv_at hl 0 rfl) ?_
  refine lv_dup hx hb dX0_takeBackLast_8 rfl ?_
  refine va_get (D := D) (ci := 0) (v := .int (nI q)) (C := RX0) (T := TX0) (N := 3) hx hb hts inA0 hown hK.1 hP 0 rfl rfl 2 (by decide) (hts _ kf_RX0_18) (fun _ h9 => h9) rfl dX0_takeBackLast_9 ?_
  refine lv_iconst (v := nI 1) hx hb dX0_takeBackLast_12 (by decide) ?_
  refine x_isub (z := nI (q - 1)) hx hb dX0_takeBackLast_13 (pk_sub (by first | assumption | omega)) ?_
  refine va_put (D := D) (ci := 0) (v := .int (nI (q - 1))) (ty := .int) (C := RX0) (T := TX0) (N := 3) hx hb hts inA0 tyX0 tyX0_ok nmX0 hown hK.1 hP hD hS 0 rfl rfl 2 (by decide) (hts _ kf_RX0_18) (fun _ h9 => h9) rfl (by decide +kernel) (rfl) (rfl) (Nat.le_of_ble_eq_true rfl) dX0_takeBackLast_14 (fun H locs hP hD hS => ?_)
  have hP : va_P D vwCl [(h0, .inr (0, [.ref h1, .ref h2, .int (nI (q - 1))])), (h1, .inl (cI, 20, .inl (fN hf))), (h2, .inl (cI, 20, .inl (fN hs))), (t0, .inr (5, [.int (nI (thM S)), .int (nI (abM S))]))] H := hP
  have hD : va_D (aA [h0, h1, h2, t0]) [(h0, .inr (0, [.ref h1, .ref h2, .int (nI (q - 1))])), (h1, .inl (cI, 20, .inl (fN hf))), (h2, .inl (cI, 20, .inl (fN hs))), (t0, .inr (5, [.int (nI (thM S)), .int (nI (abM S))]))] := hD
  refine lv_aload_n hx hb dX0_takeBackLast_17 rfl (lv_at hl 1 rfl) ?_
  refine lv_aload_n hx hb dX0_takeBackLast_18 rfl (lv_at hl 0 rfl) ?_
  refine va_get (D := D) (ci := 0) (v := .ref h1) (C := RX0) (T := TX0) (N := 3) hx hb hts inA0 hown hK.1 hP 0 rfl rfl 0 (by decide) (hts _ kf_RX0_9) (fun _ h9 => h9) rfl dX0_takeBackLast_19 ?_
  refine lv_aload_n hx hb dX0_takeBackLast_22 rfl (lv_at hl 0 rfl) ?_
  refine va_get (D := D) (ci := 0) (v := .int (nI (q - 1))) (C := RX0) (T := TX0) (N := 3) hx hb hts inA0 hown hK.1 hP 0 rfl rfl 2 (by decide) (hts _ kf_RX0_18) (fun _ h9 => h9) rfl dX0_takeBackLast_23 ?_
  refine x_ildN hx hb hK.1 hP 1 0 rfl rfl (by first | assumption | omega) (by decide) dX0_takeBackLast_26 ?_
  refine lv_aload_n hx hb dX0_takeBackLast_27 rfl (lv_at hl 0 rfl) ?_
  refine va_get (D := D) (ci := 0) (v := .ref h2) (C := RX0) (T := TX0) (N := 3) hx hb hts inA0 hown hK.1 hP 0 rfl rfl 1 (by decide) (hts _ kf_RX0_15) (fun _ h9 => h9) rfl dX0_takeBackLast_28 ?_
  refine lv_aload_n hx hb dX0_takeBackLast_31 rfl (lv_at hl 0 rfl) ?_
  refine va_get (D := D) (ci := 0) (v := .int (nI (q - 1))) (C := RX0) (T := TX0) (N := 3) hx hb hts inA0 hown hK.1 hP 0 rfl rfl 2 (by decide) (hts _ kf_RX0_18) (fun _ h9 => h9) rfl dX0_takeBackLast_32 ?_
  refine x_ildN hx hb hK.1 hP 2 0 rfl rfl (by first | assumption | omega) (by decide) dX0_takeBackLast_35 ?_
  refine mc_v (va_runV (As := [.int (nI (hf (q - 1))), .int (nI (hs (q - 1)))]) (rest := []) ⟨hx, hb, hml, hown, hts⟩ (mt_X5_put l D cI cJ cZ t0 S (hf (q - 1)) (hs (q - 1)) (nd_sub hN [3] (by decide) rfl) (by first | assumption | omega) (by first | assumption | omega)) (cwV 2 hts (gV km_RX0_25 ki_yX5_put kl_yX5_put kn_RX5 kc_yX5_put) rfl rfl rfl (by decide +kernel) (by rw [hR]; exact ⟨Nat.le_of_ble_eq_true rfl, Nat.le_of_ble_eq_true rfl⟩)) (cP_V (q0 := 0) (ci := 5) hK (hP.sub [3] rfl) rfl rfl) rfl rfl hl.1 rfl (lv_room (Nat.le_of_ble_eq_true rfl)) dX0_takeBackLast_36 ⟨Nat.zero_le _, Nat.zero_le _⟩) hS (aA_sub [3] rfl) (fun H locs hp_ hk_ hS => ?_)
  have hP1 := hp_
  have hP := pj (wr := [(h0, .inr (0, [.ref h1, .ref h2, .int (nI (q - 1))])), (h1, .inl (cI, 20, .inl (fN hf))), (h2, .inl (cI, 20, .inl (fN hs)))]) (w1 := [(t0, .inr (5, [.int (nI (thM (va_up S (hf (q - 1)) (hs (q - 1))))), .int (nI (abM (va_up S (hf (q - 1)) (hs (q - 1)))))]))]) (lc := [t0]) hP hD [3] [0, 1, 2] rfl rfl (by decide) hk_ hP1
  have hP : va_P D vwCl [(h0, .inr (0, [.ref h1, .ref h2, .int (nI (q - 1))])), (h1, .inl (cI, 20, .inl (fN hf))), (h2, .inl (cI, 20, .inl (fN hs))), (t0, .inr (5, [.int (nI (thM (va_up S (hf (q - 1)) (hs (q - 1))))), .int (nI (abM (va_up S (hf (q - 1)) (hs (q - 1)))))]))] H := hP
  have hD : va_D (aA [h0, h1, h2, t0]) [(h0, .inr (0, [.ref h1, .ref h2, .int (nI (q - 1))])), (h1, .inl (cI, 20, .inl (fN hf))), (h2, .inl (cI, 20, .inl (fN hs))), (t0, .inr (5, [.int (nI (thM (va_up S (hf (q - 1)) (hs (q - 1))))), .int (nI (abM (va_up S (hf (q - 1)) (hs (q - 1)))))]))] := hD.re [0, 1, 2, 3] (by decide) rfl
  rw [hQ]
  exact W.vret hx hb hr (fun t ht hW => ⟨⟨H, rfl, hP.sub [0, 1, 2, 3] rfl, ht⟩, hS.F ht⟩) hS.2.2 dX0_takeBackLast_39

set_option maxHeartbeats 4000000 in
set_option maxRecDepth 100000 in
theorem mt_X4_add (l : Launch) (D : va_G) (cI cJ cZ : ClassId) (p0 : Nat) (p1 : Nat) (p2 : Nat) (p3 : Nat) (z : Nat) (pf : Nat → Nat) (pt : Nat → Nat) (pm : Nat → Nat) (fi : Nat) (v : Nat) (w : Nat) (hN : [p0, p1, p2, p3].Nodup) (hz : z < 12) : Met l yX4_add (aW yX4_add cX4_add 4 none) { frames := 0, cells := 0, slots := 0, locals := 0 } (cP D cI cJ cZ [.ref p0, .int (nI fi), .int (nI v), .int (nI w)] [(p0, .inr (4, [.ref p1, .ref p2, .ref p3, .int (nI z)])), (p1, .inl (cI, 12, .inl (fN pf))), (p2, .inl (cI, 12, .inl (fN pt))), (p3, .inl (cI, 12, .inl (fN pm)))]) (va_Qv (fun H1 : Heap => va_P D vwCl [(p0, .inr (4, [.ref p1, .ref p2, .ref p3, .int (nI (z + 1))])), (p1, .inl (cI, 12, .inl (fN (va_up pf z fi)))), (p2, .inl (cI, 12, .inl (fN (va_up pt z v)))), (p3, .inl (cI, 12, .inl (fN (va_up pm z w))))] H1) mB (aA [p0, p1, p2, p3])) 0 0 (aA [p0, p1, p2, p3]) := by
  refine Met.ofW (cc := cX4_add) (maxL := 4) (ret := none) (by decide) rfl ?_
  intro p e s m args below meth c s₁ B hml hv
  obtain ⟨hav, hP, hK⟩ := hv
  have hx := B.exec
  have hb := B.bytes
  have hr := B.returns
  have hts := aW_in (atoms_spec (ws := aW yX4_add cX4_add 4 none) B.pre)
  have hown : s.vm.findClass RX4 = some m.cls := findClass_of_methodNamed B.named
  have hlocks := B.notSynchronized
  obtain ⟨R, hR⟩ : ∃ R, R = (headSpec (aW yX4_add cX4_add 4 none) { frames := 0, cells := 0, slots := 0, locals := 0 }).room := ⟨_, rfl⟩
  rw [← hR]
  obtain ⟨Q, hQ⟩ : ∃ Q, Q = MQ below (va_Qv (fun H1 : Heap => va_P D vwCl [(p0, .inr (4, [.ref p1, .ref p2, .ref p3, .int (nI (z + 1))])), (p1, .inl (cI, 12, .inl (fN (va_up pf z fi)))), (p2, .inl (cI, 12, .inl (fN (va_up pt z v)))), (p3, .inl (cI, 12, .inl (fN (va_up pm z w))))] H1) mB (aA [p0, p1, p2, p3])) args s 0 0 (aA [p0, p1, p2, p3]) := ⟨_, rfl⟩
  rw [← hQ]
  have hl := lv_entry [.ref p0, .int (nI fi), .int (nI v), .int (nI w)] (n := 4) (Nat.le_of_ble_eq_true rfl)
  have hent := lg_entry_eq m [.ref p0, .int (nI fi), .int (nI v), .int (nI w)] 4
  rw [← hav] at hent
  rw [hent]
  generalize (lg_sl [.ref p0, .int (nI fi), .int (nI v), .int (nI w)] ++ List.replicate (4 - (lg_sl [.ref p0, .int (nI fi), .int (nI v), .int (nI w)]).length) Slot.unset).toArray = ls at hl ⊢
  have hl : lv_has ls 4 [(0, .ref p0), (1, .int (nI fi)), (2, .int (nI v)), (3, .int (nI w))] := hl
  have hD : va_D (aA [p0, p1, p2, p3]) [(p0, .inr (4, [.ref p1, .ref p2, .ref p3, .int (nI z)])), (p1, .inl (cI, 12, .inl (fN pf))), (p2, .inl (cI, 12, .inl (fN pt))), (p3, .inl (cI, 12, .inl (fN pm)))] := nd_D hN rfl
  have hS : va_S (aA [p0, p1, p2, p3]) s.heap s.heap [] := va_S.rf
  have hP : va_P D vwCl [(p0, .inr (4, [.ref p1, .ref p2, .ref p3, .int (nI z)])), (p1, .inl (cI, 12, .inl (fN pf))), (p2, .inl (cI, 12, .inl (fN pt))), (p3, .inl (cI, 12, .inl (fN pm)))] s.heap := hP
  obtain ⟨H, hH⟩ : ∃ H, H = s.heap := ⟨_, rfl⟩
  rw [← hH] at hP
  obtain ⟨locs, hlocs⟩ : ∃ q : List Loc, q = [] := ⟨_, rfl⟩
  have hS : va_S (aA [p0, p1, p2, p3]) s.heap H locs := by rw [hH, hlocs]; exact hS
  rw [← hH, ← hlocs]
  clear hH hlocs
  refine lv_aload_n hx hb dX4_add_0 rfl (lv_at hl 0 rfl) ?_
  refine va_get (D := D) (ci := 4) (v := .int (nI z)) (C := RX4) (T := TX4) (N := 4) hx hb hts inA4 hown hK.1 hP 0 rfl rfl 3 (by decide) (hts _ kf_RX4_21) (fun _ h9 => h9) rfl dX4_add_1 ?_
  refine lv_bipush (v := nI 12) hx hb dX4_add_4 (by decide) ?_
  refine x_clt (a := z) (b := 12) (tgt := 10) hx hb (by first | assumption | omega) (by decide) dX4_add_6 (by decide) (fun c6 => ?_) (fun c6 => (by omega))
  refine lv_aload_n hx hb dX4_add_10 rfl (lv_at hl 0 rfl) ?_
  refine va_get (D := D) (ci := 4) (v := .ref p1) (C := RX4) (T := TX4) (N := 4) hx hb hts inA4 hown hK.1 hP 0 rfl rfl 0 (by decide) (hts _ kf_RX4_9) (fun _ h9 => h9) rfl dX4_add_11 ?_
  refine lv_aload_n hx hb dX4_add_14 rfl (lv_at hl 0 rfl) ?_
  refine va_get (D := D) (ci := 4) (v := .int (nI z)) (C := RX4) (T := TX4) (N := 4) hx hb hts inA4 hown hK.1 hP 0 rfl rfl 3 (by decide) (hts _ kf_RX4_21) (fun _ h9 => h9) rfl dX4_add_15 ?_
  refine lv_iload_n hx hb dX4_add_18 rfl (lv_at hl 1 rfl) ?_
  refine x_istN (v := fi) hx hb hK.1 hP hD hS 1 0 rfl rfl (by first | assumption | omega) (by decide) dX4_add_19 (fun H locs hP hD hS => ?_)
  have hP : va_P D vwCl [(p0, .inr (4, [.ref p1, .ref p2, .ref p3, .int (nI z)])), (p1, .inl (cI, 12, .inl (fN (va_up pf z fi)))), (p2, .inl (cI, 12, .inl (fN pt))), (p3, .inl (cI, 12, .inl (fN pm)))] H := hP
  have hD : va_D (aA [p0, p1, p2, p3]) [(p0, .inr (4, [.ref p1, .ref p2, .ref p3, .int (nI z)])), (p1, .inl (cI, 12, .inl (fN (va_up pf z fi)))), (p2, .inl (cI, 12, .inl (fN pt))), (p3, .inl (cI, 12, .inl (fN pm)))] := hD
  refine lv_aload_n hx hb dX4_add_20 rfl (lv_at hl 0 rfl) ?_
  refine va_get (D := D) (ci := 4) (v := .ref p2) (C := RX4) (T := TX4) (N := 4) hx hb hts inA4 hown hK.1 hP 0 rfl rfl 1 (by decide) (hts _ kf_RX4_15) (fun _ h9 => h9) rfl dX4_add_21 ?_
  refine lv_aload_n hx hb dX4_add_24 rfl (lv_at hl 0 rfl) ?_
  refine va_get (D := D) (ci := 4) (v := .int (nI z)) (C := RX4) (T := TX4) (N := 4) hx hb hts inA4 hown hK.1 hP 0 rfl rfl 3 (by decide) (hts _ kf_RX4_21) (fun _ h9 => h9) rfl dX4_add_25 ?_
  refine lv_iload_n hx hb dX4_add_28 rfl (lv_at hl 2 rfl) ?_
  refine x_istN (v := v) hx hb hK.1 hP hD hS 2 0 rfl rfl (by first | assumption | omega) (by decide) dX4_add_29 (fun H locs hP hD hS => ?_)
  have hP : va_P D vwCl [(p0, .inr (4, [.ref p1, .ref p2, .ref p3, .int (nI z)])), (p1, .inl (cI, 12, .inl (fN (va_up pf z fi)))), (p2, .inl (cI, 12, .inl (fN (va_up pt z v)))), (p3, .inl (cI, 12, .inl (fN pm)))] H := hP
  have hD : va_D (aA [p0, p1, p2, p3]) [(p0, .inr (4, [.ref p1, .ref p2, .ref p3, .int (nI z)])), (p1, .inl (cI, 12, .inl (fN (va_up pf z fi)))), (p2, .inl (cI, 12, .inl (fN (va_up pt z v)))), (p3, .inl (cI, 12, .inl (fN pm)))] := hD
  refine lv_aload_n hx hb dX4_add_30 rfl (lv_at hl 0 rfl) ?_
  refine va_get (D := D) (ci := 4) (v := .ref p3) (C := RX4) (T := TX4) (N := 4) hx hb hts inA4 hown hK.1 hP 0 rfl rfl 2 (by decide) (hts _ kf_RX4_18) (fun _ h9 => h9) rfl dX4_add_31 ?_
  refine lv_aload_n hx hb dX4_add_34 rfl (lv_at hl 0 rfl) ?_
  refine va_get (D := D) (ci := 4) (v := .int (nI z)) (C := RX4) (T := TX4) (N := 4) hx hb hts inA4 hown hK.1 hP 0 rfl rfl 3 (by decide) (hts _ kf_RX4_21) (fun _ h9 => h9) rfl dX4_add_35 ?_
  refine lv_iload_n hx hb dX4_add_38 rfl (lv_at hl 3 rfl) ?_
  refine x_istN (v := w) hx hb hK.1 hP hD hS 3 0 rfl rfl (by first | assumption | omega) (by decide) dX4_add_39 (fun H locs hP hD hS => ?_)
  have hP : va_P D vwCl [(p0, .inr (4, [.ref p1, .ref p2, .ref p3, .int (nI z)])), (p1, .inl (cI, 12, .inl (fN (va_up pf z fi)))), (p2, .inl (cI, 12, .inl (fN (va_up pt z v)))), (p3, .inl (cI, 12, .inl (fN (va_up pm z w))))] H := hP
  have hD : va_D (aA [p0, p1, p2, p3]) [(p0, .inr (4, [.ref p1, .ref p2, .ref p3, .int (nI z)])), (p1, .inl (cI, 12, .inl (fN (va_up pf z fi)))), (p2, .inl (cI, 12, .inl (fN (va_up pt z v)))), (p3, .inl (cI, 12, .inl (fN (va_up pm z w))))] := hD
  refine lv_aload_n hx hb dX4_add_40 rfl (lv_at hl 0 rfl) ?_
  refine lv_dup hx hb dX4_add_41 rfl ?_
  refine va_get (D := D) (ci := 4) (v := .int (nI z)) (C := RX4) (T := TX4) (N := 4) hx hb hts inA4 hown hK.1 hP 0 rfl rfl 3 (by decide) (hts _ kf_RX4_21) (fun _ h9 => h9) rfl dX4_add_42 ?_
  refine lv_iconst (v := nI 1) hx hb dX4_add_45 (by decide) ?_
  refine x_iadd (z := nI (z + 1)) hx hb dX4_add_46 (nI_add _ _) ?_
  refine va_put (D := D) (ci := 4) (v := .int (nI (z + 1))) (ty := .int) (C := RX4) (T := TX4) (N := 4) hx hb hts inA4 tyX4 tyX4_ok nmX4 hown hK.1 hP hD hS 0 rfl rfl 3 (by decide) (hts _ kf_RX4_21) (fun _ h9 => h9) rfl (by decide +kernel) (rfl) (rfl) (Nat.le_of_ble_eq_true rfl) dX4_add_47 (fun H locs hP hD hS => ?_)
  have hP : va_P D vwCl [(p0, .inr (4, [.ref p1, .ref p2, .ref p3, .int (nI (z + 1))])), (p1, .inl (cI, 12, .inl (fN (va_up pf z fi)))), (p2, .inl (cI, 12, .inl (fN (va_up pt z v)))), (p3, .inl (cI, 12, .inl (fN (va_up pm z w))))] H := hP
  have hD : va_D (aA [p0, p1, p2, p3]) [(p0, .inr (4, [.ref p1, .ref p2, .ref p3, .int (nI (z + 1))])), (p1, .inl (cI, 12, .inl (fN (va_up pf z fi)))), (p2, .inl (cI, 12, .inl (fN (va_up pt z v)))), (p3, .inl (cI, 12, .inl (fN (va_up pm z w))))] := hD
  rw [hQ]
  exact W.vret hx hb hr (fun t ht hW => ⟨⟨H, rfl, hP.sub [0, 1, 2, 3] rfl, ht⟩, hS.F ht⟩) hS.2.2 dX4_add_50
