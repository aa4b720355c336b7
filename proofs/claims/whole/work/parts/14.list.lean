set_option maxHeartbeats 4000000 in
set_option maxRecDepth 100000 in
theorem mt_X2_isNumber (l : Launch) (D : va_G) (cI cJ cZ : ClassId) (l0 : Nat) (l1 : Nat) (l2 : Nat) (N : Nat) (T : Nat) (te : Nat) (ex : Nat) (g : Nat → Nat) (rc : Nat → Nat) (k0 : Nat) (k1 : Nat) (k2 : Nat) (k3 : Nat) (k4 : Nat) (k5 : Nat) (k6 : Nat) (K : Kn) (x : Int32) (hN2 : N ≤ 252) : Met l yX2_isNumber (aW yX2_isNumber cX2_isNumber 2 (some .boolean)) { frames := 0, cells := 0, slots := 0, locals := 0 } (cP D cI cJ cZ [.ref l0, .int x] [(l0, .inr (2, [.ref k0, .ref l1, .int (nI N), .long (lN T), .ref l2, .int (nI te), .int (nI ex)])), (l1, .inl (cJ, 252, .inr (.inl (fL g)))), (l2, .inl (cI, 11, .inl (fN rc))), (k0, .inr (1, [.ref k1, .ref k2, .ref k3, .ref k4, .ref k5, .ref k6])), (k1, .inl (cI, 10, .inl (fN K.1))), (k2, .inl (cI, 10, .inl (fN K.2.1))), (k3, .inl (cI, 10, .inl (fN (lfM K)))), (k4, .inl (cI, 10, .inl (fN (mfM K)))), (k5, .inl (cI, 12, .inl (fN (lcM K)))), (k6, .inl (cI, 12, .inl (fN (mcM K))))]) (vp_Si (fun r => r = nI (inN x N).toNat)) 0 0 (fun _ => False) := by
  refine Met.ofW (cc := cX2_isNumber) (maxL := 2) (ret := (some .boolean)) (by decide) rfl ?_
  intro p e s m args below meth c s₁ B hml hv
  obtain ⟨hav, hP, hK⟩ := hv
  have hx := B.exec
  have hb := B.bytes
  have hr := B.returns
  have hts := aW_in (atoms_spec (ws := aW yX2_isNumber cX2_isNumber 2 (some .boolean)) B.pre)
  have hown : s.vm.findClass RX2 = some m.cls := findClass_of_methodNamed B.named
  have hlocks := B.notSynchronized
  obtain ⟨R, hR⟩ : ∃ R, R = (headSpec (aW yX2_isNumber cX2_isNumber 2 (some .boolean)) { frames := 0, cells := 0, slots := 0, locals := 0 }).room := ⟨_, rfl⟩
  rw [← hR]
  obtain ⟨Q, hQ⟩ : ∃ Q, Q = MQ below (vp_Si (fun r => r = nI (inN x N).toNat)) args s 0 0 (fun _ => False) := ⟨_, rfl⟩
  rw [← hQ]
  have hl := lv_entry [.ref l0, .int x] (n := 2) (Nat.le_of_ble_eq_true rfl)
  have hent := lg_entry_eq m [.ref l0, .int x] 2
  rw [← hav] at hent
  rw [hent]
  generalize (lg_sl [.ref l0, .int x] ++ List.replicate (2 - (lg_sl [.ref l0, .int x]).length) Slot.unset).toArray = ls at hl ⊢
  have hl : lv_has ls 2 [(0, .ref l0), (1, .int x)] := hl
  refine lv_iload_n hx hb dX2_isNumber_0 rfl (lv_at hl 1 rfl) ?_
  refine lv_if_lt (tgt := 16) hx hb dX2_isNumber_1 (by decide) (fun c1 => ?_) (fun c1 => ?_)
  · refine lv_iconst (v := nI 0) hx hb dX2_isNumber_16 (by decide) ?_
    rw [hQ]
    exact W.zret (v := nI 0) hx hb hr (rfl) (fun t ht hW => ⟨_, rfl, by (try simp only [toInt_lt, toInt_le, tI0, tIn (show N < 2 ^ 31 by omega)] at c1); (try simp only [toInt_lt, toInt_le, tI0, tIn (show N < 2 ^ 31 by omega)] at c9); first | exact inN_t (by omega) (by omega) | exact inN_f (by omega), ht⟩) (fun _ h => by cases h) dX2_isNumber_17
  · refine lv_iload_n hx hb dX2_isNumber_4 rfl (lv_at hl 1 rfl) ?_
    refine lv_aload_n hx hb dX2_isNumber_5 rfl (lv_at hl 0 rfl) ?_
    refine va_get (D := D) (ci := 2) (v := .int (nI N)) (C := RX2) (T := TX2) (N := 7) hx hb hts inA2 hown hK.1 hP 0 rfl rfl 2 (by decide) (hts _ kf_RX2_23) (fun _ h9 => h9) rfl dX2_isNumber_6 ?_
    refine lv_icmp_ge (x := x) (y := nI N) (tgt := 16) hx hb dX2_isNumber_9 (by decide) (fun c9 => ?_) (fun c9 => ?_)
    · refine lv_iconst (v := nI 0) hx hb dX2_isNumber_16 (by decide) ?_
      rw [hQ]
      exact W.zret (v := nI 0) hx hb hr (rfl) (fun t ht hW => ⟨_, rfl, by (try simp only [toInt_lt, toInt_le, tI0, tIn (show N < 2 ^ 31 by omega)] at c1); (try simp only [toInt_lt, toInt_le, tI0, tIn (show N < 2 ^ 31 by omega)] at c9); first | exact inN_t (by omega) (by omega) | exact inN_f (by omega), ht⟩) (fun _ h => by cases h) dX2_isNumber_17
    · refine lv_iconst (v := nI 1) hx hb dX2_isNumber_12 (by decide) ?_
      refine lv_goto (tgt := 17) hx hb dX2_isNumber_13 (by decide) ?_
      rw [hQ]
      exact W.zret (v := nI 1) hx hb hr (rfl) (fun t ht hW => ⟨_, rfl, by (try simp only [toInt_lt, toInt_le, tI0, tIn (show N < 2 ^ 31 by omega)] at c1); (try simp only [toInt_lt, toInt_le, tI0, tIn (show N < 2 ^ 31 by omega)] at c9); first | exact inN_t (by omega) (by omega) | exact inN_f (by omega), ht⟩) (fun _ h => by cases h) dX2_isNumber_17

set_option maxHeartbeats 4000000 in
set_option maxRecDepth 100000 in
theorem mt_X2_setOf (l : Launch) (D : va_G) (cI cJ cZ : ClassId) (l0 : Nat) (l1 : Nat) (l2 : Nat) (N : Nat) (T : Nat) (te : Nat) (ex : Nat) (g : Nat → Nat) (rc : Nat → Nat) (k0 : Nat) (k1 : Nat) (k2 : Nat) (k3 : Nat) (k4 : Nat) (k5 : Nat) (k6 : Nat) (K : Kn) (ee : Nat → Nat) (kk : Nat) (hN2 : N ≤ 252) (hKO : KO K) (hg : ∀ k, k < N → g k = key K (ee k)) (he : ∀ k, k < N → ee k < 1024) (hk : kk < N) : Met l yX2_setOf (aW yX2_setOf cX2_setOf 2 (some .int)) { frames := 0, cells := 0, slots := 0, locals := 0 } (cP D cI cJ cZ [.ref l0, .int (nI kk)] [(l0, .inr (2, [.ref k0, .ref l1, .int (nI N), .long (lN T), .ref l2, .int (nI te), .int (nI ex)])), (l1, .inl (cJ, 252, .inr (.inl (fL g)))), (l2, .inl (cI, 11, .inl (fN rc))), (k0, .inr (1, [.ref k1, .ref k2, .ref k3, .ref k4, .ref k5, .ref k6])), (k1, .inl (cI, 10, .inl (fN K.1))), (k2, .inl (cI, 10, .inl (fN K.2.1))), (k3, .inl (cI, 10, .inl (fN (lfM K)))), (k4, .inl (cI, 10, .inl (fN (mfM K)))), (k5, .inl (cI, 12, .inl (fN (lcM K)))), (k6, .inl (cI, 12, .inl (fN (mcM K))))]) (vp_Si (fun r => r = nI (ee kk))) 0 0 (fun _ => False) := by
  refine Met.ofW (cc := cX2_setOf) (maxL := 2) (ret := (some .int)) (by decide) rfl ?_
  intro p e s m args below meth c s₁ B hml hv
  obtain ⟨hav, hP, hK⟩ := hv
  have hx := B.exec
  have hb := B.bytes
  have hr := B.returns
  have hts := aW_in (atoms_spec (ws := aW yX2_setOf cX2_setOf 2 (some .int)) B.pre)
  have hown : s.vm.findClass RX2 = some m.cls := findClass_of_methodNamed B.named
  have hlocks := B.notSynchronized
  obtain ⟨R, hR⟩ : ∃ R, R = (headSpec (aW yX2_setOf cX2_setOf 2 (some .int)) { frames := 0, cells := 0, slots := 0, locals := 0 }).room := ⟨_, rfl⟩
  rw [← hR]
  obtain ⟨Q, hQ⟩ : ∃ Q, Q = MQ below (vp_Si (fun r => r = nI (ee kk))) args s 0 0 (fun _ => False) := ⟨_, rfl⟩
  rw [← hQ]
  have hl := lv_entry [.ref l0, .int (nI kk)] (n := 2) (Nat.le_of_ble_eq_true rfl)
  have hent := lg_entry_eq m [.ref l0, .int (nI kk)] 2
  rw [← hav] at hent
  rw [hent]
  generalize (lg_sl [.ref l0, .int (nI kk)] ++ List.replicate (2 - (lg_sl [.ref l0, .int (nI kk)]).length) Slot.unset).toArray = ls at hl ⊢
  have hl : lv_has ls 2 [(0, .ref l0), (1, .int (nI kk))] := hl
  refine lv_sipush (v := nI 1023) hx hb dX2_setOf_0 (by decide) ?_
  refine lv_aload_n hx hb dX2_setOf_3 rfl (lv_at hl 0 rfl) ?_
  refine va_get (D := D) (ci := 2) (v := .ref l1) (C := RX2) (T := TX2) (N := 7) hx hb hts inA2 hown hK.1 hP 0 rfl rfl 1 (by decide) (hts _ kf_RX2_11) (fun _ h9 => h9) rfl dX2_setOf_4 ?_
  refine lv_iload_n hx hb dX2_setOf_7 rfl (lv_at hl 1 rfl) ?_
  refine x_lldL hx hb hK.1 hP 1 1 rfl rfl (by first | assumption | omega) (by decide) dX2_setOf_8 ?_
  refine lv_ldc2 (v := 1023) hx hb hown (hts _ kk_RX2_87) dX2_setOf_9 ?_
  refine x_topL (show (1023 : Int64) = lN 1023 from rfl) ?_
  refine x_land (z := lN ((g kk) &&& 1023)) hx hb dX2_setOf_12 (z_land _ _) ?_
  refine lv_l2i (v := nI ((g kk) &&& 1023)) hx hb dX2_setOf_13 (lN_i _) ?_
  refine x_isub (z := nI (1023 - ((g kk) &&& 1023))) hx hb dX2_setOf_14 (pk_sub (Nat.and_le_right)) ?_
  rw [hQ]
  exact W.iret (v := nI (1023 - ((g kk) &&& 1023))) hx hb hr (fun t ht hW => ⟨_, rfl, by rw [hg kk hk, key_set K (he kk hk)], ht⟩) (fun _ h => by cases h) dX2_setOf_15

set_option maxHeartbeats 4000000 in
set_option maxRecDepth 100000 in
theorem mt_X2_weightOf (l : Launch) (D : va_G) (cI cJ cZ : ClassId) (l0 : Nat) (l1 : Nat) (l2 : Nat) (N : Nat) (T : Nat) (te : Nat) (ex : Nat) (g : Nat → Nat) (rc : Nat → Nat) (k0 : Nat) (k1 : Nat) (k2 : Nat) (k3 : Nat) (k4 : Nat) (k5 : Nat) (k6 : Nat) (K : Kn) (ee : Nat → Nat) (kk : Nat) (hN2 : N ≤ 252) (hKO : KO K) (hg : ∀ k, k < N → g k = key K (ee k)) (he : ∀ k, k < N → ee k < 1024) (hk : kk < N) : Met l yX2_weightOf (aW yX2_weightOf cX2_weightOf 2 (some .long)) { frames := 0, cells := 0, slots := 0, locals := 0 } (cP D cI cJ cZ [.ref l0, .int (nI kk)] [(l0, .inr (2, [.ref k0, .ref l1, .int (nI N), .long (lN T), .ref l2, .int (nI te), .int (nI ex)])), (l1, .inl (cJ, 252, .inr (.inl (fL g)))), (l2, .inl (cI, 11, .inl (fN rc))), (k0, .inr (1, [.ref k1, .ref k2, .ref k3, .ref k4, .ref k5, .ref k6])), (k1, .inl (cI, 10, .inl (fN K.1))), (k2, .inl (cI, 10, .inl (fN K.2.1))), (k3, .inl (cI, 10, .inl (fN (lfM K)))), (k4, .inl (cI, 10, .inl (fN (mfM K)))), (k5, .inl (cI, 12, .inl (fN (lcM K)))), (k6, .inl (cI, 12, .inl (fN (mcM K))))]) (vp_Sl (fun r => r = lN (wt K (ee kk)))) 0 0 (fun _ => False) := by
  refine Met.ofW (cc := cX2_weightOf) (maxL := 2) (ret := (some .long)) (by decide) rfl ?_
  intro p e s m args below meth c s₁ B hml hv
  obtain ⟨hav, hP, hK⟩ := hv
  have hx := B.exec
  have hb := B.bytes
  have hr := B.returns
  have hts := aW_in (atoms_spec (ws := aW yX2_weightOf cX2_weightOf 2 (some .long)) B.pre)
  have hown : s.vm.findClass RX2 = some m.cls := findClass_of_methodNamed B.named
  have hlocks := B.notSynchronized
  obtain ⟨R, hR⟩ : ∃ R, R = (headSpec (aW yX2_weightOf cX2_weightOf 2 (some .long)) { frames := 0, cells := 0, slots := 0, locals := 0 }).room := ⟨_, rfl⟩
  rw [← hR]
  obtain ⟨Q, hQ⟩ : ∃ Q, Q = MQ below (vp_Sl (fun r => r = lN (wt K (ee kk)))) args s 0 0 (fun _ => False) := ⟨_, rfl⟩
  rw [← hQ]
  have hl := lv_entry [.ref l0, .int (nI kk)] (n := 2) (Nat.le_of_ble_eq_true rfl)
  have hent := lg_entry_eq m [.ref l0, .int (nI kk)] 2
  rw [← hav] at hent
  rw [hent]
  generalize (lg_sl [.ref l0, .int (nI kk)] ++ List.replicate (2 - (lg_sl [.ref l0, .int (nI kk)]).length) Slot.unset).toArray = ls at hl ⊢
  have hl : lv_has ls 2 [(0, .ref l0), (1, .int (nI kk))] := hl
  refine lv_aload_n hx hb dX2_weightOf_0 rfl (lv_at hl 0 rfl) ?_
  refine va_get (D := D) (ci := 2) (v := .ref l1) (C := RX2) (T := TX2) (N := 7) hx hb hts inA2 hown hK.1 hP 0 rfl rfl 1 (by decide) (hts _ kf_RX2_11) (fun _ h9 => h9) rfl dX2_weightOf_1 ?_
  refine lv_iload_n hx hb dX2_weightOf_4 rfl (lv_at hl 1 rfl) ?_
  refine x_lldL hx hb hK.1 hP 1 1 rfl rfl (by first | assumption | omega) (by decide) dX2_weightOf_5 ?_
  refine lv_bipush (v := nI 14) hx hb dX2_weightOf_6 (by decide) ?_
  refine lv_lshr (v := lN (wt K (ee kk))) hx hb dX2_weightOf_8 (by rw [hg kk hk, z_lshr14 (key_lt hKO _), key_wt]) ?_
  rw [hQ]
  exact W.lret (v := lN (wt K (ee kk))) hx hb hr (fun t ht hW => ⟨_, rfl, rfl, ht⟩) (fun _ h => by cases h) dX2_weightOf_9

set_option maxHeartbeats 4000000 in
set_option maxRecDepth 100000 in
theorem mt_X2_foretoldBy (l : Launch) (D : va_G) (cI cJ cZ : ClassId) (l0 : Nat) (l1 : Nat) (l2 : Nat) (N : Nat) (T : Nat) (te : Nat) (ex : Nat) (g : Nat → Nat) (rc : Nat → Nat) (k0 : Nat) (k1 : Nat) (k2 : Nat) (k3 : Nat) (k4 : Nat) (k5 : Nat) (k6 : Nat) (K : Kn) (ee : Nat → Nat) (kk : Nat) (fi : Nat) (hN2 : N ≤ 252) (hKO : KO K) (hg : ∀ k, k < N → g k = key K (ee k)) (he : ∀ k, k < N → ee k < 1024) (hk : kk < N) (hf : fi < 12) : Met l yX2_foretoldBy (aW yX2_foretoldBy cX2_foretoldBy 3 (some .int)) { frames := 1, cells := 0, slots := 0, locals := 22 } (cP D cI cJ cZ [.ref l0, .int (nI kk), .int (nI fi)] [(l0, .inr (2, [.ref k0, .ref l1, .int (nI N), .long (lN T), .ref l2, .int (nI te), .int (nI ex)])), (l1, .inl (cJ, 252, .inr (.inl (fL g)))), (l2, .inl (cI, 11, .inl (fN rc))), (k0, .inr (1, [.ref k1, .ref k2, .ref k3, .ref k4, .ref k5, .ref k6])), (k1, .inl (cI, 10, .inl (fN K.1))), (k2, .inl (cI, 10, .inl (fN K.2.1))), (k3, .inl (cI, 10, .inl (fN (lfM K)))), (k4, .inl (cI, 10, .inl (fN (mfM K)))), (k5, .inl (cI, 12, .inl (fN (lcM K)))), (k6, .inl (cI, 12, .inl (fN (mcM K))))]) (vp_Si (fun r => r = nI (fort K (ee kk) fi))) 0 0 (fun _ => False) := by
  refine Met.ofW (cc := cX2_foretoldBy) (maxL := 3) (ret := (some .int)) (by decide) rfl ?_
  intro p e s m args below meth c s₁ B hml hv
  obtain ⟨hav, hP, hK⟩ := hv
  have hx := B.exec
  have hb := B.bytes
  have hr := B.returns
  have hts := aW_in (atoms_spec (ws := aW yX2_foretoldBy cX2_foretoldBy 3 (some .int)) B.pre)
  have hown : s.vm.findClass RX2 = some m.cls := findClass_of_methodNamed B.named
  have hlocks := B.notSynchronized
  obtain ⟨R, hR⟩ : ∃ R, R = (headSpec (aW yX2_foretoldBy cX2_foretoldBy 3 (some .int)) { frames := 1, cells := 0, slots := 0, locals := 22 }).room := ⟨_, rfl⟩
  rw [← hR]
  obtain ⟨Q, hQ⟩ : ∃ Q, Q = MQ below (vp_Si (fun r => r = nI (fort K (ee kk) fi))) args s 0 0 (fun _ => False) := ⟨_, rfl⟩
  rw [← hQ]
  have hl := lv_entry [.ref l0, .int (nI kk), .int (nI fi)] (n := 3) (Nat.le_of_ble_eq_true rfl)
  have hent := lg_entry_eq m [.ref l0, .int (nI kk), .int (nI fi)] 3
  rw [← hav] at hent
  rw [hent]
  generalize (lg_sl [.ref l0, .int (nI kk), .int (nI fi)] ++ List.replicate (3 - (lg_sl [.ref l0, .int (nI kk), .int (nI fi)]).length) Slot.unset).toArray = ls at hl ⊢
  have hl : lv_has ls 3 [(0, .ref l0), (1, .int (nI kk)), (2, .int (nI fi))] := hl
  refine lv_aload_n hx hb dX2_foretoldBy_0 rfl (lv_at hl 0 rfl) ?_
  refine va_get (D := D) (ci := 2) (v := .ref k0) (C := RX2) (T := TX2) (N := 7) hx hb hts inA2 hown hK.1 hP 0 rfl rfl 0 (by decide) (hts _ kf_RX2_19) (fun _ h9 => h9) rfl dX2_foretoldBy_1 ?_
  refine lv_aload_n hx hb dX2_foretoldBy_4 rfl (lv_at hl 0 rfl) ?_
  refine lv_iload_n hx hb dX2_foretoldBy_5 rfl (lv_at hl 1 rfl) ?_
  refine vp_callSi (va_Run.run (va_runV (As := [.int (nI kk)]) (rest := [.ref k0]) ⟨hx, hb, hml, hown, hts⟩ (mt_X2_setOf l D cI cJ cZ l0 l1 l2 N T te ex g rc k0 k1 k2 k3 k4 k5 k6 K ee kk (by first | assumption | omega) (by first | assumption | omega) (by first | assumption | omega) (by first | assumption | omega) (by first | assumption | omega)) (cwV 1 hts (gV km_RX2_89 ki_yX2_setOf kl_yX2_setOf kn_RX2 kc_yX2_setOf) rfl rfl rfl (by decide +kernel) (by rw [hR]; exact ⟨Nat.le_of_ble_eq_true rfl, Nat.le_of_ble_eq_true rfl⟩)) (cP_V (q0 := 0) (ci := 2) hK (hP.sub [0, 1, 2, 3, 4, 5, 6, 7, 8, 9] rfl) rfl rfl) rfl rfl hl.1 rfl (lv_room (Nat.le_of_ble_eq_true rfl)) dX2_foretoldBy_6 ⟨Nat.zero_le _, Nat.zero_le _⟩)) (fun r_ hr_ => ?_)
  subst hr_
  refine lv_iload_n hx hb dX2_foretoldBy_9 rfl (lv_at hl 2 rfl) ?_
  refine vp_callSi (va_Run.run (va_runV (As := [.int (nI (ee kk)), .int (nI fi)]) (rest := []) ⟨hx, hb, hml, hown, hts⟩ (mt_X1_foretold l D cI cJ cZ k0 k1 k2 k3 k4 k5 k6 K (ee kk) fi (he kk hk) (by first | assumption | omega)) (cwV 2 hts (gV km_RX2_100 ki_yX1_foretold kl_yX1_foretold kn_RX1 kc_yX1_foretold) rfl rfl rfl (by decide +kernel) (by rw [hR]; exact ⟨Nat.le_of_ble_eq_true rfl, Nat.le_of_ble_eq_true rfl⟩)) (cP_V (q0 := 0) (ci := 1) hK (hP.sub [3, 4, 5, 6, 7, 8, 9] rfl) rfl rfl) rfl rfl hl.1 rfl (lv_room (Nat.le_of_ble_eq_true rfl)) dX2_foretoldBy_10 ⟨Nat.zero_le _, Nat.zero_le _⟩)) (fun r_ hr_ => ?_)
  subst hr_
  rw [hQ]
  exact W.iret (v := nI (fort K (ee kk) fi)) hx hb hr (fun t ht hW => ⟨_, rfl, rfl, ht⟩) (fun _ h => by cases h) dX2_foretoldBy_13

set_option maxHeartbeats 4000000 in
set_option maxRecDepth 100000 in
theorem mt_X2_countWithCause (l : Launch) (D : va_G) (cI cJ cZ : ClassId) (l0 : Nat) (l1 : Nat) (l2 : Nat) (N : Nat) (T : Nat) (te : Nat) (ex : Nat) (g : Nat → Nat) (rc : Nat → Nat) (k0 : Nat) (k1 : Nat) (k2 : Nat) (k3 : Nat) (k4 : Nat) (k5 : Nat) (k6 : Nat) (K : Kn) (ee : Nat → Nat) (ca : Nat) (hN2 : N ≤ 252) (hKO : KO K) (hg : ∀ k, k < N → g k = key K (ee k)) (he : ∀ k, k < N → ee k < 1024) (hc : ca < 10) : Met l yX2_countWithCause (aW yX2_countWithCause cX2_countWithCause 4 (some .int)) { frames := 1, cells := 0, slots := 0, locals := 21 } (cP D cI cJ cZ [.ref l0, .int (nI ca)] [(l0, .inr (2, [.ref k0, .ref l1, .int (nI N), .long (lN T), .ref l2, .int (nI te), .int (nI ex)])), (l1, .inl (cJ, 252, .inr (.inl (fL g)))), (l2, .inl (cI, 11, .inl (fN rc))), (k0, .inr (1, [.ref k1, .ref k2, .ref k3, .ref k4, .ref k5, .ref k6])), (k1, .inl (cI, 10, .inl (fN K.1))), (k2, .inl (cI, 10, .inl (fN K.2.1))), (k3, .inl (cI, 10, .inl (fN (lfM K)))), (k4, .inl (cI, 10, .inl (fN (mfM K)))), (k5, .inl (cI, 12, .inl (fN (lcM K)))), (k6, .inl (cI, 12, .inl (fN (mcM K))))]) (vp_Si (fun r => r = nI (ct (fun z => (ee z).testBit ca) N))) 0 0 (fun _ => False) := by
  refine Met.ofW (cc := cX2_countWithCause) (maxL := 4) (ret := (some .int)) (by decide) rfl ?_
  intro p e s m args below meth c s₁ B hml hv
  obtain ⟨hav, hP, hK⟩ := hv
  have hx := B.exec
  have hb := B.bytes
  have hr := B.returns
  have hts := aW_in (atoms_spec (ws := aW yX2_countWithCause cX2_countWithCause 4 (some .int)) B.pre)
  have hown : s.vm.findClass RX2 = some m.cls := findClass_of_methodNamed B.named
  have hlocks := B.notSynchronized
  obtain ⟨R, hR⟩ : ∃ R, R = (headSpec (aW yX2_countWithCause cX2_countWithCause 4 (some .int)) { frames := 1, cells := 0, slots := 0, locals := 21 }).room := ⟨_, rfl⟩
  rw [← hR]
  obtain ⟨Q, hQ⟩ : ∃ Q, Q = MQ below (vp_Si (fun r => r = nI (ct (fun z => (ee z).testBit ca) N))) args s 0 0 (fun _ => False) := ⟨_, rfl⟩
  rw [← hQ]
  have hl := lv_entry [.ref l0, .int (nI ca)] (n := 4) (Nat.le_of_ble_eq_true rfl)
  have hent := lg_entry_eq m [.ref l0, .int (nI ca)] 4
  rw [← hav] at hent
  rw [hent]
  generalize (lg_sl [.ref l0, .int (nI ca)] ++ List.replicate (4 - (lg_sl [.ref l0, .int (nI ca)]).length) Slot.unset).toArray = ls at hl ⊢
  have hl : lv_has ls 4 [(0, .ref l0), (1, .int (nI ca))] := hl
  refine lv_iconst (v := nI 0) hx hb dX2_countWithCause_0 (by decide) ?_
  refine lv_istore_n (lv' := [(2, .int (nI 0)), (0, .ref l0), (1, .int (nI ca))]) hx hb dX2_countWithCause_1 rfl hl (by decide) rfl (fun ls hl => ?_)
  refine lv_iconst (v := nI 0) hx hb dX2_countWithCause_2 (by decide) ?_
  refine lv_istore_n (lv' := [(3, .int (nI 0)), (2, .int (nI 0)), (0, .ref l0), (1, .int (nI ca))]) hx hb dX2_countWithCause_3 rfl hl (by decide) rfl (fun ls hl => ?_)
  have lp4 : ∀ (n : Nat) (j : Nat) (a : Nat) (ls : Array Slot), (j + n = N) → (a = ct (fun z => (ee z).testBit ca) j) → lv_has ls 4 [(3, .int (nI j)), (2, .int (nI a)), (0, .ref l0), (1, .int (nI ca))] → W p l e R s m args below meth c s.heap [] 0 0 Q (F0 m 4 ls []) := by
    intro n
    induction n with
    | zero =>
      intro j a ls hn ha hl
      refine lv_iload_n hx hb dX2_countWithCause_4 rfl (lv_at hl 0 rfl) ?_
      refine lv_aload_n hx hb dX2_countWithCause_5 rfl (lv_at hl 2 rfl) ?_
      refine va_get (D := D) (ci := 2) (v := .int (nI N)) (C := RX2) (T := TX2) (N := 7) hx hb hts inA2 hown hK.1 hP 0 rfl rfl 2 (by decide) (hts _ kf_RX2_23) (fun _ h9 => h9) rfl dX2_countWithCause_6 ?_
      refine x_cge (a := j) (b := N) (tgt := 33) hx hb (by first | assumption | omega) (by first | assumption | omega) dX2_countWithCause_9 (by decide) (fun c9 => ?_) (fun c9 => (by omega))
      refine lv_iload_n hx hb dX2_countWithCause_33 rfl (lv_at hl 1 rfl) ?_
      rw [hQ]
      exact W.iret (v := nI a) hx hb hr (fun t ht hW => ⟨_, rfl, by rw [ha, show j = N by omega], ht⟩) (fun _ h => by cases h) dX2_countWithCause_34
    | succ n ih4 =>
      intro j a ls hn ha hl
      refine lv_iload_n hx hb dX2_countWithCause_4 rfl (lv_at hl 0 rfl) ?_
      refine lv_aload_n hx hb dX2_countWithCause_5 rfl (lv_at hl 2 rfl) ?_
      refine va_get (D := D) (ci := 2) (v := .int (nI N)) (C := RX2) (T := TX2) (N := 7) hx hb hts inA2 hown hK.1 hP 0 rfl rfl 2 (by decide) (hts _ kf_RX2_23) (fun _ h9 => h9) rfl dX2_countWithCause_6 ?_
      refine x_cge (a := j) (b := N) (tgt := 33) hx hb (by first | assumption | omega) (by first | assumption | omega) dX2_countWithCause_9 (by decide) (fun c9 => (by omega)) (fun c9 => ?_)
      refine lv_aload_n hx hb dX2_countWithCause_12 rfl (lv_at hl 2 rfl) ?_
      refine lv_iload_n hx hb dX2_countWithCause_13 rfl (lv_at hl 0 rfl) ?_
      refine vp_callSi (va_Run.run (va_runV (As := [.int (nI j)]) (rest := []) ⟨hx, hb, hml, hown, hts⟩ (mt_X2_setOf l D cI cJ cZ l0 l1 l2 N T te ex g rc k0 k1 k2 k3 k4 k5 k6 K ee j (by first | assumption | omega) (by first | assumption | omega) (by first | assumption | omega) (by first | assumption | omega) (by first | assumption | omega)) (cwV 1 hts (gV km_RX2_89 ki_yX2_setOf kl_yX2_setOf kn_RX2 kc_yX2_setOf) rfl rfl rfl (by decide +kernel) (by rw [hR]; exact ⟨Nat.le_of_ble_eq_true rfl, Nat.le_of_ble_eq_true rfl⟩)) (cP_V (q0 := 0) (ci := 2) hK (hP.sub [0, 1, 2, 3, 4, 5, 6, 7, 8, 9] rfl) rfl rfl) rfl rfl hl.1 rfl (lv_room (Nat.le_of_ble_eq_true rfl)) dX2_countWithCause_14 ⟨Nat.zero_le _, Nat.zero_le _⟩)) (fun r_ hr_ => ?_)
      subst hr_
      refine lv_iload_n hx hb dX2_countWithCause_17 rfl (lv_at hl 3 rfl) ?_
      refine vp_callSi (va_Run.run (va_runSN (As := [.int (nI (ee j)), .int (nI ca)]) (rest := []) ⟨hx, hb, hml, hown, hts⟩ (mt_X6_has l D cI cJ cZ (ee j) ca (Nat.lt_trans (he _ (by omega)) (by decide)) (by first | assumption | omega)) ⟨va_cnB 2 hts (aW_good kc_yX6_has) rfl rfl rfl hK.2.2.1 (hts _ kn_RX6) (by decide +kernel) (by rw [hR]; exact ⟨Nat.le_of_ble_eq_true rfl, Nat.le_of_ble_eq_true rfl⟩), hts _ ks_yX6_has, trivial⟩ (cP_S hK (fun k q h => by simp at h)) rfl rfl hl.1 rfl (lv_room (Nat.le_of_ble_eq_true rfl)) dX2_countWithCause_18 ⟨Nat.zero_le _, Nat.zero_le _⟩)) (fun r_ hr_ => ?_)
      subst hr_
      refine x_beq (tgt := 27) hx hb dX2_countWithCause_21 (by decide) (fun c21 => ?_) (fun c21 => ?_)
      · refine lv_iinc (v := nI (j + 1)) (lv' := [(3, .int (nI (j + 1))), (2, .int (nI a)), (0, .ref l0), (1, .int (nI ca))]) hx hb dX2_countWithCause_27 hl (k := 0) rfl (x_inc1 _) (by decide) rfl (fun ls hl => ?_)
        refine lv_goto (tgt := 4) hx hb dX2_countWithCause_30 (by decide) ?_
        exact ih4 (j + 1) a ls (by omega) (by rw [ha]; simp [ct, c21]) (lv_sub hl [0, 1, 2, 3] rfl)
      · refine lv_iinc (v := nI (a + 1)) (lv' := [(2, .int (nI (a + 1))), (3, .int (nI j)), (0, .ref l0), (1, .int (nI ca))]) hx hb dX2_countWithCause_24 hl (k := 1) rfl (x_inc1 _) (by decide) rfl (fun ls hl => ?_)
        refine lv_iinc (v := nI (j + 1)) (lv' := [(3, .int (nI (j + 1))), (2, .int (nI (a + 1))), (0, .ref l0), (1, .int (nI ca))]) hx hb dX2_countWithCause_27 hl (k := 1) rfl (x_inc1 _) (by decide) rfl (fun ls hl => ?_)
        refine lv_goto (tgt := 4) hx hb dX2_countWithCause_30 (by decide) ?_
        exact ih4 (j + 1) (a + 1) ls (by omega) (by rw [ha]; simp [ct, c21]) (lv_sub hl [0, 1, 2, 3] rfl)
  exact lp4 (N) 0 0 ls (by omega) (rfl) (lv_sub hl [0, 1, 2, 3] rfl)

set_option maxHeartbeats 4000000 in
set_option maxRecDepth 100000 in
theorem mt_X2_weightWithCause (l : Launch) (D : va_G) (cI cJ cZ : ClassId) (l0 : Nat) (l1 : Nat) (l2 : Nat) (N : Nat) (T : Nat) (te : Nat) (ex : Nat) (g : Nat → Nat) (rc : Nat → Nat) (k0 : Nat) (k1 : Nat) (k2 : Nat) (k3 : Nat) (k4 : Nat) (k5 : Nat) (k6 : Nat) (K : Kn) (ee : Nat → Nat) (ca : Nat) (hN2 : N ≤ 252) (hKO : KO K) (hg : ∀ k, k < N → g k = key K (ee k)) (he : ∀ k, k < N → ee k < 1024) (hc : ca < 10) : Met l yX2_weightWithCause (aW yX2_weightWithCause cX2_weightWithCause 5 (some .long)) { frames := 1, cells := 0, slots := 0, locals := 21 } (cP D cI cJ cZ [.ref l0, .int (nI ca)] [(l0, .inr (2, [.ref k0, .ref l1, .int (nI N), .long (lN T), .ref l2, .int (nI te), .int (nI ex)])), (l1, .inl (cJ, 252, .inr (.inl (fL g)))), (l2, .inl (cI, 11, .inl (fN rc))), (k0, .inr (1, [.ref k1, .ref k2, .ref k3, .ref k4, .ref k5, .ref k6])), (k1, .inl (cI, 10, .inl (fN K.1))), (k2, .inl (cI, 10, .inl (fN K.2.1))), (k3, .inl (cI, 10, .inl (fN (lfM K)))), (k4, .inl (cI, 10, .inl (fN (mfM K)))), (k5, .inl (cI, 12, .inl (fN (lcM K)))), (k6, .inl (cI, 12, .inl (fN (mcM K))))]) (vp_Sl (fun r => r = lN (smC K ee ca N))) 0 0 (fun _ => False) := by
  refine Met.ofW (cc := cX2_weightWithCause) (maxL := 5) (ret := (some .long)) (by decide) rfl ?_
  intro p e s m args below meth c s₁ B hml hv
  obtain ⟨hav, hP, hK⟩ := hv
  have hx := B.exec
  have hb := B.bytes
  have hr := B.returns
  have hts := aW_in (atoms_spec (ws := aW yX2_weightWithCause cX2_weightWithCause 5 (some .long)) B.pre)
  have hown : s.vm.findClass RX2 = some m.cls := findClass_of_methodNamed B.named
  have hlocks := B.notSynchronized
  obtain ⟨R, hR⟩ : ∃ R, R = (headSpec (aW yX2_weightWithCause cX2_weightWithCause 5 (some .long)) { frames := 1, cells := 0, slots := 0, locals := 21 }).room := ⟨_, rfl⟩
  rw [← hR]
  obtain ⟨Q, hQ⟩ : ∃ Q, Q = MQ below (vp_Sl (fun r => r = lN (smC K ee ca N))) args s 0 0 (fun _ => False) := ⟨_, rfl⟩
  rw [← hQ]
  have hl := lv_entry [.ref l0, .int (nI ca)] (n := 5) (Nat.le_of_ble_eq_true rfl)
  have hent := lg_entry_eq m [.ref l0, .int (nI ca)] 5
  rw [← hav] at hent
  rw [hent]
  generalize (lg_sl [.ref l0, .int (nI ca)] ++ List.replicate (5 - (lg_sl [.ref l0, .int (nI ca)]).length) Slot.unset).toArray = ls at hl ⊢
  have hl : lv_has ls 5 [(0, .ref l0), (1, .int (nI ca))] := hl
  refine lv_lconst (v := lN 0) hx hb dX2_weightWithCause_0 rfl ?_
  refine lv_lstore_n (lv' := [(2, .long (lN 0)), (0, .ref l0), (1, .int (nI ca))]) hx hb dX2_weightWithCause_1 rfl hl (by decide) rfl (fun ls hl => ?_)
  refine lv_iconst (v := nI 0) hx hb dX2_weightWithCause_2 (by decide) ?_
  refine lv_istore (lv' := [(4, .int (nI 0)), (2, .long (lN 0)), (0, .ref l0), (1, .int (nI ca))]) hx hb dX2_weightWithCause_3 hl (by decide) rfl (fun ls hl => ?_)
  have lp5 : ∀ (n : Nat) (j : Nat) (a : Nat) (ls : Array Slot), (j + n = N) → (a = smC K ee ca j) → lv_has ls 5 [(4, .int (nI j)), (2, .long (lN a)), (0, .ref l0), (1, .int (nI ca))] → W p l e R s m args below meth c s.heap [] 0 0 Q (F0 m 5 ls []) := by
    intro n
    induction n with
    | zero =>
      intro j a ls hn ha hl
      refine lv_iload hx hb dX2_weightWithCause_5 (lv_at hl 0 rfl) ?_
      refine lv_aload_n hx hb dX2_weightWithCause_7 rfl (lv_at hl 2 rfl) ?_
      refine va_get (D := D) (ci := 2) (v := .int (nI N)) (C := RX2) (T := TX2) (N := 7) hx hb hts inA2 hown hK.1 hP 0 rfl rfl 2 (by decide) (hts _ kf_RX2_23) (fun _ h9 => h9) rfl dX2_weightWithCause_8 ?_
      refine x_cge (a := j) (b := N) (tgt := 42) hx hb (by first | assumption | omega) (by first | assumption | omega) dX2_weightWithCause_11 (by decide) (fun c11 => ?_) (fun c11 => (by omega))
      refine lv_lload_n hx hb dX2_weightWithCause_42 rfl (lv_at hl 1 rfl) ?_
      rw [hQ]
      exact W.lret (v := lN a) hx hb hr (fun t ht hW => ⟨_, rfl, by rw [ha, show j = N by omega], ht⟩) (fun _ h => by cases h) dX2_weightWithCause_43
    | succ n ih5 =>
      intro j a ls hn ha hl
      refine lv_iload hx hb dX2_weightWithCause_5 (lv_at hl 0 rfl) ?_
      refine lv_aload_n hx hb dX2_weightWithCause_7 rfl (lv_at hl 2 rfl) ?_
      refine va_get (D := D) (ci := 2) (v := .int (nI N)) (C := RX2) (T := TX2) (N := 7) hx hb hts inA2 hown hK.1 hP 0 rfl rfl 2 (by decide) (hts _ kf_RX2_23) (fun _ h9 => h9) rfl dX2_weightWithCause_8 ?_
      refine x_cge (a := j) (b := N) (tgt := 42) hx hb (by first | assumption | omega) (by first | assumption | omega) dX2_weightWithCause_11 (by decide) (fun c11 => (by omega)) (fun c11 => ?_)
      refine lv_aload_n hx hb dX2_weightWithCause_14 rfl (lv_at hl 2 rfl) ?_
      refine lv_iload hx hb dX2_weightWithCause_15 (lv_at hl 0 rfl) ?_
      refine vp_callSi (va_Run.run (va_runV (As := [.int (nI j)]) (rest := []) ⟨hx, hb, hml, hown, hts⟩ (mt_X2_setOf l D cI cJ cZ l0 l1 l2 N T te ex g rc k0 k1 k2 k3 k4 k5 k6 K ee j (by first | assumption | omega) (by first | assumption | omega) (by first | assumption | omega) (by first | assumption | omega) (by first | assumption | omega)) (cwV 1 hts (gV km_RX2_89 ki_yX2_setOf kl_yX2_setOf kn_RX2 kc_yX2_setOf) rfl rfl rfl (by decide +kernel) (by rw [hR]; exact ⟨Nat.le_of_ble_eq_true rfl, Nat.le_of_ble_eq_true rfl⟩)) (cP_V (q0 := 0) (ci := 2) hK (hP.sub [0, 1, 2, 3, 4, 5, 6, 7, 8, 9] rfl) rfl rfl) rfl rfl hl.1 rfl (lv_room (Nat.le_of_ble_eq_true rfl)) dX2_weightWithCause_17 ⟨Nat.zero_le _, Nat.zero_le _⟩)) (fun r_ hr_ => ?_)
      subst hr_
      refine lv_iload_n hx hb dX2_weightWithCause_20 rfl (lv_at hl 3 rfl) ?_
      refine vp_callSi (va_Run.run (va_runSN (As := [.int (nI (ee j)), .int (nI ca)]) (rest := []) ⟨hx, hb, hml, hown, hts⟩ (mt_X6_has l D cI cJ cZ (ee j) ca (Nat.lt_trans (he _ (by omega)) (by decide)) (by first | assumption | omega)) ⟨va_cnB 2 hts (aW_good kc_yX6_has) rfl rfl rfl hK.2.2.1 (hts _ kn_RX6) (by decide +kernel) (by rw [hR]; exact ⟨Nat.le_of_ble_eq_true rfl, Nat.le_of_ble_eq_true rfl⟩), hts _ ks_yX6_has, trivial⟩ (cP_S hK (fun k q h => by simp at h)) rfl rfl hl.1 rfl (lv_room (Nat.le_of_ble_eq_true rfl)) dX2_weightWithCause_21 ⟨Nat.zero_le _, Nat.zero_le _⟩)) (fun r_ hr_ => ?_)
      subst hr_
      refine x_beq (tgt := 36) hx hb dX2_weightWithCause_24 (by decide) (fun c24 => ?_) (fun c24 => ?_)
      · refine lv_iinc (v := nI (j + 1)) (lv' := [(4, .int (nI (j + 1))), (2, .long (lN a)), (0, .ref l0), (1, .int (nI ca))]) hx hb dX2_weightWithCause_36 hl (k := 0) rfl (x_inc1 _) (by decide) rfl (fun ls hl => ?_)
        refine lv_goto (tgt := 5) hx hb dX2_weightWithCause_39 (by decide) ?_
        exact ih5 (j + 1) a ls (by omega) (by rw [ha]; simp [smC, sm, c24]) (lv_sub hl [0, 1, 2, 3] rfl)
      · refine lv_lload_n hx hb dX2_weightWithCause_27 rfl (lv_at hl 1 rfl) ?_
        refine lv_aload_n hx hb dX2_weightWithCause_28 rfl (lv_at hl 2 rfl) ?_
        refine lv_iload hx hb dX2_weightWithCause_29 (lv_at hl 0 rfl) ?_
        refine vp_callSl (va_Run.run (va_runV (As := [.int (nI j)]) (rest := [.long (lN a)]) ⟨hx, hb, hml, hown, hts⟩ (mt_X2_weightOf l D cI cJ cZ l0 l1 l2 N T te ex g rc k0 k1 k2 k3 k4 k5 k6 K ee j (by first | assumption | omega) (by first | assumption | omega) (by first | assumption | omega) (by first | assumption | omega) (by first | assumption | omega)) (cwV 1 hts (gV km_RX2_92 ki_yX2_weightOf kl_yX2_weightOf kn_RX2 kc_yX2_weightOf) rfl rfl rfl (by decide +kernel) (by rw [hR]; exact ⟨Nat.le_of_ble_eq_true rfl, Nat.le_of_ble_eq_true rfl⟩)) (cP_V (q0 := 0) (ci := 2) hK (hP.sub [0, 1, 2, 3, 4, 5, 6, 7, 8, 9] rfl) rfl rfl) rfl rfl hl.1 rfl (lv_room (Nat.le_of_ble_eq_true rfl)) dX2_weightWithCause_31 ⟨Nat.zero_le _, Nat.zero_le _⟩)) (fun r_ hr_ => ?_)
        subst hr_
        refine x_ladd (z := lN (a + (wt K (ee j)))) hx hb dX2_weightWithCause_34 (lN_add _ _) ?_
        refine lv_lstore_n (lv' := [(2, .long (lN (a + (wt K (ee j))))), (4, .int (nI j)), (0, .ref l0), (1, .int (nI ca))]) hx hb dX2_weightWithCause_35 rfl hl (by decide) rfl (fun ls hl => ?_)
        refine lv_iinc (v := nI (j + 1)) (lv' := [(4, .int (nI (j + 1))), (2, .long (lN (a + (wt K (ee j))))), (0, .ref l0), (1, .int (nI ca))]) hx hb dX2_weightWithCause_36 hl (k := 1) rfl (x_inc1 _) (by decide) rfl (fun ls hl => ?_)
        refine lv_goto (tgt := 5) hx hb dX2_weightWithCause_39 (by decide) ?_
        exact ih5 (j + 1) (a + (wt K (ee j))) ls (by omega) (by rw [ha]; simp [smC, sm, c24]) (lv_sub hl [0, 1, 2, 3] rfl)
  exact lp5 (N) 0 0 ls (by omega) (rfl) (lv_sub hl [0, 1, 2, 3] rfl)

set_option maxHeartbeats 4000000 in
set_option maxRecDepth 100000 in
theorem mt_X2_countForetelling (l : Launch) (D : va_G) (cI cJ cZ : ClassId) (l0 : Nat) (l1 : Nat) (l2 : Nat) (N : Nat) (T : Nat) (te : Nat) (ex : Nat) (g : Nat → Nat) (rc : Nat → Nat) (k0 : Nat) (k1 : Nat) (k2 : Nat) (k3 : Nat) (k4 : Nat) (k5 : Nat) (k6 : Nat) (K : Kn) (ee : Nat → Nat) (fi : Nat) (v : Nat) (hN2 : N ≤ 252) (hKO : KO K) (hg : ∀ k, k < N → g k = key K (ee k)) (he : ∀ k, k < N → ee k < 1024) (hf : fi < 12) (hv : v ≤ 2) : Met l yX2_countForetelling (aW yX2_countForetelling cX2_countForetelling 5 (some .int)) { frames := 2, cells := 0, slots := 0, locals := 44 } (cP D cI cJ cZ [.ref l0, .int (nI fi), .int (nI v)] [(l0, .inr (2, [.ref k0, .ref l1, .int (nI N), .long (lN T), .ref l2, .int (nI te), .int (nI ex)])), (l1, .inl (cJ, 252, .inr (.inl (fL g)))), (l2, .inl (cI, 11, .inl (fN rc))), (k0, .inr (1, [.ref k1, .ref k2, .ref k3, .ref k4, .ref k5, .ref k6])), (k1, .inl (cI, 10, .inl (fN K.1))), (k2, .inl (cI, 10, .inl (fN K.2.1))), (k3, .inl (cI, 10, .inl (fN (lfM K)))), (k4, .inl (cI, 10, .inl (fN (mfM K)))), (k5, .inl (cI, 12, .inl (fN (lcM K)))), (k6, .inl (cI, 12, .inl (fN (mcM K))))]) (vp_Si (fun r => r = nI (ct (fun z => fort K (ee z) fi == v) N))) 0 0 (fun _ => False) := by
  refine Met.ofW (cc := cX2_countForetelling) (maxL := 5) (ret := (some .int)) (by decide) rfl ?_
  intro p e s m args below meth c s₁ B hml hv
  obtain ⟨hav, hP, hK⟩ := hv
  have hx := B.exec
  have hb := B.bytes
  have hr := B.returns
  have hts := aW_in (atoms_spec (ws := aW yX2_countForetelling cX2_countForetelling 5 (some .int)) B.pre)
  have hown : s.vm.findClass RX2 = some m.cls := findClass_of_methodNamed B.named
  have hlocks := B.notSynchronized
  obtain ⟨R, hR⟩ : ∃ R, R = (headSpec (aW yX2_countForetelling cX2_countForetelling 5 (some .int)) { frames := 2, cells := 0, slots := 0, locals := 44 }).room := ⟨_, rfl⟩
  rw [← hR]
  obtain ⟨Q, hQ⟩ : ∃ Q, Q = MQ below (vp_Si (fun r => r = nI (ct (fun z => fort K (ee z) fi == v) N))) args s 0 0 (fun _ => False) := ⟨_, rfl⟩
  rw [← hQ]
  have hl := lv_entry [.ref l0, .int (nI fi), .int (nI v)] (n := 5) (Nat.le_of_ble_eq_true rfl)
  have hent := lg_entry_eq m [.ref l0, .int (nI fi), .int (nI v)] 5
  rw [← hav] at hent
  rw [hent]
  generalize (lg_sl [.ref l0, .int (nI fi), .int (nI v)] ++ List.replicate (5 - (lg_sl [.ref l0, .int (nI fi), .int (nI v)]).length) Slot.unset).toArray = ls at hl ⊢
  have hl : lv_has ls 5 [(0, .ref l0), (1, .int (nI fi)), (2, .int (nI v))] := hl
  refine lv_iconst (v := nI 0) hx hb dX2_countForetelling_0 (by decide) ?_
  refine lv_istore_n (lv' := [(3, .int (nI 0)), (0, .ref l0), (1, .int (nI fi)), (2, .int (nI v))]) hx hb dX2_countForetelling_1 rfl hl (by decide) rfl (fun ls hl => ?_)
  refine lv_iconst (v := nI 0) hx hb dX2_countForetelling_2 (by decide) ?_
  refine lv_istore (lv' := [(4, .int (nI 0)), (3, .int (nI 0)), (0, .ref l0), (1, .int (nI fi)), (2, .int (nI v))]) hx hb dX2_countForetelling_3 hl (by decide) rfl (fun ls hl => ?_)
  have lp5 : ∀ (n : Nat) (j : Nat) (a : Nat) (ls : Array Slot), (j + n = N) → (a = ct (fun z => fort K (ee z) fi == v) j) → lv_has ls 5 [(4, .int (nI j)), (3, .int (nI a)), (0, .ref l0), (1, .int (nI fi)), (2, .int (nI v))] → W p l e R s m args below meth c s.heap [] 0 0 Q (F0 m 5 ls []) := by
    intro n
    induction n with
    | zero =>
      intro j a ls hn ha hl
      refine lv_iload hx hb dX2_countForetelling_5 (lv_at hl 0 rfl) ?_
      refine lv_aload_n hx hb dX2_countForetelling_7 rfl (lv_at hl 2 rfl) ?_
      refine va_get (D := D) (ci := 2) (v := .int (nI N)) (C := RX2) (T := TX2) (N := 7) hx hb hts inA2 hown hK.1 hP 0 rfl rfl 2 (by decide) (hts _ kf_RX2_23) (fun _ h9 => h9) rfl dX2_countForetelling_8 ?_
      refine x_cge (a := j) (b := N) (tgt := 34) hx hb (by first | assumption | omega) (by first | assumption | omega) dX2_countForetelling_11 (by decide) (fun c11 => ?_) (fun c11 => (by omega))
      refine lv_iload_n hx hb dX2_countForetelling_34 rfl (lv_at hl 1 rfl) ?_
      rw [hQ]
      exact W.iret (v := nI a) hx hb hr (fun t ht hW => ⟨_, rfl, by rw [ha, show j = N by omega], ht⟩) (fun _ h => by cases h) dX2_countForetelling_35
    | succ n ih5 =>
      intro j a ls hn ha hl
      refine lv_iload hx hb dX2_countForetelling_5 (lv_at hl 0 rfl) ?_
      refine lv_aload_n hx hb dX2_countForetelling_7 rfl (lv_at hl 2 rfl) ?_
      refine va_get (D := D) (ci := 2) (v := .int (nI N)) (C := RX2) (T := TX2) (N := 7) hx hb hts inA2 hown hK.1 hP 0 rfl rfl 2 (by decide) (hts _ kf_RX2_23) (fun _ h9 => h9) rfl dX2_countForetelling_8 ?_
      refine x_cge (a := j) (b := N) (tgt := 34) hx hb (by first | assumption | omega) (by first | assumption | omega) dX2_countForetelling_11 (by decide) (fun c11 => (by omega)) (fun c11 => ?_)
      refine lv_aload_n hx hb dX2_countForetelling_14 rfl (lv_at hl 2 rfl) ?_
      refine lv_iload hx hb dX2_countForetelling_15 (lv_at hl 0 rfl) ?_
      refine lv_iload_n hx hb dX2_countForetelling_17 rfl (lv_at hl 3 rfl) ?_
      refine vp_callSi (va_Run.run (va_runV (As := [.int (nI j), .int (nI fi)]) (rest := []) ⟨hx, hb, hml, hown, hts⟩ (mt_X2_foretoldBy l D cI cJ cZ l0 l1 l2 N T te ex g rc k0 k1 k2 k3 k4 k5 k6 K ee j fi (by first | assumption | omega) (by first | assumption | omega) (by first | assumption | omega) (by first | assumption | omega) (by first | assumption | omega) (by first | assumption | omega)) (cwV 2 hts (gV km_RX2_96 ki_yX2_foretoldBy kl_yX2_foretoldBy kn_RX2 kc_yX2_foretoldBy) rfl rfl rfl (by decide +kernel) (by rw [hR]; exact ⟨Nat.le_of_ble_eq_true rfl, Nat.le_of_ble_eq_true rfl⟩)) (cP_V (q0 := 0) (ci := 2) hK (hP.sub [0, 1, 2, 3, 4, 5, 6, 7, 8, 9] rfl) rfl rfl) rfl rfl hl.1 rfl (lv_room (Nat.le_of_ble_eq_true rfl)) dX2_countForetelling_18 ⟨Nat.zero_le _, Nat.zero_le _⟩)) (fun r_ hr_ => ?_)
      subst hr_
      refine lv_iload_n hx hb dX2_countForetelling_21 rfl (lv_at hl 4 rfl) ?_
      refine x_cne (a := fort K (ee j) fi) (b := v) (tgt := 28) hx hb (Nat.lt_of_le_of_lt (fort_le _ _ _) (by decide)) (by first | assumption | omega) dX2_countForetelling_22 (by decide) (fun c22 => ?_) (fun c22 => ?_)
      · refine lv_iinc (v := nI (j + 1)) (lv' := [(4, .int (nI (j + 1))), (3, .int (nI a)), (0, .ref l0), (1, .int (nI fi)), (2, .int (nI v))]) hx hb dX2_countForetelling_28 hl (k := 0) rfl (x_inc1 _) (by decide) rfl (fun ls hl => ?_)
        refine lv_goto (tgt := 5) hx hb dX2_countForetelling_31 (by decide) ?_
        exact ih5 (j + 1) a ls (by omega) (by rw [ha]; simp [ct, c22]) (lv_sub hl [0, 1, 2, 3, 4] rfl)
      · refine lv_iinc (v := nI (a + 1)) (lv' := [(3, .int (nI (a + 1))), (4, .int (nI j)), (0, .ref l0), (1, .int (nI fi)), (2, .int (nI v))]) hx hb dX2_countForetelling_25 hl (k := 1) rfl (x_inc1 _) (by decide) rfl (fun ls hl => ?_)
        refine lv_iinc (v := nI (j + 1)) (lv' := [(4, .int (nI (j + 1))), (3, .int (nI (a + 1))), (0, .ref l0), (1, .int (nI fi)), (2, .int (nI v))]) hx hb dX2_countForetelling_28 hl (k := 1) rfl (x_inc1 _) (by decide) rfl (fun ls hl => ?_)
        refine lv_goto (tgt := 5) hx hb dX2_countForetelling_31 (by decide) ?_
        exact ih5 (j + 1) (a + 1) ls (by omega) (by rw [ha]; simp [ct, c22]) (lv_sub hl [0, 1, 2, 3, 4] rfl)
  exact lp5 (N) 0 0 ls (by omega) (rfl) (lv_sub hl [0, 1, 2, 3, 4] rfl)

set_option maxHeartbeats 4000000 in
set_option maxRecDepth 100000 in
theorem mt_X2_causesInAll (l : Launch) (D : va_G) (cI cJ cZ : ClassId) (l0 : Nat) (l1 : Nat) (l2 : Nat) (N : Nat) (T : Nat) (te : Nat) (ex : Nat) (g : Nat → Nat) (rc : Nat → Nat) (k0 : Nat) (k1 : Nat) (k2 : Nat) (k3 : Nat) (k4 : Nat) (k5 : Nat) (k6 : Nat) (K : Kn) (ee : Nat → Nat) (hN2 : N ≤ 252) (hKO : KO K) (hg : ∀ k, k < N → g k = key K (ee k)) (he : ∀ k, k < N → ee k < 1024) : Met l yX2_causesInAll (aW yX2_causesInAll cX2_causesInAll 3 (some .int)) { frames := 1, cells := 0, slots := 0, locals := 21 } (cP D cI cJ cZ [.ref l0] [(l0, .inr (2, [.ref k0, .ref l1, .int (nI N), .long (lN T), .ref l2, .int (nI te), .int (nI ex)])), (l1, .inl (cJ, 252, .inr (.inl (fL g)))), (l2, .inl (cI, 11, .inl (fN rc))), (k0, .inr (1, [.ref k1, .ref k2, .ref k3, .ref k4, .ref k5, .ref k6])), (k1, .inl (cI, 10, .inl (fN K.1))), (k2, .inl (cI, 10, .inl (fN K.2.1))), (k3, .inl (cI, 10, .inl (fN (lfM K)))), (k4, .inl (cI, 10, .inl (fN (mfM K)))), (k5, .inl (cI, 12, .inl (fN (lcM K)))), (k6, .inl (cI, 12, .inl (fN (mcM K))))]) (vp_Si (fun r => r = nI (andN ee N))) 0 0 (fun _ => False) := by
  refine Met.ofW (cc := cX2_causesInAll) (maxL := 3) (ret := (some .int)) (by decide) rfl ?_
  intro p e s m args below meth c s₁ B hml hv
  obtain ⟨hav, hP, hK⟩ := hv
  have hx := B.exec
  have hb := B.bytes
  have hr := B.returns
  have hts := aW_in (atoms_spec (ws := aW yX2_causesInAll cX2_causesInAll 3 (some .int)) B.pre)
  have hown : s.vm.findClass RX2 = some m.cls := findClass_of_methodNamed B.named
  have hlocks := B.notSynchronized
  obtain ⟨R, hR⟩ : ∃ R, R = (headSpec (aW yX2_causesInAll cX2_causesInAll 3 (some .int)) { frames := 1, cells := 0, slots := 0, locals := 21 }).room := ⟨_, rfl⟩
  rw [← hR]
  obtain ⟨Q, hQ⟩ : ∃ Q, Q = MQ below (vp_Si (fun r => r = nI (andN ee N))) args s 0 0 (fun _ => False) := ⟨_, rfl⟩
  rw [← hQ]
  have hl := lv_entry [.ref l0] (n := 3) (Nat.le_of_ble_eq_true rfl)
  have hent := lg_entry_eq m [.ref l0] 3
  rw [← hav] at hent
  rw [hent]
  generalize (lg_sl [.ref l0] ++ List.replicate (3 - (lg_sl [.ref l0]).length) Slot.unset).toArray = ls at hl ⊢
  have hl : lv_has ls 3 [(0, .ref l0)] := hl
  refine lv_sipush (v := nI 1023) hx hb dX2_causesInAll_0 (by decide) ?_
  refine lv_istore_n (lv' := [(1, .int (nI 1023)), (0, .ref l0)]) hx hb dX2_causesInAll_3 rfl hl (by decide) rfl (fun ls hl => ?_)
  refine lv_iconst (v := nI 0) hx hb dX2_causesInAll_4 (by decide) ?_
  refine lv_istore_n (lv' := [(2, .int (nI 0)), (1, .int (nI 1023)), (0, .ref l0)]) hx hb dX2_causesInAll_5 rfl hl (by decide) rfl (fun ls hl => ?_)
  have lp6 : ∀ (n : Nat) (j : Nat) (a : Nat) (ls : Array Slot), (j + n = N) → (a = andN ee j) → lv_has ls 3 [(2, .int (nI j)), (1, .int (nI a)), (0, .ref l0)] → W p l e R s m args below meth c s.heap [] 0 0 Q (F0 m 6 ls []) := by
    intro n
    induction n with
    | zero =>
      intro j a ls hn ha hl
      refine lv_iload_n hx hb dX2_causesInAll_6 rfl (lv_at hl 0 rfl) ?_
      refine lv_aload_n hx hb dX2_causesInAll_7 rfl (lv_at hl 2 rfl) ?_
      refine va_get (D := D) (ci := 2) (v := .int (nI N)) (C := RX2) (T := TX2) (N := 7) hx hb hts inA2 hown hK.1 hP 0 rfl rfl 2 (by decide) (hts _ kf_RX2_23) (fun _ h9 => h9) rfl dX2_causesInAll_8 ?_
      refine x_cge (a := j) (b := N) (tgt := 28) hx hb (by first | assumption | omega) (by first | assumption | omega) dX2_causesInAll_11 (by decide) (fun c11 => ?_) (fun c11 => (by omega))
      refine lv_iload_n hx hb dX2_causesInAll_28 rfl (lv_at hl 1 rfl) ?_
      rw [hQ]
      exact W.iret (v := nI a) hx hb hr (fun t ht hW => ⟨_, rfl, by rw [ha, show j = N by omega], ht⟩) (fun _ h => by cases h) dX2_causesInAll_29
    | succ n ih6 =>
      intro j a ls hn ha hl
      refine lv_iload_n hx hb dX2_causesInAll_6 rfl (lv_at hl 0 rfl) ?_
      refine lv_aload_n hx hb dX2_causesInAll_7 rfl (lv_at hl 2 rfl) ?_
      refine va_get (D := D) (ci := 2) (v := .int (nI N)) (C := RX2) (T := TX2) (N := 7) hx hb hts inA2 hown hK.1 hP 0 rfl rfl 2 (by decide) (hts _ kf_RX2_23) (fun _ h9 => h9) rfl dX2_causesInAll_8 ?_
      refine x_cge (a := j) (b := N) (tgt := 28) hx hb (by first | assumption | omega) (by first | assumption | omega) dX2_causesInAll_11 (by decide) (fun c11 => (by omega)) (fun c11 => ?_)
      refine lv_iload_n hx hb dX2_causesInAll_14 rfl (lv_at hl 1 rfl) ?_
      refine lv_aload_n hx hb dX2_causesInAll_15 rfl (lv_at hl 2 rfl) ?_
      refine lv_iload_n hx hb dX2_causesInAll_16 rfl (lv_at hl 0 rfl) ?_
      refine vp_callSi (va_Run.run (va_runV (As := [.int (nI j)]) (rest := [.int (nI a)]) ⟨hx, hb, hml, hown, hts⟩ (mt_X2_setOf l D cI cJ cZ l0 l1 l2 N T te ex g rc k0 k1 k2 k3 k4 k5 k6 K ee j (by first | assumption | omega) (by first | assumption | omega) (by first | assumption | omega) (by first | assumption | omega) (by first | assumption | omega)) (cwV 1 hts (gV km_RX2_89 ki_yX2_setOf kl_yX2_setOf kn_RX2 kc_yX2_setOf) rfl rfl rfl (by decide +kernel) (by rw [hR]; exact ⟨Nat.le_of_ble_eq_true rfl, Nat.le_of_ble_eq_true rfl⟩)) (cP_V (q0 := 0) (ci := 2) hK (hP.sub [0, 1, 2, 3, 4, 5, 6, 7, 8, 9] rfl) rfl rfl) rfl rfl hl.1 rfl (lv_room (Nat.le_of_ble_eq_true rfl)) dX2_causesInAll_17 ⟨Nat.zero_le _, Nat.zero_le _⟩)) (fun r_ hr_ => ?_)
      subst hr_
      refine x_iand (z := nI (a &&& (ee j))) hx hb dX2_causesInAll_20 (z_and _ _) ?_
      refine lv_istore_n (lv' := [(1, .int (nI (a &&& (ee j)))), (2, .int (nI j)), (0, .ref l0)]) hx hb dX2_causesInAll_21 rfl hl (by decide) rfl (fun ls hl => ?_)
      refine lv_iinc (v := nI (j + 1)) (lv' := [(2, .int (nI (j + 1))), (1, .int (nI (a &&& (ee j)))), (0, .ref l0)]) hx hb dX2_causesInAll_22 hl (k := 1) rfl (x_inc1 _) (by decide) rfl (fun ls hl => ?_)
      refine lv_goto (tgt := 6) hx hb dX2_causesInAll_25 (by decide) ?_
      exact ih6 (j + 1) (a &&& (ee j)) ls (by omega) (by rw [ha]; rfl) (lv_sub hl [0, 1, 2] rfl)
  exact lp6 (N) 0 1023 ls (by omega) (rfl) (lv_sub hl [0, 1, 2] rfl)

set_option maxHeartbeats 4000000 in
set_option maxRecDepth 100000 in
theorem mt_X2_causesInAny (l : Launch) (D : va_G) (cI cJ cZ : ClassId) (l0 : Nat) (l1 : Nat) (l2 : Nat) (N : Nat) (T : Nat) (te : Nat) (ex : Nat) (g : Nat → Nat) (rc : Nat → Nat) (k0 : Nat) (k1 : Nat) (k2 : Nat) (k3 : Nat) (k4 : Nat) (k5 : Nat) (k6 : Nat) (K : Kn) (ee : Nat → Nat) (hN2 : N ≤ 252) (hKO : KO K) (hg : ∀ k, k < N → g k = key K (ee k)) (he : ∀ k, k < N → ee k < 1024) : Met l yX2_causesInAny (aW yX2_causesInAny cX2_causesInAny 3 (some .int)) { frames := 1, cells := 0, slots := 0, locals := 21 } (cP D cI cJ cZ [.ref l0] [(l0, .inr (2, [.ref k0, .ref l1, .int (nI N), .long (lN T), .ref l2, .int (nI te), .int (nI ex)])), (l1, .inl (cJ, 252, .inr (.inl (fL g)))), (l2, .inl (cI, 11, .inl (fN rc))), (k0, .inr (1, [.ref k1, .ref k2, .ref k3, .ref k4, .ref k5, .ref k6])), (k1, .inl (cI, 10, .inl (fN K.1))), (k2, .inl (cI, 10, .inl (fN K.2.1))), (k3, .inl (cI, 10, .inl (fN (lfM K)))), (k4, .inl (cI, 10, .inl (fN (mfM K)))), (k5, .inl (cI, 12, .inl (fN (lcM K)))), (k6, .inl (cI, 12, .inl (fN (mcM K))))]) (vp_Si (fun r => r = nI (orN ee N))) 0 0 (fun _ => False) := by
  refine Met.ofW (cc := cX2_causesInAny) (maxL := 3) (ret := (some .int)) (by decide) rfl ?_
  intro p e s m args below meth c s₁ B hml hv
  obtain ⟨hav, hP, hK⟩ := hv
  have hx := B.exec
  have hb := B.bytes
  have hr := B.returns
  have hts := aW_in (atoms_spec (ws := aW yX2_causesInAny cX2_causesInAny 3 (some .int)) B.pre)
  have hown : s.vm.findClass RX2 = some m.cls := findClass_of_methodNamed B.named
  have hlocks := B.notSynchronized
  obtain ⟨R, hR⟩ : ∃ R, R = (headSpec (aW yX2_causesInAny cX2_causesInAny 3 (some .int)) { frames := 1, cells := 0, slots := 0, locals := 21 }).room := ⟨_, rfl⟩
  rw [← hR]
  obtain ⟨Q, hQ⟩ : ∃ Q, Q = MQ below (vp_Si (fun r => r = nI (orN ee N))) args s 0 0 (fun _ => False) := ⟨_, rfl⟩
  rw [← hQ]
  have hl := lv_entry [.ref l0] (n := 3) (Nat.le_of_ble_eq_true rfl)
  have hent := lg_entry_eq m [.ref l0] 3
  rw [← hav] at hent
  rw [hent]
  generalize (lg_sl [.ref l0] ++ List.replicate (3 - (lg_sl [.ref l0]).length) Slot.unset).toArray = ls at hl ⊢
  have hl : lv_has ls 3 [(0, .ref l0)] := hl
  refine lv_iconst (v := nI 0) hx hb dX2_causesInAny_0 (by decide) ?_
  refine lv_istore_n (lv' := [(1, .int (nI 0)), (0, .ref l0)]) hx hb dX2_causesInAny_1 rfl hl (by decide) rfl (fun ls hl => ?_)
  refine lv_iconst (v := nI 0) hx hb dX2_causesInAny_2 (by decide) ?_
  refine lv_istore_n (lv' := [(2, .int (nI 0)), (1, .int (nI 0)), (0, .ref l0)]) hx hb dX2_causesInAny_3 rfl hl (by decide) rfl (fun ls hl => ?_)
  have lp4 : ∀ (n : Nat) (j : Nat) (a : Nat) (ls : Array Slot), (j + n = N) → (a = orN ee j) → lv_has ls 3 [(2, .int (nI j)), (1, .int (nI a)), (0, .ref l0)] → W p l e R s m args below meth c s.heap [] 0 0 Q (F0 m 4 ls []) := by
    intro n
    induction n with
    | zero =>
      intro j a ls hn ha hl
      refine lv_iload_n hx hb dX2_causesInAny_4 rfl (lv_at hl 0 rfl) ?_
      refine lv_aload_n hx hb dX2_causesInAny_5 rfl (lv_at hl 2 rfl) ?_
      refine va_get (D := D) (ci := 2) (v := .int (nI N)) (C := RX2) (T := TX2) (N := 7) hx hb hts inA2 hown hK.1 hP 0 rfl rfl 2 (by decide) (hts _ kf_RX2_23) (fun _ h9 => h9) rfl dX2_causesInAny_6 ?_
      refine x_cge (a := j) (b := N) (tgt := 26) hx hb (by first | assumption | omega) (by first | assumption | omega) dX2_causesInAny_9 (by decide) (fun c9 => ?_) (fun c9 => (by omega))
      refine lv_iload_n hx hb dX2_causesInAny_26 rfl (lv_at hl 1 rfl) ?_
      rw [hQ]
      exact W.iret (v := nI a) hx hb hr (fun t ht hW => ⟨_, rfl, by rw [ha, show j = N by omega], ht⟩) (fun _ h => by cases h) dX2_causesInAny_27
    | succ n ih4 =>
      intro j a ls hn ha hl
      refine lv_iload_n hx hb dX2_causesInAny_4 rfl (lv_at hl 0 rfl) ?_
      refine lv_aload_n hx hb dX2_causesInAny_5 rfl (lv_at hl 2 rfl) ?_
      refine va_get (D := D) (ci := 2) (v := .int (nI N)) (C := RX2) (T := TX2) (N := 7) hx hb hts inA2 hown hK.1 hP 0 rfl rfl 2 (by decide) (hts _ kf_RX2_23) (fun _ h9 => h9) rfl dX2_causesInAny_6 ?_
      refine x_cge (a := j) (b := N) (tgt := 26) hx hb (by first | assumption | omega) (by first | assumption | omega) dX2_causesInAny_9 (by decide) (fun c9 => (by omega)) (fun c9 => ?_)
      refine lv_iload_n hx hb dX2_causesInAny_12 rfl (lv_at hl 1 rfl) ?_
      refine lv_aload_n hx hb dX2_causesInAny_13 rfl (lv_at hl 2 rfl) ?_
      refine lv_iload_n hx hb dX2_causesInAny_14 rfl (lv_at hl 0 rfl) ?_
      refine vp_callSi (va_Run.run (va_runV (As := [.int (nI j)]) (rest := [.int (nI a)]) ⟨hx, hb, hml, hown, hts⟩ (mt_X2_setOf l D cI cJ cZ l0 l1 l2 N T te ex g rc k0 k1 k2 k3 k4 k5 k6 K ee j (by first | assumption | omega) (by first | assumption | omega) (by first | assumption | omega) (by first | assumption | omega) (by first | assumption | omega)) (cwV 1 hts (gV km_RX2_89 ki_yX2_setOf kl_yX2_setOf kn_RX2 kc_yX2_setOf) rfl rfl rfl (by decide +kernel) (by rw [hR]; exact ⟨Nat.le_of_ble_eq_true rfl, Nat.le_of_ble_eq_true rfl⟩)) (cP_V (q0 := 0) (ci := 2) hK (hP.sub [0, 1, 2, 3, 4, 5, 6, 7, 8, 9] rfl) rfl rfl) rfl rfl hl.1 rfl (lv_room (Nat.le_of_ble_eq_true rfl)) dX2_causesInAny_15 ⟨Nat.zero_le _, Nat.zero_le _⟩)) (fun r_ hr_ => ?_)
      subst hr_
      refine x_ior (z := nI (a ||| (ee j))) hx hb dX2_causesInAny_18 (z_or _ _) ?_
      refine lv_istore_n (lv' := [(1, .int (nI (a ||| (ee j)))), (2, .int (nI j)), (0, .ref l0)]) hx hb dX2_causesInAny_19 rfl hl (by decide) rfl (fun ls hl => ?_)
      refine lv_iinc (v := nI (j + 1)) (lv' := [(2, .int (nI (j + 1))), (1, .int (nI (a ||| (ee j)))), (0, .ref l0)]) hx hb dX2_causesInAny_20 hl (k := 1) rfl (x_inc1 _) (by decide) rfl (fun ls hl => ?_)
      refine lv_goto (tgt := 4) hx hb dX2_causesInAny_23 (by decide) ?_
      exact ih4 (j + 1) (a ||| (ee j)) ls (by omega) (by rw [ha]; rfl) (lv_sub hl [0, 1, 2] rfl)
  exact lp4 (N) 0 0 ls (by omega) (rfl) (lv_sub hl [0, 1, 2] rfl)

set_option maxHeartbeats 4000000 in
set_option maxRecDepth 100000 in
theorem mt_X2_fewestCauses (l : Launch) (D : va_G) (cI cJ cZ : ClassId) (l0 : Nat) (l1 : Nat) (l2 : Nat) (N : Nat) (T : Nat) (te : Nat) (ex : Nat) (g : Nat → Nat) (rc : Nat → Nat) (k0 : Nat) (k1 : Nat) (k2 : Nat) (k3 : Nat) (k4 : Nat) (k5 : Nat) (k6 : Nat) (K : Kn) (ee : Nat → Nat) (hN2 : N ≤ 252) (hKO : KO K) (hg : ∀ k, k < N → g k = key K (ee k)) (he : ∀ k, k < N → ee k < 1024) : Met l yX2_fewestCauses (aW yX2_fewestCauses cX2_fewestCauses 3 (some .int)) { frames := 1, cells := 0, slots := 0, locals := 40 } (cP D cI cJ cZ [.ref l0] [(l0, .inr (2, [.ref k0, .ref l1, .int (nI N), .long (lN T), .ref l2, .int (nI te), .int (nI ex)])), (l1, .inl (cJ, 252, .inr (.inl (fL g)))), (l2, .inl (cI, 11, .inl (fN rc))), (k0, .inr (1, [.ref k1, .ref k2, .ref k3, .ref k4, .ref k5, .ref k6])), (k1, .inl (cI, 10, .inl (fN K.1))), (k2, .inl (cI, 10, .inl (fN K.2.1))), (k3, .inl (cI, 10, .inl (fN (lfM K)))), (k4, .inl (cI, 10, .inl (fN (mfM K)))), (k5, .inl (cI, 12, .inl (fN (lcM K)))), (k6, .inl (cI, 12, .inl (fN (mcM K))))]) (vp_Si (fun r => r = nI (minN ee N))) 0 0 (fun _ => False) := by
  refine Met.ofW (cc := cX2_fewestCauses) (maxL := 3) (ret := (some .int)) (by decide) rfl ?_
  intro p e s m args below meth c s₁ B hml hv
  obtain ⟨hav, hP, hK⟩ := hv
  have hx := B.exec
  have hb := B.bytes
  have hr := B.returns
  have hts := aW_in (atoms_spec (ws := aW yX2_fewestCauses cX2_fewestCauses 3 (some .int)) B.pre)
  have hown : s.vm.findClass RX2 = some m.cls := findClass_of_methodNamed B.named
  have hlocks := B.notSynchronized
  obtain ⟨R, hR⟩ : ∃ R, R = (headSpec (aW yX2_fewestCauses cX2_fewestCauses 3 (some .int)) { frames := 1, cells := 0, slots := 0, locals := 40 }).room := ⟨_, rfl⟩
  rw [← hR]
  obtain ⟨Q, hQ⟩ : ∃ Q, Q = MQ below (vp_Si (fun r => r = nI (minN ee N))) args s 0 0 (fun _ => False) := ⟨_, rfl⟩
  rw [← hQ]
  have hl := lv_entry [.ref l0] (n := 3) (Nat.le_of_ble_eq_true rfl)
  have hent := lg_entry_eq m [.ref l0] 3
  rw [← hav] at hent
  rw [hent]
  generalize (lg_sl [.ref l0] ++ List.replicate (3 - (lg_sl [.ref l0]).length) Slot.unset).toArray = ls at hl ⊢
  have hl : lv_has ls 3 [(0, .ref l0)] := hl
  refine lv_bipush (v := nI 10) hx hb dX2_fewestCauses_0 (by decide) ?_
  refine lv_istore_n (lv' := [(1, .int (nI 10)), (0, .ref l0)]) hx hb dX2_fewestCauses_2 rfl hl (by decide) rfl (fun ls hl => ?_)
  refine lv_iconst (v := nI 0) hx hb dX2_fewestCauses_3 (by decide) ?_
  refine lv_istore_n (lv' := [(2, .int (nI 0)), (1, .int (nI 10)), (0, .ref l0)]) hx hb dX2_fewestCauses_4 rfl hl (by decide) rfl (fun ls hl => ?_)
  have lp5 : ∀ (n : Nat) (j : Nat) (a : Nat) (ls : Array Slot), (j + n = N) → (a = minN ee j) → lv_has ls 3 [(2, .int (nI j)), (1, .int (nI a)), (0, .ref l0)] → W p l e R s m args below meth c s.heap [] 0 0 Q (F0 m 5 ls []) := by
    intro n
    induction n with
    | zero =>
      intro j a ls hn ha hl
      refine lv_iload_n hx hb dX2_fewestCauses_5 rfl (lv_at hl 0 rfl) ?_
      refine lv_aload_n hx hb dX2_fewestCauses_6 rfl (lv_at hl 2 rfl) ?_
      refine va_get (D := D) (ci := 2) (v := .int (nI N)) (C := RX2) (T := TX2) (N := 7) hx hb hts inA2 hown hK.1 hP 0 rfl rfl 2 (by decide) (hts _ kf_RX2_23) (fun _ h9 => h9) rfl dX2_fewestCauses_7 ?_
      refine x_cge (a := j) (b := N) (tgt := 32) hx hb (by first | assumption | omega) (by first | assumption | omega) dX2_fewestCauses_10 (by decide) (fun c10 => ?_) (fun c10 => (by omega))
      refine lv_iload_n hx hb dX2_fewestCauses_32 rfl (lv_at hl 1 rfl) ?_
      rw [hQ]
      exact W.iret (v := nI a) hx hb hr (fun t ht hW => ⟨_, rfl, by rw [ha, show j = N by omega], ht⟩) (fun _ h => by cases h) dX2_fewestCauses_33
    | succ n ih5 =>
      intro j a ls hn ha hl
      refine lv_iload_n hx hb dX2_fewestCauses_5 rfl (lv_at hl 0 rfl) ?_
      refine lv_aload_n hx hb dX2_fewestCauses_6 rfl (lv_at hl 2 rfl) ?_
      refine va_get (D := D) (ci := 2) (v := .int (nI N)) (C := RX2) (T := TX2) (N := 7) hx hb hts inA2 hown hK.1 hP 0 rfl rfl 2 (by decide) (hts _ kf_RX2_23) (fun _ h9 => h9) rfl dX2_fewestCauses_7 ?_
      refine x_cge (a := j) (b := N) (tgt := 32) hx hb (by first | assumption | omega) (by first | assumption | omega) dX2_fewestCauses_10 (by decide) (fun c10 => (by omega)) (fun c10 => ?_)
      refine lv_iload_n hx hb dX2_fewestCauses_13 rfl (lv_at hl 1 rfl) ?_
      refine lv_aload_n hx hb dX2_fewestCauses_14 rfl (lv_at hl 2 rfl) ?_
      refine lv_iload_n hx hb dX2_fewestCauses_15 rfl (lv_at hl 0 rfl) ?_
      refine vp_callSi (va_Run.run (va_runV (As := [.int (nI j)]) (rest := [.int (nI a)]) ⟨hx, hb, hml, hown, hts⟩ (mt_X2_setOf l D cI cJ cZ l0 l1 l2 N T te ex g rc k0 k1 k2 k3 k4 k5 k6 K ee j (by first | assumption | omega) (by first | assumption | omega) (by first | assumption | omega) (by first | assumption | omega) (by first | assumption | omega)) (cwV 1 hts (gV km_RX2_89 ki_yX2_setOf kl_yX2_setOf kn_RX2 kc_yX2_setOf) rfl rfl rfl (by decide +kernel) (by rw [hR]; exact ⟨Nat.le_of_ble_eq_true rfl, Nat.le_of_ble_eq_true rfl⟩)) (cP_V (q0 := 0) (ci := 2) hK (hP.sub [0, 1, 2, 3, 4, 5, 6, 7, 8, 9] rfl) rfl rfl) rfl rfl hl.1 rfl (lv_room (Nat.le_of_ble_eq_true rfl)) dX2_fewestCauses_16 ⟨Nat.zero_le _, Nat.zero_le _⟩)) (fun r_ hr_ => ?_)
      subst hr_
      refine vp_callSi (va_Run.run (va_runS (As := [.int (nI (ee j))]) (rest := [.int (nI a)]) ⟨hx, hb, hml, hown, hts⟩ (mt_J6_bitCount_0f7a4 l D cI cJ cZ (ee j) (Nat.lt_trans (he _ (by omega)) (by decide))) (va_cwS 1 hts (gS km_RX2_75 ks_yJ6_bitCount_0f7a4 kn_RJ6 kc_yJ6_bitCount_0f7a4) rfl rfl rfl (by decide +kernel) (by rw [hR]; exact ⟨Nat.le_of_ble_eq_true rfl, Nat.le_of_ble_eq_true rfl⟩)) (cP_S hK (fun k q h => by simp at h)) rfl rfl hl.1 rfl (lv_room (Nat.le_of_ble_eq_true rfl)) dX2_fewestCauses_19 ⟨Nat.zero_le _, Nat.zero_le _⟩)) (fun r_ hr_ => ?_)
      subst hr_
      refine x_min hx hb (by rw [hml]; exact hl.1.symm) hown (hts _ km_RX2_103) (hts _ ks_yJ9_min_7cf53) (hts _ kn_RJ9) (hts _ kc_yJ9_min_7cf53) (by rw [hR]; exact Nat.le_of_ble_eq_true rfl) (by rw [hR]; exact Nat.le_of_ble_eq_true rfl) (Nat.zero_le _) (Nat.zero_le _) (by rw [ha]; exact Nat.lt_of_le_of_lt (minN_le _ _) (by decide)) (Nat.lt_of_le_of_lt (pop_le _) (by decide)) dX2_fewestCauses_22 ?_
      refine lv_istore_n (lv' := [(1, .int (nI (min a (pop (ee j))))), (2, .int (nI j)), (0, .ref l0)]) hx hb dX2_fewestCauses_25 rfl hl (by decide) rfl (fun ls hl => ?_)
      refine lv_iinc (v := nI (j + 1)) (lv' := [(2, .int (nI (j + 1))), (1, .int (nI (min a (pop (ee j))))), (0, .ref l0)]) hx hb dX2_fewestCauses_26 hl (k := 1) rfl (x_inc1 _) (by decide) rfl (fun ls hl => ?_)
      refine lv_goto (tgt := 5) hx hb dX2_fewestCauses_29 (by decide) ?_
      exact ih5 (j + 1) (min a (pop (ee j))) ls (by omega) (by rw [ha]; rfl) (lv_sub hl [0, 1, 2] rfl)
  exact lp5 (N) 0 10 ls (by omega) (rfl) (lv_sub hl [0, 1, 2] rfl)

set_option maxHeartbeats 4000000 in
set_option maxRecDepth 100000 in
theorem mt_X2_mostCauses (l : Launch) (D : va_G) (cI cJ cZ : ClassId) (l0 : Nat) (l1 : Nat) (l2 : Nat) (N : Nat) (T : Nat) (te : Nat) (ex : Nat) (g : Nat → Nat) (rc : Nat → Nat) (k0 : Nat) (k1 : Nat) (k2 : Nat) (k3 : Nat) (k4 : Nat) (k5 : Nat) (k6 : Nat) (K : Kn) (ee : Nat → Nat) (hN2 : N ≤ 252) (hKO : KO K) (hg : ∀ k, k < N → g k = key K (ee k)) (he : ∀ k, k < N → ee k < 1024) : Met l yX2_mostCauses (aW yX2_mostCauses cX2_mostCauses 3 (some .int)) { frames := 1, cells := 0, slots := 0, locals := 40 } (cP D cI cJ cZ [.ref l0] [(l0, .inr (2, [.ref k0, .ref l1, .int (nI N), .long (lN T), .ref l2, .int (nI te), .int (nI ex)])), (l1, .inl (cJ, 252, .inr (.inl (fL g)))), (l2, .inl (cI, 11, .inl (fN rc))), (k0, .inr (1, [.ref k1, .ref k2, .ref k3, .ref k4, .ref k5, .ref k6])), (k1, .inl (cI, 10, .inl (fN K.1))), (k2, .inl (cI, 10, .inl (fN K.2.1))), (k3, .inl (cI, 10, .inl (fN (lfM K)))), (k4, .inl (cI, 10, .inl (fN (mfM K)))), (k5, .inl (cI, 12, .inl (fN (lcM K)))), (k6, .inl (cI, 12, .inl (fN (mcM K))))]) (vp_Si (fun r => r = nI (maxN ee N))) 0 0 (fun _ => False) := by
  refine Met.ofW (cc := cX2_mostCauses) (maxL := 3) (ret := (some .int)) (by decide) rfl ?_
  intro p e s m args below meth c s₁ B hml hv
  obtain ⟨hav, hP, hK⟩ := hv
  have hx := B.exec
  have hb := B.bytes
  have hr := B.returns
  have hts := aW_in (atoms_spec (ws := aW yX2_mostCauses cX2_mostCauses 3 (some .int)) B.pre)
  have hown : s.vm.findClass RX2 = some m.cls := findClass_of_methodNamed B.named
  have hlocks := B.notSynchronized
  obtain ⟨R, hR⟩ : ∃ R, R = (headSpec (aW yX2_mostCauses cX2_mostCauses 3 (some .int)) { frames := 1, cells := 0, slots := 0, locals := 40 }).room := ⟨_, rfl⟩
  rw [← hR]
  obtain ⟨Q, hQ⟩ : ∃ Q, Q = MQ below (vp_Si (fun r => r = nI (maxN ee N))) args s 0 0 (fun _ => False) := ⟨_, rfl⟩
  rw [← hQ]
  have hl := lv_entry [.ref l0] (n := 3) (Nat.le_of_ble_eq_true rfl)
  have hent := lg_entry_eq m [.ref l0] 3
  rw [← hav] at hent
  rw [hent]
  generalize (lg_sl [.ref l0] ++ List.replicate (3 - (lg_sl [.ref l0]).length) Slot.unset).toArray = ls at hl ⊢
  have hl : lv_has ls 3 [(0, .ref l0)] := hl
  refine lv_iconst (v := nI 0) hx hb dX2_mostCauses_0 (by decide) ?_
  refine lv_istore_n (lv' := [(1, .int (nI 0)), (0, .ref l0)]) hx hb dX2_mostCauses_1 rfl hl (by decide) rfl (fun ls hl => ?_)
  refine lv_iconst (v := nI 0) hx hb dX2_mostCauses_2 (by decide) ?_
  refine lv_istore_n (lv' := [(2, .int (nI 0)), (1, .int (nI 0)), (0, .ref l0)]) hx hb dX2_mostCauses_3 rfl hl (by decide) rfl (fun ls hl => ?_)
  have lp4 : ∀ (n : Nat) (j : Nat) (a : Nat) (ls : Array Slot), (j + n = N) → (a = maxN ee j) → lv_has ls 3 [(2, .int (nI j)), (1, .int (nI a)), (0, .ref l0)] → W p l e R s m args below meth c s.heap [] 0 0 Q (F0 m 4 ls []) := by
    intro n
    induction n with
    | zero =>
      intro j a ls hn ha hl
      refine lv_iload_n hx hb dX2_mostCauses_4 rfl (lv_at hl 0 rfl) ?_
      refine lv_aload_n hx hb dX2_mostCauses_5 rfl (lv_at hl 2 rfl) ?_
      refine va_get (D := D) (ci := 2) (v := .int (nI N)) (C := RX2) (T := TX2) (N := 7) hx hb hts inA2 hown hK.1 hP 0 rfl rfl 2 (by decide) (hts _ kf_RX2_23) (fun _ h9 => h9) rfl dX2_mostCauses_6 ?_
      refine x_cge (a := j) (b := N) (tgt := 31) hx hb (by first | assumption | omega) (by first | assumption | omega) dX2_mostCauses_9 (by decide) (fun c9 => ?_) (fun c9 => (by omega))
      refine lv_iload_n hx hb dX2_mostCauses_31 rfl (lv_at hl 1 rfl) ?_
      rw [hQ]
      exact W.iret (v := nI a) hx hb hr (fun t ht hW => ⟨_, rfl, by rw [ha, show j = N by omega], ht⟩) (fun _ h => by cases h) dX2_mostCauses_32
    | succ n ih4 =>
      intro j a ls hn ha hl
      refine lv_iload_n hx hb dX2_mostCauses_4 rfl (lv_at hl 0 rfl) ?_
      refine lv_aload_n hx hb dX2_mostCauses_5 rfl (lv_at hl 2 rfl) ?_
      refine va_get (D := D) (ci := 2) (v := .int (nI N)) (C := RX2) (T := TX2) (N := 7) hx hb hts inA2 hown hK.1 hP 0 rfl rfl 2 (by decide) (hts _ kf_RX2_23) (fun _ h9 => h9) rfl dX2_mostCauses_6 ?_
      refine x_cge (a := j) (b := N) (tgt := 31) hx hb (by first | assumption | omega) (by first | assumption | omega) dX2_mostCauses_9 (by decide) (fun c9 => (by omega)) (fun c9 => ?_)
      refine lv_iload_n hx hb dX2_mostCauses_12 rfl (lv_at hl 1 rfl) ?_
      refine lv_aload_n hx hb dX2_mostCauses_13 rfl (lv_at hl 2 rfl) ?_
      refine lv_iload_n hx hb dX2_mostCauses_14 rfl (lv_at hl 0 rfl) ?_
      refine vp_callSi (va_Run.run (va_runV (As := [.int (nI j)]) (rest := [.int (nI a)]) ⟨hx, hb, hml, hown, hts⟩ (mt_X2_setOf l D cI cJ cZ l0 l1 l2 N T te ex g rc k0 k1 k2 k3 k4 k5 k6 K ee j (by first | assumption | omega) (by first | assumption | omega) (by first | assumption | omega) (by first | assumption | omega) (by first | assumption | omega)) (cwV 1 hts (gV km_RX2_89 ki_yX2_setOf kl_yX2_setOf kn_RX2 kc_yX2_setOf) rfl rfl rfl (by decide +kernel) (by rw [hR]; exact ⟨Nat.le_of_ble_eq_true rfl, Nat.le_of_ble_eq_true rfl⟩)) (cP_V (q0 := 0) (ci := 2) hK (hP.sub [0, 1, 2, 3, 4, 5, 6, 7, 8, 9] rfl) rfl rfl) rfl rfl hl.1 rfl (lv_room (Nat.le_of_ble_eq_true rfl)) dX2_mostCauses_15 ⟨Nat.zero_le _, Nat.zero_le _⟩)) (fun r_ hr_ => ?_)
      subst hr_
      refine vp_callSi (va_Run.run (va_runS (As := [.int (nI (ee j))]) (rest := [.int (nI a)]) ⟨hx, hb, hml, hown, hts⟩ (mt_J6_bitCount_0f7a4 l D cI cJ cZ (ee j) (Nat.lt_trans (he _ (by omega)) (by decide))) (va_cwS 1 hts (gS km_RX2_75 ks_yJ6_bitCount_0f7a4 kn_RJ6 kc_yJ6_bitCount_0f7a4) rfl rfl rfl (by decide +kernel) (by rw [hR]; exact ⟨Nat.le_of_ble_eq_true rfl, Nat.le_of_ble_eq_true rfl⟩)) (cP_S hK (fun k q h => by simp at h)) rfl rfl hl.1 rfl (lv_room (Nat.le_of_ble_eq_true rfl)) dX2_mostCauses_18 ⟨Nat.zero_le _, Nat.zero_le _⟩)) (fun r_ hr_ => ?_)
      subst hr_
      refine x_max hx hb (by rw [hml]; exact hl.1.symm) hown (hts _ km_RX2_108) (hts _ ks_yJ9_max_7cf53) (hts _ kn_RJ9) (hts _ kc_yJ9_max_7cf53) (by rw [hR]; exact Nat.le_of_ble_eq_true rfl) (by rw [hR]; exact Nat.le_of_ble_eq_true rfl) (Nat.zero_le _) (Nat.zero_le _) (by rw [ha]; exact Nat.lt_of_le_of_lt (maxN_le _ _) (by decide)) (Nat.lt_of_le_of_lt (pop_le _) (by decide)) dX2_mostCauses_21 ?_
      refine lv_istore_n (lv' := [(1, .int (nI (max a (pop (ee j))))), (2, .int (nI j)), (0, .ref l0)]) hx hb dX2_mostCauses_24 rfl hl (by decide) rfl (fun ls hl => ?_)
      refine lv_iinc (v := nI (j + 1)) (lv' := [(2, .int (nI (j + 1))), (1, .int (nI (max a (pop (ee j))))), (0, .ref l0)]) hx hb dX2_mostCauses_25 hl (k := 1) rfl (x_inc1 _) (by decide) rfl (fun ls hl => ?_)
      refine lv_goto (tgt := 4) hx hb dX2_mostCauses_28 (by decide) ?_
      exact ih4 (j + 1) (max a (pop (ee j))) ls (by omega) (by rw [ha]; rfl) (lv_sub hl [0, 1, 2] rfl)
  exact lp4 (N) 0 0 ls (by omega) (rfl) (lv_sub hl [0, 1, 2] rfl)

set_option maxHeartbeats 4000000 in
set_option maxRecDepth 100000 in
theorem mt_X2_countOfLength (l : Launch) (D : va_G) (cI cJ cZ : ClassId) (l0 : Nat) (l1 : Nat) (l2 : Nat) (N : Nat) (T : Nat) (te : Nat) (ex : Nat) (g : Nat → Nat) (rc : Nat → Nat) (k0 : Nat) (k1 : Nat) (k2 : Nat) (k3 : Nat) (k4 : Nat) (k5 : Nat) (k6 : Nat) (K : Kn) (ee : Nat → Nat) (v : Nat) (hN2 : N ≤ 252) (hKO : KO K) (hg : ∀ k, k < N → g k = key K (ee k)) (he : ∀ k, k < N → ee k < 1024) (hv : v < 2 ^ 31) : Met l yX2_countOfLength (aW yX2_countOfLength cX2_countOfLength 4 (some .int)) { frames := 1, cells := 0, slots := 0, locals := 21 } (cP D cI cJ cZ [.ref l0, .int (nI v)] [(l0, .inr (2, [.ref k0, .ref l1, .int (nI N), .long (lN T), .ref l2, .int (nI te), .int (nI ex)])), (l1, .inl (cJ, 252, .inr (.inl (fL g)))), (l2, .inl (cI, 11, .inl (fN rc))), (k0, .inr (1, [.ref k1, .ref k2, .ref k3, .ref k4, .ref k5, .ref k6])), (k1, .inl (cI, 10, .inl (fN K.1))), (k2, .inl (cI, 10, .inl (fN K.2.1))), (k3, .inl (cI, 10, .inl (fN (lfM K)))), (k4, .inl (cI, 10, .inl (fN (mfM K)))), (k5, .inl (cI, 12, .inl (fN (lcM K)))), (k6, .inl (cI, 12, .inl (fN (mcM K))))]) (vp_Si (fun r => r = nI (ct (fun z => pop (ee z) == v) N))) 0 0 (fun _ => False) := by
  refine Met.ofW (cc := cX2_countOfLength) (maxL := 4) (ret := (some .int)) (by decide) rfl ?_
  intro p e s m args below meth c s₁ B hml hv
  obtain ⟨hav, hP, hK⟩ := hv
  have hx := B.exec
  have hb := B.bytes
  have hr := B.returns
  have hts := aW_in (atoms_spec (ws := aW yX2_countOfLength cX2_countOfLength 4 (some .int)) B.pre)
  have hown : s.vm.findClass RX2 = some m.cls := findClass_of_methodNamed B.named
  have hlocks := B.notSynchronized
  obtain ⟨R, hR⟩ : ∃ R, R = (headSpec (aW yX2_countOfLength cX2_countOfLength 4 (some .int)) { frames := 1, cells := 0, slots := 0, locals := 21 }).room := ⟨_, rfl⟩
  rw [← hR]
  obtain ⟨Q, hQ⟩ : ∃ Q, Q = MQ below (vp_Si (fun r => r = nI (ct (fun z => pop (ee z) == v) N))) args s 0 0 (fun _ => False) := ⟨_, rfl⟩
  rw [← hQ]
  have hl := lv_entry [.ref l0, .int (nI v)] (n := 4) (Nat.le_of_ble_eq_true rfl)
  have hent := lg_entry_eq m [.ref l0, .int (nI v)] 4
  rw [← hav] at hent
  rw [hent]
  generalize (lg_sl [.ref l0, .int (nI v)] ++ List.replicate (4 - (lg_sl [.ref l0, .int (nI v)]).length) Slot.unset).toArray = ls at hl ⊢
  have hl : lv_has ls 4 [(0, .ref l0), (1, .int (nI v))] := hl
  refine lv_iconst (v := nI 0) hx hb dX2_countOfLength_0 (by decide) ?_
  refine lv_istore_n (lv' := [(2, .int (nI 0)), (0, .ref l0), (1, .int (nI v))]) hx hb dX2_countOfLength_1 rfl hl (by decide) rfl (fun ls hl => ?_)
  refine lv_iconst (v := nI 0) hx hb dX2_countOfLength_2 (by decide) ?_
  refine lv_istore_n (lv' := [(3, .int (nI 0)), (2, .int (nI 0)), (0, .ref l0), (1, .int (nI v))]) hx hb dX2_countOfLength_3 rfl hl (by decide) rfl (fun ls hl => ?_)
  have lp4 : ∀ (n : Nat) (j : Nat) (a : Nat) (ls : Array Slot), (j + n = N) → (a = ct (fun z => pop (ee z) == v) j) → lv_has ls 4 [(3, .int (nI j)), (2, .int (nI a)), (0, .ref l0), (1, .int (nI v))] → W p l e R s m args below meth c s.heap [] 0 0 Q (F0 m 4 ls []) := by
    intro n
    induction n with
    | zero =>
      intro j a ls hn ha hl
      refine lv_iload_n hx hb dX2_countOfLength_4 rfl (lv_at hl 0 rfl) ?_
      refine lv_aload_n hx hb dX2_countOfLength_5 rfl (lv_at hl 2 rfl) ?_
      refine va_get (D := D) (ci := 2) (v := .int (nI N)) (C := RX2) (T := TX2) (N := 7) hx hb hts inA2 hown hK.1 hP 0 rfl rfl 2 (by decide) (hts _ kf_RX2_23) (fun _ h9 => h9) rfl dX2_countOfLength_6 ?_
      refine x_cge (a := j) (b := N) (tgt := 33) hx hb (by first | assumption | omega) (by first | assumption | omega) dX2_countOfLength_9 (by decide) (fun c9 => ?_) (fun c9 => (by omega))
      refine lv_iload_n hx hb dX2_countOfLength_33 rfl (lv_at hl 1 rfl) ?_
      rw [hQ]
      exact W.iret (v := nI a) hx hb hr (fun t ht hW => ⟨_, rfl, by rw [ha, show j = N by omega], ht⟩) (fun _ h => by cases h) dX2_countOfLength_34
    | succ n ih4 =>
      intro j a ls hn ha hl
      refine lv_iload_n hx hb dX2_countOfLength_4 rfl (lv_at hl 0 rfl) ?_
      refine lv_aload_n hx hb dX2_countOfLength_5 rfl (lv_at hl 2 rfl) ?_
      refine va_get (D := D) (ci := 2) (v := .int (nI N)) (C := RX2) (T := TX2) (N := 7) hx hb hts inA2 hown hK.1 hP 0 rfl rfl 2 (by decide) (hts _ kf_RX2_23) (fun _ h9 => h9) rfl dX2_countOfLength_6 ?_
      refine x_cge (a := j) (b := N) (tgt := 33) hx hb (by first | assumption | omega) (by first | assumption | omega) dX2_countOfLength_9 (by decide) (fun c9 => (by omega)) (fun c9 => ?_)
      refine lv_aload_n hx hb dX2_countOfLength_12 rfl (lv_at hl 2 rfl) ?_
      refine lv_iload_n hx hb dX2_countOfLength_13 rfl (lv_at hl 0 rfl) ?_
      refine vp_callSi (va_Run.run (va_runV (As := [.int (nI j)]) (rest := []) ⟨hx, hb, hml, hown, hts⟩ (mt_X2_setOf l D cI cJ cZ l0 l1 l2 N T te ex g rc k0 k1 k2 k3 k4 k5 k6 K ee j (by first | assumption | omega) (by first | assumption | omega) (by first | assumption | omega) (by first | assumption | omega) (by first | assumption | omega)) (cwV 1 hts (gV km_RX2_89 ki_yX2_setOf kl_yX2_setOf kn_RX2 kc_yX2_setOf) rfl rfl rfl (by decide +kernel) (by rw [hR]; exact ⟨Nat.le_of_ble_eq_true rfl, Nat.le_of_ble_eq_true rfl⟩)) (cP_V (q0 := 0) (ci := 2) hK (hP.sub [0, 1, 2, 3, 4, 5, 6, 7, 8, 9] rfl) rfl rfl) rfl rfl hl.1 rfl (lv_room (Nat.le_of_ble_eq_true rfl)) dX2_countOfLength_14 ⟨Nat.zero_le _, Nat.zero_le _⟩)) (fun r_ hr_ => ?_)
      subst hr_
      refine vp_callSi (va_Run.run (va_runS (As := [.int (nI (ee j))]) (rest := []) ⟨hx, hb, hml, hown, hts⟩ (mt_J6_bitCount_0f7a4 l D cI cJ cZ (ee j) (Nat.lt_trans (he _ (by omega)) (by decide))) (va_cwS 1 hts (gS km_RX2_75 ks_yJ6_bitCount_0f7a4 kn_RJ6 kc_yJ6_bitCount_0f7a4) rfl rfl rfl (by decide +kernel) (by rw [hR]; exact ⟨Nat.le_of_ble_eq_true rfl, Nat.le_of_ble_eq_true rfl⟩)) (cP_S hK (fun k q h => by simp at h)) rfl rfl hl.1 rfl (lv_room (Nat.le_of_ble_eq_true rfl)) dX2_countOfLength_17 ⟨Nat.zero_le _, Nat.zero_le _⟩)) (fun r_ hr_ => ?_)
      subst hr_
      refine lv_iload_n hx hb dX2_countOfLength_20 rfl (lv_at hl 3 rfl) ?_
      refine x_cne (a := pop (ee j)) (b := v) (tgt := 27) hx hb (Nat.lt_of_le_of_lt (pop_le _) (by decide)) (by first | assumption | omega) dX2_countOfLength_21 (by decide) (fun c21 => ?_) (fun c21 => ?_)
      · refine lv_iinc (v := nI (j + 1)) (lv' := [(3, .int (nI (j + 1))), (2, .int (nI a)), (0, .ref l0), (1, .int (nI v))]) hx hb dX2_countOfLength_27 hl (k := 0) rfl (x_inc1 _) (by decide) rfl (fun ls hl => ?_)
        refine lv_goto (tgt := 4) hx hb dX2_countOfLength_30 (by decide) ?_
        exact ih4 (j + 1) a ls (by omega) (by rw [ha]; simp [ct, c21]) (lv_sub hl [0, 1, 2, 3] rfl)
      · refine lv_iinc (v := nI (a + 1)) (lv' := [(2, .int (nI (a + 1))), (3, .int (nI j)), (0, .ref l0), (1, .int (nI v))]) hx hb dX2_countOfLength_24 hl (k := 1) rfl (x_inc1 _) (by decide) rfl (fun ls hl => ?_)
        refine lv_iinc (v := nI (j + 1)) (lv' := [(3, .int (nI (j + 1))), (2, .int (nI (a + 1))), (0, .ref l0), (1, .int (nI v))]) hx hb dX2_countOfLength_27 hl (k := 1) rfl (x_inc1 _) (by decide) rfl (fun ls hl => ?_)
        refine lv_goto (tgt := 4) hx hb dX2_countOfLength_30 (by decide) ?_
        exact ih4 (j + 1) (a + 1) ls (by omega) (by rw [ha]; simp [ct, c21]) (lv_sub hl [0, 1, 2, 3] rfl)
  exact lp4 (N) 0 0 ls (by omega) (rfl) (lv_sub hl [0, 1, 2, 3] rfl)

set_option maxHeartbeats 4000000 in
set_option maxRecDepth 100000 in
theorem mt_X3_leftIfThere (l : Launch) (D : va_G) (cI cJ cZ : ClassId) (w0 : Nat) (sa : Nat) (sb : Nat) (sc : Nat) : Met l yX3_leftIfThere (aW yX3_leftIfThere cX3_leftIfThere 1 (some .long)) { frames := 0, cells := 0, slots := 0, locals := 0 } (cP D cI cJ cZ [.ref w0] [(w0, .inr (3, [.long (lN sa), .long (lN sb), .long (lN sc)]))]) (vp_Sl (fun r => r = lN (sa + sc))) 0 0 (fun _ => False) := by
  refine Met.ofW (cc := cX3_leftIfThere) (maxL := 1) (ret := (some .long)) (by decide) rfl ?_
  intro p e s m args below meth c s₁ B hml hv
  obtain ⟨hav, hP, hK⟩ := hv
  have hx := B.exec
  have hb := B.bytes
  have hr := B.returns
  have hts := aW_in (atoms_spec (ws := aW yX3_leftIfThere cX3_leftIfThere 1 (some .long)) B.pre)
  have hown : s.vm.findClass RX3 = some m.cls := findClass_of_methodNamed B.named
  have hlocks := B.notSynchronized
  obtain ⟨R, hR⟩ : ∃ R, R = (headSpec (aW yX3_leftIfThere cX3_leftIfThere 1 (some .long)) { frames := 0, cells := 0, slots := 0, locals := 0 }).room := ⟨_, rfl⟩
  rw [← hR]
  obtain ⟨Q, hQ⟩ : ∃ Q, Q = MQ below (vp_Sl (fun r => r = lN (sa + sc))) args s 0 0 (fun _ => False) := ⟨_, rfl⟩
  rw [← hQ]
  have hl := lv_entry [.ref w0] (n := 1) (Nat.le_of_ble_eq_true rfl)
  have hent := lg_entry_eq m [.ref w0] 1
  rw [← hav] at hent
  rw [hent]
  generalize (lg_sl [.ref w0] ++ List.replicate (1 - (lg_sl [.ref w0]).length) Slot.unset).toArray = ls at hl ⊢
  have hl : lv_has ls 1 [(0, .ref w0)] := hl
  refine lv_aload_n hx hb dX3_leftIfThere_0 rfl (lv_at hl 0 rfl) ?_
  refine va_get (D := D) (ci := 3) (v := .long (lN sa)) (C := RX3) (T := TX3) (N := 3) hx hb hts inA3 hown hK.1 hP 0 rfl rfl 0 (by decide) (hts _ kf_RX3_9) (fun _ h9 => h9) rfl dX3_leftIfThere_1 ?_
  refine lv_aload_n hx hb dX3_leftIfThere_4 rfl (lv_at hl 0 rfl) ?_
  refine va_get (D := D) (ci := 3) (v := .long (lN sc)) (C := RX3) (T := TX3) (N := 3) hx hb hts inA3 hown hK.1 hP 0 rfl rfl 2 (by decide) (hts _ kf_RX3_18) (fun _ h9 => h9) rfl dX3_leftIfThere_5 ?_
  refine x_ladd (z := lN (sa + sc)) hx hb dX3_leftIfThere_8 (lN_add _ _) ?_
  rw [hQ]
  exact W.lret (v := lN (sa + sc)) hx hb hr (fun t ht hW => ⟨_, rfl, rfl, ht⟩) (fun _ h => by cases h) dX3_leftIfThere_9

set_option maxHeartbeats 4000000 in
set_option maxRecDepth 100000 in
theorem mt_X3_leftIfAbsent (l : Launch) (D : va_G) (cI cJ cZ : ClassId) (w0 : Nat) (sa : Nat) (sb : Nat) (sc : Nat) : Met l yX3_leftIfAbsent (aW yX3_leftIfAbsent cX3_leftIfAbsent 1 (some .long)) { frames := 0, cells := 0, slots := 0, locals := 0 } (cP D cI cJ cZ [.ref w0] [(w0, .inr (3, [.long (lN sa), .long (lN sb), .long (lN sc)]))]) (vp_Sl (fun r => r = lN (sb + sc))) 0 0 (fun _ => False) := by
  refine Met.ofW (cc := cX3_leftIfAbsent) (maxL := 1) (ret := (some .long)) (by decide) rfl ?_
  intro p e s m args below meth c s₁ B hml hv
  obtain ⟨hav, hP, hK⟩ := hv
  have hx := B.exec
  have hb := B.bytes
  have hr := B.returns
  have hts := aW_in (atoms_spec (ws := aW yX3_leftIfAbsent cX3_leftIfAbsent 1 (some .long)) B.pre)
  have hown : s.vm.findClass RX3 = some m.cls := findClass_of_methodNamed B.named
  have hlocks := B.notSynchronized
  obtain ⟨R, hR⟩ : ∃ R, R = (headSpec (aW yX3_leftIfAbsent cX3_leftIfAbsent 1 (some .long)) { frames := 0, cells := 0, slots := 0, locals := 0 }).room := ⟨_, rfl⟩
  rw [← hR]
  obtain ⟨Q, hQ⟩ : ∃ Q, Q = MQ below (vp_Sl (fun r => r = lN (sb + sc))) args s 0 0 (fun _ => False) := ⟨_, rfl⟩
  rw [← hQ]
  have hl := lv_entry [.ref w0] (n := 1) (Nat.le_of_ble_eq_true rfl)
  have hent := lg_entry_eq m [.ref w0] 1
  rw [← hav] at hent
  rw [hent]
  generalize (lg_sl [.ref w0] ++ List.replicate (1 - (lg_sl [.ref w0]).length) Slot.unset).toArray = ls at hl ⊢
  have hl : lv_has ls 1 [(0, .ref w0)] := hl
  refine lv_aload_n hx hb dX3_leftIfAbsent_0 rfl (lv_at hl 0 rfl) ?_
  refine va_get (D := D) (ci := 3) (v := .long (lN sb)) (C := RX3) (T := TX3) (N := 3) hx hb hts inA3 hown hK.1 hP 0 rfl rfl 1 (by decide) (hts _ kf_RX3_15) (fun _ h9 => h9) rfl dX3_leftIfAbsent_1 ?_
  refine lv_aload_n hx hb dX3_leftIfAbsent_4 rfl (lv_at hl 0 rfl) ?_
  refine va_get (D := D) (ci := 3) (v := .long (lN sc)) (C := RX3) (T := TX3) (N := 3) hx hb hts inA3 hown hK.1 hP 0 rfl rfl 2 (by decide) (hts _ kf_RX3_18) (fun _ h9 => h9) rfl dX3_leftIfAbsent_5 ?_
  refine x_ladd (z := lN (sb + sc)) hx hb dX3_leftIfAbsent_8 (lN_add _ _) ?_
  rw [hQ]
  exact W.lret (v := lN (sb + sc)) hx hb hr (fun t ht hW => ⟨_, rfl, rfl, ht⟩) (fun _ h => by cases h) dX3_leftIfAbsent_9

set_option maxHeartbeats 4000000 in
set_option maxRecDepth 100000 in
theorem mt_X3_worst (l : Launch) (D : va_G) (cI cJ cZ : ClassId) (w0 : Nat) (sa : Nat) (sb : Nat) (sc : Nat) (h1 : sa + sc < 2 ^ 63) (h2 : sb + sc < 2 ^ 63) : Met l yX3_worst (aW yX3_worst cX3_worst 1 (some .long)) { frames := 1, cells := 0, slots := 0, locals := 40 } (cP D cI cJ cZ [.ref w0] [(w0, .inr (3, [.long (lN sa), .long (lN sb), .long (lN sc)]))]) (vp_Sl (fun r => r = lN (max (sa + sc) (sb + sc)))) 0 0 (fun _ => False) := by
  refine Met.ofW (cc := cX3_worst) (maxL := 1) (ret := (some .long)) (by decide) rfl ?_
  intro p e s m args below meth c s₁ B hml hv
  obtain ⟨hav, hP, hK⟩ := hv
  have hx := B.exec
  have hb := B.bytes
  have hr := B.returns
  have hts := aW_in (atoms_spec (ws := aW yX3_worst cX3_worst 1 (some .long)) B.pre)
  have hown : s.vm.findClass RX3 = some m.cls := findClass_of_methodNamed B.named
  have hlocks := B.notSynchronized
  obtain ⟨R, hR⟩ : ∃ R, R = (headSpec (aW yX3_worst cX3_worst 1 (some .long)) { frames := 1, cells := 0, slots := 0, locals := 40 }).room := ⟨_, rfl⟩
  rw [← hR]
  obtain ⟨Q, hQ⟩ : ∃ Q, Q = MQ below (vp_Sl (fun r => r = lN (max (sa + sc) (sb + sc)))) args s 0 0 (fun _ => False) := ⟨_, rfl⟩
  rw [← hQ]
  have hl := lv_entry [.ref w0] (n := 1) (Nat.le_of_ble_eq_true rfl)
  have hent := lg_entry_eq m [.ref w0] 1
  rw [← hav] at hent
  rw [hent]
  generalize (lg_sl [.ref w0] ++ List.replicate (1 - (lg_sl [.ref w0]).length) Slot.unset).toArray = ls at hl ⊢
  have hl : lv_has ls 1 [(0, .ref w0)] := hl
  refine lv_aload_n hx hb dX3_worst_0 rfl (lv_at hl 0 rfl) ?_
  refine vp_callSl (va_Run.run (va_runV (As := []) (rest := []) ⟨hx, hb, hml, hown, hts⟩ (mt_X3_leftIfThere l D cI cJ cZ w0 sa sb sc) (cwV 0 hts (gV km_RX3_35 ki_yX3_leftIfThere kl_yX3_leftIfThere kn_RX3 kc_yX3_leftIfThere) rfl rfl rfl (by decide +kernel) (by rw [hR]; exact ⟨Nat.le_of_ble_eq_true rfl, Nat.le_of_ble_eq_true rfl⟩)) (cP_V (q0 := 0) (ci := 3) hK (hP.sub [0] rfl) rfl rfl) rfl rfl hl.1 rfl (lv_room (Nat.le_of_ble_eq_true rfl)) dX3_worst_1 ⟨Nat.zero_le _, Nat.zero_le _⟩)) (fun r_ hr_ => ?_)
  subst hr_
  refine lv_aload_n hx hb dX3_worst_4 rfl (lv_at hl 0 rfl) ?_
  refine vp_callSl (va_Run.run (va_runV (As := []) (rest := [.long (lN (sa + sc))]) ⟨hx, hb, hml, hown, hts⟩ (mt_X3_leftIfAbsent l D cI cJ cZ w0 sa sb sc) (cwV 0 hts (gV km_RX3_39 ki_yX3_leftIfAbsent kl_yX3_leftIfAbsent kn_RX3 kc_yX3_leftIfAbsent) rfl rfl rfl (by decide +kernel) (by rw [hR]; exact ⟨Nat.le_of_ble_eq_true rfl, Nat.le_of_ble_eq_true rfl⟩)) (cP_V (q0 := 0) (ci := 3) hK (hP.sub [0] rfl) rfl rfl) rfl rfl hl.1 rfl (lv_room (Nat.le_of_ble_eq_true rfl)) dX3_worst_5 ⟨Nat.zero_le _, Nat.zero_le _⟩)) (fun r_ hr_ => ?_)
  subst hr_
  refine x_maxL hx hb (by rw [hml]; exact hl.1.symm) hown (hts _ km_RX3_42) (hts _ ks_yJ9_max_f86c9) (hts _ kn_RJ9) (hts _ kc_yJ9_max_f86c9) (by rw [hR]; exact Nat.le_of_ble_eq_true rfl) (by rw [hR]; exact Nat.le_of_ble_eq_true rfl) (Nat.zero_le _) (Nat.zero_le _) (by first | assumption | omega) (by first | assumption | omega) dX3_worst_8 ?_
  rw [hQ]
  exact W.lret (v := lN (max (sa + sc) (sb + sc))) hx hb hr (fun t ht hW => ⟨_, rfl, rfl, ht⟩) (fun _ h => by cases h) dX3_worst_11
