set_option maxHeartbeats 4000000 in
set_option maxRecDepth 100000 in
/-- a set has a member -/
theorem mt_X6_has (l : Launch) (D : va_G) (cI cJ cZ : ClassId) (x : Nat) (k : Nat) (hn : x < 2 ^ 31) (hk : k < 31) : Met l yX6_has (aW yX6_has cX6_has 2 (some .boolean)) { frames := 0, cells := 0, slots := 0, locals := 0 } (cP D cI cJ cZ [.int (nI x), .int (nI k)] []) (vp_Si (fun r => r = nI (x.testBit k).toNat)) 0 0 (fun _ => False) := by
  refine Met.ofW (cc := cX6_has) (maxL := 2) (ret := (some .boolean)) (by decide) rfl ?_
  intro p e s m args below meth c s₁ B hml hv
  obtain ⟨hav, hP, hK⟩ := hv
  have hx := B.exec
  have hb := B.bytes
  have hr := B.returns
  have hts := aW_in (atoms_spec (ws := aW yX6_has cX6_has 2 (some .boolean)) B.pre)
  have hown : s.vm.findClass RX6 = some m.cls := findClass_of_methodNamed B.named
  have hlocks := B.notSynchronized
  obtain ⟨R, hR⟩ : ∃ R, R = (headSpec (aW yX6_has cX6_has 2 (some .boolean)) { frames := 0, cells := 0, slots := 0, locals := 0 }).room := ⟨_, rfl⟩
  rw [← hR]
  obtain ⟨Q, hQ⟩ : ∃ Q, Q = MQ below (vp_Si (fun r => r = nI (x.testBit k).toNat)) args s 0 0 (fun _ => False) := ⟨_, rfl⟩
  rw [← hQ]
  have hl := lv_entry [.int (nI x), .int (nI k)] (n := 2) (Nat.le_of_ble_eq_true rfl)
  have hent := lg_entry_eq m [.int (nI x), .int (nI k)] 2
  rw [← hav] at hent
  rw [hent]
  generalize (lg_sl [.int (nI x), .int (nI k)] ++ List.replicate (2 - (lg_sl [.int (nI x), .int (nI k)]).length) Slot.unset).toArray = ls at hl ⊢
  have hl : lv_has ls 2 [(0, .int (nI x)), (1, .int (nI k))] := hl
  refine lv_iload_n hx hb dX6_has_0 rfl (lv_at hl 0 rfl) ?_
  refine lv_iload_n hx hb dX6_has_1 rfl (lv_at hl 1 rfl) ?_
  refine x_ishr (z := nI (x >>> k)) hx hb dX6_has_2 (z_shr (by first | assumption | omega) (by first | assumption | omega)) ?_
  refine lv_iconst (v := nI 1) hx hb dX6_has_3 (by decide) ?_
  refine x_iand (z := nI (x.testBit k).toNat) hx hb dX6_has_4 (z_bit _ _) ?_
  refine x_beq (tgt := 12) hx hb dX6_has_5 (by decide) (fun c5 => ?_) (fun c5 => ?_)
  · refine lv_iconst (v := nI 0) hx hb dX6_has_12 (by decide) ?_
    rw [hQ]
    exact W.zret (v := nI 0) hx hb hr (rfl) (fun t ht hW => ⟨_, rfl, by first | exact b_1 (by assumption) | exact b_0 (by assumption), ht⟩) (fun _ h => by cases h) dX6_has_13
  · refine lv_iconst (v := nI 1) hx hb dX6_has_8 (by decide) ?_
    refine lv_goto (tgt := 13) hx hb dX6_has_9 (by decide) ?_
    rw [hQ]
    exact W.zret (v := nI 1) hx hb hr (rfl) (fun t ht hW => ⟨_, rfl, by first | exact b_1 (by assumption) | exact b_0 (by assumption), ht⟩) (fun _ h => by cases h) dX6_has_13

set_option maxHeartbeats 4000000 in
set_option maxRecDepth 100000 in
theorem mt_X6_isCause (l : Launch) (D : va_G) (cI cJ cZ : ClassId) (x : Int32) : Met l yX6_isCause (aW yX6_isCause cX6_isCause 1 (some .boolean)) { frames := 0, cells := 0, slots := 0, locals := 0 } (cP D cI cJ cZ [.int x] []) (vp_Si (fun r => r = nI (inR x 0 9).toNat)) 0 0 (fun _ => False) := by
  refine Met.ofW (cc := cX6_isCause) (maxL := 1) (ret := (some .boolean)) (by decide) rfl ?_
  intro p e s m args below meth c s₁ B hml hv
  obtain ⟨hav, hP, hK⟩ := hv
  have hx := B.exec
  have hb := B.bytes
  have hr := B.returns
  have hts := aW_in (atoms_spec (ws := aW yX6_isCause cX6_isCause 1 (some .boolean)) B.pre)
  have hown : s.vm.findClass RX6 = some m.cls := findClass_of_methodNamed B.named
  have hlocks := B.notSynchronized
  obtain ⟨R, hR⟩ : ∃ R, R = (headSpec (aW yX6_isCause cX6_isCause 1 (some .boolean)) { frames := 0, cells := 0, slots := 0, locals := 0 }).room := ⟨_, rfl⟩
  rw [← hR]
  obtain ⟨Q, hQ⟩ : ∃ Q, Q = MQ below (vp_Si (fun r => r = nI (inR x 0 9).toNat)) args s 0 0 (fun _ => False) := ⟨_, rfl⟩
  rw [← hQ]
  have hl := lv_entry [.int x] (n := 1) (Nat.le_of_ble_eq_true rfl)
  have hent := lg_entry_eq m [.int x] 1
  rw [← hav] at hent
  rw [hent]
  generalize (lg_sl [.int x] ++ List.replicate (1 - (lg_sl [.int x]).length) Slot.unset).toArray = ls at hl ⊢
  have hl : lv_has ls 1 [(0, .int x)] := hl
  refine lv_iload_n hx hb dX6_isCause_0 rfl (lv_at hl 0 rfl) ?_
  refine lv_if_lt (tgt := 14) hx hb dX6_isCause_1 (by decide) (fun c1 => ?_) (fun c1 => ?_)
  · refine lv_iconst (v := nI 0) hx hb dX6_isCause_14 (by decide) ?_
    rw [hQ]
    exact W.zret (v := nI 0) hx hb hr (rfl) (fun t ht hW => ⟨_, rfl, by (try simp only [toInt_lt, toInt_le, toInt_eq, tI0, tIn (show 10 < 2 ^ 31 by decide)] at c1); (try simp only [toInt_lt, toInt_le, toInt_eq, tI0, tIn (show 10 < 2 ^ 31 by decide)] at c7); first | exact inR_t (by omega) (by omega) | exact inR_f (by omega), ht⟩) (fun _ h => by cases h) dX6_isCause_15
  · refine lv_iload_n hx hb dX6_isCause_4 rfl (lv_at hl 0 rfl) ?_
    refine lv_bipush (v := nI 10) hx hb dX6_isCause_5 (by decide) ?_
    refine lv_icmp_ge (x := x) (y := nI 10) (tgt := 14) hx hb dX6_isCause_7 (by decide) (fun c7 => ?_) (fun c7 => ?_)
    · refine lv_iconst (v := nI 0) hx hb dX6_isCause_14 (by decide) ?_
      rw [hQ]
      exact W.zret (v := nI 0) hx hb hr (rfl) (fun t ht hW => ⟨_, rfl, by (try simp only [toInt_lt, toInt_le, toInt_eq, tI0, tIn (show 10 < 2 ^ 31 by decide)] at c1); (try simp only [toInt_lt, toInt_le, toInt_eq, tI0, tIn (show 10 < 2 ^ 31 by decide)] at c7); first | exact inR_t (by omega) (by omega) | exact inR_f (by omega), ht⟩) (fun _ h => by cases h) dX6_isCause_15
    · refine lv_iconst (v := nI 1) hx hb dX6_isCause_10 (by decide) ?_
      refine lv_goto (tgt := 15) hx hb dX6_isCause_11 (by decide) ?_
      rw [hQ]
      exact W.zret (v := nI 1) hx hb hr (rfl) (fun t ht hW => ⟨_, rfl, by (try simp only [toInt_lt, toInt_le, toInt_eq, tI0, tIn (show 10 < 2 ^ 31 by decide)] at c1); (try simp only [toInt_lt, toInt_le, toInt_eq, tI0, tIn (show 10 < 2 ^ 31 by decide)] at c7); first | exact inR_t (by omega) (by omega) | exact inR_f (by omega), ht⟩) (fun _ h => by cases h) dX6_isCause_15

set_option maxHeartbeats 4000000 in
set_option maxRecDepth 100000 in
theorem mt_X6_isFinding (l : Launch) (D : va_G) (cI cJ cZ : ClassId) (x : Int32) : Met l yX6_isFinding (aW yX6_isFinding cX6_isFinding 1 (some .boolean)) { frames := 0, cells := 0, slots := 0, locals := 0 } (cP D cI cJ cZ [.int x] []) (vp_Si (fun r => r = nI (inR x 0 11).toNat)) 0 0 (fun _ => False) := by
  refine Met.ofW (cc := cX6_isFinding) (maxL := 1) (ret := (some .boolean)) (by decide) rfl ?_
  intro p e s m args below meth c s₁ B hml hv
  obtain ⟨hav, hP, hK⟩ := hv
  have hx := B.exec
  have hb := B.bytes
  have hr := B.returns
  have hts := aW_in (atoms_spec (ws := aW yX6_isFinding cX6_isFinding 1 (some .boolean)) B.pre)
  have hown : s.vm.findClass RX6 = some m.cls := findClass_of_methodNamed B.named
  have hlocks := B.notSynchronized
  obtain ⟨R, hR⟩ : ∃ R, R = (headSpec (aW yX6_isFinding cX6_isFinding 1 (some .boolean)) { frames := 0, cells := 0, slots := 0, locals := 0 }).room := ⟨_, rfl⟩
  rw [← hR]
  obtain ⟨Q, hQ⟩ : ∃ Q, Q = MQ below (vp_Si (fun r => r = nI (inR x 0 11).toNat)) args s 0 0 (fun _ => False) := ⟨_, rfl⟩
  rw [← hQ]
  have hl := lv_entry [.int x] (n := 1) (Nat.le_of_ble_eq_true rfl)
  have hent := lg_entry_eq m [.int x] 1
  rw [← hav] at hent
  rw [hent]
  generalize (lg_sl [.int x] ++ List.replicate (1 - (lg_sl [.int x]).length) Slot.unset).toArray = ls at hl ⊢
  have hl : lv_has ls 1 [(0, .int x)] := hl
  refine lv_iload_n hx hb dX6_isFinding_0 rfl (lv_at hl 0 rfl) ?_
  refine lv_if_lt (tgt := 14) hx hb dX6_isFinding_1 (by decide) (fun c1 => ?_) (fun c1 => ?_)
  · refine lv_iconst (v := nI 0) hx hb dX6_isFinding_14 (by decide) ?_
    rw [hQ]
    exact W.zret (v := nI 0) hx hb hr (rfl) (fun t ht hW => ⟨_, rfl, by (try simp only [toInt_lt, toInt_le, toInt_eq, tI0, tIn (show 12 < 2 ^ 31 by decide)] at c1); (try simp only [toInt_lt, toInt_le, toInt_eq, tI0, tIn (show 12 < 2 ^ 31 by decide)] at c7); first | exact inR_t (by omega) (by omega) | exact inR_f (by omega), ht⟩) (fun _ h => by cases h) dX6_isFinding_15
  · refine lv_iload_n hx hb dX6_isFinding_4 rfl (lv_at hl 0 rfl) ?_
    refine lv_bipush (v := nI 12) hx hb dX6_isFinding_5 (by decide) ?_
    refine lv_icmp_ge (x := x) (y := nI 12) (tgt := 14) hx hb dX6_isFinding_7 (by decide) (fun c7 => ?_) (fun c7 => ?_)
    · refine lv_iconst (v := nI 0) hx hb dX6_isFinding_14 (by decide) ?_
      rw [hQ]
      exact W.zret (v := nI 0) hx hb hr (rfl) (fun t ht hW => ⟨_, rfl, by (try simp only [toInt_lt, toInt_le, toInt_eq, tI0, tIn (show 12 < 2 ^ 31 by decide)] at c1); (try simp only [toInt_lt, toInt_le, toInt_eq, tI0, tIn (show 12 < 2 ^ 31 by decide)] at c7); first | exact inR_t (by omega) (by omega) | exact inR_f (by omega), ht⟩) (fun _ h => by cases h) dX6_isFinding_15
    · refine lv_iconst (v := nI 1) hx hb dX6_isFinding_10 (by decide) ?_
      refine lv_goto (tgt := 15) hx hb dX6_isFinding_11 (by decide) ?_
      rw [hQ]
      exact W.zret (v := nI 1) hx hb hr (rfl) (fun t ht hW => ⟨_, rfl, by (try simp only [toInt_lt, toInt_le, toInt_eq, tI0, tIn (show 12 < 2 ^ 31 by decide)] at c1); (try simp only [toInt_lt, toInt_le, toInt_eq, tI0, tIn (show 12 < 2 ^ 31 by decide)] at c7); first | exact inR_t (by omega) (by omega) | exact inR_f (by omega), ht⟩) (fun _ h => by cases h) dX6_isFinding_15

set_option maxHeartbeats 4000000 in
set_option maxRecDepth 100000 in
theorem mt_X6_areOdds (l : Launch) (D : va_G) (cI cJ cZ : ClassId) (x : Int32) : Met l yX6_areOdds (aW yX6_areOdds cX6_areOdds 1 (some .boolean)) { frames := 0, cells := 0, slots := 0, locals := 0 } (cP D cI cJ cZ [.int x] []) (vp_Si (fun r => r = nI (inR x 1 20).toNat)) 0 0 (fun _ => False) := by
  refine Met.ofW (cc := cX6_areOdds) (maxL := 1) (ret := (some .boolean)) (by decide) rfl ?_
  intro p e s m args below meth c s₁ B hml hv
  obtain ⟨hav, hP, hK⟩ := hv
  have hx := B.exec
  have hb := B.bytes
  have hr := B.returns
  have hts := aW_in (atoms_spec (ws := aW yX6_areOdds cX6_areOdds 1 (some .boolean)) B.pre)
  have hown : s.vm.findClass RX6 = some m.cls := findClass_of_methodNamed B.named
  have hlocks := B.notSynchronized
  obtain ⟨R, hR⟩ : ∃ R, R = (headSpec (aW yX6_areOdds cX6_areOdds 1 (some .boolean)) { frames := 0, cells := 0, slots := 0, locals := 0 }).room := ⟨_, rfl⟩
  rw [← hR]
  obtain ⟨Q, hQ⟩ : ∃ Q, Q = MQ below (vp_Si (fun r => r = nI (inR x 1 20).toNat)) args s 0 0 (fun _ => False) := ⟨_, rfl⟩
  rw [← hQ]
  have hl := lv_entry [.int x] (n := 1) (Nat.le_of_ble_eq_true rfl)
  have hent := lg_entry_eq m [.int x] 1
  rw [← hav] at hent
  rw [hent]
  generalize (lg_sl [.int x] ++ List.replicate (1 - (lg_sl [.int x]).length) Slot.unset).toArray = ls at hl ⊢
  have hl : lv_has ls 1 [(0, .int x)] := hl
  refine lv_iload_n hx hb dX6_areOdds_0 rfl (lv_at hl 0 rfl) ?_
  refine lv_iconst (v := nI 1) hx hb dX6_areOdds_1 (by decide) ?_
  refine lv_icmp_lt (x := x) (y := nI 1) (tgt := 15) hx hb dX6_areOdds_2 (by decide) (fun c2 => ?_) (fun c2 => ?_)
  · refine lv_iconst (v := nI 0) hx hb dX6_areOdds_15 (by decide) ?_
    rw [hQ]
    exact W.zret (v := nI 0) hx hb hr (rfl) (fun t ht hW => ⟨_, rfl, by (try simp only [toInt_lt, toInt_le, toInt_eq, tI0, tIn (show 1 < 2 ^ 31 by decide), tIn (show 20 < 2 ^ 31 by decide)] at c2); (try simp only [toInt_lt, toInt_le, toInt_eq, tI0, tIn (show 1 < 2 ^ 31 by decide), tIn (show 20 < 2 ^ 31 by decide)] at c8); first | exact inR_t (by omega) (by omega) | exact inR_f (by omega), ht⟩) (fun _ h => by cases h) dX6_areOdds_16
  · refine lv_iload_n hx hb dX6_areOdds_5 rfl (lv_at hl 0 rfl) ?_
    refine lv_bipush (v := nI 20) hx hb dX6_areOdds_6 (by decide) ?_
    refine lv_icmp_gt (x := x) (y := nI 20) (tgt := 15) hx hb dX6_areOdds_8 (by decide) (fun c8 => ?_) (fun c8 => ?_)
    · refine lv_iconst (v := nI 0) hx hb dX6_areOdds_15 (by decide) ?_
      rw [hQ]
      exact W.zret (v := nI 0) hx hb hr (rfl) (fun t ht hW => ⟨_, rfl, by (try simp only [toInt_lt, toInt_le, toInt_eq, tI0, tIn (show 1 < 2 ^ 31 by decide), tIn (show 20 < 2 ^ 31 by decide)] at c2); (try simp only [toInt_lt, toInt_le, toInt_eq, tI0, tIn (show 1 < 2 ^ 31 by decide), tIn (show 20 < 2 ^ 31 by decide)] at c8); first | exact inR_t (by omega) (by omega) | exact inR_f (by omega), ht⟩) (fun _ h => by cases h) dX6_areOdds_16
    · refine lv_iconst (v := nI 1) hx hb dX6_areOdds_11 (by decide) ?_
      refine lv_goto (tgt := 16) hx hb dX6_areOdds_12 (by decide) ?_
      rw [hQ]
      exact W.zret (v := nI 1) hx hb hr (rfl) (fun t ht hW => ⟨_, rfl, by (try simp only [toInt_lt, toInt_le, toInt_eq, tI0, tIn (show 1 < 2 ^ 31 by decide), tIn (show 20 < 2 ^ 31 by decide)] at c2); (try simp only [toInt_lt, toInt_le, toInt_eq, tI0, tIn (show 1 < 2 ^ 31 by decide), tIn (show 20 < 2 ^ 31 by decide)] at c8); first | exact inR_t (by omega) (by omega) | exact inR_f (by omega), ht⟩) (fun _ h => by cases h) dX6_areOdds_16

set_option maxHeartbeats 4000000 in
set_option maxRecDepth 100000 in
theorem mt_X6_isUpperOrLower (l : Launch) (D : va_G) (cI cJ cZ : ClassId) (x : Int32) : Met l yX6_isUpperOrLower (aW yX6_isUpperOrLower cX6_isUpperOrLower 1 (some .boolean)) { frames := 0, cells := 0, slots := 0, locals := 0 } (cP D cI cJ cZ [.int x] []) (vp_Si (fun r => r = nI (inR x 0 1).toNat)) 0 0 (fun _ => False) := by
  refine Met.ofW (cc := cX6_isUpperOrLower) (maxL := 1) (ret := (some .boolean)) (by decide) rfl ?_
  intro p e s m args below meth c s₁ B hml hv
  obtain ⟨hav, hP, hK⟩ := hv
  have hx := B.exec
  have hb := B.bytes
  have hr := B.returns
  have hts := aW_in (atoms_spec (ws := aW yX6_isUpperOrLower cX6_isUpperOrLower 1 (some .boolean)) B.pre)
  have hown : s.vm.findClass RX6 = some m.cls := findClass_of_methodNamed B.named
  have hlocks := B.notSynchronized
  obtain ⟨R, hR⟩ : ∃ R, R = (headSpec (aW yX6_isUpperOrLower cX6_isUpperOrLower 1 (some .boolean)) { frames := 0, cells := 0, slots := 0, locals := 0 }).room := ⟨_, rfl⟩
  rw [← hR]
  obtain ⟨Q, hQ⟩ : ∃ Q, Q = MQ below (vp_Si (fun r => r = nI (inR x 0 1).toNat)) args s 0 0 (fun _ => False) := ⟨_, rfl⟩
  rw [← hQ]
  have hl := lv_entry [.int x] (n := 1) (Nat.le_of_ble_eq_true rfl)
  have hent := lg_entry_eq m [.int x] 1
  rw [← hav] at hent
  rw [hent]
  generalize (lg_sl [.int x] ++ List.replicate (1 - (lg_sl [.int x]).length) Slot.unset).toArray = ls at hl ⊢
  have hl : lv_has ls 1 [(0, .int x)] := hl
  refine lv_iload_n hx hb dX6_isUpperOrLower_0 rfl (lv_at hl 0 rfl) ?_
  refine lv_if_eq (tgt := 9) hx hb dX6_isUpperOrLower_1 (by decide) (fun c1 => ?_) (fun c1 => ?_)
  · refine lv_iconst (v := nI 1) hx hb dX6_isUpperOrLower_9 (by decide) ?_
    refine lv_goto (tgt := 14) hx hb dX6_isUpperOrLower_10 (by decide) ?_
    rw [hQ]
    exact W.zret (v := nI 1) hx hb hr (rfl) (fun t ht hW => ⟨_, rfl, by (try simp only [toInt_lt, toInt_le, toInt_eq, tI0, tIn (show 1 < 2 ^ 31 by decide)] at c1); (try simp only [toInt_lt, toInt_le, toInt_eq, tI0, tIn (show 1 < 2 ^ 31 by decide)] at c6); first | exact inR_t (by omega) (by omega) | exact inR_f (by omega), ht⟩) (fun _ h => by cases h) dX6_isUpperOrLower_14
  · refine lv_iload_n hx hb dX6_isUpperOrLower_4 rfl (lv_at hl 0 rfl) ?_
    refine lv_iconst (v := nI 1) hx hb dX6_isUpperOrLower_5 (by decide) ?_
    refine lv_icmp_ne (x := x) (y := nI 1) (tgt := 13) hx hb dX6_isUpperOrLower_6 (by decide) (fun c6 => ?_) (fun c6 => ?_)
    · refine lv_iconst (v := nI 0) hx hb dX6_isUpperOrLower_13 (by decide) ?_
      rw [hQ]
      exact W.zret (v := nI 0) hx hb hr (rfl) (fun t ht hW => ⟨_, rfl, by (try simp only [toInt_lt, toInt_le, toInt_eq, tI0, tIn (show 1 < 2 ^ 31 by decide)] at c1); (try simp only [toInt_lt, toInt_le, toInt_eq, tI0, tIn (show 1 < 2 ^ 31 by decide)] at c6); first | exact inR_t (by omega) (by omega) | exact inR_f (by omega), ht⟩) (fun _ h => by cases h) dX6_isUpperOrLower_14
    · refine lv_iconst (v := nI 1) hx hb dX6_isUpperOrLower_9 (by decide) ?_
      refine lv_goto (tgt := 14) hx hb dX6_isUpperOrLower_10 (by decide) ?_
      rw [hQ]
      exact W.zret (v := nI 1) hx hb hr (rfl) (fun t ht hW => ⟨_, rfl, by (try simp only [toInt_lt, toInt_le, toInt_eq, tI0, tIn (show 1 < 2 ^ 31 by decide)] at c1); (try simp only [toInt_lt, toInt_le, toInt_eq, tI0, tIn (show 1 < 2 ^ 31 by decide)] at c6); first | exact inR_t (by omega) (by omega) | exact inR_f (by omega), ht⟩) (fun _ h => by cases h) dX6_isUpperOrLower_14

set_option maxHeartbeats 4000000 in
set_option maxRecDepth 100000 in
theorem mt_X1_with (l : Launch) (D : va_G) (cI cJ cZ : ClassId) (x : Nat) (k : Nat) (d : Bool) (hk : k < 31) : Met l yX1_with (aW yX1_with cX1_with 3 (some .int)) { frames := 0, cells := 0, slots := 0, locals := 0 } (cP D cI cJ cZ [.int (nI x), .int (nI k), .int (nI d.toNat)] []) (vp_Si (fun r => r = nI (wth x k d))) 0 0 (fun _ => False) := by
  refine Met.ofW (cc := cX1_with) (maxL := 3) (ret := (some .int)) (by decide) rfl ?_
  intro p e s m args below meth c s₁ B hml hv
  obtain ⟨hav, hP, hK⟩ := hv
  have hx := B.exec
  have hb := B.bytes
  have hr := B.returns
  have hts := aW_in (atoms_spec (ws := aW yX1_with cX1_with 3 (some .int)) B.pre)
  have hown : s.vm.findClass RX1 = some m.cls := findClass_of_methodNamed B.named
  have hlocks := B.notSynchronized
  obtain ⟨R, hR⟩ : ∃ R, R = (headSpec (aW yX1_with cX1_with 3 (some .int)) { frames := 0, cells := 0, slots := 0, locals := 0 }).room := ⟨_, rfl⟩
  rw [← hR]
  obtain ⟨Q, hQ⟩ : ∃ Q, Q = MQ below (vp_Si (fun r => r = nI (wth x k d))) args s 0 0 (fun _ => False) := ⟨_, rfl⟩
  rw [← hQ]
  have hl := lv_entry [.int (nI x), .int (nI k), .int (nI d.toNat)] (n := 3) (Nat.le_of_ble_eq_true rfl)
  have hent := lg_entry_eq m [.int (nI x), .int (nI k), .int (nI d.toNat)] 3
  rw [← hav] at hent
  rw [hent]
  generalize (lg_sl [.int (nI x), .int (nI k), .int (nI d.toNat)] ++ List.replicate (3 - (lg_sl [.int (nI x), .int (nI k), .int (nI d.toNat)]).length) Slot.unset).toArray = ls at hl ⊢
  have hl : lv_has ls 3 [(0, .int (nI x)), (1, .int (nI k)), (2, .int (nI d.toNat))] := hl
  refine lv_iload_n hx hb dX1_with_0 rfl (lv_at hl 2 rfl) ?_
  refine x_beq (tgt := 12) hx hb dX1_with_1 (by decide) (fun c1 => ?_) (fun c1 => ?_)
  · refine lv_iload_n hx hb dX1_with_12 rfl (lv_at hl 0 rfl) ?_
    refine lv_iconst (v := nI 1) hx hb dX1_with_13 (by decide) ?_
    refine lv_iload_n hx hb dX1_with_14 rfl (lv_at hl 1 rfl) ?_
    refine x_ishl (z := nI (2 ^ k)) hx hb dX1_with_15 (z_shl1 (by first | assumption | omega)) ?_
    refine lv_iconst (v := (-1)) hx hb dX1_with_16 (by decide) ?_
    refine x_ixor (z := nI (2 ^ k) ^^^ (-1)) hx hb dX1_with_17 (rfl) ?_
    refine x_iand (z := nI (ndf x (2 ^ k))) hx hb dX1_with_18 (z_ndf _ _) ?_
    rw [hQ]
    exact W.iret (v := nI (ndf x (2 ^ k))) hx hb hr (fun t ht hW => ⟨_, rfl, by rw [wth, c1]; rfl, ht⟩) (fun _ h => by cases h) dX1_with_19
  · refine lv_iload_n hx hb dX1_with_4 rfl (lv_at hl 0 rfl) ?_
    refine lv_iconst (v := nI 1) hx hb dX1_with_5 (by decide) ?_
    refine lv_iload_n hx hb dX1_with_6 rfl (lv_at hl 1 rfl) ?_
    refine x_ishl (z := nI (2 ^ k)) hx hb dX1_with_7 (z_shl1 (by first | assumption | omega)) ?_
    refine x_ior (z := nI (x ||| (2 ^ k))) hx hb dX1_with_8 (z_or _ _) ?_
    refine lv_goto (tgt := 19) hx hb dX1_with_9 (by decide) ?_
    rw [hQ]
    exact W.iret (v := nI (x ||| (2 ^ k))) hx hb hr (fun t ht hW => ⟨_, rfl, by rw [wth, c1]; rfl, ht⟩) (fun _ h => by cases h) dX1_with_19

set_option maxHeartbeats 4000000 in
set_option maxRecDepth 100000 in
theorem mt_X1_linkBetween (l : Launch) (D : va_G) (cI cJ cZ : ClassId) (k0 : Nat) (k1 : Nat) (k2 : Nat) (k3 : Nat) (k4 : Nat) (k5 : Nat) (k6 : Nat) (K : Kn) (fi : Nat) (ca : Nat) (hf : fi < 12) (hc : ca < 10) (hL : K.2.2 fi ca ≤ 2) : Met l yX1_linkBetween (aW yX1_linkBetween cX1_linkBetween 3 (some .int)) { frames := 1, cells := 0, slots := 0, locals := 21 } (cP D cI cJ cZ [.ref k0, .int (nI fi), .int (nI ca)] [(k0, .inr (1, [.ref k1, .ref k2, .ref k3, .ref k4, .ref k5, .ref k6])), (k1, .inl (cI, 10, .inl (fN K.1))), (k2, .inl (cI, 10, .inl (fN K.2.1))), (k3, .inl (cI, 10, .inl (fN (lfM K)))), (k4, .inl (cI, 10, .inl (fN (mfM K)))), (k5, .inl (cI, 12, .inl (fN (lcM K)))), (k6, .inl (cI, 12, .inl (fN (mcM K))))]) (vp_Si (fun r => r = nI (K.2.2 fi ca))) 0 0 (fun _ => False) := by
  refine Met.ofW (cc := cX1_linkBetween) (maxL := 3) (ret := (some .int)) (by decide) rfl ?_
  intro p e s m args below meth c s₁ B hml hv
  obtain ⟨hav, hP, hK⟩ := hv
  have hx := B.exec
  have hb := B.bytes
  have hr := B.returns
  have hts := aW_in (atoms_spec (ws := aW yX1_linkBetween cX1_linkBetween 3 (some .int)) B.pre)
  have hown : s.vm.findClass RX1 = some m.cls := findClass_of_methodNamed B.named
  have hlocks := B.notSynchronized
  obtain ⟨R, hR⟩ : ∃ R, R = (headSpec (aW yX1_linkBetween cX1_linkBetween 3 (some .int)) { frames := 1, cells := 0, slots := 0, locals := 21 }).room := ⟨_, rfl⟩
  rw [← hR]
  obtain ⟨Q, hQ⟩ : ∃ Q, Q = MQ below (vp_Si (fun r => r = nI (K.2.2 fi ca))) args s 0 0 (fun _ => False) := ⟨_, rfl⟩
  rw [← hQ]
  have hl := lv_entry [.ref k0, .int (nI fi), .int (nI ca)] (n := 3) (Nat.le_of_ble_eq_true rfl)
  have hent := lg_entry_eq m [.ref k0, .int (nI fi), .int (nI ca)] 3
  rw [← hav] at hent
  rw [hent]
  generalize (lg_sl [.ref k0, .int (nI fi), .int (nI ca)] ++ List.replicate (3 - (lg_sl [.ref k0, .int (nI fi), .int (nI ca)]).length) Slot.unset).toArray = ls at hl ⊢
  have hl : lv_has ls 3 [(0, .ref k0), (1, .int (nI fi)), (2, .int (nI ca))] := hl
  refine lv_aload_n hx hb dX1_linkBetween_0 rfl (lv_at hl 0 rfl) ?_
  refine va_get (D := D) (ci := 1) (v := .ref k4) (C := RX1) (T := TX1) (N := 6) hx hb hts inA1 hown hK.1 hP 0 rfl rfl 3 (by decide) (hts _ kf_RX1_21) (fun _ h9 => h9) rfl dX1_linkBetween_1 ?_
  refine lv_iload_n hx hb dX1_linkBetween_4 rfl (lv_at hl 2 rfl) ?_
  refine x_ildN hx hb hK.1 hP 4 0 rfl rfl (by first | assumption | omega) (by decide) dX1_linkBetween_5 ?_
  refine lv_iload_n hx hb dX1_linkBetween_6 rfl (lv_at hl 1 rfl) ?_
  refine vp_callSi (va_Run.run (va_runSN (As := [.int (nI ((mfM K) ca)), .int (nI fi)]) (rest := []) ⟨hx, hb, hml, hown, hts⟩ (mt_X6_has l D cI cJ cZ ((mfM K) ca) fi (Nat.lt_trans (mkN_lt _ _) (by decide)) (by first | assumption | omega)) ⟨va_cnB 2 hts (aW_good kc_yX6_has) rfl rfl rfl hK.2.1 (hts _ kn_RX6) (by decide +kernel) (by rw [hR]; exact ⟨Nat.le_of_ble_eq_true rfl, Nat.le_of_ble_eq_true rfl⟩), hts _ ks_yX6_has, trivial⟩ (cP_S hK (fun k q h => by simp at h)) rfl rfl hl.1 rfl (lv_room (Nat.le_of_ble_eq_true rfl)) dX1_linkBetween_7 ⟨Nat.zero_le _, Nat.zero_le _⟩)) (fun r_ hr_ => ?_)
  subst hr_
  refine x_beq (tgt := 15) hx hb dX1_linkBetween_10 (by decide) (fun c10 => ?_) (fun c10 => ?_)
  · refine lv_aload_n hx hb dX1_linkBetween_15 rfl (lv_at hl 0 rfl) ?_
    refine va_get (D := D) (ci := 1) (v := .ref k3) (C := RX1) (T := TX1) (N := 6) hx hb hts inA1 hown hK.1 hP 0 rfl rfl 2 (by decide) (hts _ kf_RX1_18) (fun _ h9 => h9) rfl dX1_linkBetween_16 ?_
    refine lv_iload_n hx hb dX1_linkBetween_19 rfl (lv_at hl 2 rfl) ?_
    refine x_ildN hx hb hK.1 hP 3 0 rfl rfl (by first | assumption | omega) (by decide) dX1_linkBetween_20 ?_
    refine lv_iload_n hx hb dX1_linkBetween_21 rfl (lv_at hl 1 rfl) ?_
    refine vp_callSi (va_Run.run (va_runSN (As := [.int (nI ((lfM K) ca)), .int (nI fi)]) (rest := []) ⟨hx, hb, hml, hown, hts⟩ (mt_X6_has l D cI cJ cZ ((lfM K) ca) fi (Nat.lt_trans (mkN_lt _ _) (by decide)) (by first | assumption | omega)) ⟨va_cnB 2 hts (aW_good kc_yX6_has) rfl rfl rfl hK.2.1 (hts _ kn_RX6) (by decide +kernel) (by rw [hR]; exact ⟨Nat.le_of_ble_eq_true rfl, Nat.le_of_ble_eq_true rfl⟩), hts _ ks_yX6_has, trivial⟩ (cP_S hK (fun k q h => by simp at h)) rfl rfl hl.1 rfl (lv_room (Nat.le_of_ble_eq_true rfl)) dX1_linkBetween_22 ⟨Nat.zero_le _, Nat.zero_le _⟩)) (fun r_ hr_ => ?_)
    subst hr_
    refine x_beq (tgt := 32) hx hb dX1_linkBetween_25 (by decide) (fun c25 => ?_) (fun c25 => ?_)
    · refine lv_iconst (v := nI 0) hx hb dX1_linkBetween_32 (by decide) ?_
      rw [hQ]
      exact W.iret (v := nI 0) hx hb hr (fun t ht hW => ⟨_, rfl, by first | exact lB2 hL hf c10 c25 | exact lB3 hf c25, ht⟩) (fun _ h => by cases h) dX1_linkBetween_33
    · refine lv_iconst (v := nI 1) hx hb dX1_linkBetween_28 (by decide) ?_
      refine lv_goto (tgt := 33) hx hb dX1_linkBetween_29 (by decide) ?_
      rw [hQ]
      exact W.iret (v := nI 1) hx hb hr (fun t ht hW => ⟨_, rfl, by first | exact lB2 hL hf c10 c25 | exact lB3 hf c25, ht⟩) (fun _ h => by cases h) dX1_linkBetween_33
  · refine lv_iconst (v := nI 2) hx hb dX1_linkBetween_13 (by decide) ?_
    rw [hQ]
    exact W.iret (v := nI 2) hx hb hr (fun t ht hW => ⟨_, rfl, lB1 hf c10, ht⟩) (fun _ h => by cases h) dX1_linkBetween_14

set_option maxHeartbeats 4000000 in
set_option maxRecDepth 100000 in
theorem mt_X1_excludedBy (l : Launch) (D : va_G) (cI cJ cZ : ClassId) (k0 : Nat) (k1 : Nat) (k2 : Nat) (k3 : Nat) (k4 : Nat) (k5 : Nat) (k6 : Nat) (K : Kn) (S : Nat → Nat) : Met l yX1_excludedBy (aW yX1_excludedBy cX1_excludedBy 4 (some .int)) { frames := 1, cells := 0, slots := 0, locals := 21 } (cP D cI cJ cZ [.ref k0, .int (nI (abM S))] [(k0, .inr (1, [.ref k1, .ref k2, .ref k3, .ref k4, .ref k5, .ref k6])), (k1, .inl (cI, 10, .inl (fN K.1))), (k2, .inl (cI, 10, .inl (fN K.2.1))), (k3, .inl (cI, 10, .inl (fN (lfM K)))), (k4, .inl (cI, 10, .inl (fN (mfM K)))), (k5, .inl (cI, 12, .inl (fN (lcM K)))), (k6, .inl (cI, 12, .inl (fN (mcM K))))]) (vp_Si (fun r => r = nI (exM K S))) 0 0 (fun _ => False) := by
  refine Met.ofW (cc := cX1_excludedBy) (maxL := 4) (ret := (some .int)) (by decide) rfl ?_
  intro p e s m args below meth c s₁ B hml hv
  obtain ⟨hav, hP, hK⟩ := hv
  have hx := B.exec
  have hb := B.bytes
  have hr := B.returns
  have hts := aW_in (atoms_spec (ws := aW yX1_excludedBy cX1_excludedBy 4 (some .int)) B.pre)
  have hown : s.vm.findClass RX1 = some m.cls := findClass_of_methodNamed B.named
  have hlocks := B.notSynchronized
  obtain ⟨R, hR⟩ : ∃ R, R = (headSpec (aW yX1_excludedBy cX1_excludedBy 4 (some .int)) { frames := 1, cells := 0, slots := 0, locals := 21 }).room := ⟨_, rfl⟩
  rw [← hR]
  obtain ⟨Q, hQ⟩ : ∃ Q, Q = MQ below (vp_Si (fun r => r = nI (exM K S))) args s 0 0 (fun _ => False) := ⟨_, rfl⟩
  rw [← hQ]
  have hl := lv_entry [.ref k0, .int (nI (abM S))] (n := 4) (Nat.le_of_ble_eq_true rfl)
  have hent := lg_entry_eq m [.ref k0, .int (nI (abM S))] 4
  rw [← hav] at hent
  rw [hent]
  generalize (lg_sl [.ref k0, .int (nI (abM S))] ++ List.replicate (4 - (lg_sl [.ref k0, .int (nI (abM S))]).length) Slot.unset).toArray = ls at hl ⊢
  have hl : lv_has ls 4 [(0, .ref k0), (1, .int (nI (abM S)))] := hl
  refine lv_iconst (v := nI 0) hx hb dX1_excludedBy_0 (by decide) ?_
  refine lv_istore_n (lv' := [(2, .int (nI 0)), (0, .ref k0), (1, .int (nI (abM S)))]) hx hb dX1_excludedBy_1 rfl hl (by decide) rfl (fun ls hl => ?_)
  refine lv_iconst (v := nI 0) hx hb dX1_excludedBy_2 (by decide) ?_
  refine lv_istore_n (lv' := [(3, .int (nI 0)), (2, .int (nI 0)), (0, .ref k0), (1, .int (nI (abM S)))]) hx hb dX1_excludedBy_3 rfl hl (by decide) rfl (fun ls hl => ?_)
  have lp4 : ∀ (n : Nat) (j : Nat) (a : Nat) (ls : Array Slot), (j + n = 12) → (a = exI K S j) → lv_has ls 4 [(3, .int (nI j)), (2, .int (nI a)), (0, .ref k0), (1, .int (nI (abM S)))] → W p l e R s m args below meth c s.heap [] 0 0 Q (F0 m 4 ls []) := by
    intro n
    induction n with
    | zero =>
      intro j a ls hn ha hl
      refine lv_iload_n hx hb dX1_excludedBy_4 rfl (lv_at hl 0 rfl) ?_
      refine lv_bipush (v := nI 12) hx hb dX1_excludedBy_5 (by decide) ?_
      refine x_cge (a := j) (b := 12) (tgt := 33) hx hb (by first | assumption | omega) (by decide) dX1_excludedBy_7 (by decide) (fun c7 => ?_) (fun c7 => (by omega))
      refine lv_iload_n hx hb dX1_excludedBy_33 rfl (lv_at hl 1 rfl) ?_
      rw [hQ]
      exact W.iret (v := nI a) hx hb hr (fun t ht hW => ⟨_, rfl, by rw [ha, show j = 12 by omega]; rfl, ht⟩) (fun _ h => by cases h) dX1_excludedBy_34
    | succ n ih4 =>
      intro j a ls hn ha hl
      refine lv_iload_n hx hb dX1_excludedBy_4 rfl (lv_at hl 0 rfl) ?_
      refine lv_bipush (v := nI 12) hx hb dX1_excludedBy_5 (by decide) ?_
      refine x_cge (a := j) (b := 12) (tgt := 33) hx hb (by first | assumption | omega) (by decide) dX1_excludedBy_7 (by decide) (fun c7 => (by omega)) (fun c7 => ?_)
      refine lv_iload_n hx hb dX1_excludedBy_10 rfl (lv_at hl 3 rfl) ?_
      refine lv_iload_n hx hb dX1_excludedBy_11 rfl (lv_at hl 0 rfl) ?_
      refine vp_callSi (va_Run.run (va_runSN (As := [.int (nI (abM S)), .int (nI j)]) (rest := []) ⟨hx, hb, hml, hown, hts⟩ (mt_X6_has l D cI cJ cZ (abM S) j (Nat.lt_trans (mkN_lt _ _) (by decide)) (by first | assumption | omega)) ⟨va_cnB 2 hts (aW_good kc_yX6_has) rfl rfl rfl hK.2.1 (hts _ kn_RX6) (by decide +kernel) (by rw [hR]; exact ⟨Nat.le_of_ble_eq_true rfl, Nat.le_of_ble_eq_true rfl⟩), hts _ ks_yX6_has, trivial⟩ (cP_S hK (fun k q h => by simp at h)) rfl rfl hl.1 rfl (lv_room (Nat.le_of_ble_eq_true rfl)) dX1_excludedBy_12 ⟨Nat.zero_le _, Nat.zero_le _⟩)) (fun r_ hr_ => ?_)
      subst hr_
      refine x_beq (tgt := 27) hx hb dX1_excludedBy_15 (by decide) (fun c15 => ?_) (fun c15 => ?_)
      · refine lv_iinc (v := nI (j + 1)) (lv' := [(3, .int (nI (j + 1))), (2, .int (nI a)), (0, .ref k0), (1, .int (nI (abM S)))]) hx hb dX1_excludedBy_27 hl (k := 0) rfl (x_inc1 _) (by decide) rfl (fun ls hl => ?_)
        refine lv_goto (tgt := 4) hx hb dX1_excludedBy_30 (by decide) ?_
        exact ih4 (j + 1) a ls (by omega) (by rw [ha]; first | exact exI_step (by rw [← abM_bit S (by omega)]; assumption) | exact exI_skip (by rw [← abM_bit S (by omega)]; assumption)) (lv_sub hl [0, 1, 2, 3] rfl)
      · refine lv_iload_n hx hb dX1_excludedBy_18 rfl (lv_at hl 1 rfl) ?_
        refine lv_aload_n hx hb dX1_excludedBy_19 rfl (lv_at hl 2 rfl) ?_
        refine va_get (D := D) (ci := 1) (v := .ref k6) (C := RX1) (T := TX1) (N := 6) hx hb hts inA1 hown hK.1 hP 0 rfl rfl 5 (by decide) (hts _ kf_RX1_27) (fun _ h9 => h9) rfl dX1_excludedBy_20 ?_
        refine lv_iload_n hx hb dX1_excludedBy_23 rfl (lv_at hl 0 rfl) ?_
        refine x_ildN hx hb hK.1 hP 6 0 rfl rfl (by first | assumption | omega) (by decide) dX1_excludedBy_24 ?_
        refine x_ior (z := nI (a ||| ((mcM K) j))) hx hb dX1_excludedBy_25 (z_or _ _) ?_
        refine lv_istore_n (lv' := [(2, .int (nI (a ||| ((mcM K) j)))), (3, .int (nI j)), (0, .ref k0), (1, .int (nI (abM S)))]) hx hb dX1_excludedBy_26 rfl hl (by decide) rfl (fun ls hl => ?_)
        refine lv_iinc (v := nI (j + 1)) (lv' := [(3, .int (nI (j + 1))), (2, .int (nI (a ||| ((mcM K) j)))), (0, .ref k0), (1, .int (nI (abM S)))]) hx hb dX1_excludedBy_27 hl (k := 1) rfl (x_inc1 _) (by decide) rfl (fun ls hl => ?_)
        refine lv_goto (tgt := 4) hx hb dX1_excludedBy_30 (by decide) ?_
        exact ih4 (j + 1) (a ||| ((mcM K) j)) ls (by omega) (by rw [ha]; first | exact exI_step (by rw [← abM_bit S (by omega)]; assumption) | exact exI_skip (by rw [← abM_bit S (by omega)]; assumption)) (lv_sub hl [0, 1, 2, 3] rfl)
  exact lp4 (12) 0 0 ls (by omega) ((exI_0 K S).symm) (lv_sub hl [0, 1, 2, 3] rfl)

set_option maxHeartbeats 4000000 in
set_option maxRecDepth 100000 in
theorem mt_X1_findingsOf (l : Launch) (D : va_G) (cI cJ cZ : ClassId) (k0 : Nat) (k1 : Nat) (k2 : Nat) (k3 : Nat) (k4 : Nat) (k5 : Nat) (k6 : Nat) (K : Kn) (x : Nat) (hx0 : x < 2 ^ 31) : Met l yX1_findingsOf (aW yX1_findingsOf cX1_findingsOf 4 (some .int)) { frames := 1, cells := 0, slots := 0, locals := 21 } (cP D cI cJ cZ [.ref k0, .int (nI x)] [(k0, .inr (1, [.ref k1, .ref k2, .ref k3, .ref k4, .ref k5, .ref k6])), (k1, .inl (cI, 10, .inl (fN K.1))), (k2, .inl (cI, 10, .inl (fN K.2.1))), (k3, .inl (cI, 10, .inl (fN (lfM K)))), (k4, .inl (cI, 10, .inl (fN (mfM K)))), (k5, .inl (cI, 12, .inl (fN (lcM K)))), (k6, .inl (cI, 12, .inl (fN (mcM K))))]) (vp_Si (fun r => r = nI (foM K x))) 0 0 (fun _ => False) := by
  refine Met.ofW (cc := cX1_findingsOf) (maxL := 4) (ret := (some .int)) (by decide) rfl ?_
  intro p e s m args below meth c s₁ B hml hv
  obtain ⟨hav, hP, hK⟩ := hv
  have hx := B.exec
  have hb := B.bytes
  have hr := B.returns
  have hts := aW_in (atoms_spec (ws := aW yX1_findingsOf cX1_findingsOf 4 (some .int)) B.pre)
  have hown : s.vm.findClass RX1 = some m.cls := findClass_of_methodNamed B.named
  have hlocks := B.notSynchronized
  obtain ⟨R, hR⟩ : ∃ R, R = (headSpec (aW yX1_findingsOf cX1_findingsOf 4 (some .int)) { frames := 1, cells := 0, slots := 0, locals := 21 }).room := ⟨_, rfl⟩
  rw [← hR]
  obtain ⟨Q, hQ⟩ : ∃ Q, Q = MQ below (vp_Si (fun r => r = nI (foM K x))) args s 0 0 (fun _ => False) := ⟨_, rfl⟩
  rw [← hQ]
  have hl := lv_entry [.ref k0, .int (nI x)] (n := 4) (Nat.le_of_ble_eq_true rfl)
  have hent := lg_entry_eq m [.ref k0, .int (nI x)] 4
  rw [← hav] at hent
  rw [hent]
  generalize (lg_sl [.ref k0, .int (nI x)] ++ List.replicate (4 - (lg_sl [.ref k0, .int (nI x)]).length) Slot.unset).toArray = ls at hl ⊢
  have hl : lv_has ls 4 [(0, .ref k0), (1, .int (nI x))] := hl
  refine lv_iconst (v := nI 0) hx hb dX1_findingsOf_0 (by decide) ?_
  refine lv_istore_n (lv' := [(2, .int (nI 0)), (0, .ref k0), (1, .int (nI x))]) hx hb dX1_findingsOf_1 rfl hl (by decide) rfl (fun ls hl => ?_)
  refine lv_iconst (v := nI 0) hx hb dX1_findingsOf_2 (by decide) ?_
  refine lv_istore_n (lv' := [(3, .int (nI 0)), (2, .int (nI 0)), (0, .ref k0), (1, .int (nI x))]) hx hb dX1_findingsOf_3 rfl hl (by decide) rfl (fun ls hl => ?_)
  have lp4 : ∀ (n : Nat) (j : Nat) (a : Nat) (ls : Array Slot), (j + n = 10) → (a = foI K x j) → lv_has ls 4 [(3, .int (nI j)), (2, .int (nI a)), (0, .ref k0), (1, .int (nI x))] → W p l e R s m args below meth c s.heap [] 0 0 Q (F0 m 4 ls []) := by
    intro n
    induction n with
    | zero =>
      intro j a ls hn ha hl
      refine lv_iload_n hx hb dX1_findingsOf_4 rfl (lv_at hl 0 rfl) ?_
      refine lv_bipush (v := nI 10) hx hb dX1_findingsOf_5 (by decide) ?_
      refine x_cge (a := j) (b := 10) (tgt := 33) hx hb (by first | assumption | omega) (by decide) dX1_findingsOf_7 (by decide) (fun c7 => ?_) (fun c7 => (by omega))
      refine lv_iload_n hx hb dX1_findingsOf_33 rfl (lv_at hl 1 rfl) ?_
      rw [hQ]
      exact W.iret (v := nI a) hx hb hr (fun t ht hW => ⟨_, rfl, by rw [ha, show j = 10 by omega]; rfl, ht⟩) (fun _ h => by cases h) dX1_findingsOf_34
    | succ n ih4 =>
      intro j a ls hn ha hl
      refine lv_iload_n hx hb dX1_findingsOf_4 rfl (lv_at hl 0 rfl) ?_
      refine lv_bipush (v := nI 10) hx hb dX1_findingsOf_5 (by decide) ?_
      refine x_cge (a := j) (b := 10) (tgt := 33) hx hb (by first | assumption | omega) (by decide) dX1_findingsOf_7 (by decide) (fun c7 => (by omega)) (fun c7 => ?_)
      refine lv_iload_n hx hb dX1_findingsOf_10 rfl (lv_at hl 3 rfl) ?_
      refine lv_iload_n hx hb dX1_findingsOf_11 rfl (lv_at hl 0 rfl) ?_
      refine vp_callSi (va_Run.run (va_runSN (As := [.int (nI x), .int (nI j)]) (rest := []) ⟨hx, hb, hml, hown, hts⟩ (mt_X6_has l D cI cJ cZ x j (by first | assumption | omega) (by first | assumption | omega)) ⟨va_cnB 2 hts (aW_good kc_yX6_has) rfl rfl rfl hK.2.1 (hts _ kn_RX6) (by decide +kernel) (by rw [hR]; exact ⟨Nat.le_of_ble_eq_true rfl, Nat.le_of_ble_eq_true rfl⟩), hts _ ks_yX6_has, trivial⟩ (cP_S hK (fun k q h => by simp at h)) rfl rfl hl.1 rfl (lv_room (Nat.le_of_ble_eq_true rfl)) dX1_findingsOf_12 ⟨Nat.zero_le _, Nat.zero_le _⟩)) (fun r_ hr_ => ?_)
      subst hr_
      refine x_beq (tgt := 27) hx hb dX1_findingsOf_15 (by decide) (fun c15 => ?_) (fun c15 => ?_)
      · refine lv_iinc (v := nI (j + 1)) (lv' := [(3, .int (nI (j + 1))), (2, .int (nI a)), (0, .ref k0), (1, .int (nI x))]) hx hb dX1_findingsOf_27 hl (k := 0) rfl (x_inc1 _) (by decide) rfl (fun ls hl => ?_)
        refine lv_goto (tgt := 4) hx hb dX1_findingsOf_30 (by decide) ?_
        exact ih4 (j + 1) a ls (by omega) (by rw [ha]; first | exact foI_step (by assumption) | exact foI_skip (by assumption)) (lv_sub hl [0, 1, 2, 3] rfl)
      · refine lv_iload_n hx hb dX1_findingsOf_18 rfl (lv_at hl 1 rfl) ?_
        refine lv_aload_n hx hb dX1_findingsOf_19 rfl (lv_at hl 2 rfl) ?_
        refine va_get (D := D) (ci := 1) (v := .ref k3) (C := RX1) (T := TX1) (N := 6) hx hb hts inA1 hown hK.1 hP 0 rfl rfl 2 (by decide) (hts _ kf_RX1_18) (fun _ h9 => h9) rfl dX1_findingsOf_20 ?_
        refine lv_iload_n hx hb dX1_findingsOf_23 rfl (lv_at hl 0 rfl) ?_
        refine x_ildN hx hb hK.1 hP 3 0 rfl rfl (by first | assumption | omega) (by decide) dX1_findingsOf_24 ?_
        refine x_ior (z := nI (a ||| ((lfM K) j))) hx hb dX1_findingsOf_25 (z_or _ _) ?_
        refine lv_istore_n (lv' := [(2, .int (nI (a ||| ((lfM K) j)))), (3, .int (nI j)), (0, .ref k0), (1, .int (nI x))]) hx hb dX1_findingsOf_26 rfl hl (by decide) rfl (fun ls hl => ?_)
        refine lv_iinc (v := nI (j + 1)) (lv' := [(3, .int (nI (j + 1))), (2, .int (nI (a ||| ((lfM K) j)))), (0, .ref k0), (1, .int (nI x))]) hx hb dX1_findingsOf_27 hl (k := 1) rfl (x_inc1 _) (by decide) rfl (fun ls hl => ?_)
        refine lv_goto (tgt := 4) hx hb dX1_findingsOf_30 (by decide) ?_
        exact ih4 (j + 1) (a ||| ((lfM K) j)) ls (by omega) (by rw [ha]; first | exact foI_step (by assumption) | exact foI_skip (by assumption)) (lv_sub hl [0, 1, 2, 3] rfl)
  exact lp4 (10) 0 0 ls (by omega) ((foI_0 K x).symm) (lv_sub hl [0, 1, 2, 3] rfl)

set_option maxHeartbeats 4000000 in
set_option maxRecDepth 100000 in
theorem mt_X1_neededFor (l : Launch) (D : va_G) (cI cJ cZ : ClassId) (k0 : Nat) (k1 : Nat) (k2 : Nat) (k3 : Nat) (k4 : Nat) (k5 : Nat) (k6 : Nat) (K : Kn) (x : Nat) (ca : Nat) (t : Nat) (hx0 : x < 2 ^ 10) (hc : ca < 10) : Met l yX1_neededFor (aW yX1_neededFor cX1_neededFor 4 (some .int)) { frames := 2, cells := 0, slots := 0, locals := 44 } (cP D cI cJ cZ [.ref k0, .int (nI x), .int (nI ca), .int (nI t)] [(k0, .inr (1, [.ref k1, .ref k2, .ref k3, .ref k4, .ref k5, .ref k6])), (k1, .inl (cI, 10, .inl (fN K.1))), (k2, .inl (cI, 10, .inl (fN K.2.1))), (k3, .inl (cI, 10, .inl (fN (lfM K)))), (k4, .inl (cI, 10, .inl (fN (mfM K)))), (k5, .inl (cI, 12, .inl (fN (lcM K)))), (k6, .inl (cI, 12, .inl (fN (mcM K))))]) (vp_Si (fun r => r = nI (need K t x ca))) 0 0 (fun _ => False) := by
  refine Met.ofW (cc := cX1_neededFor) (maxL := 4) (ret := (some .int)) (by decide) rfl ?_
  intro p e s m args below meth c s₁ B hml hv
  obtain ⟨hav, hP, hK⟩ := hv
  have hx := B.exec
  have hb := B.bytes
  have hr := B.returns
  have hts := aW_in (atoms_spec (ws := aW yX1_neededFor cX1_neededFor 4 (some .int)) B.pre)
  have hown : s.vm.findClass RX1 = some m.cls := findClass_of_methodNamed B.named
  have hlocks := B.notSynchronized
  obtain ⟨R, hR⟩ : ∃ R, R = (headSpec (aW yX1_neededFor cX1_neededFor 4 (some .int)) { frames := 2, cells := 0, slots := 0, locals := 44 }).room := ⟨_, rfl⟩
  rw [← hR]
  obtain ⟨Q, hQ⟩ : ∃ Q, Q = MQ below (vp_Si (fun r => r = nI (need K t x ca))) args s 0 0 (fun _ => False) := ⟨_, rfl⟩
  rw [← hQ]
  have hl := lv_entry [.ref k0, .int (nI x), .int (nI ca), .int (nI t)] (n := 4) (Nat.le_of_ble_eq_true rfl)
  have hent := lg_entry_eq m [.ref k0, .int (nI x), .int (nI ca), .int (nI t)] 4
  rw [← hav] at hent
  rw [hent]
  generalize (lg_sl [.ref k0, .int (nI x), .int (nI ca), .int (nI t)] ++ List.replicate (4 - (lg_sl [.ref k0, .int (nI x), .int (nI ca), .int (nI t)]).length) Slot.unset).toArray = ls at hl ⊢
  have hl : lv_has ls 4 [(0, .ref k0), (1, .int (nI x)), (2, .int (nI ca)), (3, .int (nI t))] := hl
  refine lv_iload_n hx hb dX1_neededFor_0 rfl (lv_at hl 3 rfl) ?_
  refine lv_aload_n hx hb dX1_neededFor_1 rfl (lv_at hl 0 rfl) ?_
  refine va_get (D := D) (ci := 1) (v := .ref k3) (C := RX1) (T := TX1) (N := 6) hx hb hts inA1 hown hK.1 hP 0 rfl rfl 2 (by decide) (hts _ kf_RX1_18) (fun _ h9 => h9) rfl dX1_neededFor_2 ?_
  refine lv_iload_n hx hb dX1_neededFor_5 rfl (lv_at hl 2 rfl) ?_
  refine x_ildN hx hb hK.1 hP 3 0 rfl rfl (by first | assumption | omega) (by decide) dX1_neededFor_6 ?_
  refine x_iand (z := nI (t &&& ((lfM K) ca))) hx hb dX1_neededFor_7 (z_and _ _) ?_
  refine lv_aload_n hx hb dX1_neededFor_8 rfl (lv_at hl 0 rfl) ?_
  refine lv_iload_n hx hb dX1_neededFor_9 rfl (lv_at hl 1 rfl) ?_
  refine lv_iload_n hx hb dX1_neededFor_10 rfl (lv_at hl 2 rfl) ?_
  refine lv_iconst (v := nI 0) hx hb dX1_neededFor_11 (by decide) ?_
  refine vp_callSi (va_Run.run (va_runS (As := [.int (nI x), .int (nI ca), .int (nI 0)]) (rest := [.ref k0, .int (nI (t &&& ((lfM K) ca)))]) ⟨hx, hb, hml, hown, hts⟩ (mt_X1_with l D cI cJ cZ x ca false (by first | assumption | omega)) (va_cwS 3 hts (gS km_RX1_34 ks_yX1_with kn_RX1 kc_yX1_with) rfl rfl rfl (by decide +kernel) (by rw [hR]; exact ⟨Nat.le_of_ble_eq_true rfl, Nat.le_of_ble_eq_true rfl⟩)) (cP_S hK (fun k q h => by simp at h)) rfl rfl hl.1 rfl (lv_room (Nat.le_of_ble_eq_true rfl)) dX1_neededFor_12 ⟨Nat.zero_le _, Nat.zero_le _⟩)) (fun r_ hr_ => ?_)
  subst hr_
  refine vp_callSi (va_Run.run (va_runV (As := [.int (nI (wth x ca false))]) (rest := [.int (nI (t &&& ((lfM K) ca)))]) ⟨hx, hb, hml, hown, hts⟩ (mt_X1_findingsOf l D cI cJ cZ k0 k1 k2 k3 k4 k5 k6 K (wth x ca false) (Nat.lt_trans (wth_lt false hx0 hc) (by decide))) (cwV 1 hts (gV km_RX1_44 ki_yX1_findingsOf kl_yX1_findingsOf kn_RX1 kc_yX1_findingsOf) rfl rfl rfl (by decide +kernel) (by rw [hR]; exact ⟨Nat.le_of_ble_eq_true rfl, Nat.le_of_ble_eq_true rfl⟩)) (cP_V (q0 := 0) (ci := 1) hK (hP.sub [0, 1, 2, 3, 4, 5, 6] rfl) rfl rfl) rfl rfl hl.1 rfl (lv_room (Nat.le_of_ble_eq_true rfl)) dX1_neededFor_15 ⟨Nat.zero_le _, Nat.zero_le _⟩)) (fun r_ hr_ => ?_)
  subst hr_
  refine lv_iconst (v := (-1)) hx hb dX1_neededFor_18 (by decide) ?_
  refine x_ixor (z := nI (foM K (wth x ca false)) ^^^ (-1)) hx hb dX1_neededFor_19 (rfl) ?_
  refine x_iand (z := nI (ndf (t &&& ((lfM K) ca)) (foM K (wth x ca false)))) hx hb dX1_neededFor_20 (z_ndf _ _) ?_
  rw [hQ]
  exact W.iret (v := nI (ndf (t &&& ((lfM K) ca)) (foM K (wth x ca false)))) hx hb hr (fun t ht hW => ⟨_, rfl, rfl, ht⟩) (fun _ h => by cases h) dX1_neededFor_21

set_option maxHeartbeats 4000000 in
set_option maxRecDepth 100000 in
theorem mt_X1_canSpareOne (l : Launch) (D : va_G) (cI cJ cZ : ClassId) (k0 : Nat) (k1 : Nat) (k2 : Nat) (k3 : Nat) (k4 : Nat) (k5 : Nat) (k6 : Nat) (K : Kn) (x : Nat) (t : Nat) (hx0 : x < 2 ^ 10) (ht0 : t < 2 ^ 12) : Met l yX1_canSpareOne (aW yX1_canSpareOne cX1_canSpareOne 4 (some .boolean)) { frames := 3, cells := 0, slots := 0, locals := 67 } (cP D cI cJ cZ [.ref k0, .int (nI x), .int (nI t)] [(k0, .inr (1, [.ref k1, .ref k2, .ref k3, .ref k4, .ref k5, .ref k6])), (k1, .inl (cI, 10, .inl (fN K.1))), (k2, .inl (cI, 10, .inl (fN K.2.1))), (k3, .inl (cI, 10, .inl (fN (lfM K)))), (k4, .inl (cI, 10, .inl (fN (mfM K)))), (k5, .inl (cI, 12, .inl (fN (lcM K)))), (k6, .inl (cI, 12, .inl (fN (mcM K))))]) (vp_Si (fun r => r = nI (anyN (fun z => x.testBit z && (need K t x z == 0)) 10).toNat)) 0 0 (fun _ => False) := by
  refine Met.ofW (cc := cX1_canSpareOne) (maxL := 4) (ret := (some .boolean)) (by decide) rfl ?_
  intro p e s m args below meth c s₁ B hml hv
  obtain ⟨hav, hP, hK⟩ := hv
  have hx := B.exec
  have hb := B.bytes
  have hr := B.returns
  have hts := aW_in (atoms_spec (ws := aW yX1_canSpareOne cX1_canSpareOne 4 (some .boolean)) B.pre)
  have hown : s.vm.findClass RX1 = some m.cls := findClass_of_methodNamed B.named
  have hlocks := B.notSynchronized
  obtain ⟨R, hR⟩ : ∃ R, R = (headSpec (aW yX1_canSpareOne cX1_canSpareOne 4 (some .boolean)) { frames := 3, cells := 0, slots := 0, locals := 67 }).room := ⟨_, rfl⟩
  rw [← hR]
  obtain ⟨Q, hQ⟩ : ∃ Q, Q = MQ below (vp_Si (fun r => r = nI (anyN (fun z => x.testBit z && (need K t x z == 0)) 10).toNat)) args s 0 0 (fun _ => False) := ⟨_, rfl⟩
  rw [← hQ]
  have hl := lv_entry [.ref k0, .int (nI x), .int (nI t)] (n := 4) (Nat.le_of_ble_eq_true rfl)
  have hent := lg_entry_eq m [.ref k0, .int (nI x), .int (nI t)] 4
  rw [← hav] at hent
  rw [hent]
  generalize (lg_sl [.ref k0, .int (nI x), .int (nI t)] ++ List.replicate (4 - (lg_sl [.ref k0, .int (nI x), .int (nI t)]).length) Slot.unset).toArray = ls at hl ⊢
  have hl : lv_has ls 4 [(0, .ref k0), (1, .int (nI x)), (2, .int (nI t))] := hl
  refine lv_iconst (v := nI 0) hx hb dX1_canSpareOne_0 (by decide) ?_
  refine lv_istore_n (lv' := [(3, .int (nI 0)), (0, .ref k0), (1, .int (nI x)), (2, .int (nI t))]) hx hb dX1_canSpareOne_1 rfl hl (by decide) rfl (fun ls hl => ?_)
  have lp2 : ∀ (n : Nat) (j : Nat) (ls : Array Slot), (j + n = 10) → (anyN (fun z => x.testBit z && (need K t x z == 0)) j = false) → lv_has ls 4 [(3, .int (nI j)), (0, .ref k0), (1, .int (nI x)), (2, .int (nI t))] → W p l e R s m args below meth c s.heap [] 0 0 Q (F0 m 2 ls []) := by
    intro n
    induction n with
    | zero =>
      intro j ls hn ha hl
      refine lv_iload_n hx hb dX1_canSpareOne_2 rfl (lv_at hl 0 rfl) ?_
      refine lv_bipush (v := nI 10) hx hb dX1_canSpareOne_3 (by decide) ?_
      refine x_cge (a := j) (b := 10) (tgt := 34) hx hb (by first | assumption | omega) (by decide) dX1_canSpareOne_5 (by decide) (fun c5 => ?_) (fun c5 => (by omega))
      refine lv_iconst (v := nI 0) hx hb dX1_canSpareOne_34 (by decide) ?_
      rw [hQ]
      exact W.zret (v := nI 0) hx hb hr (rfl) (fun t ht hW => ⟨_, rfl, b_0 (by rw [← ha, show j = 10 by omega]), ht⟩) (fun _ h => by cases h) dX1_canSpareOne_35
    | succ n ih2 =>
      intro j ls hn ha hl
      refine lv_iload_n hx hb dX1_canSpareOne_2 rfl (lv_at hl 0 rfl) ?_
      refine lv_bipush (v := nI 10) hx hb dX1_canSpareOne_3 (by decide) ?_
      refine x_cge (a := j) (b := 10) (tgt := 34) hx hb (by first | assumption | omega) (by decide) dX1_canSpareOne_5 (by decide) (fun c5 => (by omega)) (fun c5 => ?_)
      refine lv_iload_n hx hb dX1_canSpareOne_8 rfl (lv_at hl 2 rfl) ?_
      refine lv_iload_n hx hb dX1_canSpareOne_9 rfl (lv_at hl 0 rfl) ?_
      refine vp_callSi (va_Run.run (va_runSN (As := [.int (nI x), .int (nI j)]) (rest := []) ⟨hx, hb, hml, hown, hts⟩ (mt_X6_has l D cI cJ cZ x j (by first | assumption | omega) (by first | assumption | omega)) ⟨va_cnB 2 hts (aW_good kc_yX6_has) rfl rfl rfl hK.2.1 (hts _ kn_RX6) (by decide +kernel) (by rw [hR]; exact ⟨Nat.le_of_ble_eq_true rfl, Nat.le_of_ble_eq_true rfl⟩), hts _ ks_yX6_has, trivial⟩ (cP_S hK (fun k q h => by simp at h)) rfl rfl hl.1 rfl (lv_room (Nat.le_of_ble_eq_true rfl)) dX1_canSpareOne_10 ⟨Nat.zero_le _, Nat.zero_le _⟩)) (fun r_ hr_ => ?_)
      subst hr_
      refine x_beq (tgt := 28) hx hb dX1_canSpareOne_13 (by decide) (fun c13 => ?_) (fun c13 => ?_)
      · refine lv_iinc (v := nI (j + 1)) (lv' := [(3, .int (nI (j + 1))), (0, .ref k0), (1, .int (nI x)), (2, .int (nI t))]) hx hb dX1_canSpareOne_28 hl (k := 0) rfl (x_inc1 _) (by decide) rfl (fun ls hl => ?_)
        refine lv_goto (tgt := 2) hx hb dX1_canSpareOne_31 (by decide) ?_
        exact ih2 (j + 1) ls (by omega) (by first | exact anyN_next ha (by rw [c13]; rfl) | exact anyN_next ha (by rw [c13, Bool.true_and]; simpa using c23)) (lv_sub hl [0, 1, 2, 3] rfl)
      · refine lv_aload_n hx hb dX1_canSpareOne_16 rfl (lv_at hl 1 rfl) ?_
        refine lv_iload_n hx hb dX1_canSpareOne_17 rfl (lv_at hl 2 rfl) ?_
        refine lv_iload_n hx hb dX1_canSpareOne_18 rfl (lv_at hl 0 rfl) ?_
        refine lv_iload_n hx hb dX1_canSpareOne_19 rfl (lv_at hl 3 rfl) ?_
        refine vp_callSi (va_Run.run (va_runV (As := [.int (nI x), .int (nI j), .int (nI t)]) (rest := []) ⟨hx, hb, hml, hown, hts⟩ (mt_X1_neededFor l D cI cJ cZ k0 k1 k2 k3 k4 k5 k6 K x j t (by first | assumption | omega) (by first | assumption | omega)) (cwV 3 hts (gV km_RX1_47 ki_yX1_neededFor kl_yX1_neededFor kn_RX1 kc_yX1_neededFor) rfl rfl rfl (by decide +kernel) (by rw [hR]; exact ⟨Nat.le_of_ble_eq_true rfl, Nat.le_of_ble_eq_true rfl⟩)) (cP_V (q0 := 0) (ci := 1) hK (hP.sub [0, 1, 2, 3, 4, 5, 6] rfl) rfl rfl) rfl rfl hl.1 rfl (lv_room (Nat.le_of_ble_eq_true rfl)) dX1_canSpareOne_20 ⟨Nat.zero_le _, Nat.zero_le _⟩)) (fun r_ hr_ => ?_)
        subst hr_
        refine x_zne (tgt := 28) hx hb (Nat.lt_trans (ndf_lt _ (Nat.lt_of_le_of_lt Nat.and_le_left ht0)) (by decide)) dX1_canSpareOne_23 (by decide) (fun c23 => ?_) (fun c23 => ?_)
        · refine lv_iinc (v := nI (j + 1)) (lv' := [(3, .int (nI (j + 1))), (0, .ref k0), (1, .int (nI x)), (2, .int (nI t))]) hx hb dX1_canSpareOne_28 hl (k := 0) rfl (x_inc1 _) (by decide) rfl (fun ls hl => ?_)
          refine lv_goto (tgt := 2) hx hb dX1_canSpareOne_31 (by decide) ?_
          exact ih2 (j + 1) ls (by omega) (by first | exact anyN_next ha (by rw [c13]; rfl) | exact anyN_next ha (by rw [c13, Bool.true_and]; simpa using c23)) (lv_sub hl [0, 1, 2, 3] rfl)
        · refine lv_iconst (v := nI 1) hx hb dX1_canSpareOne_26 (by decide) ?_
          rw [hQ]
          exact W.zret (v := nI 1) hx hb hr (rfl) (fun t ht hW => ⟨_, rfl, b_1 (anyN_true (show j < 10 by omega) (by rw [c13, c23]; rfl)), ht⟩) (fun _ h => by cases h) dX1_canSpareOne_27
  exact lp2 (10) 0 ls (by omega) (rfl) (lv_sub hl [0, 1, 2, 3] rfl)

set_option maxHeartbeats 4000000 in
set_option maxRecDepth 100000 in
theorem mt_X1_foretold (l : Launch) (D : va_G) (cI cJ cZ : ClassId) (k0 : Nat) (k1 : Nat) (k2 : Nat) (k3 : Nat) (k4 : Nat) (k5 : Nat) (k6 : Nat) (K : Kn) (x : Nat) (fi : Nat) (hx0 : x < 2 ^ 10) (hf : fi < 12) : Met l yX1_foretold (aW yX1_foretold cX1_foretold 3 (some .int)) { frames := 0, cells := 0, slots := 0, locals := 0 } (cP D cI cJ cZ [.ref k0, .int (nI x), .int (nI fi)] [(k0, .inr (1, [.ref k1, .ref k2, .ref k3, .ref k4, .ref k5, .ref k6])), (k1, .inl (cI, 10, .inl (fN K.1))), (k2, .inl (cI, 10, .inl (fN K.2.1))), (k3, .inl (cI, 10, .inl (fN (lfM K)))), (k4, .inl (cI, 10, .inl (fN (mfM K)))), (k5, .inl (cI, 12, .inl (fN (lcM K)))), (k6, .inl (cI, 12, .inl (fN (mcM K))))]) (vp_Si (fun r => r = nI (fort K x fi))) 0 0 (fun _ => False) := by
  refine Met.ofW (cc := cX1_foretold) (maxL := 3) (ret := (some .int)) (by decide) rfl ?_
  intro p e s m args below meth c s₁ B hml hv
  obtain ⟨hav, hP, hK⟩ := hv
  have hx := B.exec
  have hb := B.bytes
  have hr := B.returns
  have hts := aW_in (atoms_spec (ws := aW yX1_foretold cX1_foretold 3 (some .int)) B.pre)
  have hown : s.vm.findClass RX1 = some m.cls := findClass_of_methodNamed B.named
  have hlocks := B.notSynchronized
  obtain ⟨R, hR⟩ : ∃ R, R = (headSpec (aW yX1_foretold cX1_foretold 3 (some .int)) { frames := 0, cells := 0, slots := 0, locals := 0 }).room := ⟨_, rfl⟩
  rw [← hR]
  obtain ⟨Q, hQ⟩ : ∃ Q, Q = MQ below (vp_Si (fun r => r = nI (fort K x fi))) args s 0 0 (fun _ => False) := ⟨_, rfl⟩
  rw [← hQ]
  have hl := lv_entry [.ref k0, .int (nI x), .int (nI fi)] (n := 3) (Nat.le_of_ble_eq_true rfl)
  have hent := lg_entry_eq m [.ref k0, .int (nI x), .int (nI fi)] 3
  rw [← hav] at hent
  rw [hent]
  generalize (lg_sl [.ref k0, .int (nI x), .int (nI fi)] ++ List.replicate (3 - (lg_sl [.ref k0, .int (nI x), .int (nI fi)]).length) Slot.unset).toArray = ls at hl ⊢
  have hl : lv_has ls 3 [(0, .ref k0), (1, .int (nI x)), (2, .int (nI fi))] := hl
  refine lv_iload_n hx hb dX1_foretold_0 rfl (lv_at hl 1 rfl) ?_
  refine lv_aload_n hx hb dX1_foretold_1 rfl (lv_at hl 0 rfl) ?_
  refine va_get (D := D) (ci := 1) (v := .ref k6) (C := RX1) (T := TX1) (N := 6) hx hb hts inA1 hown hK.1 hP 0 rfl rfl 5 (by decide) (hts _ kf_RX1_27) (fun _ h9 => h9) rfl dX1_foretold_2 ?_
  refine lv_iload_n hx hb dX1_foretold_5 rfl (lv_at hl 2 rfl) ?_
  refine x_ildN hx hb hK.1 hP 6 0 rfl rfl (by first | assumption | omega) (by decide) dX1_foretold_6 ?_
  refine x_iand (z := nI (x &&& ((mcM K) fi))) hx hb dX1_foretold_7 (z_and _ _) ?_
  refine x_zeq (tgt := 13) hx hb (Nat.lt_trans (Nat.lt_of_le_of_lt Nat.and_le_left hx0) (by decide)) dX1_foretold_8 (by decide) (fun c8 => ?_) (fun c8 => ?_)
  · refine lv_iload_n hx hb dX1_foretold_13 rfl (lv_at hl 1 rfl) ?_
    refine lv_aload_n hx hb dX1_foretold_14 rfl (lv_at hl 0 rfl) ?_
    refine va_get (D := D) (ci := 1) (v := .ref k5) (C := RX1) (T := TX1) (N := 6) hx hb hts inA1 hown hK.1 hP 0 rfl rfl 4 (by decide) (hts _ kf_RX1_24) (fun _ h9 => h9) rfl dX1_foretold_15 ?_
    refine lv_iload_n hx hb dX1_foretold_18 rfl (lv_at hl 2 rfl) ?_
    refine x_ildN hx hb hK.1 hP 5 0 rfl rfl (by first | assumption | omega) (by decide) dX1_foretold_19 ?_
    refine x_iand (z := nI (x &&& ((lcM K) fi))) hx hb dX1_foretold_20 (z_and _ _) ?_
    refine x_zne (tgt := 28) hx hb (Nat.lt_trans (Nat.lt_of_le_of_lt Nat.and_le_left hx0) (by decide)) dX1_foretold_21 (by decide) (fun c21 => ?_) (fun c21 => ?_)
    · refine lv_iconst (v := nI 0) hx hb dX1_foretold_28 (by decide) ?_
      rw [hQ]
      exact W.iret (v := nI 0) hx hb hr (fun t ht hW => ⟨_, rfl, by first | rw [fort, if_pos c8, if_pos c21] | rw [fort, if_pos c8, if_neg c21], ht⟩) (fun _ h => by cases h) dX1_foretold_29
    · refine lv_iconst (v := nI 2) hx hb dX1_foretold_24 (by decide) ?_
      refine lv_goto (tgt := 29) hx hb dX1_foretold_25 (by decide) ?_
      rw [hQ]
      exact W.iret (v := nI 2) hx hb hr (fun t ht hW => ⟨_, rfl, by first | rw [fort, if_pos c8, if_pos c21] | rw [fort, if_pos c8, if_neg c21], ht⟩) (fun _ h => by cases h) dX1_foretold_29
  · refine lv_iconst (v := nI 1) hx hb dX1_foretold_11 (by decide) ?_
    rw [hQ]
    exact W.iret (v := nI 1) hx hb hr (fun t ht hW => ⟨_, rfl, by rw [fort, if_neg c8], ht⟩) (fun _ h => by cases h) dX1_foretold_12
