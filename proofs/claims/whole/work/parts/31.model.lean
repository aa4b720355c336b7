set_option maxHeartbeats 4000000 in
set_option maxRecDepth 100000 in
theorem mt_X7_within (l : Launch) (D : va_G) (cI cJ cZ : ClassId) (x : Int32) (y : Int32) (w : Int32) : Met l yX7_within (aW yX7_within cX7_within 3 (some .boolean)) { frames := 0, cells := 0, slots := 0, locals := 0 } (cP D cI cJ cZ [.int x, .int y, .int w] []) (vp_Si (fun r => r = nI (inR x (y).toInt (w).toInt).toNat)) 0 0 (fun _ => False) := by
  refine Met.ofW (cc := cX7_within) (maxL := 3) (ret := (some .boolean)) (by decide) rfl ?_
  intro p e s m args below meth c s₁ B hml hv
  obtain ⟨hav, hP, hK⟩ := hv
  have hx := B.exec
  have hb := B.bytes
  have hr := B.returns
  have hts := aW_in (atoms_spec (ws := aW yX7_within cX7_within 3 (some .boolean)) B.pre)
  have hown : s.vm.findClass RX7 = some m.cls := findClass_of_methodNamed B.named
  have hlocks := B.notSynchronized
  obtain ⟨R, hR⟩ : ∃ R, R = (headSpec (aW yX7_within cX7_within 3 (some .boolean)) { frames := 0, cells := 0, slots := 0, locals := 0 }).room := ⟨_, rfl⟩
  rw [← hR]
  obtain ⟨Q, hQ⟩ : ∃ Q, Q = MQ below (vp_Si (fun r => r = nI (inR x (y).toInt (w).toInt).toNat)) args s 0 0 (fun _ => False) := ⟨_, rfl⟩
  rw [← hQ]
  have hl := lv_entry [.int x, .int y, .int w] (n := 3) (Nat.le_of_ble_eq_true rfl)
  have hent := lg_entry_eq m [.int x, .int y, .int w] 3
  rw [← hav] at hent
  rw [hent]
  generalize (lg_sl [.int x, .int y, .int w] ++ List.replicate (3 - (lg_sl [.int x, .int y, .int w]).length) Slot.unset).toArray = ls at hl ⊢
  have hl : lv_has ls 3 [(0, .int x), (1, .int y), (2, .int w)] := hl
  refine lv_iload_n hx hb dX7_within_0 rfl (lv_at hl 0 rfl) ?_
  refine lv_iload_n hx hb dX7_within_1 rfl (lv_at hl 1 rfl) ?_
  refine lv_icmp_lt (x := x) (y := y) (tgt := 14) hx hb dX7_within_2 (by decide) (fun c2 => ?_) (fun c2 => ?_)
  · refine lv_iconst (v := nI 0) hx hb dX7_within_14 (by decide) ?_
    rw [hQ]
    exact W.zret (v := nI 0) hx hb hr (rfl) (fun t ht hW => ⟨_, rfl, by (try simp only [toInt_lt, toInt_le] at c2); (try simp only [toInt_lt, toInt_le] at c7); first | exact inR_t (by omega) (by omega) | exact inR_f (by omega), ht⟩) (fun _ h => by cases h) dX7_within_15
  · refine lv_iload_n hx hb dX7_within_5 rfl (lv_at hl 0 rfl) ?_
    refine lv_iload_n hx hb dX7_within_6 rfl (lv_at hl 2 rfl) ?_
    refine lv_icmp_gt (x := x) (y := w) (tgt := 14) hx hb dX7_within_7 (by decide) (fun c7 => ?_) (fun c7 => ?_)
    · refine lv_iconst (v := nI 0) hx hb dX7_within_14 (by decide) ?_
      rw [hQ]
      exact W.zret (v := nI 0) hx hb hr (rfl) (fun t ht hW => ⟨_, rfl, by (try simp only [toInt_lt, toInt_le] at c2); (try simp only [toInt_lt, toInt_le] at c7); first | exact inR_t (by omega) (by omega) | exact inR_f (by omega), ht⟩) (fun _ h => by cases h) dX7_within_15
    · refine lv_iconst (v := nI 1) hx hb dX7_within_10 (by decide) ?_
      refine lv_goto (tgt := 15) hx hb dX7_within_11 (by decide) ?_
      rw [hQ]
      exact W.zret (v := nI 1) hx hb hr (rfl) (fun t ht hW => ⟨_, rfl, by (try simp only [toInt_lt, toInt_le] at c2); (try simp only [toInt_lt, toInt_le] at c7); first | exact inR_t (by omega) (by omega) | exact inR_f (by omega), ht⟩) (fun _ h => by cases h) dX7_within_15

set_option maxHeartbeats 4000000 in
set_option maxRecDepth 100000 in
theorem mt_X7_isCause (l : Launch) (D : va_G) (cI cJ cZ : ClassId) (x : Int32) : Met l yX7_isCause (aW yX7_isCause cX7_isCause 1 (some .boolean)) { frames := 1, cells := 0, slots := 0, locals := 22 } (cP D cI cJ cZ [.int x] []) (vp_Si (fun r => r = nI (inR x 0 9).toNat)) 0 0 (fun _ => False) := by
  refine Met.ofW (cc := cX7_isCause) (maxL := 1) (ret := (some .boolean)) (by decide) rfl ?_
  intro p e s m args below meth c s₁ B hml hv
  obtain ⟨hav, hP, hK⟩ := hv
  have hx := B.exec
  have hb := B.bytes
  have hr := B.returns
  have hts := aW_in (atoms_spec (ws := aW yX7_isCause cX7_isCause 1 (some .boolean)) B.pre)
  have hown : s.vm.findClass RX7 = some m.cls := findClass_of_methodNamed B.named
  have hlocks := B.notSynchronized
  obtain ⟨R, hR⟩ : ∃ R, R = (headSpec (aW yX7_isCause cX7_isCause 1 (some .boolean)) { frames := 1, cells := 0, slots := 0, locals := 22 }).room := ⟨_, rfl⟩
  rw [← hR]
  obtain ⟨Q, hQ⟩ : ∃ Q, Q = MQ below (vp_Si (fun r => r = nI (inR x 0 9).toNat)) args s 0 0 (fun _ => False) := ⟨_, rfl⟩
  rw [← hQ]
  have hl := lv_entry [.int x] (n := 1) (Nat.le_of_ble_eq_true rfl)
  have hent := lg_entry_eq m [.int x] 1
  rw [← hav] at hent
  rw [hent]
  generalize (lg_sl [.int x] ++ List.replicate (1 - (lg_sl [.int x]).length) Slot.unset).toArray = ls at hl ⊢
  have hl : lv_has ls 1 [(0, .int x)] := hl
  refine lv_iload_n hx hb dX7_isCause_0 rfl (lv_at hl 0 rfl) ?_
  refine lv_iconst (v := nI 0) hx hb dX7_isCause_1 (by decide) ?_
  refine lv_bipush (v := nI 9) hx hb dX7_isCause_2 (by decide) ?_
  refine vp_callSi (va_Run.run (va_runS (As := [.int x, .int (nI 0), .int (nI 9)]) (rest := []) ⟨hx, hb, hml, hown, hts⟩ (mt_X7_within l D cI cJ cZ x (nI 0) (nI 9)) (va_cwS 3 hts (gS km_RX7_51 ks_yX7_within kn_RX7 kc_yX7_within) rfl rfl rfl (by decide +kernel) (by rw [hR]; exact ⟨Nat.le_of_ble_eq_true rfl, Nat.le_of_ble_eq_true rfl⟩)) (cP_S hK (fun k q h => by simp at h)) rfl rfl hl.1 rfl (lv_room (Nat.le_of_ble_eq_true rfl)) dX7_isCause_4 ⟨Nat.zero_le _, Nat.zero_le _⟩)) (fun r_ hr_ => ?_)
  subst hr_
  refine x_top (show nI (inR x ((nI 0)).toInt ((nI 9)).toInt).toNat = nI (inR x 0 9).toNat from rfl) ?_
  rw [hQ]
  exact W.zret (v := nI (inR x 0 9).toNat) hx hb hr (narB _) (fun t ht hW => ⟨_, rfl, rfl, ht⟩) (fun _ h => by cases h) dX7_isCause_7

set_option maxHeartbeats 4000000 in
set_option maxRecDepth 100000 in
theorem mt_X7_isFinding (l : Launch) (D : va_G) (cI cJ cZ : ClassId) (x : Int32) : Met l yX7_isFinding (aW yX7_isFinding cX7_isFinding 1 (some .boolean)) { frames := 1, cells := 0, slots := 0, locals := 22 } (cP D cI cJ cZ [.int x] []) (vp_Si (fun r => r = nI (inR x 0 11).toNat)) 0 0 (fun _ => False) := by
  refine Met.ofW (cc := cX7_isFinding) (maxL := 1) (ret := (some .boolean)) (by decide) rfl ?_
  intro p e s m args below meth c s₁ B hml hv
  obtain ⟨hav, hP, hK⟩ := hv
  have hx := B.exec
  have hb := B.bytes
  have hr := B.returns
  have hts := aW_in (atoms_spec (ws := aW yX7_isFinding cX7_isFinding 1 (some .boolean)) B.pre)
  have hown : s.vm.findClass RX7 = some m.cls := findClass_of_methodNamed B.named
  have hlocks := B.notSynchronized
  obtain ⟨R, hR⟩ : ∃ R, R = (headSpec (aW yX7_isFinding cX7_isFinding 1 (some .boolean)) { frames := 1, cells := 0, slots := 0, locals := 22 }).room := ⟨_, rfl⟩
  rw [← hR]
  obtain ⟨Q, hQ⟩ : ∃ Q, Q = MQ below (vp_Si (fun r => r = nI (inR x 0 11).toNat)) args s 0 0 (fun _ => False) := ⟨_, rfl⟩
  rw [← hQ]
  have hl := lv_entry [.int x] (n := 1) (Nat.le_of_ble_eq_true rfl)
  have hent := lg_entry_eq m [.int x] 1
  rw [← hav] at hent
  rw [hent]
  generalize (lg_sl [.int x] ++ List.replicate (1 - (lg_sl [.int x]).length) Slot.unset).toArray = ls at hl ⊢
  have hl : lv_has ls 1 [(0, .int x)] := hl
  refine lv_iload_n hx hb dX7_isFinding_0 rfl (lv_at hl 0 rfl) ?_
  refine lv_iconst (v := nI 0) hx hb dX7_isFinding_1 (by decide) ?_
  refine lv_bipush (v := nI 11) hx hb dX7_isFinding_2 (by decide) ?_
  refine vp_callSi (va_Run.run (va_runS (As := [.int x, .int (nI 0), .int (nI 11)]) (rest := []) ⟨hx, hb, hml, hown, hts⟩ (mt_X7_within l D cI cJ cZ x (nI 0) (nI 11)) (va_cwS 3 hts (gS km_RX7_51 ks_yX7_within kn_RX7 kc_yX7_within) rfl rfl rfl (by decide +kernel) (by rw [hR]; exact ⟨Nat.le_of_ble_eq_true rfl, Nat.le_of_ble_eq_true rfl⟩)) (cP_S hK (fun k q h => by simp at h)) rfl rfl hl.1 rfl (lv_room (Nat.le_of_ble_eq_true rfl)) dX7_isFinding_4 ⟨Nat.zero_le _, Nat.zero_le _⟩)) (fun r_ hr_ => ?_)
  subst hr_
  refine x_top (show nI (inR x ((nI 0)).toInt ((nI 11)).toInt).toNat = nI (inR x 0 11).toNat from rfl) ?_
  rw [hQ]
  exact W.zret (v := nI (inR x 0 11).toNat) hx hb hr (narB _) (fun t ht hW => ⟨_, rfl, rfl, ht⟩) (fun _ h => by cases h) dX7_isFinding_7

set_option maxHeartbeats 4000000 in
set_option maxRecDepth 100000 in
theorem mt_X7_isIn (l : Launch) (D : va_G) (cI cJ cZ : ClassId) (x : Nat) (k : Nat) (hn : x < 2 ^ 31) (hk : k < 31) : Met l yX7_isIn (aW yX7_isIn cX7_isIn 2 (some .boolean)) { frames := 0, cells := 0, slots := 0, locals := 0 } (cP D cI cJ cZ [.int (nI x), .int (nI k)] []) (vp_Si (fun r => r = nI (x.testBit k).toNat)) 0 0 (fun _ => False) := by
  refine Met.ofW (cc := cX7_isIn) (maxL := 2) (ret := (some .boolean)) (by decide) rfl ?_
  intro p e s m args below meth c s₁ B hml hv
  obtain ⟨hav, hP, hK⟩ := hv
  have hx := B.exec
  have hb := B.bytes
  have hr := B.returns
  have hts := aW_in (atoms_spec (ws := aW yX7_isIn cX7_isIn 2 (some .boolean)) B.pre)
  have hown : s.vm.findClass RX7 = some m.cls := findClass_of_methodNamed B.named
  have hlocks := B.notSynchronized
  obtain ⟨R, hR⟩ : ∃ R, R = (headSpec (aW yX7_isIn cX7_isIn 2 (some .boolean)) { frames := 0, cells := 0, slots := 0, locals := 0 }).room := ⟨_, rfl⟩
  rw [← hR]
  obtain ⟨Q, hQ⟩ : ∃ Q, Q = MQ below (vp_Si (fun r => r = nI (x.testBit k).toNat)) args s 0 0 (fun _ => False) := ⟨_, rfl⟩
  rw [← hQ]
  have hl := lv_entry [.int (nI x), .int (nI k)] (n := 2) (Nat.le_of_ble_eq_true rfl)
  have hent := lg_entry_eq m [.int (nI x), .int (nI k)] 2
  rw [← hav] at hent
  rw [hent]
  generalize (lg_sl [.int (nI x), .int (nI k)] ++ List.replicate (2 - (lg_sl [.int (nI x), .int (nI k)]).length) Slot.unset).toArray = ls at hl ⊢
  have hl : lv_has ls 2 [(0, .int (nI x)), (1, .int (nI k))] := hl
  refine lv_iload_n hx hb dX7_isIn_0 rfl (lv_at hl 0 rfl) ?_
  refine lv_iload_n hx hb dX7_isIn_1 rfl (lv_at hl 1 rfl) ?_
  refine x_ishr (z := nI (x >>> k)) hx hb dX7_isIn_2 (z_shr (by first | assumption | omega) (by first | assumption | omega)) ?_
  refine lv_iconst (v := nI 1) hx hb dX7_isIn_3 (by decide) ?_
  refine x_iand (z := nI (x.testBit k).toNat) hx hb dX7_isIn_4 (z_bit _ _) ?_
  refine lv_iconst (v := nI 1) hx hb dX7_isIn_5 (by decide) ?_
  refine x_cne (a := (x.testBit k).toNat) (b := 1) (tgt := 13) hx hb (bt31 _) (by decide) dX7_isIn_6 (by decide) (fun c6 => ?_) (fun c6 => ?_)
  · refine lv_iconst (v := nI 0) hx hb dX7_isIn_13 (by decide) ?_
    rw [hQ]
    exact W.zret (v := nI 0) hx hb hr (rfl) (fun t ht hW => ⟨_, rfl, by first | exact b_1 (tn1 c6) | exact b_0 (tn0 c6), ht⟩) (fun _ h => by cases h) dX7_isIn_14
  · refine lv_iconst (v := nI 1) hx hb dX7_isIn_9 (by decide) ?_
    refine lv_goto (tgt := 14) hx hb dX7_isIn_10 (by decide) ?_
    rw [hQ]
    exact W.zret (v := nI 1) hx hb hr (rfl) (fun t ht hW => ⟨_, rfl, by first | exact b_1 (tn1 c6) | exact b_0 (tn0 c6), ht⟩) (fun _ h => by cases h) dX7_isIn_14

set_option maxHeartbeats 4000000 in
set_option maxRecDepth 100000 in
theorem mt_X7_size (l : Launch) (D : va_G) (cI cJ cZ : ClassId) (x : Nat) (hn : x < 2 ^ 31) : Met l yX7_size (aW yX7_size cX7_size 3 (some .int)) { frames := 0, cells := 0, slots := 0, locals := 0 } (cP D cI cJ cZ [.int (nI x)] []) (vp_Si (fun r => r = nI (pop x))) 0 0 (fun _ => False) := by
  refine Met.ofW (cc := cX7_size) (maxL := 3) (ret := (some .int)) (by decide) rfl ?_
  intro p e s m args below meth c s₁ B hml hv
  obtain ⟨hav, hP, hK⟩ := hv
  have hx := B.exec
  have hb := B.bytes
  have hr := B.returns
  have hts := aW_in (atoms_spec (ws := aW yX7_size cX7_size 3 (some .int)) B.pre)
  have hown : s.vm.findClass RX7 = some m.cls := findClass_of_methodNamed B.named
  have hlocks := B.notSynchronized
  obtain ⟨R, hR⟩ : ∃ R, R = (headSpec (aW yX7_size cX7_size 3 (some .int)) { frames := 0, cells := 0, slots := 0, locals := 0 }).room := ⟨_, rfl⟩
  rw [← hR]
  obtain ⟨Q, hQ⟩ : ∃ Q, Q = MQ below (vp_Si (fun r => r = nI (pop x))) args s 0 0 (fun _ => False) := ⟨_, rfl⟩
  rw [← hQ]
  have hl := lv_entry [.int (nI x)] (n := 3) (Nat.le_of_ble_eq_true rfl)
  have hent := lg_entry_eq m [.int (nI x)] 3
  rw [← hav] at hent
  rw [hent]
  generalize (lg_sl [.int (nI x)] ++ List.replicate (3 - (lg_sl [.int (nI x)]).length) Slot.unset).toArray = ls at hl ⊢
  have hl : lv_has ls 3 [(0, .int (nI x))] := hl
  refine lv_iconst (v := nI 0) hx hb dX7_size_0 (by decide) ?_
  refine lv_istore_n (lv' := [(1, .int (nI 0)), (0, .int (nI x))]) hx hb dX7_size_1 rfl hl (by decide) rfl (fun ls hl => ?_)
  refine lv_iconst (v := nI 0) hx hb dX7_size_2 (by decide) ?_
  refine lv_istore_n (lv' := [(2, .int (nI 0)), (1, .int (nI 0)), (0, .int (nI x))]) hx hb dX7_size_3 rfl hl (by decide) rfl (fun ls hl => ?_)
  have lp4 : ∀ (n : Nat) (j : Nat) (a : Nat) (ls : Array Slot), (j + n = 12) → (a = ct (fun i => x.testBit i) j) → lv_has ls 3 [(2, .int (nI j)), (1, .int (nI a)), (0, .int (nI x))] → W p l e R s m args below meth c s.heap [] 0 0 Q (F0 m 4 ls []) := by
    intro n
    induction n with
    | zero =>
      intro j a ls hn ha hl
      refine lv_iload_n hx hb dX7_size_4 rfl (lv_at hl 0 rfl) ?_
      refine lv_bipush (v := nI 12) hx hb dX7_size_5 (by decide) ?_
      refine x_cge (a := j) (b := 12) (tgt := 24) hx hb (by first | assumption | omega) (by decide) dX7_size_7 (by decide) (fun c7 => ?_) (fun c7 => (by omega))
      refine lv_iload_n hx hb dX7_size_24 rfl (lv_at hl 1 rfl) ?_
      rw [hQ]
      exact W.iret (v := nI a) hx hb hr (fun t ht hW => ⟨_, rfl, by rw [ha, show j = 12 by omega]; rfl, ht⟩) (fun _ h => by cases h) dX7_size_25
    | succ n ih4 =>
      intro j a ls hn ha hl
      refine lv_iload_n hx hb dX7_size_4 rfl (lv_at hl 0 rfl) ?_
      refine lv_bipush (v := nI 12) hx hb dX7_size_5 (by decide) ?_
      refine x_cge (a := j) (b := 12) (tgt := 24) hx hb (by first | assumption | omega) (by decide) dX7_size_7 (by decide) (fun c7 => (by omega)) (fun c7 => ?_)
      refine lv_iload_n hx hb dX7_size_10 rfl (lv_at hl 1 rfl) ?_
      refine lv_iload_n hx hb dX7_size_11 rfl (lv_at hl 2 rfl) ?_
      refine lv_iload_n hx hb dX7_size_12 rfl (lv_at hl 0 rfl) ?_
      refine x_ishr (z := nI (x >>> j)) hx hb dX7_size_13 (z_shr (by first | assumption | omega) (by first | assumption | omega)) ?_
      refine lv_iconst (v := nI 1) hx hb dX7_size_14 (by decide) ?_
      refine x_iand (z := nI (x.testBit j).toNat) hx hb dX7_size_15 (z_bit _ _) ?_
      refine x_iadd (z := nI (a + ((x.testBit j).toNat))) hx hb dX7_size_16 (nI_add _ _) ?_
      refine lv_istore_n (lv' := [(1, .int (nI (a + ((x.testBit j).toNat)))), (2, .int (nI j)), (0, .int (nI x))]) hx hb dX7_size_17 rfl hl (by decide) rfl (fun ls hl => ?_)
      refine lv_iinc (v := nI (j + 1)) (lv' := [(2, .int (nI (j + 1))), (1, .int (nI (a + ((x.testBit j).toNat)))), (0, .int (nI x))]) hx hb dX7_size_18 hl (k := 1) rfl (x_inc1 _) (by decide) rfl (fun ls hl => ?_)
      refine lv_goto (tgt := 4) hx hb dX7_size_21 (by decide) ?_
      exact ih4 (j + 1) (a + ((x.testBit j).toNat)) ls (by omega) (by rw [ha]; rfl) (lv_sub hl [0, 1, 2] rfl)
  exact lp4 (12) 0 0 ls (by omega) (rfl) (lv_sub hl [0, 1, 2] rfl)

set_option maxHeartbeats 4000000 in
set_option maxRecDepth 100000 in
theorem mt_X7_linkAt (l : Launch) (D : va_G) (cI cJ cZ : ClassId) (r0 : Nat) (r1 : Nat) (r2 : Nat) (r3 : Nat) (r4 : Nat) (r5 : Nat) (r6 : Nat) (r7 : Nat) (r8 : Nat) (r9 : Nat) (r10 : Nat) (r11 : Nat) (r12 : Nat) (r13 : Nat) (K : Kn) (S : Nat → Nat) (q : Nat) (hf : Nat → Nat) (hs : Nat → Nat) (mn : Nat) (ex : Nat → Nat) (we : Nat → Nat) (kn : Bool) (cv : Nat → Bool) (z : Nat) (ya : Nat → Nat) (yb : Nat → Nat) (yc : Nat → Nat) (ks : Nat → Nat) (fi : Nat) (ca : Nat) (hf0 : fi < 12) (hc : ca < 10) : Met l yX7_linkAt (aW yX7_linkAt cX7_linkAt 3 (some .int)) { frames := 0, cells := 0, slots := 0, locals := 0 } (cP D cI cJ cZ [.ref r0, .int (nI fi), .int (nI ca)] [(r0, .inr (7, [.ref r1, .ref r2, .ref r3, .ref r4, .int (nI q), .ref r5, .ref r6, .int (nI mn), .ref r7, .ref r8, .int (nI kn.toNat), .ref r9, .int (nI z), .ref r10, .ref r11, .ref r12, .ref r13])), (r1, .inl (cI, 10, .inl (fN K.1))), (r2, .inl (cI, 10, .inl (fN K.2.1))), (r3, .inl (cI, 120, .inl (fN (lkA K)))), (r4, .inl (cI, 12, .inl (fN S))), (r5, .inl (cI, 20, .inl (fN hf))), (r6, .inl (cI, 20, .inl (fN hs))), (r7, .inl (cI, 1024, .inl (fN ex))), (r8, .inl (cJ, 1024, .inr (.inl (fL we)))), (r9, .inl (cZ, 1024, .inl (fB cv))), (r10, .inl (cI, 12, .inl (fN ya))), (r11, .inl (cI, 12, .inl (fN yb))), (r12, .inl (cI, 12, .inl (fN yc))), (r13, .inl (cI, 12, .inl (fN ks)))]) (vp_Si (fun r => r = nI (K.2.2 fi ca))) 0 0 (fun _ => False) := by
  refine Met.ofW (cc := cX7_linkAt) (maxL := 3) (ret := (some .int)) (by decide) rfl ?_
  intro p e s m args below meth c s₁ B hml hv
  obtain ⟨hav, hP, hK⟩ := hv
  have hx := B.exec
  have hb := B.bytes
  have hr := B.returns
  have hts := aW_in (atoms_spec (ws := aW yX7_linkAt cX7_linkAt 3 (some .int)) B.pre)
  have hown : s.vm.findClass RX7 = some m.cls := findClass_of_methodNamed B.named
  have hlocks := B.notSynchronized
  obtain ⟨R, hR⟩ : ∃ R, R = (headSpec (aW yX7_linkAt cX7_linkAt 3 (some .int)) { frames := 0, cells := 0, slots := 0, locals := 0 }).room := ⟨_, rfl⟩
  rw [← hR]
  obtain ⟨Q, hQ⟩ : ∃ Q, Q = MQ below (vp_Si (fun r => r = nI (K.2.2 fi ca))) args s 0 0 (fun _ => False) := ⟨_, rfl⟩
  rw [← hQ]
  have hl := lv_entry [.ref r0, .int (nI fi), .int (nI ca)] (n := 3) (Nat.le_of_ble_eq_true rfl)
  have hent := lg_entry_eq m [.ref r0, .int (nI fi), .int (nI ca)] 3
  rw [← hav] at hent
  rw [hent]
  generalize (lg_sl [.ref r0, .int (nI fi), .int (nI ca)] ++ List.replicate (3 - (lg_sl [.ref r0, .int (nI fi), .int (nI ca)]).length) Slot.unset).toArray = ls at hl ⊢
  have hl : lv_has ls 3 [(0, .ref r0), (1, .int (nI fi)), (2, .int (nI ca))] := hl
  refine lv_aload_n hx hb dX7_linkAt_0 rfl (lv_at hl 0 rfl) ?_
  refine va_get (D := D) (ci := 7) (v := .ref r3) (C := RX7) (T := TX7) (N := 17) hx hb hts inA7 hown hK.1 hP 0 rfl rfl 2 (by decide) (hts _ kf_RX7_16) (fun _ h9 => h9) rfl dX7_linkAt_1 ?_
  refine lv_bipush (v := nI 10) hx hb dX7_linkAt_4 (by decide) ?_
  refine lv_iload_n hx hb dX7_linkAt_6 rfl (lv_at hl 1 rfl) ?_
  refine x_imul (z := nI (10 * fi)) hx hb dX7_linkAt_7 (pk_mul _ _) ?_
  refine lv_iload_n hx hb dX7_linkAt_8 rfl (lv_at hl 2 rfl) ?_
  refine x_iadd (z := nI ((10 * fi) + ca)) hx hb dX7_linkAt_9 (nI_add _ _) ?_
  refine x_ildN hx hb hK.1 hP 3 0 rfl rfl (by first | assumption | omega) (by decide) dX7_linkAt_10 ?_
  rw [hQ]
  exact W.iret (v := nI ((lkA K) ((10 * fi) + ca))) hx hb hr (fun t ht hW => ⟨_, rfl, by rw [lkA_at K fi hc], ht⟩) (fun _ h => by cases h) dX7_linkAt_11

set_option maxHeartbeats 4000000 in
set_option maxRecDepth 100000 in
theorem mt_X7_isExcluded (l : Launch) (D : va_G) (cI cJ cZ : ClassId) (r0 : Nat) (r1 : Nat) (r2 : Nat) (r3 : Nat) (r4 : Nat) (r5 : Nat) (r6 : Nat) (r7 : Nat) (r8 : Nat) (r9 : Nat) (r10 : Nat) (r11 : Nat) (r12 : Nat) (r13 : Nat) (K : Kn) (S : Nat → Nat) (q : Nat) (hf : Nat → Nat) (hs : Nat → Nat) (mn : Nat) (ex : Nat → Nat) (we : Nat → Nat) (kn : Bool) (cv : Nat → Bool) (z : Nat) (ya : Nat → Nat) (yb : Nat → Nat) (yc : Nat → Nat) (ks : Nat → Nat) (ca : Nat) (hc : ca < 10) (hL2 : ∀ f c, K.2.2 f c ≤ 2) (hS2 : ∀ f, S f ≤ 2) : Met l yX7_isExcluded (aW yX7_isExcluded cX7_isExcluded 3 (some .boolean)) { frames := 1, cells := 0, slots := 0, locals := 22 } (cP D cI cJ cZ [.ref r0, .int (nI ca)] [(r0, .inr (7, [.ref r1, .ref r2, .ref r3, .ref r4, .int (nI q), .ref r5, .ref r6, .int (nI mn), .ref r7, .ref r8, .int (nI kn.toNat), .ref r9, .int (nI z), .ref r10, .ref r11, .ref r12, .ref r13])), (r1, .inl (cI, 10, .inl (fN K.1))), (r2, .inl (cI, 10, .inl (fN K.2.1))), (r3, .inl (cI, 120, .inl (fN (lkA K)))), (r4, .inl (cI, 12, .inl (fN S))), (r5, .inl (cI, 20, .inl (fN hf))), (r6, .inl (cI, 20, .inl (fN hs))), (r7, .inl (cI, 1024, .inl (fN ex))), (r8, .inl (cJ, 1024, .inr (.inl (fL we)))), (r9, .inl (cZ, 1024, .inl (fB cv))), (r10, .inl (cI, 12, .inl (fN ya))), (r11, .inl (cI, 12, .inl (fN yb))), (r12, .inl (cI, 12, .inl (fN yc))), (r13, .inl (cI, 12, .inl (fN ks)))]) (vp_Si (fun r => r = nI (exc K S ca).toNat)) 0 0 (fun _ => False) := by
  refine Met.ofW (cc := cX7_isExcluded) (maxL := 3) (ret := (some .boolean)) (by decide) rfl ?_
  intro p e s m args below meth c s₁ B hml hv
  obtain ⟨hav, hP, hK⟩ := hv
  have hx := B.exec
  have hb := B.bytes
  have hr := B.returns
  have hts := aW_in (atoms_spec (ws := aW yX7_isExcluded cX7_isExcluded 3 (some .boolean)) B.pre)
  have hown : s.vm.findClass RX7 = some m.cls := findClass_of_methodNamed B.named
  have hlocks := B.notSynchronized
  obtain ⟨R, hR⟩ : ∃ R, R = (headSpec (aW yX7_isExcluded cX7_isExcluded 3 (some .boolean)) { frames := 1, cells := 0, slots := 0, locals := 22 }).room := ⟨_, rfl⟩
  rw [← hR]
  obtain ⟨Q, hQ⟩ : ∃ Q, Q = MQ below (vp_Si (fun r => r = nI (exc K S ca).toNat)) args s 0 0 (fun _ => False) := ⟨_, rfl⟩
  rw [← hQ]
  have hl := lv_entry [.ref r0, .int (nI ca)] (n := 3) (Nat.le_of_ble_eq_true rfl)
  have hent := lg_entry_eq m [.ref r0, .int (nI ca)] 3
  rw [← hav] at hent
  rw [hent]
  generalize (lg_sl [.ref r0, .int (nI ca)] ++ List.replicate (3 - (lg_sl [.ref r0, .int (nI ca)]).length) Slot.unset).toArray = ls at hl ⊢
  have hl : lv_has ls 3 [(0, .ref r0), (1, .int (nI ca))] := hl
  refine lv_iconst (v := nI 0) hx hb dX7_isExcluded_0 (by decide) ?_
  refine lv_istore_n (lv' := [(2, .int (nI 0)), (0, .ref r0), (1, .int (nI ca))]) hx hb dX7_isExcluded_1 rfl hl (by decide) rfl (fun ls hl => ?_)
  have lp2 : ∀ (n : Nat) (j : Nat) (ls : Array Slot), (j + n = 12) → (anyN (fun f => S f == 2 && ms K f ca) j = false) → lv_has ls 3 [(2, .int (nI j)), (0, .ref r0), (1, .int (nI ca))] → W p l e R s m args below meth c s.heap [] 0 0 Q (F0 m 2 ls []) := by
    intro n
    induction n with
    | zero =>
      intro j ls hn ha hl
      refine lv_iload_n hx hb dX7_isExcluded_2 rfl (lv_at hl 0 rfl) ?_
      refine lv_bipush (v := nI 12) hx hb dX7_isExcluded_3 (by decide) ?_
      refine x_cge (a := j) (b := 12) (tgt := 36) hx hb (by first | assumption | omega) (by decide) dX7_isExcluded_5 (by decide) (fun c5 => ?_) (fun c5 => (by omega))
      refine lv_iconst (v := nI 0) hx hb dX7_isExcluded_36 (by decide) ?_
      rw [hQ]
      exact W.zret (v := nI 0) hx hb hr (rfl) (fun t ht hW => ⟨_, rfl, b_0 (by rw [exc, ← show j = 12 by omega, ha]), ht⟩) (fun _ h => by cases h) dX7_isExcluded_37
    | succ n ih2 =>
      intro j ls hn ha hl
      refine lv_iload_n hx hb dX7_isExcluded_2 rfl (lv_at hl 0 rfl) ?_
      refine lv_bipush (v := nI 12) hx hb dX7_isExcluded_3 (by decide) ?_
      refine x_cge (a := j) (b := 12) (tgt := 36) hx hb (by first | assumption | omega) (by decide) dX7_isExcluded_5 (by decide) (fun c5 => (by omega)) (fun c5 => ?_)
      refine lv_aload_n hx hb dX7_isExcluded_8 rfl (lv_at hl 1 rfl) ?_
      refine va_get (D := D) (ci := 7) (v := .ref r4) (C := RX7) (T := TX7) (N := 17) hx hb hts inA7 hown hK.1 hP 0 rfl rfl 3 (by decide) (hts _ kf_RX7_19) (fun _ h9 => h9) rfl dX7_isExcluded_9 ?_
      refine lv_iload_n hx hb dX7_isExcluded_12 rfl (lv_at hl 0 rfl) ?_
      refine x_ildN hx hb hK.1 hP 4 0 rfl rfl (by first | assumption | omega) (by decide) dX7_isExcluded_13 ?_
      refine lv_iconst (v := nI 2) hx hb dX7_isExcluded_14 (by decide) ?_
      refine x_cne (a := S j) (b := 2) (tgt := 30) hx hb (by have := hS2 j; omega) (by decide) dX7_isExcluded_15 (by decide) (fun c15 => ?_) (fun c15 => ?_)
      · refine lv_iinc (v := nI (j + 1)) (lv' := [(2, .int (nI (j + 1))), (0, .ref r0), (1, .int (nI ca))]) hx hb dX7_isExcluded_30 hl (k := 0) rfl (x_inc1 _) (by decide) rfl (fun ls hl => ?_)
        refine lv_goto (tgt := 2) hx hb dX7_isExcluded_33 (by decide) ?_
        exact ih2 (j + 1) ls (by omega) (by first | (refine anyN_next ha ?_; simp [ms, c25]; done) | (refine anyN_next ha ?_; simp [c15]; done)) (lv_sub hl [0, 1, 2] rfl)
      · refine lv_aload_n hx hb dX7_isExcluded_18 rfl (lv_at hl 1 rfl) ?_
        refine lv_iload_n hx hb dX7_isExcluded_19 rfl (lv_at hl 0 rfl) ?_
        refine lv_iload_n hx hb dX7_isExcluded_20 rfl (lv_at hl 2 rfl) ?_
        refine vp_callSi (va_Run.run (va_runV (As := [.int (nI j), .int (nI ca)]) (rest := []) ⟨hx, hb, hml, hown, hts⟩ (mt_X7_linkAt l D cI cJ cZ r0 r1 r2 r3 r4 r5 r6 r7 r8 r9 r10 r11 r12 r13 K S q hf hs mn ex we kn cv z ya yb yc ks j ca (by first | assumption | omega) (by first | assumption | omega)) (cwV 2 hts (gV km_RX7_66 ki_yX7_linkAt kl_yX7_linkAt kn_RX7 kc_yX7_linkAt) rfl rfl rfl (by decide +kernel) (by rw [hR]; exact ⟨Nat.le_of_ble_eq_true rfl, Nat.le_of_ble_eq_true rfl⟩)) (cP_V (q0 := 0) (ci := 7) hK (hP.sub [0, 1, 2, 3, 4, 5, 6, 7, 8, 9, 10, 11, 12, 13] rfl) rfl rfl) rfl rfl hl.1 rfl (lv_room (Nat.le_of_ble_eq_true rfl)) dX7_isExcluded_21 ⟨Nat.zero_le _, Nat.zero_le _⟩)) (fun r_ hr_ => ?_)
        subst hr_
        refine lv_iconst (v := nI 2) hx hb dX7_isExcluded_24 (by decide) ?_
        refine x_cne (a := K.2.2 j ca) (b := 2) (tgt := 30) hx hb (by have := hL2 j ca; omega) (by decide) dX7_isExcluded_25 (by decide) (fun c25 => ?_) (fun c25 => ?_)
        · refine lv_iinc (v := nI (j + 1)) (lv' := [(2, .int (nI (j + 1))), (0, .ref r0), (1, .int (nI ca))]) hx hb dX7_isExcluded_30 hl (k := 0) rfl (x_inc1 _) (by decide) rfl (fun ls hl => ?_)
          refine lv_goto (tgt := 2) hx hb dX7_isExcluded_33 (by decide) ?_
          exact ih2 (j + 1) ls (by omega) (by first | (refine anyN_next ha ?_; simp [ms, c25]; done) | (refine anyN_next ha ?_; simp [c15]; done)) (lv_sub hl [0, 1, 2] rfl)
        · refine lv_iconst (v := nI 1) hx hb dX7_isExcluded_28 (by decide) ?_
          rw [hQ]
          exact W.zret (v := nI 1) hx hb hr (rfl) (fun t ht hW => ⟨_, rfl, b_1 (anyN_true (show j < 12 by omega) (by simp [ms, c15, c25])), ht⟩) (fun _ h => by cases h) dX7_isExcluded_29
  exact lp2 (12) 0 ls (by omega) (rfl) (lv_sub hl [0, 1, 2] rfl)

set_option maxHeartbeats 4000000 in
set_option maxRecDepth 100000 in
theorem mt_X7_isLinked (l : Launch) (D : va_G) (cI cJ cZ : ClassId) (r0 : Nat) (r1 : Nat) (r2 : Nat) (r3 : Nat) (r4 : Nat) (r5 : Nat) (r6 : Nat) (r7 : Nat) (r8 : Nat) (r9 : Nat) (r10 : Nat) (r11 : Nat) (r12 : Nat) (r13 : Nat) (K : Kn) (S : Nat → Nat) (q : Nat) (hf : Nat → Nat) (hs : Nat → Nat) (mn : Nat) (ex : Nat → Nat) (we : Nat → Nat) (kn : Bool) (cv : Nat → Bool) (z : Nat) (ya : Nat → Nat) (yb : Nat → Nat) (yc : Nat → Nat) (ks : Nat → Nat) (fi : Nat) (x : Nat) (hf0 : fi < 12) (hx0 : x < 2 ^ 31) (hL2 : ∀ f c, K.2.2 f c ≤ 2) : Met l yX7_isLinked (aW yX7_isLinked cX7_isLinked 4 (some .boolean)) { frames := 1, cells := 0, slots := 0, locals := 22 } (cP D cI cJ cZ [.ref r0, .int (nI fi), .int (nI x)] [(r0, .inr (7, [.ref r1, .ref r2, .ref r3, .ref r4, .int (nI q), .ref r5, .ref r6, .int (nI mn), .ref r7, .ref r8, .int (nI kn.toNat), .ref r9, .int (nI z), .ref r10, .ref r11, .ref r12, .ref r13])), (r1, .inl (cI, 10, .inl (fN K.1))), (r2, .inl (cI, 10, .inl (fN K.2.1))), (r3, .inl (cI, 120, .inl (fN (lkA K)))), (r4, .inl (cI, 12, .inl (fN S))), (r5, .inl (cI, 20, .inl (fN hf))), (r6, .inl (cI, 20, .inl (fN hs))), (r7, .inl (cI, 1024, .inl (fN ex))), (r8, .inl (cJ, 1024, .inr (.inl (fL we)))), (r9, .inl (cZ, 1024, .inl (fB cv))), (r10, .inl (cI, 12, .inl (fN ya))), (r11, .inl (cI, 12, .inl (fN yb))), (r12, .inl (cI, 12, .inl (fN yc))), (r13, .inl (cI, 12, .inl (fN ks)))]) (vp_Si (fun r => r = nI (isL K fi x).toNat)) 0 0 (fun _ => False) := by
  refine Met.ofW (cc := cX7_isLinked) (maxL := 4) (ret := (some .boolean)) (by decide) rfl ?_
  intro p e s m args below meth c s₁ B hml hv
  obtain ⟨hav, hP, hK⟩ := hv
  have hx := B.exec
  have hb := B.bytes
  have hr := B.returns
  have hts := aW_in (atoms_spec (ws := aW yX7_isLinked cX7_isLinked 4 (some .boolean)) B.pre)
  have hown : s.vm.findClass RX7 = some m.cls := findClass_of_methodNamed B.named
  have hlocks := B.notSynchronized
  obtain ⟨R, hR⟩ : ∃ R, R = (headSpec (aW yX7_isLinked cX7_isLinked 4 (some .boolean)) { frames := 1, cells := 0, slots := 0, locals := 22 }).room := ⟨_, rfl⟩
  rw [← hR]
  obtain ⟨Q, hQ⟩ : ∃ Q, Q = MQ below (vp_Si (fun r => r = nI (isL K fi x).toNat)) args s 0 0 (fun _ => False) := ⟨_, rfl⟩
  rw [← hQ]
  have hl := lv_entry [.ref r0, .int (nI fi), .int (nI x)] (n := 4) (Nat.le_of_ble_eq_true rfl)
  have hent := lg_entry_eq m [.ref r0, .int (nI fi), .int (nI x)] 4
  rw [← hav] at hent
  rw [hent]
  generalize (lg_sl [.ref r0, .int (nI fi), .int (nI x)] ++ List.replicate (4 - (lg_sl [.ref r0, .int (nI fi), .int (nI x)]).length) Slot.unset).toArray = ls at hl ⊢
  have hl : lv_has ls 4 [(0, .ref r0), (1, .int (nI fi)), (2, .int (nI x))] := hl
  refine lv_iconst (v := nI 0) hx hb dX7_isLinked_0 (by decide) ?_
  refine lv_istore_n (lv' := [(3, .int (nI 0)), (0, .ref r0), (1, .int (nI fi)), (2, .int (nI x))]) hx hb dX7_isLinked_1 rfl hl (by decide) rfl (fun ls hl => ?_)
  have lp2 : ∀ (n : Nat) (j : Nat) (ls : Array Slot), (j + n = 10) → (anyN (fun z => x.testBit z && lk K fi z) j = false) → lv_has ls 4 [(3, .int (nI j)), (0, .ref r0), (1, .int (nI fi)), (2, .int (nI x))] → W p l e R s m args below meth c s.heap [] 0 0 Q (F0 m 2 ls []) := by
    intro n
    induction n with
    | zero =>
      intro j ls hn ha hl
      refine lv_iload_n hx hb dX7_isLinked_2 rfl (lv_at hl 0 rfl) ?_
      refine lv_bipush (v := nI 10) hx hb dX7_isLinked_3 (by decide) ?_
      refine x_cge (a := j) (b := 10) (tgt := 33) hx hb (by first | assumption | omega) (by decide) dX7_isLinked_5 (by decide) (fun c5 => ?_) (fun c5 => (by omega))
      refine lv_iconst (v := nI 0) hx hb dX7_isLinked_33 (by decide) ?_
      rw [hQ]
      exact W.zret (v := nI 0) hx hb hr (rfl) (fun t ht hW => ⟨_, rfl, b_0 (by rw [isL, ← show j = 10 by omega, ha]), ht⟩) (fun _ h => by cases h) dX7_isLinked_34
    | succ n ih2 =>
      intro j ls hn ha hl
      refine lv_iload_n hx hb dX7_isLinked_2 rfl (lv_at hl 0 rfl) ?_
      refine lv_bipush (v := nI 10) hx hb dX7_isLinked_3 (by decide) ?_
      refine x_cge (a := j) (b := 10) (tgt := 33) hx hb (by first | assumption | omega) (by decide) dX7_isLinked_5 (by decide) (fun c5 => (by omega)) (fun c5 => ?_)
      refine lv_iload_n hx hb dX7_isLinked_8 rfl (lv_at hl 3 rfl) ?_
      refine lv_iload_n hx hb dX7_isLinked_9 rfl (lv_at hl 0 rfl) ?_
      refine vp_callSi (va_Run.run (va_runS (As := [.int (nI x), .int (nI j)]) (rest := []) ⟨hx, hb, hml, hown, hts⟩ (mt_X7_isIn l D cI cJ cZ x j (by first | assumption | omega) (by first | assumption | omega)) (va_cwS 2 hts (gS km_RX7_86 ks_yX7_isIn kn_RX7 kc_yX7_isIn) rfl rfl rfl (by decide +kernel) (by rw [hR]; exact ⟨Nat.le_of_ble_eq_true rfl, Nat.le_of_ble_eq_true rfl⟩)) (cP_S hK (fun k q h => by simp at h)) rfl rfl hl.1 rfl (lv_room (Nat.le_of_ble_eq_true rfl)) dX7_isLinked_10 ⟨Nat.zero_le _, Nat.zero_le _⟩)) (fun r_ hr_ => ?_)
      subst hr_
      refine x_beq (tgt := 27) hx hb dX7_isLinked_13 (by decide) (fun c13 => ?_) (fun c13 => ?_)
      · refine lv_iinc (v := nI (j + 1)) (lv' := [(3, .int (nI (j + 1))), (0, .ref r0), (1, .int (nI fi)), (2, .int (nI x))]) hx hb dX7_isLinked_27 hl (k := 0) rfl (x_inc1 _) (by decide) rfl (fun ls hl => ?_)
        refine lv_goto (tgt := 2) hx hb dX7_isLinked_30 (by decide) ?_
        exact ih2 (j + 1) ls (by omega) (by first | (refine anyN_next ha ?_; simp [lk, c22]; done) | (refine anyN_next ha ?_; rw [c13]; rfl)) (lv_sub hl [0, 1, 2, 3] rfl)
      · refine lv_aload_n hx hb dX7_isLinked_16 rfl (lv_at hl 1 rfl) ?_
        refine lv_iload_n hx hb dX7_isLinked_17 rfl (lv_at hl 2 rfl) ?_
        refine lv_iload_n hx hb dX7_isLinked_18 rfl (lv_at hl 0 rfl) ?_
        refine vp_callSi (va_Run.run (va_runV (As := [.int (nI fi), .int (nI j)]) (rest := []) ⟨hx, hb, hml, hown, hts⟩ (mt_X7_linkAt l D cI cJ cZ r0 r1 r2 r3 r4 r5 r6 r7 r8 r9 r10 r11 r12 r13 K S q hf hs mn ex we kn cv z ya yb yc ks fi j (by first | assumption | omega) (by first | assumption | omega)) (cwV 2 hts (gV km_RX7_66 ki_yX7_linkAt kl_yX7_linkAt kn_RX7 kc_yX7_linkAt) rfl rfl rfl (by decide +kernel) (by rw [hR]; exact ⟨Nat.le_of_ble_eq_true rfl, Nat.le_of_ble_eq_true rfl⟩)) (cP_V (q0 := 0) (ci := 7) hK (hP.sub [0, 1, 2, 3, 4, 5, 6, 7, 8, 9, 10, 11, 12, 13] rfl) rfl rfl) rfl rfl hl.1 rfl (lv_room (Nat.le_of_ble_eq_true rfl)) dX7_isLinked_19 ⟨Nat.zero_le _, Nat.zero_le _⟩)) (fun r_ hr_ => ?_)
        subst hr_
        refine x_zle (tgt := 27) hx hb (by have := hL2 fi j; omega) dX7_isLinked_22 (by decide) (fun c22 => ?_) (fun c22 => ?_)
        · refine lv_iinc (v := nI (j + 1)) (lv' := [(3, .int (nI (j + 1))), (0, .ref r0), (1, .int (nI fi)), (2, .int (nI x))]) hx hb dX7_isLinked_27 hl (k := 0) rfl (x_inc1 _) (by decide) rfl (fun ls hl => ?_)
          refine lv_goto (tgt := 2) hx hb dX7_isLinked_30 (by decide) ?_
          exact ih2 (j + 1) ls (by omega) (by first | (refine anyN_next ha ?_; simp [lk, c22]; done) | (refine anyN_next ha ?_; rw [c13]; rfl)) (lv_sub hl [0, 1, 2, 3] rfl)
        · refine lv_iconst (v := nI 1) hx hb dX7_isLinked_25 (by decide) ?_
          rw [hQ]
          exact W.zret (v := nI 1) hx hb hr (rfl) (fun t ht hW => ⟨_, rfl, b_1 (anyN_true (show j < 10 by omega) (by simp [lk, c13, c22])), ht⟩) (fun _ h => by cases h) dX7_isLinked_26
  exact lp2 (10) 0 ls (by omega) (rfl) (lv_sub hl [0, 1, 2, 3] rfl)

set_option maxHeartbeats 4000000 in
set_option maxRecDepth 100000 in
theorem mt_X7_isMust (l : Launch) (D : va_G) (cI cJ cZ : ClassId) (r0 : Nat) (r1 : Nat) (r2 : Nat) (r3 : Nat) (r4 : Nat) (r5 : Nat) (r6 : Nat) (r7 : Nat) (r8 : Nat) (r9 : Nat) (r10 : Nat) (r11 : Nat) (r12 : Nat) (r13 : Nat) (K : Kn) (S : Nat → Nat) (q : Nat) (hf : Nat → Nat) (hs : Nat → Nat) (mn : Nat) (ex : Nat → Nat) (we : Nat → Nat) (kn : Bool) (cv : Nat → Bool) (z : Nat) (ya : Nat → Nat) (yb : Nat → Nat) (yc : Nat → Nat) (ks : Nat → Nat) (fi : Nat) (x : Nat) (hf0 : fi < 12) (hx0 : x < 2 ^ 31) (hL2 : ∀ f c, K.2.2 f c ≤ 2) : Met l yX7_isMust (aW yX7_isMust cX7_isMust 4 (some .boolean)) { frames := 1, cells := 0, slots := 0, locals := 22 } (cP D cI cJ cZ [.ref r0, .int (nI fi), .int (nI x)] [(r0, .inr (7, [.ref r1, .ref r2, .ref r3, .ref r4, .int (nI q), .ref r5, .ref r6, .int (nI mn), .ref r7, .ref r8, .int (nI kn.toNat), .ref r9, .int (nI z), .ref r10, .ref r11, .ref r12, .ref r13])), (r1, .inl (cI, 10, .inl (fN K.1))), (r2, .inl (cI, 10, .inl (fN K.2.1))), (r3, .inl (cI, 120, .inl (fN (lkA K)))), (r4, .inl (cI, 12, .inl (fN S))), (r5, .inl (cI, 20, .inl (fN hf))), (r6, .inl (cI, 20, .inl (fN hs))), (r7, .inl (cI, 1024, .inl (fN ex))), (r8, .inl (cJ, 1024, .inr (.inl (fL we)))), (r9, .inl (cZ, 1024, .inl (fB cv))), (r10, .inl (cI, 12, .inl (fN ya))), (r11, .inl (cI, 12, .inl (fN yb))), (r12, .inl (cI, 12, .inl (fN yc))), (r13, .inl (cI, 12, .inl (fN ks)))]) (vp_Si (fun r => r = nI (isM K fi x).toNat)) 0 0 (fun _ => False) := by
  refine Met.ofW (cc := cX7_isMust) (maxL := 4) (ret := (some .boolean)) (by decide) rfl ?_
  intro p e s m args below meth c s₁ B hml hv
  obtain ⟨hav, hP, hK⟩ := hv
  have hx := B.exec
  have hb := B.bytes
  have hr := B.returns
  have hts := aW_in (atoms_spec (ws := aW yX7_isMust cX7_isMust 4 (some .boolean)) B.pre)
  have hown : s.vm.findClass RX7 = some m.cls := findClass_of_methodNamed B.named
  have hlocks := B.notSynchronized
  obtain ⟨R, hR⟩ : ∃ R, R = (headSpec (aW yX7_isMust cX7_isMust 4 (some .boolean)) { frames := 1, cells := 0, slots := 0, locals := 22 }).room := ⟨_, rfl⟩
  rw [← hR]
  obtain ⟨Q, hQ⟩ : ∃ Q, Q = MQ below (vp_Si (fun r => r = nI (isM K fi x).toNat)) args s 0 0 (fun _ => False) := ⟨_, rfl⟩
  rw [← hQ]
  have hl := lv_entry [.ref r0, .int (nI fi), .int (nI x)] (n := 4) (Nat.le_of_ble_eq_true rfl)
  have hent := lg_entry_eq m [.ref r0, .int (nI fi), .int (nI x)] 4
  rw [← hav] at hent
  rw [hent]
  generalize (lg_sl [.ref r0, .int (nI fi), .int (nI x)] ++ List.replicate (4 - (lg_sl [.ref r0, .int (nI fi), .int (nI x)]).length) Slot.unset).toArray = ls at hl ⊢
  have hl : lv_has ls 4 [(0, .ref r0), (1, .int (nI fi)), (2, .int (nI x))] := hl
  refine lv_iconst (v := nI 0) hx hb dX7_isMust_0 (by decide) ?_
  refine lv_istore_n (lv' := [(3, .int (nI 0)), (0, .ref r0), (1, .int (nI fi)), (2, .int (nI x))]) hx hb dX7_isMust_1 rfl hl (by decide) rfl (fun ls hl => ?_)
  have lp2 : ∀ (n : Nat) (j : Nat) (ls : Array Slot), (j + n = 10) → (anyN (fun z => x.testBit z && ms K fi z) j = false) → lv_has ls 4 [(3, .int (nI j)), (0, .ref r0), (1, .int (nI fi)), (2, .int (nI x))] → W p l e R s m args below meth c s.heap [] 0 0 Q (F0 m 2 ls []) := by
    intro n
    induction n with
    | zero =>
      intro j ls hn ha hl
      refine lv_iload_n hx hb dX7_isMust_2 rfl (lv_at hl 0 rfl) ?_
      refine lv_bipush (v := nI 10) hx hb dX7_isMust_3 (by decide) ?_
      refine x_cge (a := j) (b := 10) (tgt := 34) hx hb (by first | assumption | omega) (by decide) dX7_isMust_5 (by decide) (fun c5 => ?_) (fun c5 => (by omega))
      refine lv_iconst (v := nI 0) hx hb dX7_isMust_34 (by decide) ?_
      rw [hQ]
      exact W.zret (v := nI 0) hx hb hr (rfl) (fun t ht hW => ⟨_, rfl, b_0 (by rw [isM, ← show j = 10 by omega, ha]), ht⟩) (fun _ h => by cases h) dX7_isMust_35
    | succ n ih2 =>
      intro j ls hn ha hl
      refine lv_iload_n hx hb dX7_isMust_2 rfl (lv_at hl 0 rfl) ?_
      refine lv_bipush (v := nI 10) hx hb dX7_isMust_3 (by decide) ?_
      refine x_cge (a := j) (b := 10) (tgt := 34) hx hb (by first | assumption | omega) (by decide) dX7_isMust_5 (by decide) (fun c5 => (by omega)) (fun c5 => ?_)
      refine lv_iload_n hx hb dX7_isMust_8 rfl (lv_at hl 3 rfl) ?_
      refine lv_iload_n hx hb dX7_isMust_9 rfl (lv_at hl 0 rfl) ?_
      refine vp_callSi (va_Run.run (va_runS (As := [.int (nI x), .int (nI j)]) (rest := []) ⟨hx, hb, hml, hown, hts⟩ (mt_X7_isIn l D cI cJ cZ x j (by first | assumption | omega) (by first | assumption | omega)) (va_cwS 2 hts (gS km_RX7_86 ks_yX7_isIn kn_RX7 kc_yX7_isIn) rfl rfl rfl (by decide +kernel) (by rw [hR]; exact ⟨Nat.le_of_ble_eq_true rfl, Nat.le_of_ble_eq_true rfl⟩)) (cP_S hK (fun k q h => by simp at h)) rfl rfl hl.1 rfl (lv_room (Nat.le_of_ble_eq_true rfl)) dX7_isMust_10 ⟨Nat.zero_le _, Nat.zero_le _⟩)) (fun r_ hr_ => ?_)
      subst hr_
      refine x_beq (tgt := 28) hx hb dX7_isMust_13 (by decide) (fun c13 => ?_) (fun c13 => ?_)
      · refine lv_iinc (v := nI (j + 1)) (lv' := [(3, .int (nI (j + 1))), (0, .ref r0), (1, .int (nI fi)), (2, .int (nI x))]) hx hb dX7_isMust_28 hl (k := 0) rfl (x_inc1 _) (by decide) rfl (fun ls hl => ?_)
        refine lv_goto (tgt := 2) hx hb dX7_isMust_31 (by decide) ?_
        exact ih2 (j + 1) ls (by omega) (by first | (refine anyN_next ha ?_; simp [ms, c23]; done) | (refine anyN_next ha ?_; rw [c13]; rfl)) (lv_sub hl [0, 1, 2, 3] rfl)
      · refine lv_aload_n hx hb dX7_isMust_16 rfl (lv_at hl 1 rfl) ?_
        refine lv_iload_n hx hb dX7_isMust_17 rfl (lv_at hl 2 rfl) ?_
        refine lv_iload_n hx hb dX7_isMust_18 rfl (lv_at hl 0 rfl) ?_
        refine vp_callSi (va_Run.run (va_runV (As := [.int (nI fi), .int (nI j)]) (rest := []) ⟨hx, hb, hml, hown, hts⟩ (mt_X7_linkAt l D cI cJ cZ r0 r1 r2 r3 r4 r5 r6 r7 r8 r9 r10 r11 r12 r13 K S q hf hs mn ex we kn cv z ya yb yc ks fi j (by first | assumption | omega) (by first | assumption | omega)) (cwV 2 hts (gV km_RX7_66 ki_yX7_linkAt kl_yX7_linkAt kn_RX7 kc_yX7_linkAt) rfl rfl rfl (by decide +kernel) (by rw [hR]; exact ⟨Nat.le_of_ble_eq_true rfl, Nat.le_of_ble_eq_true rfl⟩)) (cP_V (q0 := 0) (ci := 7) hK (hP.sub [0, 1, 2, 3, 4, 5, 6, 7, 8, 9, 10, 11, 12, 13] rfl) rfl rfl) rfl rfl hl.1 rfl (lv_room (Nat.le_of_ble_eq_true rfl)) dX7_isMust_19 ⟨Nat.zero_le _, Nat.zero_le _⟩)) (fun r_ hr_ => ?_)
        subst hr_
        refine lv_iconst (v := nI 2) hx hb dX7_isMust_22 (by decide) ?_
        refine x_cne (a := K.2.2 fi j) (b := 2) (tgt := 28) hx hb (by have := hL2 fi j; omega) (by decide) dX7_isMust_23 (by decide) (fun c23 => ?_) (fun c23 => ?_)
        · refine lv_iinc (v := nI (j + 1)) (lv' := [(3, .int (nI (j + 1))), (0, .ref r0), (1, .int (nI fi)), (2, .int (nI x))]) hx hb dX7_isMust_28 hl (k := 0) rfl (x_inc1 _) (by decide) rfl (fun ls hl => ?_)
          refine lv_goto (tgt := 2) hx hb dX7_isMust_31 (by decide) ?_
          exact ih2 (j + 1) ls (by omega) (by first | (refine anyN_next ha ?_; simp [ms, c23]; done) | (refine anyN_next ha ?_; rw [c13]; rfl)) (lv_sub hl [0, 1, 2, 3] rfl)
        · refine lv_iconst (v := nI 1) hx hb dX7_isMust_26 (by decide) ?_
          rw [hQ]
          exact W.zret (v := nI 1) hx hb hr (rfl) (fun t ht hW => ⟨_, rfl, b_1 (anyN_true (show j < 10 by omega) (by simp [ms, c13, c23])), ht⟩) (fun _ h => by cases h) dX7_isMust_27
  exact lp2 (10) 0 ls (by omega) (rfl) (lv_sub hl [0, 1, 2, 3] rfl)

set_option maxHeartbeats 4000000 in
set_option maxRecDepth 100000 in
theorem mt_X7_excluded (l : Launch) (D : va_G) (cI cJ cZ : ClassId) (r0 : Nat) (r1 : Nat) (r2 : Nat) (r3 : Nat) (r4 : Nat) (r5 : Nat) (r6 : Nat) (r7 : Nat) (r8 : Nat) (r9 : Nat) (r10 : Nat) (r11 : Nat) (r12 : Nat) (r13 : Nat) (K : Kn) (S : Nat → Nat) (q : Nat) (hf : Nat → Nat) (hs : Nat → Nat) (mn : Nat) (ex : Nat → Nat) (we : Nat → Nat) (kn : Bool) (cv : Nat → Bool) (z : Nat) (ya : Nat → Nat) (yb : Nat → Nat) (yc : Nat → Nat) (ks : Nat → Nat) (hL2 : ∀ f c, K.2.2 f c ≤ 2) (hS2 : ∀ f, S f ≤ 2) : Met l yX7_excluded (aW yX7_excluded cX7_excluded 3 (some .int)) { frames := 2, cells := 0, slots := 0, locals := 44 } (cP D cI cJ cZ [.ref r0] [(r0, .inr (7, [.ref r1, .ref r2, .ref r3, .ref r4, .int (nI q), .ref r5, .ref r6, .int (nI mn), .ref r7, .ref r8, .int (nI kn.toNat), .ref r9, .int (nI z), .ref r10, .ref r11, .ref r12, .ref r13])), (r1, .inl (cI, 10, .inl (fN K.1))), (r2, .inl (cI, 10, .inl (fN K.2.1))), (r3, .inl (cI, 120, .inl (fN (lkA K)))), (r4, .inl (cI, 12, .inl (fN S))), (r5, .inl (cI, 20, .inl (fN hf))), (r6, .inl (cI, 20, .inl (fN hs))), (r7, .inl (cI, 1024, .inl (fN ex))), (r8, .inl (cJ, 1024, .inr (.inl (fL we)))), (r9, .inl (cZ, 1024, .inl (fB cv))), (r10, .inl (cI, 12, .inl (fN ya))), (r11, .inl (cI, 12, .inl (fN yb))), (r12, .inl (cI, 12, .inl (fN yc))), (r13, .inl (cI, 12, .inl (fN ks)))]) (vp_Si (fun r => r = nI (exM K S))) 0 0 (fun _ => False) := by
  refine Met.ofW (cc := cX7_excluded) (maxL := 3) (ret := (some .int)) (by decide) rfl ?_
  intro p e s m args below meth c s₁ B hml hv
  obtain ⟨hav, hP, hK⟩ := hv
  have hx := B.exec
  have hb := B.bytes
  have hr := B.returns
  have hts := aW_in (atoms_spec (ws := aW yX7_excluded cX7_excluded 3 (some .int)) B.pre)
  have hown : s.vm.findClass RX7 = some m.cls := findClass_of_methodNamed B.named
  have hlocks := B.notSynchronized
  obtain ⟨R, hR⟩ : ∃ R, R = (headSpec (aW yX7_excluded cX7_excluded 3 (some .int)) { frames := 2, cells := 0, slots := 0, locals := 44 }).room := ⟨_, rfl⟩
  rw [← hR]
  obtain ⟨Q, hQ⟩ : ∃ Q, Q = MQ below (vp_Si (fun r => r = nI (exM K S))) args s 0 0 (fun _ => False) := ⟨_, rfl⟩
  rw [← hQ]
  have hl := lv_entry [.ref r0] (n := 3) (Nat.le_of_ble_eq_true rfl)
  have hent := lg_entry_eq m [.ref r0] 3
  rw [← hav] at hent
  rw [hent]
  generalize (lg_sl [.ref r0] ++ List.replicate (3 - (lg_sl [.ref r0]).length) Slot.unset).toArray = ls at hl ⊢
  have hl : lv_has ls 3 [(0, .ref r0)] := hl
  refine lv_iconst (v := nI 0) hx hb dX7_excluded_0 (by decide) ?_
  refine lv_istore_n (lv' := [(1, .int (nI 0)), (0, .ref r0)]) hx hb dX7_excluded_1 rfl hl (by decide) rfl (fun ls hl => ?_)
  refine lv_iconst (v := nI 0) hx hb dX7_excluded_2 (by decide) ?_
  refine lv_istore_n (lv' := [(2, .int (nI 0)), (1, .int (nI 0)), (0, .ref r0)]) hx hb dX7_excluded_3 rfl hl (by decide) rfl (fun ls hl => ?_)
  have lp4 : ∀ (n : Nat) (j : Nat) (a : Nat) (ls : Array Slot), (j + n = 10) → (a = mkN (exc K S) j) → lv_has ls 3 [(2, .int (nI j)), (1, .int (nI a)), (0, .ref r0)] → W p l e R s m args below meth c s.heap [] 0 0 Q (F0 m 4 ls []) := by
    intro n
    induction n with
    | zero =>
      intro j a ls hn ha hl
      refine lv_iload_n hx hb dX7_excluded_4 rfl (lv_at hl 0 rfl) ?_
      refine lv_bipush (v := nI 10) hx hb dX7_excluded_5 (by decide) ?_
      refine x_cge (a := j) (b := 10) (tgt := 34) hx hb (by first | assumption | omega) (by decide) dX7_excluded_7 (by decide) (fun c7 => ?_) (fun c7 => (by omega))
      refine lv_iload_n hx hb dX7_excluded_34 rfl (lv_at hl 1 rfl) ?_
      rw [hQ]
      exact W.iret (v := nI a) hx hb hr (fun t ht hW => ⟨_, rfl, by rw [ha, show j = 10 by omega]; rfl, ht⟩) (fun _ h => by cases h) dX7_excluded_35
    | succ n ih4 =>
      intro j a ls hn ha hl
      refine lv_iload_n hx hb dX7_excluded_4 rfl (lv_at hl 0 rfl) ?_
      refine lv_bipush (v := nI 10) hx hb dX7_excluded_5 (by decide) ?_
      refine x_cge (a := j) (b := 10) (tgt := 34) hx hb (by first | assumption | omega) (by decide) dX7_excluded_7 (by decide) (fun c7 => (by omega)) (fun c7 => ?_)
      refine lv_iload_n hx hb dX7_excluded_10 rfl (lv_at hl 1 rfl) ?_
      refine lv_aload_n hx hb dX7_excluded_11 rfl (lv_at hl 2 rfl) ?_
      refine lv_iload_n hx hb dX7_excluded_12 rfl (lv_at hl 0 rfl) ?_
      refine vp_callSi (va_Run.run (va_runV (As := [.int (nI j)]) (rest := [.int (nI a)]) ⟨hx, hb, hml, hown, hts⟩ (mt_X7_isExcluded l D cI cJ cZ r0 r1 r2 r3 r4 r5 r6 r7 r8 r9 r10 r11 r12 r13 K S q hf hs mn ex we kn cv z ya yb yc ks j (by first | assumption | omega) (by first | assumption | omega) (by first | assumption | omega)) (cwV 1 hts (gV km_RX7_90 ki_yX7_isExcluded kl_yX7_isExcluded kn_RX7 kc_yX7_isExcluded) rfl rfl rfl (by decide +kernel) (by rw [hR]; exact ⟨Nat.le_of_ble_eq_true rfl, Nat.le_of_ble_eq_true rfl⟩)) (cP_V (q0 := 0) (ci := 7) hK (hP.sub [0, 1, 2, 3, 4, 5, 6, 7, 8, 9, 10, 11, 12, 13] rfl) rfl rfl) rfl rfl hl.1 rfl (lv_room (Nat.le_of_ble_eq_true rfl)) dX7_excluded_13 ⟨Nat.zero_le _, Nat.zero_le _⟩)) (fun r_ hr_ => ?_)
      subst hr_
      have j26 : W p l e R s m args below meth c s.heap [] 0 0 Q (F0 m 26 ls [.int (nI (if exc K S j then 2 ^ j else 0)), .int (nI a)]) := by
        refine x_ior (z := nI (a ||| (if exc K S j then 2 ^ j else 0))) hx hb dX7_excluded_26 (z_or _ _) ?_
        refine lv_istore_n (lv' := [(1, .int (nI (a ||| (if exc K S j then 2 ^ j else 0)))), (2, .int (nI j)), (0, .ref r0)]) hx hb dX7_excluded_27 rfl hl (by decide) rfl (fun ls hl => ?_)
        refine lv_iinc (v := nI (j + 1)) (lv' := [(2, .int (nI (j + 1))), (1, .int (nI (a ||| (if exc K S j then 2 ^ j else 0)))), (0, .ref r0)]) hx hb dX7_excluded_28 hl (k := 1) rfl (x_inc1 _) (by decide) rfl (fun ls hl => ?_)
        refine lv_goto (tgt := 4) hx hb dX7_excluded_31 (by decide) ?_
        exact ih4 (j + 1) (a ||| (if exc K S j then 2 ^ j else 0)) ls (by omega) (by rw [ha]; exact mkN_or _ _) (lv_sub hl [0, 1, 2] rfl)
      refine x_beq (tgt := 25) hx hb dX7_excluded_16 (by decide) (fun c16 => ?_) (fun c16 => ?_)
      · refine lv_iconst (v := nI 0) hx hb dX7_excluded_25 (by decide) ?_
        refine x_top (show nI 0 = nI (if exc K S j then 2 ^ j else 0) from by rw [c16]; rfl) ?_
        exact j26
      · refine lv_iconst (v := nI 1) hx hb dX7_excluded_19 (by decide) ?_
        refine lv_iload_n hx hb dX7_excluded_20 rfl (lv_at hl 0 rfl) ?_
        refine x_ishl (z := nI (2 ^ j)) hx hb dX7_excluded_21 (z_shl1 (by first | assumption | omega)) ?_
        refine lv_goto (tgt := 26) hx hb dX7_excluded_22 (by decide) ?_
        refine x_top (show nI (2 ^ j) = nI (if exc K S j then 2 ^ j else 0) from by rw [c16]; rfl) ?_
        exact j26
  exact lp4 (10) 0 0 ls (by omega) (rfl) (lv_sub hl [0, 1, 2] rfl)

set_option maxHeartbeats 4000000 in
set_option maxRecDepth 100000 in
theorem mt_X7_isCovering (l : Launch) (D : va_G) (cI cJ cZ : ClassId) (r0 : Nat) (r1 : Nat) (r2 : Nat) (r3 : Nat) (r4 : Nat) (r5 : Nat) (r6 : Nat) (r7 : Nat) (r8 : Nat) (r9 : Nat) (r10 : Nat) (r11 : Nat) (r12 : Nat) (r13 : Nat) (K : Kn) (S : Nat → Nat) (q : Nat) (hf : Nat → Nat) (hs : Nat → Nat) (mn : Nat) (ex : Nat → Nat) (we : Nat → Nat) (kn : Bool) (cv : Nat → Bool) (z : Nat) (ya : Nat → Nat) (yb : Nat → Nat) (yc : Nat → Nat) (ks : Nat → Nat) (x : Nat) (hx0 : x < 1024) (hL2 : ∀ f c, K.2.2 f c ≤ 2) (hS2 : ∀ f, S f ≤ 2) : Met l yX7_isCovering (aW yX7_isCovering cX7_isCovering 4 (some .boolean)) { frames := 2, cells := 0, slots := 0, locals := 45 } (cP D cI cJ cZ [.ref r0, .int (nI x), .int (nI (exM K S))] [(r0, .inr (7, [.ref r1, .ref r2, .ref r3, .ref r4, .int (nI q), .ref r5, .ref r6, .int (nI mn), .ref r7, .ref r8, .int (nI kn.toNat), .ref r9, .int (nI z), .ref r10, .ref r11, .ref r12, .ref r13])), (r1, .inl (cI, 10, .inl (fN K.1))), (r2, .inl (cI, 10, .inl (fN K.2.1))), (r3, .inl (cI, 120, .inl (fN (lkA K)))), (r4, .inl (cI, 12, .inl (fN S))), (r5, .inl (cI, 20, .inl (fN hf))), (r6, .inl (cI, 20, .inl (fN hs))), (r7, .inl (cI, 1024, .inl (fN ex))), (r8, .inl (cJ, 1024, .inr (.inl (fL we)))), (r9, .inl (cZ, 1024, .inl (fB cv))), (r10, .inl (cI, 12, .inl (fN ya))), (r11, .inl (cI, 12, .inl (fN yb))), (r12, .inl (cI, 12, .inl (fN yc))), (r13, .inl (cI, 12, .inl (fN ks)))]) (vp_Si (fun r => r = nI (cov K S x).toNat)) 0 0 (fun _ => False) := by
  refine Met.ofW (cc := cX7_isCovering) (maxL := 4) (ret := (some .boolean)) (by decide) rfl ?_
  intro p e s m args below meth c s₁ B hml hv
  obtain ⟨hav, hP, hK⟩ := hv
  have hx := B.exec
  have hb := B.bytes
  have hr := B.returns
  have hts := aW_in (atoms_spec (ws := aW yX7_isCovering cX7_isCovering 4 (some .boolean)) B.pre)
  have hown : s.vm.findClass RX7 = some m.cls := findClass_of_methodNamed B.named
  have hlocks := B.notSynchronized
  obtain ⟨R, hR⟩ : ∃ R, R = (headSpec (aW yX7_isCovering cX7_isCovering 4 (some .boolean)) { frames := 2, cells := 0, slots := 0, locals := 45 }).room := ⟨_, rfl⟩
  rw [← hR]
  obtain ⟨Q, hQ⟩ : ∃ Q, Q = MQ below (vp_Si (fun r => r = nI (cov K S x).toNat)) args s 0 0 (fun _ => False) := ⟨_, rfl⟩
  rw [← hQ]
  have hl := lv_entry [.ref r0, .int (nI x), .int (nI (exM K S))] (n := 4) (Nat.le_of_ble_eq_true rfl)
  have hent := lg_entry_eq m [.ref r0, .int (nI x), .int (nI (exM K S))] 4
  rw [← hav] at hent
  rw [hent]
  generalize (lg_sl [.ref r0, .int (nI x), .int (nI (exM K S))] ++ List.replicate (4 - (lg_sl [.ref r0, .int (nI x), .int (nI (exM K S))]).length) Slot.unset).toArray = ls at hl ⊢
  have hl : lv_has ls 4 [(0, .ref r0), (1, .int (nI x)), (2, .int (nI (exM K S)))] := hl
  refine lv_iload_n hx hb dX7_isCovering_0 rfl (lv_at hl 1 rfl) ?_
  refine lv_iload_n hx hb dX7_isCovering_1 rfl (lv_at hl 2 rfl) ?_
  refine x_iand (z := nI (x &&& (exM K S))) hx hb dX7_isCovering_2 (z_and _ _) ?_
  refine x_zeq (tgt := 8) hx hb (Nat.lt_of_le_of_lt Nat.and_le_left (by omega)) dX7_isCovering_3 (by decide) (fun c3 => ?_) (fun c3 => ?_)
  · refine lv_iconst (v := nI 0) hx hb dX7_isCovering_8 (by decide) ?_
    refine lv_istore_n (lv' := [(3, .int (nI 0)), (0, .ref r0), (1, .int (nI x)), (2, .int (nI (exM K S)))]) hx hb dX7_isCovering_9 rfl hl (by decide) rfl (fun ls hl => ?_)
    have lp10 : ∀ (n : Nat) (j : Nat) (ls : Array Slot), (j + n = 12) → (anyN (fun f => S f == 1 && !isL K f x) j = false) → lv_has ls 4 [(3, .int (nI j)), (0, .ref r0), (1, .int (nI x)), (2, .int (nI (exM K S)))] → W p l e R s m args below meth c s.heap [] 0 0 Q (F0 m 10 ls []) := by
      intro n
      induction n with
      | zero =>
        intro j ls hn ha hl
        refine lv_iload_n hx hb dX7_isCovering_10 rfl (lv_at hl 0 rfl) ?_
        refine lv_bipush (v := nI 12) hx hb dX7_isCovering_11 (by decide) ?_
        refine x_cge (a := j) (b := 12) (tgt := 43) hx hb (by first | assumption | omega) (by decide) dX7_isCovering_13 (by decide) (fun c13 => ?_) (fun c13 => (by omega))
        refine lv_iconst (v := nI 1) hx hb dX7_isCovering_43 (by decide) ?_
        rw [hQ]
        exact W.zret (v := nI 1) hx hb hr (rfl) (fun t ht hW => ⟨_, rfl, b_1 (by unfold cov; rw [← show j = 12 by omega, ha, c3]; rfl), ht⟩) (fun _ h => by cases h) dX7_isCovering_44
      | succ n ih10 =>
        intro j ls hn ha hl
        refine lv_iload_n hx hb dX7_isCovering_10 rfl (lv_at hl 0 rfl) ?_
        refine lv_bipush (v := nI 12) hx hb dX7_isCovering_11 (by decide) ?_
        refine x_cge (a := j) (b := 12) (tgt := 43) hx hb (by first | assumption | omega) (by decide) dX7_isCovering_13 (by decide) (fun c13 => (by omega)) (fun c13 => ?_)
        refine lv_aload_n hx hb dX7_isCovering_16 rfl (lv_at hl 1 rfl) ?_
        refine va_get (D := D) (ci := 7) (v := .ref r4) (C := RX7) (T := TX7) (N := 17) hx hb hts inA7 hown hK.1 hP 0 rfl rfl 3 (by decide) (hts _ kf_RX7_19) (fun _ h9 => h9) rfl dX7_isCovering_17 ?_
        refine lv_iload_n hx hb dX7_isCovering_20 rfl (lv_at hl 0 rfl) ?_
        refine x_ildN hx hb hK.1 hP 4 0 rfl rfl (by first | assumption | omega) (by decide) dX7_isCovering_21 ?_
        refine lv_iconst (v := nI 1) hx hb dX7_isCovering_22 (by decide) ?_
        refine x_cne (a := S j) (b := 1) (tgt := 37) hx hb (by have := hS2 j; omega) (by decide) dX7_isCovering_23 (by decide) (fun c23 => ?_) (fun c23 => ?_)
        · refine lv_iinc (v := nI (j + 1)) (lv' := [(3, .int (nI (j + 1))), (0, .ref r0), (1, .int (nI x)), (2, .int (nI (exM K S)))]) hx hb dX7_isCovering_37 hl (k := 0) rfl (x_inc1 _) (by decide) rfl (fun ls hl => ?_)
          refine lv_goto (tgt := 10) hx hb dX7_isCovering_40 (by decide) ?_
          exact ih10 (j + 1) ls (by omega) (by first | (refine anyN_next ha ?_; simp [c32]; done) | (refine anyN_next ha ?_; simp [c23]; done)) (lv_sub hl [0, 1, 2, 3] rfl)
        · refine lv_aload_n hx hb dX7_isCovering_26 rfl (lv_at hl 1 rfl) ?_
          refine lv_iload_n hx hb dX7_isCovering_27 rfl (lv_at hl 0 rfl) ?_
          refine lv_iload_n hx hb dX7_isCovering_28 rfl (lv_at hl 2 rfl) ?_
          refine vp_callSi (va_Run.run (va_runV (As := [.int (nI j), .int (nI x)]) (rest := []) ⟨hx, hb, hml, hown, hts⟩ (mt_X7_isLinked l D cI cJ cZ r0 r1 r2 r3 r4 r5 r6 r7 r8 r9 r10 r11 r12 r13 K S q hf hs mn ex we kn cv z ya yb yc ks j x (by first | assumption | omega) (by first | assumption | omega) (by first | assumption | omega)) (cwV 2 hts (gV km_RX7_93 ki_yX7_isLinked kl_yX7_isLinked kn_RX7 kc_yX7_isLinked) rfl rfl rfl (by decide +kernel) (by rw [hR]; exact ⟨Nat.le_of_ble_eq_true rfl, Nat.le_of_ble_eq_true rfl⟩)) (cP_V (q0 := 0) (ci := 7) hK (hP.sub [0, 1, 2, 3, 4, 5, 6, 7, 8, 9, 10, 11, 12, 13] rfl) rfl rfl) rfl rfl hl.1 rfl (lv_room (Nat.le_of_ble_eq_true rfl)) dX7_isCovering_29 ⟨Nat.zero_le _, Nat.zero_le _⟩)) (fun r_ hr_ => ?_)
          subst hr_
          refine x_bne (tgt := 37) hx hb dX7_isCovering_32 (by decide) (fun c32 => ?_) (fun c32 => ?_)
          · refine lv_iinc (v := nI (j + 1)) (lv' := [(3, .int (nI (j + 1))), (0, .ref r0), (1, .int (nI x)), (2, .int (nI (exM K S)))]) hx hb dX7_isCovering_37 hl (k := 0) rfl (x_inc1 _) (by decide) rfl (fun ls hl => ?_)
            refine lv_goto (tgt := 10) hx hb dX7_isCovering_40 (by decide) ?_
            exact ih10 (j + 1) ls (by omega) (by first | (refine anyN_next ha ?_; simp [c32]; done) | (refine anyN_next ha ?_; simp [c23]; done)) (lv_sub hl [0, 1, 2, 3] rfl)
          · refine lv_iconst (v := nI 0) hx hb dX7_isCovering_35 (by decide) ?_
            rw [hQ]
            exact W.zret (v := nI 0) hx hb hr (rfl) (fun t ht hW => ⟨_, rfl, b_0 (by unfold cov; rw [anyN_true (show j < 12 by omega) (by simp [c23, c32])]; simp), ht⟩) (fun _ h => by cases h) dX7_isCovering_36
    exact lp10 (12) 0 ls (by omega) (rfl) (lv_sub hl [0, 1, 2, 3] rfl)
  · refine lv_iconst (v := nI 0) hx hb dX7_isCovering_6 (by decide) ?_
    rw [hQ]
    exact W.zret (v := nI 0) hx hb hr (rfl) (fun t ht hW => ⟨_, rfl, b_0 (cov_and c3), ht⟩) (fun _ h => by cases h) dX7_isCovering_7

set_option maxHeartbeats 4000000 in
set_option maxRecDepth 100000 in
theorem mt_X7_weightBy (l : Launch) (D : va_G) (cI cJ cZ : ClassId) (r0 : Nat) (r1 : Nat) (r2 : Nat) (r3 : Nat) (r4 : Nat) (r5 : Nat) (r6 : Nat) (r7 : Nat) (r8 : Nat) (r9 : Nat) (r10 : Nat) (r11 : Nat) (r12 : Nat) (r13 : Nat) (K : Kn) (S : Nat → Nat) (q : Nat) (hf : Nat → Nat) (hs : Nat → Nat) (mn : Nat) (ex : Nat → Nat) (we : Nat → Nat) (kn : Bool) (cv : Nat → Bool) (z : Nat) (ya : Nat → Nat) (yb : Nat → Nat) (yc : Nat → Nat) (ks : Nat → Nat) (x : Nat) (hx0 : x < 1024) (hKO : KO K) : Met l yX7_weightBy (aW yX7_weightBy cX7_weightBy 6 (some .long)) { frames := 1, cells := 0, slots := 0, locals := 21 } (cP D cI cJ cZ [.ref r0, .int (nI x), .int (nI 10)] [(r0, .inr (7, [.ref r1, .ref r2, .ref r3, .ref r4, .int (nI q), .ref r5, .ref r6, .int (nI mn), .ref r7, .ref r8, .int (nI kn.toNat), .ref r9, .int (nI z), .ref r10, .ref r11, .ref r12, .ref r13])), (r1, .inl (cI, 10, .inl (fN K.1))), (r2, .inl (cI, 10, .inl (fN K.2.1))), (r3, .inl (cI, 120, .inl (fN (lkA K)))), (r4, .inl (cI, 12, .inl (fN S))), (r5, .inl (cI, 20, .inl (fN hf))), (r6, .inl (cI, 20, .inl (fN hs))), (r7, .inl (cI, 1024, .inl (fN ex))), (r8, .inl (cJ, 1024, .inr (.inl (fL we)))), (r9, .inl (cZ, 1024, .inl (fB cv))), (r10, .inl (cI, 12, .inl (fN ya))), (r11, .inl (cI, 12, .inl (fN yb))), (r12, .inl (cI, 12, .inl (fN yc))), (r13, .inl (cI, 12, .inl (fN ks)))]) (vp_Sl (fun r => r = lN (wt K x))) 0 0 (fun _ => False) := by
  refine Met.ofW (cc := cX7_weightBy) (maxL := 6) (ret := (some .long)) (by decide) rfl ?_
  intro p e s m args below meth c s₁ B hml hv
  obtain ⟨hav, hP, hK⟩ := hv
  have hx := B.exec
  have hb := B.bytes
  have hr := B.returns
  have hts := aW_in (atoms_spec (ws := aW yX7_weightBy cX7_weightBy 6 (some .long)) B.pre)
  have hown : s.vm.findClass RX7 = some m.cls := findClass_of_methodNamed B.named
  have hlocks := B.notSynchronized
  obtain ⟨R, hR⟩ : ∃ R, R = (headSpec (aW yX7_weightBy cX7_weightBy 6 (some .long)) { frames := 1, cells := 0, slots := 0, locals := 21 }).room := ⟨_, rfl⟩
  rw [← hR]
  obtain ⟨Q, hQ⟩ : ∃ Q, Q = MQ below (vp_Sl (fun r => r = lN (wt K x))) args s 0 0 (fun _ => False) := ⟨_, rfl⟩
  rw [← hQ]
  have hl := lv_entry [.ref r0, .int (nI x), .int (nI 10)] (n := 6) (Nat.le_of_ble_eq_true rfl)
  have hent := lg_entry_eq m [.ref r0, .int (nI x), .int (nI 10)] 6
  rw [← hav] at hent
  rw [hent]
  generalize (lg_sl [.ref r0, .int (nI x), .int (nI 10)] ++ List.replicate (6 - (lg_sl [.ref r0, .int (nI x), .int (nI 10)]).length) Slot.unset).toArray = ls at hl ⊢
  have hl : lv_has ls 6 [(0, .ref r0), (1, .int (nI x)), (2, .int (nI 10))] := hl
  refine lv_lconst (v := lN 1) hx hb dX7_weightBy_0 rfl ?_
  refine lv_lstore_n (lv' := [(3, .long (lN 1)), (0, .ref r0), (1, .int (nI x)), (2, .int (nI 10))]) hx hb dX7_weightBy_1 rfl hl (by decide) rfl (fun ls hl => ?_)
  refine lv_iconst (v := nI 0) hx hb dX7_weightBy_2 (by decide) ?_
  refine lv_istore (lv' := [(5, .int (nI 0)), (3, .long (lN 1)), (0, .ref r0), (1, .int (nI x)), (2, .int (nI 10))]) hx hb dX7_weightBy_3 hl (by decide) rfl (fun ls hl => ?_)
  have lp5 : ∀ (n : Nat) (j : Nat) (a : Nat) (ls : Array Slot), (j + n = 10) → (a = wtI K x j) → lv_has ls 6 [(5, .int (nI j)), (3, .long (lN a)), (0, .ref r0), (1, .int (nI x)), (2, .int (nI 10))] → W p l e R s m args below meth c s.heap [] 0 0 Q (F0 m 5 ls []) := by
    intro n
    induction n with
    | zero =>
      intro j a ls hn ha hl
      refine lv_iload hx hb dX7_weightBy_5 (lv_at hl 0 rfl) ?_
      refine lv_iload_n hx hb dX7_weightBy_7 rfl (lv_at hl 4 rfl) ?_
      refine x_cge (a := j) (b := 10) (tgt := 48) hx hb (by first | assumption | omega) (by decide) dX7_weightBy_8 (by decide) (fun c8 => ?_) (fun c8 => (by omega))
      refine lv_lload_n hx hb dX7_weightBy_48 rfl (lv_at hl 1 rfl) ?_
      rw [hQ]
      exact W.lret (v := lN a) hx hb hr (fun t ht hW => ⟨_, rfl, by rw [ha, show j = 10 by omega]; rfl, ht⟩) (fun _ h => by cases h) dX7_weightBy_49
    | succ n ih5 =>
      intro j a ls hn ha hl
      have hko := hKO j (by omega)
      refine lv_iload hx hb dX7_weightBy_5 (lv_at hl 0 rfl) ?_
      refine lv_iload_n hx hb dX7_weightBy_7 rfl (lv_at hl 4 rfl) ?_
      refine x_cge (a := j) (b := 10) (tgt := 48) hx hb (by first | assumption | omega) (by decide) dX7_weightBy_8 (by decide) (fun c8 => (by omega)) (fun c8 => ?_)
      refine lv_lload_n hx hb dX7_weightBy_11 rfl (lv_at hl 1 rfl) ?_
      refine lv_iload_n hx hb dX7_weightBy_12 rfl (lv_at hl 3 rfl) ?_
      refine lv_iload hx hb dX7_weightBy_13 (lv_at hl 0 rfl) ?_
      refine vp_callSi (va_Run.run (va_runS (As := [.int (nI x), .int (nI j)]) (rest := [.long (lN a)]) ⟨hx, hb, hml, hown, hts⟩ (mt_X7_isIn l D cI cJ cZ x j (by first | assumption | omega) (by first | assumption | omega)) (va_cwS 2 hts (gS km_RX7_86 ks_yX7_isIn kn_RX7 kc_yX7_isIn) rfl rfl rfl (by decide +kernel) (by rw [hR]; exact ⟨Nat.le_of_ble_eq_true rfl, Nat.le_of_ble_eq_true rfl⟩)) (cP_S hK (fun k q h => by simp at h)) rfl rfl hl.1 rfl (lv_room (Nat.le_of_ble_eq_true rfl)) dX7_weightBy_15 ⟨Nat.zero_le _, Nat.zero_le _⟩)) (fun r_ hr_ => ?_)
      subst hr_
      have j40 : W p l e R s m args below meth c s.heap [] 0 0 Q (F0 m 40 ls [.long (lN (if x.testBit j then K.1 j else K.2.1 j)), .long (lN a)]) := by
        refine x_lmul (z := lN (a * (if x.testBit j then K.1 j else K.2.1 j))) hx hb dX7_weightBy_40 (lN_mul _ _) ?_
        refine lv_lstore_n (lv' := [(3, .long (lN (a * (if x.testBit j then K.1 j else K.2.1 j)))), (5, .int (nI j)), (0, .ref r0), (1, .int (nI x)), (2, .int (nI 10))]) hx hb dX7_weightBy_41 rfl hl (by decide) rfl (fun ls hl => ?_)
        refine lv_iinc (v := nI (j + 1)) (lv' := [(5, .int (nI (j + 1))), (3, .long (lN (a * (if x.testBit j then K.1 j else K.2.1 j)))), (0, .ref r0), (1, .int (nI x)), (2, .int (nI 10))]) hx hb dX7_weightBy_42 hl (k := 1) rfl (x_inc1 _) (by decide) rfl (fun ls hl => ?_)
        refine lv_goto (tgt := 5) hx hb dX7_weightBy_45 (by decide) ?_
        exact ih5 (j + 1) (a * (if x.testBit j then K.1 j else K.2.1 j)) ls (by omega) (by rw [ha]; rfl) (lv_sub hl [0, 1, 2, 3, 4] rfl)
      refine x_beq (tgt := 32) hx hb dX7_weightBy_18 (by decide) (fun c18 => ?_) (fun c18 => ?_)
      · refine lv_aload_n hx hb dX7_weightBy_32 rfl (lv_at hl 2 rfl) ?_
        refine va_get (D := D) (ci := 7) (v := .ref r2) (C := RX7) (T := TX7) (N := 17) hx hb hts inA7 hown hK.1 hP 0 rfl rfl 1 (by decide) (hts _ kf_RX7_13) (fun _ h9 => h9) rfl dX7_weightBy_33 ?_
        refine lv_iload hx hb dX7_weightBy_36 (lv_at hl 0 rfl) ?_
        refine x_ildN hx hb hK.1 hP 2 0 rfl rfl (by first | assumption | omega) (by decide) dX7_weightBy_38 ?_
        refine lv_i2l (v := lN (K.2.1 j)) hx hb dX7_weightBy_39 (nI_l (by omega)) ?_
        refine x_topL (show lN (K.2.1 j) = lN (if x.testBit j then K.1 j else K.2.1 j) from by rw [c18]; rfl) ?_
        exact j40
      · refine lv_aload_n hx hb dX7_weightBy_21 rfl (lv_at hl 2 rfl) ?_
        refine va_get (D := D) (ci := 7) (v := .ref r1) (C := RX7) (T := TX7) (N := 17) hx hb hts inA7 hown hK.1 hP 0 rfl rfl 0 (by decide) (hts _ kf_RX7_7) (fun _ h9 => h9) rfl dX7_weightBy_22 ?_
        refine lv_iload hx hb dX7_weightBy_25 (lv_at hl 0 rfl) ?_
        refine x_ildN hx hb hK.1 hP 1 0 rfl rfl (by first | assumption | omega) (by decide) dX7_weightBy_27 ?_
        refine lv_i2l (v := lN (K.1 j)) hx hb dX7_weightBy_28 (nI_l (by omega)) ?_
        refine lv_goto (tgt := 40) hx hb dX7_weightBy_29 (by decide) ?_
        refine x_topL (show lN (K.1 j) = lN (if x.testBit j then K.1 j else K.2.1 j) from by rw [c18]; rfl) ?_
        exact j40
  exact lp5 (10) 0 1 ls (by omega) (rfl) (lv_sub hl [0, 1, 2, 3, 4] rfl)

set_option maxHeartbeats 4000000 in
set_option maxRecDepth 100000 in
theorem mt_X7_isSpared (l : Launch) (D : va_G) (cI cJ cZ : ClassId) (r0 : Nat) (r1 : Nat) (r2 : Nat) (r3 : Nat) (r4 : Nat) (r5 : Nat) (r6 : Nat) (r7 : Nat) (r8 : Nat) (r9 : Nat) (r10 : Nat) (r11 : Nat) (r12 : Nat) (r13 : Nat) (K : Kn) (S : Nat → Nat) (q : Nat) (hf : Nat → Nat) (hs : Nat → Nat) (mn : Nat) (ex : Nat → Nat) (we : Nat → Nat) (kn : Bool) (cv : Nat → Bool) (z : Nat) (ya : Nat → Nat) (yb : Nat → Nat) (yc : Nat → Nat) (ks : Nat → Nat) (x : Nat) (hx0 : x < 1024) : Met l yX7_isSpared (aW yX7_isSpared cX7_isSpared 3 (some .boolean)) { frames := 1, cells := 0, slots := 0, locals := 21 } (cP D cI cJ cZ [.ref r0, .int (nI x)] [(r0, .inr (7, [.ref r1, .ref r2, .ref r3, .ref r4, .int (nI q), .ref r5, .ref r6, .int (nI mn), .ref r7, .ref r8, .int (nI kn.toNat), .ref r9, .int (nI z), .ref r10, .ref r11, .ref r12, .ref r13])), (r1, .inl (cI, 10, .inl (fN K.1))), (r2, .inl (cI, 10, .inl (fN K.2.1))), (r3, .inl (cI, 120, .inl (fN (lkA K)))), (r4, .inl (cI, 12, .inl (fN S))), (r5, .inl (cI, 20, .inl (fN hf))), (r6, .inl (cI, 20, .inl (fN hs))), (r7, .inl (cI, 1024, .inl (fN ex))), (r8, .inl (cJ, 1024, .inr (.inl (fL we)))), (r9, .inl (cZ, 1024, .inl (fB cv))), (r10, .inl (cI, 12, .inl (fN ya))), (r11, .inl (cI, 12, .inl (fN yb))), (r12, .inl (cI, 12, .inl (fN yc))), (r13, .inl (cI, 12, .inl (fN ks)))]) (vp_Si (fun r => r = nI (anyN (fun z => x.testBit z && cv (x - 2 ^ z)) 10).toNat)) 0 0 (fun _ => False) := by
  refine Met.ofW (cc := cX7_isSpared) (maxL := 3) (ret := (some .boolean)) (by decide) rfl ?_
  intro p e s m args below meth c s₁ B hml hv
  obtain ⟨hav, hP, hK⟩ := hv
  have hx := B.exec
  have hb := B.bytes
  have hr := B.returns
  have hts := aW_in (atoms_spec (ws := aW yX7_isSpared cX7_isSpared 3 (some .boolean)) B.pre)
  have hown : s.vm.findClass RX7 = some m.cls := findClass_of_methodNamed B.named
  have hlocks := B.notSynchronized
  obtain ⟨R, hR⟩ : ∃ R, R = (headSpec (aW yX7_isSpared cX7_isSpared 3 (some .boolean)) { frames := 1, cells := 0, slots := 0, locals := 21 }).room := ⟨_, rfl⟩
  rw [← hR]
  obtain ⟨Q, hQ⟩ : ∃ Q, Q = MQ below (vp_Si (fun r => r = nI (anyN (fun z => x.testBit z && cv (x - 2 ^ z)) 10).toNat)) args s 0 0 (fun _ => False) := ⟨_, rfl⟩
  rw [← hQ]
  have hl := lv_entry [.ref r0, .int (nI x)] (n := 3) (Nat.le_of_ble_eq_true rfl)
  have hent := lg_entry_eq m [.ref r0, .int (nI x)] 3
  rw [← hav] at hent
  rw [hent]
  generalize (lg_sl [.ref r0, .int (nI x)] ++ List.replicate (3 - (lg_sl [.ref r0, .int (nI x)]).length) Slot.unset).toArray = ls at hl ⊢
  have hl : lv_has ls 3 [(0, .ref r0), (1, .int (nI x))] := hl
  refine lv_iconst (v := nI 0) hx hb dX7_isSpared_0 (by decide) ?_
  refine lv_istore_n (lv' := [(2, .int (nI 0)), (0, .ref r0), (1, .int (nI x))]) hx hb dX7_isSpared_1 rfl hl (by decide) rfl (fun ls hl => ?_)
  have lp2 : ∀ (n : Nat) (j : Nat) (ls : Array Slot), (j + n = 10) → (anyN (fun z => x.testBit z && cv (x - 2 ^ z)) j = false) → lv_has ls 3 [(2, .int (nI j)), (0, .ref r0), (1, .int (nI x))] → W p l e R s m args below meth c s.heap [] 0 0 Q (F0 m 2 ls []) := by
    intro n
    induction n with
    | zero =>
      intro j ls hn ha hl
      refine lv_iload_n hx hb dX7_isSpared_2 rfl (lv_at hl 0 rfl) ?_
      refine lv_bipush (v := nI 10) hx hb dX7_isSpared_3 (by decide) ?_
      refine x_cge (a := j) (b := 10) (tgt := 37) hx hb (by first | assumption | omega) (by decide) dX7_isSpared_5 (by decide) (fun c5 => ?_) (fun c5 => (by omega))
      refine lv_iconst (v := nI 0) hx hb dX7_isSpared_37 (by decide) ?_
      rw [hQ]
      exact W.zret (v := nI 0) hx hb hr (rfl) (fun t ht hW => ⟨_, rfl, b_0 (by rw [← show j = 10 by omega, ha]), ht⟩) (fun _ h => by cases h) dX7_isSpared_38
    | succ n ih2 =>
      intro j ls hn ha hl
      refine lv_iload_n hx hb dX7_isSpared_2 rfl (lv_at hl 0 rfl) ?_
      refine lv_bipush (v := nI 10) hx hb dX7_isSpared_3 (by decide) ?_
      refine x_cge (a := j) (b := 10) (tgt := 37) hx hb (by first | assumption | omega) (by decide) dX7_isSpared_5 (by decide) (fun c5 => (by omega)) (fun c5 => ?_)
      refine lv_iload_n hx hb dX7_isSpared_8 rfl (lv_at hl 2 rfl) ?_
      refine lv_iload_n hx hb dX7_isSpared_9 rfl (lv_at hl 0 rfl) ?_
      refine vp_callSi (va_Run.run (va_runS (As := [.int (nI x), .int (nI j)]) (rest := []) ⟨hx, hb, hml, hown, hts⟩ (mt_X7_isIn l D cI cJ cZ x j (by first | assumption | omega) (by first | assumption | omega)) (va_cwS 2 hts (gS km_RX7_86 ks_yX7_isIn kn_RX7 kc_yX7_isIn) rfl rfl rfl (by decide +kernel) (by rw [hR]; exact ⟨Nat.le_of_ble_eq_true rfl, Nat.le_of_ble_eq_true rfl⟩)) (cP_S hK (fun k q h => by simp at h)) rfl rfl hl.1 rfl (lv_room (Nat.le_of_ble_eq_true rfl)) dX7_isSpared_10 ⟨Nat.zero_le _, Nat.zero_le _⟩)) (fun r_ hr_ => ?_)
      subst hr_
      refine x_beq (tgt := 31) hx hb dX7_isSpared_13 (by decide) (fun c13 => ?_) (fun c13 => ?_)
      · refine lv_iinc (v := nI (j + 1)) (lv' := [(2, .int (nI (j + 1))), (0, .ref r0), (1, .int (nI x))]) hx hb dX7_isSpared_31 hl (k := 0) rfl (x_inc1 _) (by decide) rfl (fun ls hl => ?_)
        refine lv_goto (tgt := 2) hx hb dX7_isSpared_34 (by decide) ?_
        exact ih2 (j + 1) ls (by omega) (by first | exact anyN_next ha (by rw [c13]; rfl) | exact anyN_next ha (by rw [c13, c26]; rfl)) (lv_sub hl [0, 1, 2] rfl)
      · refine lv_aload_n hx hb dX7_isSpared_16 rfl (lv_at hl 1 rfl) ?_
        refine va_get (D := D) (ci := 7) (v := .ref r9) (C := RX7) (T := TX7) (N := 17) hx hb hts inA7 hown hK.1 hP 0 rfl rfl 11 (by decide) (hts _ kf_RX7_35) (fun _ h9 => h9) rfl dX7_isSpared_17 ?_
        refine lv_iload_n hx hb dX7_isSpared_20 rfl (lv_at hl 2 rfl) ?_
        refine lv_iconst (v := nI 1) hx hb dX7_isSpared_21 (by decide) ?_
        refine lv_iload_n hx hb dX7_isSpared_22 rfl (lv_at hl 0 rfl) ?_
        refine x_ishl (z := nI (2 ^ j)) hx hb dX7_isSpared_23 (z_shl1 (by first | assumption | omega)) ?_
        refine x_isub (z := nI (x - (2 ^ j))) hx hb dX7_isSpared_24 (pk_sub (bit_le c13)) ?_
        refine x_zldB hx hb hK.1 hP 9 2 rfl rfl (Nat.lt_of_le_of_lt (Nat.sub_le _ _) hx0) (by decide) dX7_isSpared_25 ?_
        refine x_beq (tgt := 31) hx hb dX7_isSpared_26 (by decide) (fun c26 => ?_) (fun c26 => ?_)
        · refine lv_iinc (v := nI (j + 1)) (lv' := [(2, .int (nI (j + 1))), (0, .ref r0), (1, .int (nI x))]) hx hb dX7_isSpared_31 hl (k := 0) rfl (x_inc1 _) (by decide) rfl (fun ls hl => ?_)
          refine lv_goto (tgt := 2) hx hb dX7_isSpared_34 (by decide) ?_
          exact ih2 (j + 1) ls (by omega) (by first | exact anyN_next ha (by rw [c13]; rfl) | exact anyN_next ha (by rw [c13, c26]; rfl)) (lv_sub hl [0, 1, 2] rfl)
        · refine lv_iconst (v := nI 1) hx hb dX7_isSpared_29 (by decide) ?_
          rw [hQ]
          exact W.zret (v := nI 1) hx hb hr (rfl) (fun t ht hW => ⟨_, rfl, b_1 (anyN_true (show j < 10 by omega) (by rw [c13, c26]; rfl)), ht⟩) (fun _ h => by cases h) dX7_isSpared_30
  exact lp2 (10) 0 ls (by omega) (rfl) (lv_sub hl [0, 1, 2] rfl)

set_option maxHeartbeats 4000000 in
set_option maxRecDepth 100000 in
theorem mt_X7_isAhead (l : Launch) (D : va_G) (cI cJ cZ : ClassId) (r0 : Nat) (r1 : Nat) (r2 : Nat) (r3 : Nat) (r4 : Nat) (r5 : Nat) (r6 : Nat) (r7 : Nat) (r8 : Nat) (r9 : Nat) (r10 : Nat) (r11 : Nat) (r12 : Nat) (r13 : Nat) (K : Kn) (S : Nat → Nat) (q : Nat) (hf : Nat → Nat) (hs : Nat → Nat) (mn : Nat) (ex : Nat → Nat) (we : Nat → Nat) (kn : Bool) (cv : Nat → Bool) (z : Nat) (ya : Nat → Nat) (yb : Nat → Nat) (yc : Nat → Nat) (ks : Nat → Nat) (x : Nat) (w : Nat) (kk : Nat) (hx0 : x < 1024) (hw : w = wt K x) (hk : kk < 1024) (hwk : we kk = wt K (ex kk)) (he : ex kk < 1024) (hKO : KO K) : Met l yX7_isAhead (aW yX7_isAhead cX7_isAhead 6 (some .boolean)) { frames := 1, cells := 0, slots := 0, locals := 22 } (cP D cI cJ cZ [.ref r0, .int (nI x), .long (lN w), .int (nI kk)] [(r0, .inr (7, [.ref r1, .ref r2, .ref r3, .ref r4, .int (nI q), .ref r5, .ref r6, .int (nI mn), .ref r7, .ref r8, .int (nI kn.toNat), .ref r9, .int (nI z), .ref r10, .ref r11, .ref r12, .ref r13])), (r1, .inl (cI, 10, .inl (fN K.1))), (r2, .inl (cI, 10, .inl (fN K.2.1))), (r3, .inl (cI, 120, .inl (fN (lkA K)))), (r4, .inl (cI, 12, .inl (fN S))), (r5, .inl (cI, 20, .inl (fN hf))), (r6, .inl (cI, 20, .inl (fN hs))), (r7, .inl (cI, 1024, .inl (fN ex))), (r8, .inl (cJ, 1024, .inr (.inl (fL we)))), (r9, .inl (cZ, 1024, .inl (fB cv))), (r10, .inl (cI, 12, .inl (fN ya))), (r11, .inl (cI, 12, .inl (fN yb))), (r12, .inl (cI, 12, .inl (fN yc))), (r13, .inl (cI, 12, .inl (fN ks)))]) (vp_Si (fun r => r = nI (decide (key K (ex kk) < key K x)).toNat)) 0 0 (fun _ => False) := by
  refine Met.ofW (cc := cX7_isAhead) (maxL := 6) (ret := (some .boolean)) (by decide) rfl ?_
  intro p e s m args below meth c s₁ B hml hv
  obtain ⟨hav, hP, hK⟩ := hv
  have hx := B.exec
  have hb := B.bytes
  have hr := B.returns
  have hts := aW_in (atoms_spec (ws := aW yX7_isAhead cX7_isAhead 6 (some .boolean)) B.pre)
  have hown : s.vm.findClass RX7 = some m.cls := findClass_of_methodNamed B.named
  have hlocks := B.notSynchronized
  obtain ⟨R, hR⟩ : ∃ R, R = (headSpec (aW yX7_isAhead cX7_isAhead 6 (some .boolean)) { frames := 1, cells := 0, slots := 0, locals := 22 }).room := ⟨_, rfl⟩
  rw [← hR]
  obtain ⟨Q, hQ⟩ : ∃ Q, Q = MQ below (vp_Si (fun r => r = nI (decide (key K (ex kk) < key K x)).toNat)) args s 0 0 (fun _ => False) := ⟨_, rfl⟩
  rw [← hQ]
  have hl := lv_entry [.ref r0, .int (nI x), .long (lN w), .int (nI kk)] (n := 6) (Nat.le_of_ble_eq_true rfl)
  have hent := lg_entry_eq m [.ref r0, .int (nI x), .long (lN w), .int (nI kk)] 6
  rw [← hav] at hent
  rw [hent]
  generalize (lg_sl [.ref r0, .int (nI x), .long (lN w), .int (nI kk)] ++ List.replicate (6 - (lg_sl [.ref r0, .int (nI x), .long (lN w), .int (nI kk)]).length) Slot.unset).toArray = ls at hl ⊢
  have hl : lv_has ls 6 [(0, .ref r0), (1, .int (nI x)), (2, .long (lN w)), (4, .int (nI kk))] := hl
  have hw1 := wt_le hKO x
  have hw2 := wt_le hKO (ex kk)
  have hp1 := pop_le x
  have hp2 := pop_le (ex kk)
  refine lv_lload_n hx hb dX7_isAhead_0 rfl (lv_at hl 2 rfl) ?_
  refine lv_aload_n hx hb dX7_isAhead_1 rfl (lv_at hl 0 rfl) ?_
  refine va_get (D := D) (ci := 7) (v := .ref r8) (C := RX7) (T := TX7) (N := 17) hx hb hts inA7 hown hK.1 hP 0 rfl rfl 9 (by decide) (hts _ kf_RX7_31) (fun _ h9 => h9) rfl dX7_isAhead_2 ?_
  refine lv_iload hx hb dX7_isAhead_5 (lv_at hl 3 rfl) ?_
  refine x_lldL hx hb hK.1 hP 8 1 rfl rfl (by first | assumption | omega) (by decide) dX7_isAhead_7 ?_
  refine x_leq (tgt := 30) hx hb (by first | assumption | omega) (by first | assumption | omega) dX7_isAhead_8 dX7_isAhead_9 (by decide) (fun c8 => ?_) (fun c8 => ?_)
  · refine lv_iload_n hx hb dX7_isAhead_30 rfl (lv_at hl 1 rfl) ?_
    refine vp_callSi (va_Run.run (va_runS (As := [.int (nI x)]) (rest := []) ⟨hx, hb, hml, hown, hts⟩ (mt_X7_size l D cI cJ cZ x (by omega)) (va_cwS 1 hts (gS km_RX7_96 ks_yX7_size kn_RX7 kc_yX7_size) rfl rfl rfl (by decide +kernel) (by rw [hR]; exact ⟨Nat.le_of_ble_eq_true rfl, Nat.le_of_ble_eq_true rfl⟩)) (cP_S hK (fun k q h => by simp at h)) rfl rfl hl.1 rfl (lv_room (Nat.le_of_ble_eq_true rfl)) dX7_isAhead_31 ⟨Nat.zero_le _, Nat.zero_le _⟩)) (fun r_ hr_ => ?_)
    subst hr_
    refine lv_aload_n hx hb dX7_isAhead_34 rfl (lv_at hl 0 rfl) ?_
    refine va_get (D := D) (ci := 7) (v := .ref r7) (C := RX7) (T := TX7) (N := 17) hx hb hts inA7 hown hK.1 hP 0 rfl rfl 8 (by decide) (hts _ kf_RX7_28) (fun _ h9 => h9) rfl dX7_isAhead_35 ?_
    refine lv_iload hx hb dX7_isAhead_38 (lv_at hl 3 rfl) ?_
    refine x_ildN hx hb hK.1 hP 7 0 rfl rfl (by first | assumption | omega) (by decide) dX7_isAhead_40 ?_
    refine vp_callSi (va_Run.run (va_runS (As := [.int (nI (ex kk))]) (rest := [.int (nI (pop x))]) ⟨hx, hb, hml, hown, hts⟩ (mt_X7_size l D cI cJ cZ (ex kk) (by omega)) (va_cwS 1 hts (gS km_RX7_96 ks_yX7_size kn_RX7 kc_yX7_size) rfl rfl rfl (by decide +kernel) (by rw [hR]; exact ⟨Nat.le_of_ble_eq_true rfl, Nat.le_of_ble_eq_true rfl⟩)) (cP_S hK (fun k q h => by simp at h)) rfl rfl hl.1 rfl (lv_room (Nat.le_of_ble_eq_true rfl)) dX7_isAhead_41 ⟨Nat.zero_le _, Nat.zero_le _⟩)) (fun r_ hr_ => ?_)
    subst hr_
    refine x_isub (z := nI (pop x) - nI (pop (ex kk))) hx hb dX7_isAhead_44 (rfl) ?_
    refine lv_istore (lv' := [(5, .int (nI (pop x) - nI (pop (ex kk)))), (0, .ref r0), (1, .int (nI x)), (2, .long (lN w)), (4, .int (nI kk))]) hx hb dX7_isAhead_45 hl (by decide) rfl (fun ls hl => ?_)
    refine lv_iload hx hb dX7_isAhead_47 (lv_at hl 0 rfl) ?_
    refine lv_if_eq (tgt := 65) hx hb dX7_isAhead_49 (by decide) (fun c49 => ?_) (fun c49 => ?_)
    · refine lv_iload_n hx hb dX7_isAhead_65 rfl (lv_at hl 2 rfl) ?_
      refine lv_aload_n hx hb dX7_isAhead_66 rfl (lv_at hl 1 rfl) ?_
      refine va_get (D := D) (ci := 7) (v := .ref r7) (C := RX7) (T := TX7) (N := 17) hx hb hts inA7 hown hK.1 hP 0 rfl rfl 8 (by decide) (hts _ kf_RX7_28) (fun _ h9 => h9) rfl dX7_isAhead_67 ?_
      refine lv_iload hx hb dX7_isAhead_70 (lv_at hl 4 rfl) ?_
      refine x_ildN hx hb hK.1 hP 7 0 rfl rfl (by first | assumption | omega) (by decide) dX7_isAhead_72 ?_
      refine x_cge (a := x) (b := ex kk) (tgt := 80) hx hb (by first | assumption | omega) (by first | assumption | omega) dX7_isAhead_73 (by decide) (fun c73 => ?_) (fun c73 => ?_)
      · refine lv_iconst (v := nI 0) hx hb dX7_isAhead_80 (by decide) ?_
        rw [hQ]
        exact W.zret (v := nI 0) hx hb hr (rfl) (fun t ht hW => ⟨_, rfl, by rw [hw, hwk] at c8; first | (rw [sub_z hp1 hp2] at c49; rw [sub_ge hp1 hp2] at c54; first | exact dec_t ((ahead_p c8 c49 hx0 he).mpr (by omega)) | exact dec_f (fun q => absurd ((ahead_p c8 c49 hx0 he).mp q) (by omega))) | (rw [sub_z hp1 hp2] at c49; first | exact dec_t ((ahead_s c8 c49 hx0 he).mpr (by omega)) | exact dec_f (fun q => absurd ((ahead_s c8 c49 hx0 he).mp q) (by omega))), ht⟩) (fun _ h => by cases h) dX7_isAhead_81
      · refine lv_iconst (v := nI 1) hx hb dX7_isAhead_76 (by decide) ?_
        refine lv_goto (tgt := 81) hx hb dX7_isAhead_77 (by decide) ?_
        rw [hQ]
        exact W.zret (v := nI 1) hx hb hr (rfl) (fun t ht hW => ⟨_, rfl, by rw [hw, hwk] at c8; first | (rw [sub_z hp1 hp2] at c49; rw [sub_ge hp1 hp2] at c54; first | exact dec_t ((ahead_p c8 c49 hx0 he).mpr (by omega)) | exact dec_f (fun q => absurd ((ahead_p c8 c49 hx0 he).mp q) (by omega))) | (rw [sub_z hp1 hp2] at c49; first | exact dec_t ((ahead_s c8 c49 hx0 he).mpr (by omega)) | exact dec_f (fun q => absurd ((ahead_s c8 c49 hx0 he).mp q) (by omega))), ht⟩) (fun _ h => by cases h) dX7_isAhead_81
    · refine lv_iload hx hb dX7_isAhead_52 (lv_at hl 0 rfl) ?_
      refine lv_if_ge (tgt := 61) hx hb dX7_isAhead_54 (by decide) (fun c54 => ?_) (fun c54 => ?_)
      · refine lv_iconst (v := nI 0) hx hb dX7_isAhead_61 (by decide) ?_
        refine lv_goto (tgt := 81) hx hb dX7_isAhead_62 (by decide) ?_
        rw [hQ]
        exact W.zret (v := nI 0) hx hb hr (rfl) (fun t ht hW => ⟨_, rfl, by rw [hw, hwk] at c8; first | (rw [sub_z hp1 hp2] at c49; rw [sub_ge hp1 hp2] at c54; first | exact dec_t ((ahead_p c8 c49 hx0 he).mpr (by omega)) | exact dec_f (fun q => absurd ((ahead_p c8 c49 hx0 he).mp q) (by omega))) | (rw [sub_z hp1 hp2] at c49; first | exact dec_t ((ahead_s c8 c49 hx0 he).mpr (by omega)) | exact dec_f (fun q => absurd ((ahead_s c8 c49 hx0 he).mp q) (by omega))), ht⟩) (fun _ h => by cases h) dX7_isAhead_81
      · refine lv_iconst (v := nI 1) hx hb dX7_isAhead_57 (by decide) ?_
        refine lv_goto (tgt := 81) hx hb dX7_isAhead_58 (by decide) ?_
        rw [hQ]
        exact W.zret (v := nI 1) hx hb hr (rfl) (fun t ht hW => ⟨_, rfl, by rw [hw, hwk] at c8; first | (rw [sub_z hp1 hp2] at c49; rw [sub_ge hp1 hp2] at c54; first | exact dec_t ((ahead_p c8 c49 hx0 he).mpr (by omega)) | exact dec_f (fun q => absurd ((ahead_p c8 c49 hx0 he).mp q) (by omega))) | (rw [sub_z hp1 hp2] at c49; first | exact dec_t ((ahead_s c8 c49 hx0 he).mpr (by omega)) | exact dec_f (fun q => absurd ((ahead_s c8 c49 hx0 he).mp q) (by omega))), ht⟩) (fun _ h => by cases h) dX7_isAhead_81
  · refine lv_lload_n hx hb dX7_isAhead_12 rfl (lv_at hl 2 rfl) ?_
    refine lv_aload_n hx hb dX7_isAhead_13 rfl (lv_at hl 0 rfl) ?_
    refine va_get (D := D) (ci := 7) (v := .ref r8) (C := RX7) (T := TX7) (N := 17) hx hb hts inA7 hown hK.1 hP 0 rfl rfl 9 (by decide) (hts _ kf_RX7_31) (fun _ h9 => h9) rfl dX7_isAhead_14 ?_
    refine lv_iload hx hb dX7_isAhead_17 (lv_at hl 3 rfl) ?_
    refine x_lldL hx hb hK.1 hP 8 1 rfl rfl (by first | assumption | omega) (by decide) dX7_isAhead_19 ?_
    refine x_lle (tgt := 28) hx hb (by first | assumption | omega) (by first | assumption | omega) dX7_isAhead_20 dX7_isAhead_21 (by decide) (fun c20 => ?_) (fun c20 => ?_)
    · refine lv_iconst (v := nI 0) hx hb dX7_isAhead_28 (by decide) ?_
      rw [hQ]
      exact W.zret (v := nI 0) hx hb hr (rfl) (fun t ht hW => ⟨_, rfl, by rw [hw, hwk] at c8 c20; first | exact dec_t ((ahead_w c8 hx0 he).mpr (by omega)) | exact dec_f (fun q => absurd ((ahead_w c8 hx0 he).mp q) (by omega)), ht⟩) (fun _ h => by cases h) dX7_isAhead_29
    · refine lv_iconst (v := nI 1) hx hb dX7_isAhead_24 (by decide) ?_
      refine lv_goto (tgt := 29) hx hb dX7_isAhead_25 (by decide) ?_
      rw [hQ]
      exact W.zret (v := nI 1) hx hb hr (rfl) (fun t ht hW => ⟨_, rfl, by rw [hw, hwk] at c8 c20; first | exact dec_t ((ahead_w c8 hx0 he).mpr (by omega)) | exact dec_f (fun q => absurd ((ahead_w c8 hx0 he).mp q) (by omega)), ht⟩) (fun _ h => by cases h) dX7_isAhead_29

set_option maxHeartbeats 4000000 in
set_option maxRecDepth 100000 in
theorem mt_X7_manyThat (l : Launch) (D : va_G) (cI cJ cZ : ClassId) (r0 : Nat) (r1 : Nat) (r2 : Nat) (r3 : Nat) (r4 : Nat) (r5 : Nat) (r6 : Nat) (r7 : Nat) (r8 : Nat) (r9 : Nat) (r10 : Nat) (r11 : Nat) (r12 : Nat) (r13 : Nat) (K : Kn) (S : Nat → Nat) (q : Nat) (hf : Nat → Nat) (hs : Nat → Nat) (mn : Nat) (ex : Nat → Nat) (we : Nat → Nat) (kn : Bool) (cv : Nat → Bool) (z : Nat) (ya : Nat → Nat) (yb : Nat → Nat) (yc : Nat → Nat) (ks : Nat → Nat) (v : Nat) (hv : v ≤ 2) (hS2 : ∀ f, S f ≤ 2) : Met l yX7_manyThat (aW yX7_manyThat cX7_manyThat 4 (some .int)) { frames := 0, cells := 0, slots := 0, locals := 0 } (cP D cI cJ cZ [.ref r0, .int (nI v)] [(r0, .inr (7, [.ref r1, .ref r2, .ref r3, .ref r4, .int (nI q), .ref r5, .ref r6, .int (nI mn), .ref r7, .ref r8, .int (nI kn.toNat), .ref r9, .int (nI z), .ref r10, .ref r11, .ref r12, .ref r13])), (r1, .inl (cI, 10, .inl (fN K.1))), (r2, .inl (cI, 10, .inl (fN K.2.1))), (r3, .inl (cI, 120, .inl (fN (lkA K)))), (r4, .inl (cI, 12, .inl (fN S))), (r5, .inl (cI, 20, .inl (fN hf))), (r6, .inl (cI, 20, .inl (fN hs))), (r7, .inl (cI, 1024, .inl (fN ex))), (r8, .inl (cJ, 1024, .inr (.inl (fL we)))), (r9, .inl (cZ, 1024, .inl (fB cv))), (r10, .inl (cI, 12, .inl (fN ya))), (r11, .inl (cI, 12, .inl (fN yb))), (r12, .inl (cI, 12, .inl (fN yc))), (r13, .inl (cI, 12, .inl (fN ks)))]) (vp_Si (fun r => r = nI (ct (fun f => S f == v) 12))) 0 0 (fun _ => False) := by
  refine Met.ofW (cc := cX7_manyThat) (maxL := 4) (ret := (some .int)) (by decide) rfl ?_
  intro p e s m args below meth c s₁ B hml hv
  obtain ⟨hav, hP, hK⟩ := hv
  have hx := B.exec
  have hb := B.bytes
  have hr := B.returns
  have hts := aW_in (atoms_spec (ws := aW yX7_manyThat cX7_manyThat 4 (some .int)) B.pre)
  have hown : s.vm.findClass RX7 = some m.cls := findClass_of_methodNamed B.named
  have hlocks := B.notSynchronized
  obtain ⟨R, hR⟩ : ∃ R, R = (headSpec (aW yX7_manyThat cX7_manyThat 4 (some .int)) { frames := 0, cells := 0, slots := 0, locals := 0 }).room := ⟨_, rfl⟩
  rw [← hR]
  obtain ⟨Q, hQ⟩ : ∃ Q, Q = MQ below (vp_Si (fun r => r = nI (ct (fun f => S f == v) 12))) args s 0 0 (fun _ => False) := ⟨_, rfl⟩
  rw [← hQ]
  have hl := lv_entry [.ref r0, .int (nI v)] (n := 4) (Nat.le_of_ble_eq_true rfl)
  have hent := lg_entry_eq m [.ref r0, .int (nI v)] 4
  rw [← hav] at hent
  rw [hent]
  generalize (lg_sl [.ref r0, .int (nI v)] ++ List.replicate (4 - (lg_sl [.ref r0, .int (nI v)]).length) Slot.unset).toArray = ls at hl ⊢
  have hl : lv_has ls 4 [(0, .ref r0), (1, .int (nI v))] := hl
  refine lv_iconst (v := nI 0) hx hb dX7_manyThat_0 (by decide) ?_
  refine lv_istore_n (lv' := [(2, .int (nI 0)), (0, .ref r0), (1, .int (nI v))]) hx hb dX7_manyThat_1 rfl hl (by decide) rfl (fun ls hl => ?_)
  refine lv_iconst (v := nI 0) hx hb dX7_manyThat_2 (by decide) ?_
  refine lv_istore_n (lv' := [(3, .int (nI 0)), (2, .int (nI 0)), (0, .ref r0), (1, .int (nI v))]) hx hb dX7_manyThat_3 rfl hl (by decide) rfl (fun ls hl => ?_)
  have lp4 : ∀ (n : Nat) (j : Nat) (a : Nat) (ls : Array Slot), (j + n = 12) → (a = ct (fun f => S f == v) j) → lv_has ls 4 [(3, .int (nI j)), (2, .int (nI a)), (0, .ref r0), (1, .int (nI v))] → W p l e R s m args below meth c s.heap [] 0 0 Q (F0 m 4 ls []) := by
    intro n
    induction n with
    | zero =>
      intro j a ls hn ha hl
      refine lv_iload_n hx hb dX7_manyThat_4 rfl (lv_at hl 0 rfl) ?_
      refine lv_bipush (v := nI 12) hx hb dX7_manyThat_5 (by decide) ?_
      refine x_cge (a := j) (b := 12) (tgt := 34) hx hb (by first | assumption | omega) (by decide) dX7_manyThat_7 (by decide) (fun c7 => ?_) (fun c7 => (by omega))
      refine lv_iload_n hx hb dX7_manyThat_34 rfl (lv_at hl 1 rfl) ?_
      rw [hQ]
      exact W.iret (v := nI a) hx hb hr (fun t ht hW => ⟨_, rfl, by rw [ha, show j = 12 by omega], ht⟩) (fun _ h => by cases h) dX7_manyThat_35
    | succ n ih4 =>
      intro j a ls hn ha hl
      refine lv_iload_n hx hb dX7_manyThat_4 rfl (lv_at hl 0 rfl) ?_
      refine lv_bipush (v := nI 12) hx hb dX7_manyThat_5 (by decide) ?_
      refine x_cge (a := j) (b := 12) (tgt := 34) hx hb (by first | assumption | omega) (by decide) dX7_manyThat_7 (by decide) (fun c7 => (by omega)) (fun c7 => ?_)
      refine lv_iload_n hx hb dX7_manyThat_10 rfl (lv_at hl 1 rfl) ?_
      refine lv_aload_n hx hb dX7_manyThat_11 rfl (lv_at hl 2 rfl) ?_
      refine va_get (D := D) (ci := 7) (v := .ref r4) (C := RX7) (T := TX7) (N := 17) hx hb hts inA7 hown hK.1 hP 0 rfl rfl 3 (by decide) (hts _ kf_RX7_19) (fun _ h9 => h9) rfl dX7_manyThat_12 ?_
      refine lv_iload_n hx hb dX7_manyThat_15 rfl (lv_at hl 0 rfl) ?_
      refine x_ildN hx hb hK.1 hP 4 0 rfl rfl (by first | assumption | omega) (by decide) dX7_manyThat_16 ?_
      refine lv_iload_n hx hb dX7_manyThat_17 rfl (lv_at hl 3 rfl) ?_
      have j26 : W p l e R s m args below meth c s.heap [] 0 0 Q (F0 m 26 ls [.int (nI (S j == v).toNat), .int (nI a)]) := by
        refine x_iadd (z := nI (a + ((S j == v).toNat))) hx hb dX7_manyThat_26 (nI_add _ _) ?_
        refine lv_istore_n (lv' := [(2, .int (nI (a + ((S j == v).toNat)))), (3, .int (nI j)), (0, .ref r0), (1, .int (nI v))]) hx hb dX7_manyThat_27 rfl hl (by decide) rfl (fun ls hl => ?_)
        refine lv_iinc (v := nI (j + 1)) (lv' := [(3, .int (nI (j + 1))), (2, .int (nI (a + ((S j == v).toNat)))), (0, .ref r0), (1, .int (nI v))]) hx hb dX7_manyThat_28 hl (k := 1) rfl (x_inc1 _) (by decide) rfl (fun ls hl => ?_)
        refine lv_goto (tgt := 4) hx hb dX7_manyThat_31 (by decide) ?_
        exact ih4 (j + 1) (a + ((S j == v).toNat)) ls (by omega) (by rw [ha]; rfl) (lv_sub hl [0, 1, 2, 3] rfl)
      refine x_cne (a := S j) (b := v) (tgt := 25) hx hb (by have := hS2 j; omega) (by first | assumption | omega) dX7_manyThat_18 (by decide) (fun c18 => ?_) (fun c18 => ?_)
      · refine lv_iconst (v := nI 0) hx hb dX7_manyThat_25 (by decide) ?_
        refine x_top (show nI 0 = nI (S j == v).toNat from by first | exact b_1 (by simpa using c18) | exact b_0 (by simpa using c18)) ?_
        exact j26
      · refine lv_iconst (v := nI 1) hx hb dX7_manyThat_21 (by decide) ?_
        refine lv_goto (tgt := 26) hx hb dX7_manyThat_22 (by decide) ?_
        refine x_top (show nI 1 = nI (S j == v).toNat from by first | exact b_1 (by simpa using c18) | exact b_0 (by simpa using c18)) ?_
        exact j26
  exact lp4 (12) 0 0 ls (by omega) (rfl) (lv_sub hl [0, 1, 2, 3] rfl)

set_option maxHeartbeats 4000000 in
set_option maxRecDepth 100000 in
theorem mt_X7_allWeights (l : Launch) (D : va_G) (cI cJ cZ : ClassId) (r0 : Nat) (r1 : Nat) (r2 : Nat) (r3 : Nat) (r4 : Nat) (r5 : Nat) (r6 : Nat) (r7 : Nat) (r8 : Nat) (r9 : Nat) (r10 : Nat) (r11 : Nat) (r12 : Nat) (r13 : Nat) (K : Kn) (S : Nat → Nat) (q : Nat) (hf : Nat → Nat) (hs : Nat → Nat) (ex : Nat → Nat) (we : Nat → Nat) (cv : Nat → Bool) (z : Nat) (ya : Nat → Nat) (yb : Nat → Nat) (yc : Nat → Nat) (ks : Nat → Nat) (hM : MKn K S ex we) : Met l yX7_allWeights (aW yX7_allWeights cX7_allWeights 4 (some .long)) { frames := 0, cells := 0, slots := 0, locals := 0 } (cP D cI cJ cZ [.ref r0] [(r0, .inr (7, [.ref r1, .ref r2, .ref r3, .ref r4, .int (nI q), .ref r5, .ref r6, .int (nI (nE K S)), .ref r7, .ref r8, .int (nI true.toNat), .ref r9, .int (nI z), .ref r10, .ref r11, .ref r12, .ref r13])), (r1, .inl (cI, 10, .inl (fN K.1))), (r2, .inl (cI, 10, .inl (fN K.2.1))), (r3, .inl (cI, 120, .inl (fN (lkA K)))), (r4, .inl (cI, 12, .inl (fN S))), (r5, .inl (cI, 20, .inl (fN hf))), (r6, .inl (cI, 20, .inl (fN hs))), (r7, .inl (cI, 1024, .inl (fN ex))), (r8, .inl (cJ, 1024, .inr (.inl (fL we)))), (r9, .inl (cZ, 1024, .inl (fB cv))), (r10, .inl (cI, 12, .inl (fN ya))), (r11, .inl (cI, 12, .inl (fN yb))), (r12, .inl (cI, 12, .inl (fN yc))), (r13, .inl (cI, 12, .inl (fN ks)))]) (vp_Sl (fun r => r = lN (tot K S))) 0 0 (fun _ => False) := by
  refine Met.ofW (cc := cX7_allWeights) (maxL := 4) (ret := (some .long)) (by decide) rfl ?_
  intro p e s m args below meth c s₁ B hml hv
  obtain ⟨hav, hP, hK⟩ := hv
  have hx := B.exec
  have hb := B.bytes
  have hr := B.returns
  have hts := aW_in (atoms_spec (ws := aW yX7_allWeights cX7_allWeights 4 (some .long)) B.pre)
  have hown : s.vm.findClass RX7 = some m.cls := findClass_of_methodNamed B.named
  have hlocks := B.notSynchronized
  obtain ⟨R, hR⟩ : ∃ R, R = (headSpec (aW yX7_allWeights cX7_allWeights 4 (some .long)) { frames := 0, cells := 0, slots := 0, locals := 0 }).room := ⟨_, rfl⟩
  rw [← hR]
  obtain ⟨Q, hQ⟩ : ∃ Q, Q = MQ below (vp_Sl (fun r => r = lN (tot K S))) args s 0 0 (fun _ => False) := ⟨_, rfl⟩
  rw [← hQ]
  have hl := lv_entry [.ref r0] (n := 4) (Nat.le_of_ble_eq_true rfl)
  have hent := lg_entry_eq m [.ref r0] 4
  rw [← hav] at hent
  rw [hent]
  generalize (lg_sl [.ref r0] ++ List.replicate (4 - (lg_sl [.ref r0]).length) Slot.unset).toArray = ls at hl ⊢
  have hl : lv_has ls 4 [(0, .ref r0)] := hl
  have hnE := nE_le K S
  refine lv_lconst (v := lN 0) hx hb dX7_allWeights_0 rfl ?_
  refine lv_lstore_n (lv' := [(1, .long (lN 0)), (0, .ref r0)]) hx hb dX7_allWeights_1 rfl hl (by decide) rfl (fun ls hl => ?_)
  refine lv_iconst (v := nI 0) hx hb dX7_allWeights_2 (by decide) ?_
  refine lv_istore_n (lv' := [(3, .int (nI 0)), (1, .long (lN 0)), (0, .ref r0)]) hx hb dX7_allWeights_3 rfl hl (by decide) rfl (fun ls hl => ?_)
  have lp4 : ∀ (n : Nat) (j : Nat) (a : Nat) (ls : Array Slot), (j + n = nE K S) → (a = sm we j) → lv_has ls 4 [(3, .int (nI j)), (1, .long (lN a)), (0, .ref r0)] → W p l e R s m args below meth c s.heap [] 0 0 Q (F0 m 4 ls []) := by
    intro n
    induction n with
    | zero =>
      intro j a ls hn ha hl
      refine lv_iload_n hx hb dX7_allWeights_4 rfl (lv_at hl 0 rfl) ?_
      refine lv_aload_n hx hb dX7_allWeights_5 rfl (lv_at hl 2 rfl) ?_
      refine va_get (D := D) (ci := 7) (v := .int (nI (nE K S))) (C := RX7) (T := TX7) (N := 17) hx hb hts inA7 hown hK.1 hP 0 rfl rfl 7 (by decide) (hts _ kf_RX7_99) (fun _ h9 => h9) rfl dX7_allWeights_6 ?_
      refine x_cge (a := j) (b := nE K S) (tgt := 27) hx hb (by first | assumption | omega) (by first | assumption | omega) dX7_allWeights_9 (by decide) (fun c9 => ?_) (fun c9 => (by omega))
      refine lv_lload_n hx hb dX7_allWeights_27 rfl (lv_at hl 1 rfl) ?_
      rw [hQ]
      exact W.lret (v := lN a) hx hb hr (fun t ht hW => ⟨_, rfl, by rw [ha, show j = nE K S by omega, MK_tot hM], ht⟩) (fun _ h => by cases h) dX7_allWeights_28
    | succ n ih4 =>
      intro j a ls hn ha hl
      refine lv_iload_n hx hb dX7_allWeights_4 rfl (lv_at hl 0 rfl) ?_
      refine lv_aload_n hx hb dX7_allWeights_5 rfl (lv_at hl 2 rfl) ?_
      refine va_get (D := D) (ci := 7) (v := .int (nI (nE K S))) (C := RX7) (T := TX7) (N := 17) hx hb hts inA7 hown hK.1 hP 0 rfl rfl 7 (by decide) (hts _ kf_RX7_99) (fun _ h9 => h9) rfl dX7_allWeights_6 ?_
      refine x_cge (a := j) (b := nE K S) (tgt := 27) hx hb (by first | assumption | omega) (by first | assumption | omega) dX7_allWeights_9 (by decide) (fun c9 => (by omega)) (fun c9 => ?_)
      refine lv_lload_n hx hb dX7_allWeights_12 rfl (lv_at hl 1 rfl) ?_
      refine lv_aload_n hx hb dX7_allWeights_13 rfl (lv_at hl 2 rfl) ?_
      refine va_get (D := D) (ci := 7) (v := .ref r8) (C := RX7) (T := TX7) (N := 17) hx hb hts inA7 hown hK.1 hP 0 rfl rfl 9 (by decide) (hts _ kf_RX7_31) (fun _ h9 => h9) rfl dX7_allWeights_14 ?_
      refine lv_iload_n hx hb dX7_allWeights_17 rfl (lv_at hl 0 rfl) ?_
      refine x_lldL hx hb hK.1 hP 8 1 rfl rfl (by first | assumption | omega) (by decide) dX7_allWeights_18 ?_
      refine x_ladd (z := lN (a + (we j))) hx hb dX7_allWeights_19 (lN_add _ _) ?_
      refine lv_lstore_n (lv' := [(1, .long (lN (a + (we j)))), (3, .int (nI j)), (0, .ref r0)]) hx hb dX7_allWeights_20 rfl hl (by decide) rfl (fun ls hl => ?_)
      refine lv_iinc (v := nI (j + 1)) (lv' := [(3, .int (nI (j + 1))), (1, .long (lN (a + (we j)))), (0, .ref r0)]) hx hb dX7_allWeights_21 hl (k := 1) rfl (x_inc1 _) (by decide) rfl (fun ls hl => ?_)
      refine lv_goto (tgt := 4) hx hb dX7_allWeights_24 (by decide) ?_
      exact ih4 (j + 1) (a + (we j)) ls (by omega) (by rw [ha]; rfl) (lv_sub hl [0, 1, 2] rfl)
  exact lp4 (nE K S) 0 0 ls (by omega) (rfl) (lv_sub hl [0, 1, 2] rfl)

set_option maxHeartbeats 4000000 in
set_option maxRecDepth 100000 in
theorem mt_X7_foretold (l : Launch) (D : va_G) (cI cJ cZ : ClassId) (r0 : Nat) (r1 : Nat) (r2 : Nat) (r3 : Nat) (r4 : Nat) (r5 : Nat) (r6 : Nat) (r7 : Nat) (r8 : Nat) (r9 : Nat) (r10 : Nat) (r11 : Nat) (r12 : Nat) (r13 : Nat) (K : Kn) (S : Nat → Nat) (q : Nat) (hf : Nat → Nat) (hs : Nat → Nat) (ex : Nat → Nat) (we : Nat → Nat) (cv : Nat → Bool) (z : Nat) (ya : Nat → Nat) (yb : Nat → Nat) (yc : Nat → Nat) (ks : Nat → Nat) (kk : Nat) (fi : Nat) (hM : MKn K S ex we) (hKO : KO K) (hL2 : ∀ f c, K.2.2 f c ≤ 2) (hk : kk < nE K S) (hf0 : fi < 12) : Met l yX7_foretold (aW yX7_foretold cX7_foretold 3 (some .int)) { frames := 2, cells := 0, slots := 0, locals := 45 } (cP D cI cJ cZ [.ref r0, .int (nI kk), .int (nI fi)] [(r0, .inr (7, [.ref r1, .ref r2, .ref r3, .ref r4, .int (nI q), .ref r5, .ref r6, .int (nI (nE K S)), .ref r7, .ref r8, .int (nI true.toNat), .ref r9, .int (nI z), .ref r10, .ref r11, .ref r12, .ref r13])), (r1, .inl (cI, 10, .inl (fN K.1))), (r2, .inl (cI, 10, .inl (fN K.2.1))), (r3, .inl (cI, 120, .inl (fN (lkA K)))), (r4, .inl (cI, 12, .inl (fN S))), (r5, .inl (cI, 20, .inl (fN hf))), (r6, .inl (cI, 20, .inl (fN hs))), (r7, .inl (cI, 1024, .inl (fN ex))), (r8, .inl (cJ, 1024, .inr (.inl (fL we)))), (r9, .inl (cZ, 1024, .inl (fB cv))), (r10, .inl (cI, 12, .inl (fN ya))), (r11, .inl (cI, 12, .inl (fN yb))), (r12, .inl (cI, 12, .inl (fN yc))), (r13, .inl (cI, 12, .inl (fN ks)))]) (vp_Si (fun r => r = nI (fo3 K (ex kk) fi))) 0 0 (fun _ => False) := by
  refine Met.ofW (cc := cX7_foretold) (maxL := 3) (ret := (some .int)) (by decide) rfl ?_
  intro p e s m args below meth c s₁ B hml hv
  obtain ⟨hav, hP, hK⟩ := hv
  have hx := B.exec
  have hb := B.bytes
  have hr := B.returns
  have hts := aW_in (atoms_spec (ws := aW yX7_foretold cX7_foretold 3 (some .int)) B.pre)
  have hown : s.vm.findClass RX7 = some m.cls := findClass_of_methodNamed B.named
  have hlocks := B.notSynchronized
  obtain ⟨R, hR⟩ : ∃ R, R = (headSpec (aW yX7_foretold cX7_foretold 3 (some .int)) { frames := 2, cells := 0, slots := 0, locals := 45 }).room := ⟨_, rfl⟩
  rw [← hR]
  obtain ⟨Q, hQ⟩ : ∃ Q, Q = MQ below (vp_Si (fun r => r = nI (fo3 K (ex kk) fi))) args s 0 0 (fun _ => False) := ⟨_, rfl⟩
  rw [← hQ]
  have hl := lv_entry [.ref r0, .int (nI kk), .int (nI fi)] (n := 3) (Nat.le_of_ble_eq_true rfl)
  have hent := lg_entry_eq m [.ref r0, .int (nI kk), .int (nI fi)] 3
  rw [← hav] at hent
  rw [hent]
  generalize (lg_sl [.ref r0, .int (nI kk), .int (nI fi)] ++ List.replicate (3 - (lg_sl [.ref r0, .int (nI kk), .int (nI fi)]).length) Slot.unset).toArray = ls at hl ⊢
  have hl : lv_has ls 3 [(0, .ref r0), (1, .int (nI kk)), (2, .int (nI fi))] := hl
  have hnE := nE_le K S
  refine lv_aload_n hx hb dX7_foretold_0 rfl (lv_at hl 0 rfl) ?_
  refine lv_iload_n hx hb dX7_foretold_1 rfl (lv_at hl 2 rfl) ?_
  refine lv_aload_n hx hb dX7_foretold_2 rfl (lv_at hl 0 rfl) ?_
  refine va_get (D := D) (ci := 7) (v := .ref r7) (C := RX7) (T := TX7) (N := 17) hx hb hts inA7 hown hK.1 hP 0 rfl rfl 8 (by decide) (hts _ kf_RX7_28) (fun _ h9 => h9) rfl dX7_foretold_3 ?_
  refine lv_iload_n hx hb dX7_foretold_6 rfl (lv_at hl 1 rfl) ?_
  refine x_ildN hx hb hK.1 hP 7 0 rfl rfl (by first | assumption | omega) (by decide) dX7_foretold_7 ?_
  refine vp_callSi (va_Run.run (va_runV (As := [.int (nI fi), .int (nI (ex kk))]) (rest := []) ⟨hx, hb, hml, hown, hts⟩ (mt_X7_isMust l D cI cJ cZ r0 r1 r2 r3 r4 r5 r6 r7 r8 r9 r10 r11 r12 r13 K S q hf hs (nE K S) ex we true cv z ya yb yc ks fi (ex kk) (by first | assumption | omega) (Nat.lt_trans (hM.lt kk hk) (by decide)) (by first | assumption | omega)) (cwV 2 hts (gV km_RX7_132 ki_yX7_isMust kl_yX7_isMust kn_RX7 kc_yX7_isMust) rfl rfl rfl (by decide +kernel) (by rw [hR]; exact ⟨Nat.le_of_ble_eq_true rfl, Nat.le_of_ble_eq_true rfl⟩)) (cP_V (q0 := 0) (ci := 7) hK (hP.sub [0, 1, 2, 3, 4, 5, 6, 7, 8, 9, 10, 11, 12, 13] rfl) rfl rfl) rfl rfl hl.1 rfl (lv_room (Nat.le_of_ble_eq_true rfl)) dX7_foretold_8 ⟨Nat.zero_le _, Nat.zero_le _⟩)) (fun r_ hr_ => ?_)
  subst hr_
  refine x_beq (tgt := 18) hx hb dX7_foretold_11 (by decide) (fun c11 => ?_) (fun c11 => ?_)
  · refine lv_aload_n hx hb dX7_foretold_18 rfl (lv_at hl 0 rfl) ?_
    refine lv_iload_n hx hb dX7_foretold_19 rfl (lv_at hl 2 rfl) ?_
    refine lv_aload_n hx hb dX7_foretold_20 rfl (lv_at hl 0 rfl) ?_
    refine va_get (D := D) (ci := 7) (v := .ref r7) (C := RX7) (T := TX7) (N := 17) hx hb hts inA7 hown hK.1 hP 0 rfl rfl 8 (by decide) (hts _ kf_RX7_28) (fun _ h9 => h9) rfl dX7_foretold_21 ?_
    refine lv_iload_n hx hb dX7_foretold_24 rfl (lv_at hl 1 rfl) ?_
    refine x_ildN hx hb hK.1 hP 7 0 rfl rfl (by first | assumption | omega) (by decide) dX7_foretold_25 ?_
    refine vp_callSi (va_Run.run (va_runV (As := [.int (nI fi), .int (nI (ex kk))]) (rest := []) ⟨hx, hb, hml, hown, hts⟩ (mt_X7_isLinked l D cI cJ cZ r0 r1 r2 r3 r4 r5 r6 r7 r8 r9 r10 r11 r12 r13 K S q hf hs (nE K S) ex we true cv z ya yb yc ks fi (ex kk) (by first | assumption | omega) (Nat.lt_trans (hM.lt kk hk) (by decide)) (by first | assumption | omega)) (cwV 2 hts (gV km_RX7_93 ki_yX7_isLinked kl_yX7_isLinked kn_RX7 kc_yX7_isLinked) rfl rfl rfl (by decide +kernel) (by rw [hR]; exact ⟨Nat.le_of_ble_eq_true rfl, Nat.le_of_ble_eq_true rfl⟩)) (cP_V (q0 := 0) (ci := 7) hK (hP.sub [0, 1, 2, 3, 4, 5, 6, 7, 8, 9, 10, 11, 12, 13] rfl) rfl rfl) rfl rfl hl.1 rfl (lv_room (Nat.le_of_ble_eq_true rfl)) dX7_foretold_26 ⟨Nat.zero_le _, Nat.zero_le _⟩)) (fun r_ hr_ => ?_)
    subst hr_
    refine x_beq (tgt := 36) hx hb dX7_foretold_29 (by decide) (fun c29 => ?_) (fun c29 => ?_)
    · refine lv_iconst (v := nI 1) hx hb dX7_foretold_36 (by decide) ?_
      rw [hQ]
      exact W.iret (v := nI 1) hx hb hr (fun t ht hW => ⟨_, rfl, by unfold fo3; first | (rw [c11]; rfl) | (rw [c11, c29]; rfl), ht⟩) (fun _ h => by cases h) dX7_foretold_37
    · refine lv_iconst (v := nI 2) hx hb dX7_foretold_32 (by decide) ?_
      refine lv_goto (tgt := 37) hx hb dX7_foretold_33 (by decide) ?_
      rw [hQ]
      exact W.iret (v := nI 2) hx hb hr (fun t ht hW => ⟨_, rfl, by unfold fo3; first | (rw [c11]; rfl) | (rw [c11, c29]; rfl), ht⟩) (fun _ h => by cases h) dX7_foretold_37
  · refine lv_iconst (v := nI 0) hx hb dX7_foretold_14 (by decide) ?_
    refine lv_goto (tgt := 37) hx hb dX7_foretold_15 (by decide) ?_
    rw [hQ]
    exact W.iret (v := nI 0) hx hb hr (fun t ht hW => ⟨_, rfl, by unfold fo3; first | (rw [c11]; rfl) | (rw [c11, c29]; rfl), ht⟩) (fun _ h => by cases h) dX7_foretold_37

set_option maxHeartbeats 4000000 in
set_option maxRecDepth 100000 in
theorem mt_X7_weightThat (l : Launch) (D : va_G) (cI cJ cZ : ClassId) (r0 : Nat) (r1 : Nat) (r2 : Nat) (r3 : Nat) (r4 : Nat) (r5 : Nat) (r6 : Nat) (r7 : Nat) (r8 : Nat) (r9 : Nat) (r10 : Nat) (r11 : Nat) (r12 : Nat) (r13 : Nat) (K : Kn) (S : Nat → Nat) (q : Nat) (hf : Nat → Nat) (hs : Nat → Nat) (ex : Nat → Nat) (we : Nat → Nat) (cv : Nat → Bool) (z : Nat) (ya : Nat → Nat) (yb : Nat → Nat) (yc : Nat → Nat) (ks : Nat → Nat) (fi : Nat) (w : Nat) (hM : MKn K S ex we) (hKO : KO K) (hL2 : ∀ f c, K.2.2 f c ≤ 2) (hf0 : fi < 12) (hw : w ≤ 2) : Met l yX7_weightThat (aW yX7_weightThat cX7_weightThat 6 (some .long)) { frames := 3, cells := 0, slots := 0, locals := 67 } (cP D cI cJ cZ [.ref r0, .int (nI fi), .int (nI w)] [(r0, .inr (7, [.ref r1, .ref r2, .ref r3, .ref r4, .int (nI q), .ref r5, .ref r6, .int (nI (nE K S)), .ref r7, .ref r8, .int (nI true.toNat), .ref r9, .int (nI z), .ref r10, .ref r11, .ref r12, .ref r13])), (r1, .inl (cI, 10, .inl (fN K.1))), (r2, .inl (cI, 10, .inl (fN K.2.1))), (r3, .inl (cI, 120, .inl (fN (lkA K)))), (r4, .inl (cI, 12, .inl (fN S))), (r5, .inl (cI, 20, .inl (fN hf))), (r6, .inl (cI, 20, .inl (fN hs))), (r7, .inl (cI, 1024, .inl (fN ex))), (r8, .inl (cJ, 1024, .inr (.inl (fL we)))), (r9, .inl (cZ, 1024, .inl (fB cv))), (r10, .inl (cI, 12, .inl (fN ya))), (r11, .inl (cI, 12, .inl (fN yb))), (r12, .inl (cI, 12, .inl (fN yc))), (r13, .inl (cI, 12, .inl (fN ks)))]) (vp_Sl (fun r => r = lN (spl K S fi (wv w)))) 0 0 (fun _ => False) := by
  refine Met.ofW (cc := cX7_weightThat) (maxL := 6) (ret := (some .long)) (by decide) rfl ?_
  intro p e s m args below meth c s₁ B hml hv
  obtain ⟨hav, hP, hK⟩ := hv
  have hx := B.exec
  have hb := B.bytes
  have hr := B.returns
  have hts := aW_in (atoms_spec (ws := aW yX7_weightThat cX7_weightThat 6 (some .long)) B.pre)
  have hown : s.vm.findClass RX7 = some m.cls := findClass_of_methodNamed B.named
  have hlocks := B.notSynchronized
  obtain ⟨R, hR⟩ : ∃ R, R = (headSpec (aW yX7_weightThat cX7_weightThat 6 (some .long)) { frames := 3, cells := 0, slots := 0, locals := 67 }).room := ⟨_, rfl⟩
  rw [← hR]
  obtain ⟨Q, hQ⟩ : ∃ Q, Q = MQ below (vp_Sl (fun r => r = lN (spl K S fi (wv w)))) args s 0 0 (fun _ => False) := ⟨_, rfl⟩
  rw [← hQ]
  have hl := lv_entry [.ref r0, .int (nI fi), .int (nI w)] (n := 6) (Nat.le_of_ble_eq_true rfl)
  have hent := lg_entry_eq m [.ref r0, .int (nI fi), .int (nI w)] 6
  rw [← hav] at hent
  rw [hent]
  generalize (lg_sl [.ref r0, .int (nI fi), .int (nI w)] ++ List.replicate (6 - (lg_sl [.ref r0, .int (nI fi), .int (nI w)]).length) Slot.unset).toArray = ls at hl ⊢
  have hl : lv_has ls 6 [(0, .ref r0), (1, .int (nI fi)), (2, .int (nI w))] := hl
  have hnE := nE_le K S
  refine lv_lconst (v := lN 0) hx hb dX7_weightThat_0 rfl ?_
  refine lv_lstore_n (lv' := [(3, .long (lN 0)), (0, .ref r0), (1, .int (nI fi)), (2, .int (nI w))]) hx hb dX7_weightThat_1 rfl hl (by decide) rfl (fun ls hl => ?_)
  refine lv_iconst (v := nI 0) hx hb dX7_weightThat_2 (by decide) ?_
  refine lv_istore (lv' := [(5, .int (nI 0)), (3, .long (lN 0)), (0, .ref r0), (1, .int (nI fi)), (2, .int (nI w))]) hx hb dX7_weightThat_3 hl (by decide) rfl (fun ls hl => ?_)
  have lp5 : ∀ (n : Nat) (j : Nat) (a : Nat) (ls : Array Slot), (j + n = nE K S) → (a = sm (fun k => if fo3 K (ex k) fi = w then we k else 0) j) → lv_has ls 6 [(5, .int (nI j)), (3, .long (lN a)), (0, .ref r0), (1, .int (nI fi)), (2, .int (nI w))] → W p l e R s m args below meth c s.heap [] 0 0 Q (F0 m 5 ls []) := by
    intro n
    induction n with
    | zero =>
      intro j a ls hn ha hl
      refine lv_iload hx hb dX7_weightThat_5 (lv_at hl 0 rfl) ?_
      refine lv_aload_n hx hb dX7_weightThat_7 rfl (lv_at hl 2 rfl) ?_
      refine va_get (D := D) (ci := 7) (v := .int (nI (nE K S))) (C := RX7) (T := TX7) (N := 17) hx hb hts inA7 hown hK.1 hP 0 rfl rfl 7 (by decide) (hts _ kf_RX7_99) (fun _ h9 => h9) rfl dX7_weightThat_8 ?_
      refine x_cge (a := j) (b := nE K S) (tgt := 45) hx hb (by first | assumption | omega) (by first | assumption | omega) dX7_weightThat_11 (by decide) (fun c11 => ?_) (fun c11 => (by omega))
      refine lv_lload_n hx hb dX7_weightThat_45 rfl (lv_at hl 1 rfl) ?_
      rw [hQ]
      exact W.lret (v := lN a) hx hb hr (fun t ht hW => ⟨_, rfl, by rw [ha, show j = nE K S by omega, MK_spl hM fi hw], ht⟩) (fun _ h => by cases h) dX7_weightThat_46
    | succ n ih5 =>
      intro j a ls hn ha hl
      refine lv_iload hx hb dX7_weightThat_5 (lv_at hl 0 rfl) ?_
      refine lv_aload_n hx hb dX7_weightThat_7 rfl (lv_at hl 2 rfl) ?_
      refine va_get (D := D) (ci := 7) (v := .int (nI (nE K S))) (C := RX7) (T := TX7) (N := 17) hx hb hts inA7 hown hK.1 hP 0 rfl rfl 7 (by decide) (hts _ kf_RX7_99) (fun _ h9 => h9) rfl dX7_weightThat_8 ?_
      refine x_cge (a := j) (b := nE K S) (tgt := 45) hx hb (by first | assumption | omega) (by first | assumption | omega) dX7_weightThat_11 (by decide) (fun c11 => (by omega)) (fun c11 => ?_)
      refine lv_lload_n hx hb dX7_weightThat_14 rfl (lv_at hl 1 rfl) ?_
      refine lv_aload_n hx hb dX7_weightThat_15 rfl (lv_at hl 2 rfl) ?_
      refine lv_iload hx hb dX7_weightThat_16 (lv_at hl 0 rfl) ?_
      refine lv_iload_n hx hb dX7_weightThat_18 rfl (lv_at hl 3 rfl) ?_
      refine vp_callSi (va_Run.run (va_runV (As := [.int (nI j), .int (nI fi)]) (rest := [.long (lN a)]) ⟨hx, hb, hml, hown, hts⟩ (mt_X7_foretold l D cI cJ cZ r0 r1 r2 r3 r4 r5 r6 r7 r8 r9 r10 r11 r12 r13 K S q hf hs ex we cv z ya yb yc ks j fi (by first | assumption | omega) (by first | assumption | omega) (by first | assumption | omega) (by first | assumption | omega) (by first | assumption | omega)) (cwV 2 hts (gV km_RX7_135 ki_yX7_foretold kl_yX7_foretold kn_RX7 kc_yX7_foretold) rfl rfl rfl (by decide +kernel) (by rw [hR]; exact ⟨Nat.le_of_ble_eq_true rfl, Nat.le_of_ble_eq_true rfl⟩)) (cP_V (q0 := 0) (ci := 7) hK (hP.sub [0, 1, 2, 3, 4, 5, 6, 7, 8, 9, 10, 11, 12, 13] rfl) rfl rfl) rfl rfl hl.1 rfl (lv_room (Nat.le_of_ble_eq_true rfl)) dX7_weightThat_19 ⟨Nat.zero_le _, Nat.zero_le _⟩)) (fun r_ hr_ => ?_)
      subst hr_
      refine lv_iload_n hx hb dX7_weightThat_22 rfl (lv_at hl 4 rfl) ?_
      have j37 : W p l e R s m args below meth c s.heap [] 0 0 Q (F0 m 37 ls [.long (lN (if fo3 K (ex j) fi = w then we j else 0)), .long (lN a)]) := by
        refine x_ladd (z := lN (a + (if fo3 K (ex j) fi = w then we j else 0))) hx hb dX7_weightThat_37 (lN_add _ _) ?_
        refine lv_lstore_n (lv' := [(3, .long (lN (a + (if fo3 K (ex j) fi = w then we j else 0)))), (5, .int (nI j)), (0, .ref r0), (1, .int (nI fi)), (2, .int (nI w))]) hx hb dX7_weightThat_38 rfl hl (by decide) rfl (fun ls hl => ?_)
        refine lv_iinc (v := nI (j + 1)) (lv' := [(5, .int (nI (j + 1))), (3, .long (lN (a + (if fo3 K (ex j) fi = w then we j else 0)))), (0, .ref r0), (1, .int (nI fi)), (2, .int (nI w))]) hx hb dX7_weightThat_39 hl (k := 1) rfl (x_inc1 _) (by decide) rfl (fun ls hl => ?_)
        refine lv_goto (tgt := 5) hx hb dX7_weightThat_42 (by decide) ?_
        exact ih5 (j + 1) (a + (if fo3 K (ex j) fi = w then we j else 0)) ls (by omega) (by rw [ha]; rfl) (lv_sub hl [0, 1, 2, 3, 4] rfl)
      refine x_cne (a := fo3 K (ex j) fi) (b := w) (tgt := 36) hx hb (Nat.lt_of_le_of_lt (fo3_le _ _ _) (by decide)) (by first | assumption | omega) dX7_weightThat_23 (by decide) (fun c23 => ?_) (fun c23 => ?_)
      · refine lv_lconst (v := lN 0) hx hb dX7_weightThat_36 rfl ?_
        refine x_topL (show lN 0 = lN (if fo3 K (ex j) fi = w then we j else 0) from by first | rw [if_pos c23] | rw [if_neg c23]) ?_
        exact j37
      · refine lv_aload_n hx hb dX7_weightThat_26 rfl (lv_at hl 2 rfl) ?_
        refine va_get (D := D) (ci := 7) (v := .ref r8) (C := RX7) (T := TX7) (N := 17) hx hb hts inA7 hown hK.1 hP 0 rfl rfl 9 (by decide) (hts _ kf_RX7_31) (fun _ h9 => h9) rfl dX7_weightThat_27 ?_
        refine lv_iload hx hb dX7_weightThat_30 (lv_at hl 0 rfl) ?_
        refine x_lldL hx hb hK.1 hP 8 1 rfl rfl (by first | assumption | omega) (by decide) dX7_weightThat_32 ?_
        refine lv_goto (tgt := 37) hx hb dX7_weightThat_33 (by decide) ?_
        refine x_topL (show lN (we j) = lN (if fo3 K (ex j) fi = w then we j else 0) from by first | rw [if_pos c23] | rw [if_neg c23]) ?_
        exact j37
  exact lp5 (nE K S) 0 0 ls (by omega) (rfl) (lv_sub hl [0, 1, 2, 3, 4] rfl)

set_option maxHeartbeats 4000000 in
set_option maxRecDepth 100000 in
theorem mt_X7_leftIf (l : Launch) (D : va_G) (cI cJ cZ : ClassId) (r0 : Nat) (r1 : Nat) (r2 : Nat) (r3 : Nat) (r4 : Nat) (r5 : Nat) (r6 : Nat) (r7 : Nat) (r8 : Nat) (r9 : Nat) (r10 : Nat) (r11 : Nat) (r12 : Nat) (r13 : Nat) (K : Kn) (S : Nat → Nat) (q : Nat) (hf : Nat → Nat) (hs : Nat → Nat) (ex : Nat → Nat) (we : Nat → Nat) (cv : Nat → Bool) (z : Nat) (ya : Nat → Nat) (yb : Nat → Nat) (yc : Nat → Nat) (ks : Nat → Nat) (fi : Nat) (d : Bool) (hM : MKn K S ex we) (hKO : KO K) (hL2 : ∀ f c, K.2.2 f c ≤ 2) (hf0 : fi < 12) : Met l yX7_leftIf (aW yX7_leftIf cX7_leftIf 3 (some .long)) { frames := 4, cells := 0, slots := 0, locals := 92 } (cP D cI cJ cZ [.ref r0, .int (nI fi), .int (nI d.toNat)] [(r0, .inr (7, [.ref r1, .ref r2, .ref r3, .ref r4, .int (nI q), .ref r5, .ref r6, .int (nI (nE K S)), .ref r7, .ref r8, .int (nI true.toNat), .ref r9, .int (nI z), .ref r10, .ref r11, .ref r12, .ref r13])), (r1, .inl (cI, 10, .inl (fN K.1))), (r2, .inl (cI, 10, .inl (fN K.2.1))), (r3, .inl (cI, 120, .inl (fN (lkA K)))), (r4, .inl (cI, 12, .inl (fN S))), (r5, .inl (cI, 20, .inl (fN hf))), (r6, .inl (cI, 20, .inl (fN hs))), (r7, .inl (cI, 1024, .inl (fN ex))), (r8, .inl (cJ, 1024, .inr (.inl (fL we)))), (r9, .inl (cZ, 1024, .inl (fB cv))), (r10, .inl (cI, 12, .inl (fN ya))), (r11, .inl (cI, 12, .inl (fN yb))), (r12, .inl (cI, 12, .inl (fN yc))), (r13, .inl (cI, 12, .inl (fN ks)))]) (vp_Sl (fun r => r = lN (if d then lfT K S fi else lfA K S fi))) 0 0 (fun _ => False) := by
  refine Met.ofW (cc := cX7_leftIf) (maxL := 3) (ret := (some .long)) (by decide) rfl ?_
  intro p e s m args below meth c s₁ B hml hv
  obtain ⟨hav, hP, hK⟩ := hv
  have hx := B.exec
  have hb := B.bytes
  have hr := B.returns
  have hts := aW_in (atoms_spec (ws := aW yX7_leftIf cX7_leftIf 3 (some .long)) B.pre)
  have hown : s.vm.findClass RX7 = some m.cls := findClass_of_methodNamed B.named
  have hlocks := B.notSynchronized
  obtain ⟨R, hR⟩ : ∃ R, R = (headSpec (aW yX7_leftIf cX7_leftIf 3 (some .long)) { frames := 4, cells := 0, slots := 0, locals := 92 }).room := ⟨_, rfl⟩
  rw [← hR]
  obtain ⟨Q, hQ⟩ : ∃ Q, Q = MQ below (vp_Sl (fun r => r = lN (if d then lfT K S fi else lfA K S fi))) args s 0 0 (fun _ => False) := ⟨_, rfl⟩
  rw [← hQ]
  have hl := lv_entry [.ref r0, .int (nI fi), .int (nI d.toNat)] (n := 3) (Nat.le_of_ble_eq_true rfl)
  have hent := lg_entry_eq m [.ref r0, .int (nI fi), .int (nI d.toNat)] 3
  rw [← hav] at hent
  rw [hent]
  generalize (lg_sl [.ref r0, .int (nI fi), .int (nI d.toNat)] ++ List.replicate (3 - (lg_sl [.ref r0, .int (nI fi), .int (nI d.toNat)]).length) Slot.unset).toArray = ls at hl ⊢
  have hl : lv_has ls 3 [(0, .ref r0), (1, .int (nI fi)), (2, .int (nI d.toNat))] := hl
  refine lv_aload_n hx hb dX7_leftIf_0 rfl (lv_at hl 0 rfl) ?_
  refine lv_iload_n hx hb dX7_leftIf_1 rfl (lv_at hl 1 rfl) ?_
  refine lv_iload_n hx hb dX7_leftIf_2 rfl (lv_at hl 2 rfl) ?_
  have j11 : W p l e R s m args below meth c s.heap [] 0 0 Q (F0 m 11 ls [.int (nI (if d then 0 else 1)), .int (nI fi), .ref r0]) := by
    refine vp_callSl (va_Run.run (va_runV (As := [.int (nI fi), .int (nI (if d then 0 else 1))]) (rest := []) ⟨hx, hb, hml, hown, hts⟩ (mt_X7_weightThat l D cI cJ cZ r0 r1 r2 r3 r4 r5 r6 r7 r8 r9 r10 r11 r12 r13 K S q hf hs ex we cv z ya yb yc ks fi (if d then 0 else 1) (by first | assumption | omega) (by first | assumption | omega) (by first | assumption | omega) (by first | assumption | omega) (by split <;> decide)) (cwV 2 hts (gV km_RX7_141 ki_yX7_weightThat kl_yX7_weightThat kn_RX7 kc_yX7_weightThat) rfl rfl rfl (by decide +kernel) (by rw [hR]; exact ⟨Nat.le_of_ble_eq_true rfl, Nat.le_of_ble_eq_true rfl⟩)) (cP_V (q0 := 0) (ci := 7) hK (hP.sub [0, 1, 2, 3, 4, 5, 6, 7, 8, 9, 10, 11, 12, 13] rfl) rfl rfl) rfl rfl hl.1 rfl (lv_room (Nat.le_of_ble_eq_true rfl)) dX7_leftIf_11 ⟨Nat.zero_le _, Nat.zero_le _⟩)) (fun r_ hr_ => ?_)
    subst hr_
    refine lv_aload_n hx hb dX7_leftIf_14 rfl (lv_at hl 0 rfl) ?_
    refine lv_iload_n hx hb dX7_leftIf_15 rfl (lv_at hl 1 rfl) ?_
    refine lv_iconst (v := nI 2) hx hb dX7_leftIf_16 (by decide) ?_
    refine vp_callSl (va_Run.run (va_runV (As := [.int (nI fi), .int (nI 2)]) (rest := [.long (lN (spl K S fi (wv (if d then 0 else 1))))]) ⟨hx, hb, hml, hown, hts⟩ (mt_X7_weightThat l D cI cJ cZ r0 r1 r2 r3 r4 r5 r6 r7 r8 r9 r10 r11 r12 r13 K S q hf hs ex we cv z ya yb yc ks fi 2 (by first | assumption | omega) (by first | assumption | omega) (by first | assumption | omega) (by first | assumption | omega) (by decide)) (cwV 2 hts (gV km_RX7_141 ki_yX7_weightThat kl_yX7_weightThat kn_RX7 kc_yX7_weightThat) rfl rfl rfl (by decide +kernel) (by rw [hR]; exact ⟨Nat.le_of_ble_eq_true rfl, Nat.le_of_ble_eq_true rfl⟩)) (cP_V (q0 := 0) (ci := 7) hK (hP.sub [0, 1, 2, 3, 4, 5, 6, 7, 8, 9, 10, 11, 12, 13] rfl) rfl rfl) rfl rfl hl.1 rfl (lv_room (Nat.le_of_ble_eq_true rfl)) dX7_leftIf_17 ⟨Nat.zero_le _, Nat.zero_le _⟩)) (fun r_ hr_ => ?_)
    subst hr_
    refine x_ladd (z := lN ((spl K S fi (wv (if d then 0 else 1))) + (spl K S fi (wv 2)))) hx hb dX7_leftIf_20 (lN_add _ _) ?_
    rw [hQ]
    exact W.lret (v := lN ((spl K S fi (wv (if d then 0 else 1))) + (spl K S fi (wv 2)))) hx hb hr (fun t ht hW => ⟨_, rfl, by cases d <;> rfl, ht⟩) (fun _ h => by cases h) dX7_leftIf_21
  refine x_beq (tgt := 10) hx hb dX7_leftIf_3 (by decide) (fun c3 => ?_) (fun c3 => ?_)
  · refine lv_iconst (v := nI 1) hx hb dX7_leftIf_10 (by decide) ?_
    refine x_top (show nI 1 = nI (if d then 0 else 1) from by rw [c3]; rfl) ?_
    exact j11
  · refine lv_iconst (v := nI 0) hx hb dX7_leftIf_6 (by decide) ?_
    refine lv_goto (tgt := 11) hx hb dX7_leftIf_7 (by decide) ?_
    refine x_top (show nI 0 = nI (if d then 0 else 1) from by rw [c3]; rfl) ?_
    exact j11

set_option maxHeartbeats 4000000 in
set_option maxRecDepth 100000 in
theorem mt_X7_worst (l : Launch) (D : va_G) (cI cJ cZ : ClassId) (r0 : Nat) (r1 : Nat) (r2 : Nat) (r3 : Nat) (r4 : Nat) (r5 : Nat) (r6 : Nat) (r7 : Nat) (r8 : Nat) (r9 : Nat) (r10 : Nat) (r11 : Nat) (r12 : Nat) (r13 : Nat) (K : Kn) (S : Nat → Nat) (q : Nat) (hf : Nat → Nat) (hs : Nat → Nat) (ex : Nat → Nat) (we : Nat → Nat) (cv : Nat → Bool) (z : Nat) (ya : Nat → Nat) (yb : Nat → Nat) (yc : Nat → Nat) (ks : Nat → Nat) (fi : Nat) (hM : MKn K S ex we) (hKO : KO K) (hL2 : ∀ f c, K.2.2 f c ≤ 2) (hf0 : fi < 12) : Met l yX7_worst (aW yX7_worst cX7_worst 6 (some .long)) { frames := 5, cells := 0, slots := 0, locals := 114 } (cP D cI cJ cZ [.ref r0, .int (nI fi)] [(r0, .inr (7, [.ref r1, .ref r2, .ref r3, .ref r4, .int (nI q), .ref r5, .ref r6, .int (nI (nE K S)), .ref r7, .ref r8, .int (nI true.toNat), .ref r9, .int (nI z), .ref r10, .ref r11, .ref r12, .ref r13])), (r1, .inl (cI, 10, .inl (fN K.1))), (r2, .inl (cI, 10, .inl (fN K.2.1))), (r3, .inl (cI, 120, .inl (fN (lkA K)))), (r4, .inl (cI, 12, .inl (fN S))), (r5, .inl (cI, 20, .inl (fN hf))), (r6, .inl (cI, 20, .inl (fN hs))), (r7, .inl (cI, 1024, .inl (fN ex))), (r8, .inl (cJ, 1024, .inr (.inl (fL we)))), (r9, .inl (cZ, 1024, .inl (fB cv))), (r10, .inl (cI, 12, .inl (fN ya))), (r11, .inl (cI, 12, .inl (fN yb))), (r12, .inl (cI, 12, .inl (fN yc))), (r13, .inl (cI, 12, .inl (fN ks)))]) (vp_Sl (fun r => r = lN (wC K S fi))) 0 0 (fun _ => False) := by
  refine Met.ofW (cc := cX7_worst) (maxL := 6) (ret := (some .long)) (by decide) rfl ?_
  intro p e s m args below meth c s₁ B hml hv
  obtain ⟨hav, hP, hK⟩ := hv
  have hx := B.exec
  have hb := B.bytes
  have hr := B.returns
  have hts := aW_in (atoms_spec (ws := aW yX7_worst cX7_worst 6 (some .long)) B.pre)
  have hown : s.vm.findClass RX7 = some m.cls := findClass_of_methodNamed B.named
  have hlocks := B.notSynchronized
  obtain ⟨R, hR⟩ : ∃ R, R = (headSpec (aW yX7_worst cX7_worst 6 (some .long)) { frames := 5, cells := 0, slots := 0, locals := 114 }).room := ⟨_, rfl⟩
  rw [← hR]
  obtain ⟨Q, hQ⟩ : ∃ Q, Q = MQ below (vp_Sl (fun r => r = lN (wC K S fi))) args s 0 0 (fun _ => False) := ⟨_, rfl⟩
  rw [← hQ]
  have hl := lv_entry [.ref r0, .int (nI fi)] (n := 6) (Nat.le_of_ble_eq_true rfl)
  have hent := lg_entry_eq m [.ref r0, .int (nI fi)] 6
  rw [← hav] at hent
  rw [hent]
  generalize (lg_sl [.ref r0, .int (nI fi)] ++ List.replicate (6 - (lg_sl [.ref r0, .int (nI fi)]).length) Slot.unset).toArray = ls at hl ⊢
  have hl : lv_has ls 6 [(0, .ref r0), (1, .int (nI fi))] := hl
  refine lv_aload_n hx hb dX7_worst_0 rfl (lv_at hl 0 rfl) ?_
  refine lv_iload_n hx hb dX7_worst_1 rfl (lv_at hl 1 rfl) ?_
  refine lv_iconst (v := nI 1) hx hb dX7_worst_2 (by decide) ?_
  refine vp_callSl (va_Run.run (va_runV (As := [.int (nI fi), .int (nI 1)]) (rest := []) ⟨hx, hb, hml, hown, hts⟩ (mt_X7_leftIf l D cI cJ cZ r0 r1 r2 r3 r4 r5 r6 r7 r8 r9 r10 r11 r12 r13 K S q hf hs ex we cv z ya yb yc ks fi true (by first | assumption | omega) (by first | assumption | omega) (by first | assumption | omega) (by first | assumption | omega)) (cwV 2 hts (gV km_RX7_144 ki_yX7_leftIf kl_yX7_leftIf kn_RX7 kc_yX7_leftIf) rfl rfl rfl (by decide +kernel) (by rw [hR]; exact ⟨Nat.le_of_ble_eq_true rfl, Nat.le_of_ble_eq_true rfl⟩)) (cP_V (q0 := 0) (ci := 7) hK (hP.sub [0, 1, 2, 3, 4, 5, 6, 7, 8, 9, 10, 11, 12, 13] rfl) rfl rfl) rfl rfl hl.1 rfl (lv_room (Nat.le_of_ble_eq_true rfl)) dX7_worst_3 ⟨Nat.zero_le _, Nat.zero_le _⟩)) (fun r_ hr_ => ?_)
  subst hr_
  refine x_topL (show lN (if true then lfT K S fi else lfA K S fi) = lN (lfT K S fi) from rfl) ?_
  refine lv_lstore_n (lv' := [(2, .long (lN (lfT K S fi))), (0, .ref r0), (1, .int (nI fi))]) hx hb dX7_worst_6 rfl hl (by decide) rfl (fun ls hl => ?_)
  refine lv_aload_n hx hb dX7_worst_7 rfl (lv_at hl 1 rfl) ?_
  refine lv_iload_n hx hb dX7_worst_8 rfl (lv_at hl 2 rfl) ?_
  refine lv_iconst (v := nI 0) hx hb dX7_worst_9 (by decide) ?_
  refine vp_callSl (va_Run.run (va_runV (As := [.int (nI fi), .int (nI 0)]) (rest := []) ⟨hx, hb, hml, hown, hts⟩ (mt_X7_leftIf l D cI cJ cZ r0 r1 r2 r3 r4 r5 r6 r7 r8 r9 r10 r11 r12 r13 K S q hf hs ex we cv z ya yb yc ks fi false (by first | assumption | omega) (by first | assumption | omega) (by first | assumption | omega) (by first | assumption | omega)) (cwV 2 hts (gV km_RX7_144 ki_yX7_leftIf kl_yX7_leftIf kn_RX7 kc_yX7_leftIf) rfl rfl rfl (by decide +kernel) (by rw [hR]; exact ⟨Nat.le_of_ble_eq_true rfl, Nat.le_of_ble_eq_true rfl⟩)) (cP_V (q0 := 0) (ci := 7) hK (hP.sub [0, 1, 2, 3, 4, 5, 6, 7, 8, 9, 10, 11, 12, 13] rfl) rfl rfl) rfl rfl hl.1 rfl (lv_room (Nat.le_of_ble_eq_true rfl)) dX7_worst_10 ⟨Nat.zero_le _, Nat.zero_le _⟩)) (fun r_ hr_ => ?_)
  subst hr_
  refine x_topL (show lN (if false then lfT K S fi else lfA K S fi) = lN (lfA K S fi) from rfl) ?_
  refine lv_lstore (lv' := [(4, .long (lN (lfA K S fi))), (2, .long (lN (lfT K S fi))), (0, .ref r0), (1, .int (nI fi))]) hx hb dX7_worst_13 hl (by decide) rfl (fun ls hl => ?_)
  have hb1 := lfT_lt hKO S fi
  have hb2 := lfA_lt hKO S fi
  refine lv_lload_n hx hb dX7_worst_15 rfl (lv_at hl 1 rfl) ?_
  refine lv_lload hx hb dX7_worst_16 (lv_at hl 0 rfl) ?_
  refine x_lle (tgt := 26) hx hb (by first | assumption | omega) (by first | assumption | omega) dX7_worst_18 dX7_worst_19 (by decide) (fun c18 => ?_) (fun c18 => ?_)
  · refine lv_lload hx hb dX7_worst_26 (lv_at hl 0 rfl) ?_
    rw [hQ]
    exact W.lret (v := lN (lfA K S fi)) hx hb hr (fun t ht hW => ⟨_, rfl, by unfold wC; first | rw [Nat.max_eq_left (by omega)] | rw [Nat.max_eq_right (by omega)], ht⟩) (fun _ h => by cases h) dX7_worst_28
  · refine lv_lload_n hx hb dX7_worst_22 rfl (lv_at hl 1 rfl) ?_
    refine lv_goto (tgt := 28) hx hb dX7_worst_23 (by decide) ?_
    rw [hQ]
    exact W.lret (v := lN (lfT K S fi)) hx hb hr (fun t ht hW => ⟨_, rfl, by unfold wC; first | rw [Nat.max_eq_left (by omega)] | rw [Nat.max_eq_right (by omega)], ht⟩) (fun _ h => by cases h) dX7_worst_28
