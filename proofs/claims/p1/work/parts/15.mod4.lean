set_option maxHeartbeats 400000 in
set_option maxRecDepth 100000 in
/-- set refused -/
theorem c_mset_no (l : Launch) (D : va_G) (cJ cI cR : ClassId) (b n : Nat) (E : Nat → va_E) (sz : Nat) (a : Nat) (ref : Int32) (ha : b ≤ a ∧ a + 9 ≤ b + n) (hm : E a = modO a ref) (a0 : Int32) (a1 : Int32) (a2 : Int32) (h : ¬ (okS a0 ∧ inI a1 0 6 ∧ inI a2 (-300) 300)) : Met l yX7_set wsX7_set { frames := 1, cells := 0, slots := 0, locals := 22 } (cP D vwCl (tys3 cJ cI cR) b n E sz [.ref a, .int a0, .int a1, .int a2]) (cQi D vwCl (tys3 cJ cI cR) b n (fun _ E' => (∃ fs, E' a = .inr (6, .int 1 :: fs)) ∧ ∀ q, q < a ∨ a + 9 ≤ q → E' q = E q)) 0 0 (PA b) := by
  refine Met.ofW (cc := cX7_set) (maxL := 4) (ret := (some .int)) (by decide) rfl ?_
  intro p e s m args below meth c s₁ B hml hv
  obtain ⟨rfl, hsz, hB⟩ := hv
  have hx := B.exec
  have hb := B.bytes
  have hret := B.returns
  have hts := atoms_spec (ws := wsX7_set) B.pre
  have hown : s.vm.findClass RX7 = some m.cls := findClass_of_methodNamed B.named
  have hlocks := B.notSynchronized
  subst hsz
  have hz := PS.start hB
  have hl := lv_entry ([.ref a, .int a0, .int a1, .int a2]) (n := 4) (Nat.le_of_ble_eq_true rfl)
  rw [lg_entry_eq]
  generalize (lg_sl ([.ref a, .int a0, .int a1, .int a2]) ++ List.replicate (4 - (lg_sl ([.ref a, .int a0, .int a1, .int a2])).length) Slot.unset).toArray = ls at hl ⊢
  have hl : lv_has ls 4 [(0, .ref a), (1, .int a0), (2, .int a1), (3, .int a2)] := hl
  refine lv_aload_n hx hb dX7_set_0 rfl (lv_at hl 0 rfl) ?_
  refine lv_iload_n hx hb dX7_set_1 rfl (lv_at hl 1 rfl) ?_
  by_cases k0 : okS (a0)
  · skip
    refine pw_calli hz (va_runS (As := [.int a0]) (rest := [.ref a]) ⟨hx, hb, hml, hown, hts⟩ (c_isSlot_1 l D cJ cI cR b n _ _ (a0) k0) (va_cwS 1 hts gX7_set_X7_isSlot rfl rfl rfl (by decide +kernel) ⟨Nat.le_of_ble_eq_true rfl, Nat.le_of_ble_eq_true rfl⟩) hz.preS rfl rfl hl.1 rfl (lv_room (Nat.le_of_ble_eq_true rfl)) dX7_set_2 ⟨Nat.le_of_ble_eq_true rfl, Nat.le_of_ble_eq_true rfl⟩) (fun r_1 Ev H locs hp hz => ?_)
    obtain ⟨hr_1, hp⟩ := hp
    subst hr_1
    rw [hp] at hz
    refine lv_if_eq (tgt := 35) hx hb dX7_set_5 (by decide) (fun qw => ?_) (fun _ => ?_)
    · exact absurd qw (by decide)
    refine lv_iload_n hx hb dX7_set_8 rfl (lv_at hl 2 rfl) ?_
    refine lv_iconst (v := 0) hx hb dX7_set_9 (by decide) ?_
    refine lv_bipush (v := 6) hx hb dX7_set_10 (by decide) ?_
    by_cases k1 : inI (a1) (0) (6)
    · skip
      refine pw_calli hz (va_runS (As := [.int a1, .int 0, .int 6]) (rest := [.ref a]) ⟨hx, hb, hml, hown, hts⟩ (c_isIn_1 l D cJ cI cR b n _ _ (a1) (0) (6) k1) (va_cwS 3 hts gX7_set_X7_isIn rfl rfl rfl (by decide +kernel) ⟨Nat.le_of_ble_eq_true rfl, Nat.le_of_ble_eq_true rfl⟩) hz.preS rfl rfl hl.1 rfl (lv_room (Nat.le_of_ble_eq_true rfl)) dX7_set_12 ⟨Nat.le_of_ble_eq_true rfl, Nat.le_of_ble_eq_true rfl⟩) (fun r_2 Ev H locs hp hz => ?_)
      obtain ⟨hr_2, hp⟩ := hp
      subst hr_2
      rw [hp] at hz
      refine lv_if_eq (tgt := 35) hx hb dX7_set_15 (by decide) (fun qw => ?_) (fun _ => ?_)
      · exact absurd qw (by decide)
      refine lv_iload_n hx hb dX7_set_18 rfl (lv_at hl 3 rfl) ?_
      refine lv_sipush (v := (-300)) hx hb dX7_set_19 (by decide) ?_
      refine lv_sipush (v := 300) hx hb dX7_set_22 (by decide) ?_
      by_cases k2 : inI (a2) ((-300)) (300)
      · skip
        refine pw_calli hz (va_runS (As := [.int a2, .int (-300), .int 300]) (rest := [.ref a]) ⟨hx, hb, hml, hown, hts⟩ (c_isIn_1 l D cJ cI cR b n _ _ (a2) ((-300)) (300) k2) (va_cwS 3 hts gX7_set_X7_isIn rfl rfl rfl (by decide +kernel) ⟨Nat.le_of_ble_eq_true rfl, Nat.le_of_ble_eq_true rfl⟩) hz.preS rfl rfl hl.1 rfl (lv_room (Nat.le_of_ble_eq_true rfl)) dX7_set_25 ⟨Nat.le_of_ble_eq_true rfl, Nat.le_of_ble_eq_true rfl⟩) (fun r_3 Ev H locs hp hz => ?_)
        obtain ⟨hr_3, hp⟩ := hp
        subst hr_3
        rw [hp] at hz
        refine lv_if_eq (tgt := 35) hx hb dX7_set_28 (by decide) (fun qw => ?_) (fun _ => ?_)
        · exact absurd qw (by decide)
        exact absurd ⟨k0, k1, k2⟩ h
      · skip
        refine pw_calli hz (va_runS (As := [.int a2, .int (-300), .int 300]) (rest := [.ref a]) ⟨hx, hb, hml, hown, hts⟩ (c_isIn_0 l D cJ cI cR b n _ _ (a2) ((-300)) (300) k2) (va_cwS 3 hts gX7_set_X7_isIn rfl rfl rfl (by decide +kernel) ⟨Nat.le_of_ble_eq_true rfl, Nat.le_of_ble_eq_true rfl⟩) hz.preS rfl rfl hl.1 rfl (lv_room (Nat.le_of_ble_eq_true rfl)) dX7_set_25 ⟨Nat.le_of_ble_eq_true rfl, Nat.le_of_ble_eq_true rfl⟩) (fun r_4 Ev H locs hp hz => ?_)
        obtain ⟨hr_4, hp⟩ := hp
        subst hr_4
        rw [hp] at hz
        refine lv_if_eq (tgt := 35) hx hb dX7_set_28 (by decide) (fun _ => ?_) (fun qw => ?_)
        rotate_left
        · exact absurd rfl qw
        refine lv_iconst (v := 1) hx hb dX7_set_35 (by decide) ?_
        refine pw_calli hz (va_runV (As := [.int 1]) (rest := []) ⟨hx, hb, hml, hown, hts⟩ (c_refused_1 l D cJ cI cR b n _ _ a ref ha hm) (cwV 1 hts gX7_set_X7_refused rfl rfl rfl (by decide +kernel) ⟨Nat.le_of_ble_eq_true rfl, Nat.le_of_ble_eq_true rfl⟩) (hz.preV (by omega) hm rfl) rfl rfl hl.1 rfl (lv_room (Nat.le_of_ble_eq_true rfl)) dX7_set_36 ⟨Nat.le_of_ble_eq_true rfl, Nat.le_of_ble_eq_true rfl⟩) (fun r_5 Ev H locs hp hz => ?_)
        obtain ⟨hr_5, hp⟩ := hp
        subst hr_5
        rw [hp] at hz
        have hz : PS D vwCl (tys3 cJ cI cR) b n s (va_up E a (.inr (6, [.int 1, .ref (a + 1), .int 0, .int 0, .ref (a + 2), .ref (a + 3), .int 0, .int 0, .int 0, .ref (a + 4), .ref (a + 5), .int 0, .ref (a + 6), .ref (a + 7), .int 0, .int 0, .int 0, .int 0, .ref (a + 8), .int 0, .long 0, .long 0, .long 0, .int 0, .long 0]))) H locs := hz
        refine lv_if_eq (tgt := 44) hx hb dX7_set_39 (by decide) (fun qw => ?_) (fun _ => ?_)
        · exact absurd qw (by decide)
        refine lv_iconst (v := 0) hx hb dX7_set_42 (by decide) ?_
        exact pw_iret hx hb hret hlocks hz ⟨⟨_, va_up_self _ _ _⟩, fun q h => va_up_ne _ _ (by omega)⟩ dX7_set_43
    · skip
      refine pw_calli hz (va_runS (As := [.int a1, .int 0, .int 6]) (rest := [.ref a]) ⟨hx, hb, hml, hown, hts⟩ (c_isIn_0 l D cJ cI cR b n _ _ (a1) (0) (6) k1) (va_cwS 3 hts gX7_set_X7_isIn rfl rfl rfl (by decide +kernel) ⟨Nat.le_of_ble_eq_true rfl, Nat.le_of_ble_eq_true rfl⟩) hz.preS rfl rfl hl.1 rfl (lv_room (Nat.le_of_ble_eq_true rfl)) dX7_set_12 ⟨Nat.le_of_ble_eq_true rfl, Nat.le_of_ble_eq_true rfl⟩) (fun r_6 Ev H locs hp hz => ?_)
      obtain ⟨hr_6, hp⟩ := hp
      subst hr_6
      rw [hp] at hz
      refine lv_if_eq (tgt := 35) hx hb dX7_set_15 (by decide) (fun _ => ?_) (fun qw => ?_)
      rotate_left
      · exact absurd rfl qw
      refine lv_iconst (v := 1) hx hb dX7_set_35 (by decide) ?_
      refine pw_calli hz (va_runV (As := [.int 1]) (rest := []) ⟨hx, hb, hml, hown, hts⟩ (c_refused_1 l D cJ cI cR b n _ _ a ref ha hm) (cwV 1 hts gX7_set_X7_refused rfl rfl rfl (by decide +kernel) ⟨Nat.le_of_ble_eq_true rfl, Nat.le_of_ble_eq_true rfl⟩) (hz.preV (by omega) hm rfl) rfl rfl hl.1 rfl (lv_room (Nat.le_of_ble_eq_true rfl)) dX7_set_36 ⟨Nat.le_of_ble_eq_true rfl, Nat.le_of_ble_eq_true rfl⟩) (fun r_7 Ev H locs hp hz => ?_)
      obtain ⟨hr_7, hp⟩ := hp
      subst hr_7
      rw [hp] at hz
      have hz : PS D vwCl (tys3 cJ cI cR) b n s (va_up E a (.inr (6, [.int 1, .ref (a + 1), .int 0, .int 0, .ref (a + 2), .ref (a + 3), .int 0, .int 0, .int 0, .ref (a + 4), .ref (a + 5), .int 0, .ref (a + 6), .ref (a + 7), .int 0, .int 0, .int 0, .int 0, .ref (a + 8), .int 0, .long 0, .long 0, .long 0, .int 0, .long 0]))) H locs := hz
      refine lv_if_eq (tgt := 44) hx hb dX7_set_39 (by decide) (fun qw => ?_) (fun _ => ?_)
      · exact absurd qw (by decide)
      refine lv_iconst (v := 0) hx hb dX7_set_42 (by decide) ?_
      exact pw_iret hx hb hret hlocks hz ⟨⟨_, va_up_self _ _ _⟩, fun q h => va_up_ne _ _ (by omega)⟩ dX7_set_43
  · skip
    refine pw_calli hz (va_runS (As := [.int a0]) (rest := [.ref a]) ⟨hx, hb, hml, hown, hts⟩ (c_isSlot_0 l D cJ cI cR b n _ _ (a0) k0) (va_cwS 1 hts gX7_set_X7_isSlot rfl rfl rfl (by decide +kernel) ⟨Nat.le_of_ble_eq_true rfl, Nat.le_of_ble_eq_true rfl⟩) hz.preS rfl rfl hl.1 rfl (lv_room (Nat.le_of_ble_eq_true rfl)) dX7_set_2 ⟨Nat.le_of_ble_eq_true rfl, Nat.le_of_ble_eq_true rfl⟩) (fun r_8 Ev H locs hp hz => ?_)
    obtain ⟨hr_8, hp⟩ := hp
    subst hr_8
    rw [hp] at hz
    refine lv_if_eq (tgt := 35) hx hb dX7_set_5 (by decide) (fun _ => ?_) (fun qw => ?_)
    rotate_left
    · exact absurd rfl qw
    refine lv_iconst (v := 1) hx hb dX7_set_35 (by decide) ?_
    refine pw_calli hz (va_runV (As := [.int 1]) (rest := []) ⟨hx, hb, hml, hown, hts⟩ (c_refused_1 l D cJ cI cR b n _ _ a ref ha hm) (cwV 1 hts gX7_set_X7_refused rfl rfl rfl (by decide +kernel) ⟨Nat.le_of_ble_eq_true rfl, Nat.le_of_ble_eq_true rfl⟩) (hz.preV (by omega) hm rfl) rfl rfl hl.1 rfl (lv_room (Nat.le_of_ble_eq_true rfl)) dX7_set_36 ⟨Nat.le_of_ble_eq_true rfl, Nat.le_of_ble_eq_true rfl⟩) (fun r_9 Ev H locs hp hz => ?_)
    obtain ⟨hr_9, hp⟩ := hp
    subst hr_9
    rw [hp] at hz
    have hz : PS D vwCl (tys3 cJ cI cR) b n s (va_up E a (.inr (6, [.int 1, .ref (a + 1), .int 0, .int 0, .ref (a + 2), .ref (a + 3), .int 0, .int 0, .int 0, .ref (a + 4), .ref (a + 5), .int 0, .ref (a + 6), .ref (a + 7), .int 0, .int 0, .int 0, .int 0, .ref (a + 8), .int 0, .long 0, .long 0, .long 0, .int 0, .long 0]))) H locs := hz
    refine lv_if_eq (tgt := 44) hx hb dX7_set_39 (by decide) (fun qw => ?_) (fun _ => ?_)
    · exact absurd qw (by decide)
    refine lv_iconst (v := 0) hx hb dX7_set_42 (by decide) ?_
    exact pw_iret hx hb hret hlocks hz ⟨⟨_, va_up_self _ _ _⟩, fun q h => va_up_ne _ _ (by omega)⟩ dX7_set_43

set_option maxHeartbeats 400000 in
set_option maxRecDepth 100000 in
/-- get refused -/
theorem c_mget_no (l : Launch) (D : va_G) (cJ cI cR : ClassId) (b n : Nat) (E : Nat → va_E) (sz : Nat) (a : Nat) (ref : Int32) (ha : b ≤ a ∧ a + 9 ≤ b + n) (hm : E a = modO a ref) (a0 : Int32) (a1 : Int32) (h : ¬ (okS a0 ∧ inI a1 0 6)) : Met l yX7_get wsX7_get { frames := 1, cells := 0, slots := 0, locals := 22 } (cP D vwCl (tys3 cJ cI cR) b n E sz [.ref a, .int a0, .int a1]) (cQi D vwCl (tys3 cJ cI cR) b n (fun _ E' => (∃ fs, E' a = .inr (6, .int 1 :: fs)) ∧ ∀ q, q < a ∨ a + 9 ≤ q → E' q = E q)) 0 0 (PA b) := by
  refine Met.ofW (cc := cX7_get) (maxL := 3) (ret := (some .int)) (by decide) rfl ?_
  intro p e s m args below meth c s₁ B hml hv
  obtain ⟨rfl, hsz, hB⟩ := hv
  have hx := B.exec
  have hb := B.bytes
  have hret := B.returns
  have hts := atoms_spec (ws := wsX7_get) B.pre
  have hown : s.vm.findClass RX7 = some m.cls := findClass_of_methodNamed B.named
  have hlocks := B.notSynchronized
  subst hsz
  have hz := PS.start hB
  have hl := lv_entry ([.ref a, .int a0, .int a1]) (n := 3) (Nat.le_of_ble_eq_true rfl)
  rw [lg_entry_eq]
  generalize (lg_sl ([.ref a, .int a0, .int a1]) ++ List.replicate (3 - (lg_sl ([.ref a, .int a0, .int a1])).length) Slot.unset).toArray = ls at hl ⊢
  have hl : lv_has ls 3 [(0, .ref a), (1, .int a0), (2, .int a1)] := hl
  refine lv_aload_n hx hb dX7_get_0 rfl (lv_at hl 0 rfl) ?_
  refine lv_iload_n hx hb dX7_get_1 rfl (lv_at hl 1 rfl) ?_
  by_cases k0 : okS (a0)
  · skip
    refine pw_calli hz (va_runS (As := [.int a0]) (rest := [.ref a]) ⟨hx, hb, hml, hown, hts⟩ (c_isSlot_1 l D cJ cI cR b n _ _ (a0) k0) (va_cwS 1 hts gX7_get_X7_isSlot rfl rfl rfl (by decide +kernel) ⟨Nat.le_of_ble_eq_true rfl, Nat.le_of_ble_eq_true rfl⟩) hz.preS rfl rfl hl.1 rfl (lv_room (Nat.le_of_ble_eq_true rfl)) dX7_get_2 ⟨Nat.le_of_ble_eq_true rfl, Nat.le_of_ble_eq_true rfl⟩) (fun r_1 Ev H locs hp hz => ?_)
    obtain ⟨hr_1, hp⟩ := hp
    subst hr_1
    rw [hp] at hz
    refine lv_if_eq (tgt := 22) hx hb dX7_get_5 (by decide) (fun qw => ?_) (fun _ => ?_)
    · exact absurd qw (by decide)
    refine lv_iload_n hx hb dX7_get_8 rfl (lv_at hl 2 rfl) ?_
    refine lv_iconst (v := 0) hx hb dX7_get_9 (by decide) ?_
    refine lv_bipush (v := 6) hx hb dX7_get_10 (by decide) ?_
    by_cases k1 : inI (a1) (0) (6)
    · skip
      refine pw_calli hz (va_runS (As := [.int a1, .int 0, .int 6]) (rest := [.ref a]) ⟨hx, hb, hml, hown, hts⟩ (c_isIn_1 l D cJ cI cR b n _ _ (a1) (0) (6) k1) (va_cwS 3 hts gX7_get_X7_isIn rfl rfl rfl (by decide +kernel) ⟨Nat.le_of_ble_eq_true rfl, Nat.le_of_ble_eq_true rfl⟩) hz.preS rfl rfl hl.1 rfl (lv_room (Nat.le_of_ble_eq_true rfl)) dX7_get_12 ⟨Nat.le_of_ble_eq_true rfl, Nat.le_of_ble_eq_true rfl⟩) (fun r_2 Ev H locs hp hz => ?_)
      obtain ⟨hr_2, hp⟩ := hp
      subst hr_2
      rw [hp] at hz
      refine lv_if_eq (tgt := 22) hx hb dX7_get_15 (by decide) (fun qw => ?_) (fun _ => ?_)
      · exact absurd qw (by decide)
      exact absurd ⟨k0, k1⟩ h
    · skip
      refine pw_calli hz (va_runS (As := [.int a1, .int 0, .int 6]) (rest := [.ref a]) ⟨hx, hb, hml, hown, hts⟩ (c_isIn_0 l D cJ cI cR b n _ _ (a1) (0) (6) k1) (va_cwS 3 hts gX7_get_X7_isIn rfl rfl rfl (by decide +kernel) ⟨Nat.le_of_ble_eq_true rfl, Nat.le_of_ble_eq_true rfl⟩) hz.preS rfl rfl hl.1 rfl (lv_room (Nat.le_of_ble_eq_true rfl)) dX7_get_12 ⟨Nat.le_of_ble_eq_true rfl, Nat.le_of_ble_eq_true rfl⟩) (fun r_3 Ev H locs hp hz => ?_)
      obtain ⟨hr_3, hp⟩ := hp
      subst hr_3
      rw [hp] at hz
      refine lv_if_eq (tgt := 22) hx hb dX7_get_15 (by decide) (fun _ => ?_) (fun qw => ?_)
      rotate_left
      · exact absurd rfl qw
      refine lv_iconst (v := 1) hx hb dX7_get_22 (by decide) ?_
      refine pw_calli hz (va_runV (As := [.int 1]) (rest := []) ⟨hx, hb, hml, hown, hts⟩ (c_refused_1 l D cJ cI cR b n _ _ a ref ha hm) (cwV 1 hts gX7_get_X7_refused rfl rfl rfl (by decide +kernel) ⟨Nat.le_of_ble_eq_true rfl, Nat.le_of_ble_eq_true rfl⟩) (hz.preV (by omega) hm rfl) rfl rfl hl.1 rfl (lv_room (Nat.le_of_ble_eq_true rfl)) dX7_get_23 ⟨Nat.le_of_ble_eq_true rfl, Nat.le_of_ble_eq_true rfl⟩) (fun r_4 Ev H locs hp hz => ?_)
      obtain ⟨hr_4, hp⟩ := hp
      subst hr_4
      rw [hp] at hz
      have hz : PS D vwCl (tys3 cJ cI cR) b n s (va_up E a (.inr (6, [.int 1, .ref (a + 1), .int 0, .int 0, .ref (a + 2), .ref (a + 3), .int 0, .int 0, .int 0, .ref (a + 4), .ref (a + 5), .int 0, .ref (a + 6), .ref (a + 7), .int 0, .int 0, .int 0, .int 0, .ref (a + 8), .int 0, .long 0, .long 0, .long 0, .int 0, .long 0]))) H locs := hz
      refine lv_if_eq (tgt := 31) hx hb dX7_get_26 (by decide) (fun qw => ?_) (fun _ => ?_)
      · exact absurd qw (by decide)
      refine lv_iconst (v := 0) hx hb dX7_get_29 (by decide) ?_
      exact pw_iret hx hb hret hlocks hz ⟨⟨_, va_up_self _ _ _⟩, fun q h => va_up_ne _ _ (by omega)⟩ dX7_get_30
  · skip
    refine pw_calli hz (va_runS (As := [.int a0]) (rest := [.ref a]) ⟨hx, hb, hml, hown, hts⟩ (c_isSlot_0 l D cJ cI cR b n _ _ (a0) k0) (va_cwS 1 hts gX7_get_X7_isSlot rfl rfl rfl (by decide +kernel) ⟨Nat.le_of_ble_eq_true rfl, Nat.le_of_ble_eq_true rfl⟩) hz.preS rfl rfl hl.1 rfl (lv_room (Nat.le_of_ble_eq_true rfl)) dX7_get_2 ⟨Nat.le_of_ble_eq_true rfl, Nat.le_of_ble_eq_true rfl⟩) (fun r_5 Ev H locs hp hz => ?_)
    obtain ⟨hr_5, hp⟩ := hp
    subst hr_5
    rw [hp] at hz
    refine lv_if_eq (tgt := 22) hx hb dX7_get_5 (by decide) (fun _ => ?_) (fun qw => ?_)
    rotate_left
    · exact absurd rfl qw
    refine lv_iconst (v := 1) hx hb dX7_get_22 (by decide) ?_
    refine pw_calli hz (va_runV (As := [.int 1]) (rest := []) ⟨hx, hb, hml, hown, hts⟩ (c_refused_1 l D cJ cI cR b n _ _ a ref ha hm) (cwV 1 hts gX7_get_X7_refused rfl rfl rfl (by decide +kernel) ⟨Nat.le_of_ble_eq_true rfl, Nat.le_of_ble_eq_true rfl⟩) (hz.preV (by omega) hm rfl) rfl rfl hl.1 rfl (lv_room (Nat.le_of_ble_eq_true rfl)) dX7_get_23 ⟨Nat.le_of_ble_eq_true rfl, Nat.le_of_ble_eq_true rfl⟩) (fun r_6 Ev H locs hp hz => ?_)
    obtain ⟨hr_6, hp⟩ := hp
    subst hr_6
    rw [hp] at hz
    have hz : PS D vwCl (tys3 cJ cI cR) b n s (va_up E a (.inr (6, [.int 1, .ref (a + 1), .int 0, .int 0, .ref (a + 2), .ref (a + 3), .int 0, .int 0, .int 0, .ref (a + 4), .ref (a + 5), .int 0, .ref (a + 6), .ref (a + 7), .int 0, .int 0, .int 0, .int 0, .ref (a + 8), .int 0, .long 0, .long 0, .long 0, .int 0, .long 0]))) H locs := hz
    refine lv_if_eq (tgt := 31) hx hb dX7_get_26 (by decide) (fun qw => ?_) (fun _ => ?_)
    · exact absurd qw (by decide)
    refine lv_iconst (v := 0) hx hb dX7_get_29 (by decide) ?_
    exact pw_iret hx hb hret hlocks hz ⟨⟨_, va_up_self _ _ _⟩, fun q h => va_up_ne _ _ (by omega)⟩ dX7_get_30

set_option maxHeartbeats 400000 in
set_option maxRecDepth 100000 in
/-- add refused -/
theorem c_madd_no (l : Launch) (D : va_G) (cJ cI cR : ClassId) (b n : Nat) (E : Nat → va_E) (sz : Nat) (a : Nat) (ref : Int32) (ha : b ≤ a ∧ a + 9 ≤ b + n) (hm : E a = modO a ref) (a0 : Int32) (a1 : Int32) (a2 : Int32) (a3 : Int32) (a4 : Int32) (h : ¬ (okS a0 ∧ okS a1 ∧ okS a2 ∧ inI a3 (-10) 10 ∧ inI a4 (-10) 10)) : Met l yX7_add wsX7_add { frames := 1, cells := 0, slots := 0, locals := 22 } (cP D vwCl (tys3 cJ cI cR) b n E sz [.ref a, .int a0, .int a1, .int a2, .int a3, .int a4]) (cQi D vwCl (tys3 cJ cI cR) b n (fun _ E' => (∃ fs, E' a = .inr (6, .int 1 :: fs)) ∧ ∀ q, q < a ∨ a + 9 ≤ q → E' q = E q)) 0 0 (PA b) := by
  refine Met.ofW (cc := cX7_add) (maxL := 8) (ret := (some .int)) (by decide) rfl ?_
  intro p e s m args below meth c s₁ B hml hv
  obtain ⟨rfl, hsz, hB⟩ := hv
  have hx := B.exec
  have hb := B.bytes
  have hret := B.returns
  have hts := atoms_spec (ws := wsX7_add) B.pre
  have hown : s.vm.findClass RX7 = some m.cls := findClass_of_methodNamed B.named
  have hlocks := B.notSynchronized
  subst hsz
  have hz := PS.start hB
  have hl := lv_entry ([.ref a, .int a0, .int a1, .int a2, .int a3, .int a4]) (n := 8) (Nat.le_of_ble_eq_true rfl)
  rw [lg_entry_eq]
  generalize (lg_sl ([.ref a, .int a0, .int a1, .int a2, .int a3, .int a4]) ++ List.replicate (8 - (lg_sl ([.ref a, .int a0, .int a1, .int a2, .int a3, .int a4])).length) Slot.unset).toArray = ls at hl ⊢
  have hl : lv_has ls 8 [(0, .ref a), (1, .int a0), (2, .int a1), (3, .int a2), (4, .int a3), (5, .int a4)] := hl
  refine lv_iload_n hx hb dX7_add_0 rfl (lv_at hl 1 rfl) ?_
  by_cases k0 : okS (a0)
  · skip
    refine pw_calli hz (va_runS (As := [.int a0]) (rest := []) ⟨hx, hb, hml, hown, hts⟩ (c_isSlot_1 l D cJ cI cR b n _ _ (a0) k0) (va_cwS 1 hts gX7_add_X7_isSlot rfl rfl rfl (by decide +kernel) ⟨Nat.le_of_ble_eq_true rfl, Nat.le_of_ble_eq_true rfl⟩) hz.preS rfl rfl hl.1 rfl (lv_room (Nat.le_of_ble_eq_true rfl)) dX7_add_1 ⟨Nat.le_of_ble_eq_true rfl, Nat.le_of_ble_eq_true rfl⟩) (fun r_1 Ev H locs hp hz => ?_)
    obtain ⟨hr_1, hp⟩ := hp
    subst hr_1
    rw [hp] at hz
    refine lv_if_eq (tgt := 49) hx hb dX7_add_4 (by decide) (fun qw => ?_) (fun _ => ?_)
    · exact absurd qw (by decide)
    refine lv_iload_n hx hb dX7_add_7 rfl (lv_at hl 2 rfl) ?_
    by_cases k1 : okS (a1)
    · skip
      refine pw_calli hz (va_runS (As := [.int a1]) (rest := []) ⟨hx, hb, hml, hown, hts⟩ (c_isSlot_1 l D cJ cI cR b n _ _ (a1) k1) (va_cwS 1 hts gX7_add_X7_isSlot rfl rfl rfl (by decide +kernel) ⟨Nat.le_of_ble_eq_true rfl, Nat.le_of_ble_eq_true rfl⟩) hz.preS rfl rfl hl.1 rfl (lv_room (Nat.le_of_ble_eq_true rfl)) dX7_add_8 ⟨Nat.le_of_ble_eq_true rfl, Nat.le_of_ble_eq_true rfl⟩) (fun r_2 Ev H locs hp hz => ?_)
      obtain ⟨hr_2, hp⟩ := hp
      subst hr_2
      rw [hp] at hz
      refine lv_if_eq (tgt := 49) hx hb dX7_add_11 (by decide) (fun qw => ?_) (fun _ => ?_)
      · exact absurd qw (by decide)
      refine lv_iload_n hx hb dX7_add_14 rfl (lv_at hl 3 rfl) ?_
      by_cases k2 : okS (a2)
      · skip
        refine pw_calli hz (va_runS (As := [.int a2]) (rest := []) ⟨hx, hb, hml, hown, hts⟩ (c_isSlot_1 l D cJ cI cR b n _ _ (a2) k2) (va_cwS 1 hts gX7_add_X7_isSlot rfl rfl rfl (by decide +kernel) ⟨Nat.le_of_ble_eq_true rfl, Nat.le_of_ble_eq_true rfl⟩) hz.preS rfl rfl hl.1 rfl (lv_room (Nat.le_of_ble_eq_true rfl)) dX7_add_15 ⟨Nat.le_of_ble_eq_true rfl, Nat.le_of_ble_eq_true rfl⟩) (fun r_3 Ev H locs hp hz => ?_)
        obtain ⟨hr_3, hp⟩ := hp
        subst hr_3
        rw [hp] at hz
        refine lv_if_eq (tgt := 49) hx hb dX7_add_18 (by decide) (fun qw => ?_) (fun _ => ?_)
        · exact absurd qw (by decide)
        refine lv_iload hx hb dX7_add_21 (lv_at hl 4 rfl) ?_
        refine lv_bipush (v := (-10)) hx hb dX7_add_23 (by decide) ?_
        refine lv_bipush (v := 10) hx hb dX7_add_25 (by decide) ?_
        by_cases k3 : inI (a3) ((-10)) (10)
        · skip
          refine pw_calli hz (va_runS (As := [.int a3, .int (-10), .int 10]) (rest := []) ⟨hx, hb, hml, hown, hts⟩ (c_isIn_1 l D cJ cI cR b n _ _ (a3) ((-10)) (10) k3) (va_cwS 3 hts gX7_add_X7_isIn rfl rfl rfl (by decide +kernel) ⟨Nat.le_of_ble_eq_true rfl, Nat.le_of_ble_eq_true rfl⟩) hz.preS rfl rfl hl.1 rfl (lv_room (Nat.le_of_ble_eq_true rfl)) dX7_add_27 ⟨Nat.le_of_ble_eq_true rfl, Nat.le_of_ble_eq_true rfl⟩) (fun r_4 Ev H locs hp hz => ?_)
          obtain ⟨hr_4, hp⟩ := hp
          subst hr_4
          rw [hp] at hz
          refine lv_if_eq (tgt := 49) hx hb dX7_add_30 (by decide) (fun qw => ?_) (fun _ => ?_)
          · exact absurd qw (by decide)
          refine lv_iload hx hb dX7_add_33 (lv_at hl 5 rfl) ?_
          refine lv_bipush (v := (-10)) hx hb dX7_add_35 (by decide) ?_
          refine lv_bipush (v := 10) hx hb dX7_add_37 (by decide) ?_
          by_cases k4 : inI (a4) ((-10)) (10)
          · skip
            refine pw_calli hz (va_runS (As := [.int a4, .int (-10), .int 10]) (rest := []) ⟨hx, hb, hml, hown, hts⟩ (c_isIn_1 l D cJ cI cR b n _ _ (a4) ((-10)) (10) k4) (va_cwS 3 hts gX7_add_X7_isIn rfl rfl rfl (by decide +kernel) ⟨Nat.le_of_ble_eq_true rfl, Nat.le_of_ble_eq_true rfl⟩) hz.preS rfl rfl hl.1 rfl (lv_room (Nat.le_of_ble_eq_true rfl)) dX7_add_39 ⟨Nat.le_of_ble_eq_true rfl, Nat.le_of_ble_eq_true rfl⟩) (fun r_5 Ev H locs hp hz => ?_)
            obtain ⟨hr_5, hp⟩ := hp
            subst hr_5
            rw [hp] at hz
            refine lv_if_eq (tgt := 49) hx hb dX7_add_42 (by decide) (fun qw => ?_) (fun _ => ?_)
            · exact absurd qw (by decide)
            exact absurd ⟨k0, k1, k2, k3, k4⟩ h
          · skip
            refine pw_calli hz (va_runS (As := [.int a4, .int (-10), .int 10]) (rest := []) ⟨hx, hb, hml, hown, hts⟩ (c_isIn_0 l D cJ cI cR b n _ _ (a4) ((-10)) (10) k4) (va_cwS 3 hts gX7_add_X7_isIn rfl rfl rfl (by decide +kernel) ⟨Nat.le_of_ble_eq_true rfl, Nat.le_of_ble_eq_true rfl⟩) hz.preS rfl rfl hl.1 rfl (lv_room (Nat.le_of_ble_eq_true rfl)) dX7_add_39 ⟨Nat.le_of_ble_eq_true rfl, Nat.le_of_ble_eq_true rfl⟩) (fun r_6 Ev H locs hp hz => ?_)
            obtain ⟨hr_6, hp⟩ := hp
            subst hr_6
            rw [hp] at hz
            refine lv_if_eq (tgt := 49) hx hb dX7_add_42 (by decide) (fun _ => ?_) (fun qw => ?_)
            rotate_left
            · exact absurd rfl qw
            refine lv_iconst (v := 0) hx hb dX7_add_49 (by decide) ?_
            refine lv_istore (lv' := [(6, .int 0), (0, .ref a), (1, .int a0), (2, .int a1), (3, .int a2), (4, .int a3), (5, .int a4)]) hx hb dX7_add_50 hl (by decide) rfl (fun ls hl => ?_)
            refine lv_aload_n hx hb dX7_add_52 rfl (lv_at hl 1 rfl) ?_
            refine lv_iload hx hb dX7_add_53 (lv_at hl 0 rfl) ?_
            refine lv_if_eq (tgt := 62) hx hb dX7_add_55 (by decide) (fun _ => ?_) (fun qw => ?_)
            rotate_left
            · exact absurd rfl qw
            refine lv_iconst (v := 1) hx hb dX7_add_62 (by decide) ?_
            refine pw_calli hz (va_runV (As := [.int 1]) (rest := []) ⟨hx, hb, hml, hown, hts⟩ (c_refused_1 l D cJ cI cR b n _ _ a ref ha hm) (cwV 1 hts gX7_add_X7_refused rfl rfl rfl (by decide +kernel) ⟨Nat.le_of_ble_eq_true rfl, Nat.le_of_ble_eq_true rfl⟩) (hz.preV (by omega) hm rfl) rfl rfl hl.1 rfl (lv_room (Nat.le_of_ble_eq_true rfl)) dX7_add_63 ⟨Nat.le_of_ble_eq_true rfl, Nat.le_of_ble_eq_true rfl⟩) (fun r_7 Ev H locs hp hz => ?_)
            obtain ⟨hr_7, hp⟩ := hp
            subst hr_7
            rw [hp] at hz
            have hz : PS D vwCl (tys3 cJ cI cR) b n s (va_up E a (.inr (6, [.int 1, .ref (a + 1), .int 0, .int 0, .ref (a + 2), .ref (a + 3), .int 0, .int 0, .int 0, .ref (a + 4), .ref (a + 5), .int 0, .ref (a + 6), .ref (a + 7), .int 0, .int 0, .int 0, .int 0, .ref (a + 8), .int 0, .long 0, .long 0, .long 0, .int 0, .long 0]))) H locs := hz
            refine lv_if_eq (tgt := 71) hx hb dX7_add_66 (by decide) (fun qw => ?_) (fun _ => ?_)
            · exact absurd qw (by decide)
            refine lv_iconst (v := 0) hx hb dX7_add_69 (by decide) ?_
            exact pw_iret hx hb hret hlocks hz ⟨⟨_, va_up_self _ _ _⟩, fun q h => va_up_ne _ _ (by omega)⟩ dX7_add_70
        · skip
          refine pw_calli hz (va_runS (As := [.int a3, .int (-10), .int 10]) (rest := []) ⟨hx, hb, hml, hown, hts⟩ (c_isIn_0 l D cJ cI cR b n _ _ (a3) ((-10)) (10) k3) (va_cwS 3 hts gX7_add_X7_isIn rfl rfl rfl (by decide +kernel) ⟨Nat.le_of_ble_eq_true rfl, Nat.le_of_ble_eq_true rfl⟩) hz.preS rfl rfl hl.1 rfl (lv_room (Nat.le_of_ble_eq_true rfl)) dX7_add_27 ⟨Nat.le_of_ble_eq_true rfl, Nat.le_of_ble_eq_true rfl⟩) (fun r_8 Ev H locs hp hz => ?_)
          obtain ⟨hr_8, hp⟩ := hp
          subst hr_8
          rw [hp] at hz
          refine lv_if_eq (tgt := 49) hx hb dX7_add_30 (by decide) (fun _ => ?_) (fun qw => ?_)
          rotate_left
          · exact absurd rfl qw
          refine lv_iconst (v := 0) hx hb dX7_add_49 (by decide) ?_
          refine lv_istore (lv' := [(6, .int 0), (0, .ref a), (1, .int a0), (2, .int a1), (3, .int a2), (4, .int a3), (5, .int a4)]) hx hb dX7_add_50 hl (by decide) rfl (fun ls hl => ?_)
          refine lv_aload_n hx hb dX7_add_52 rfl (lv_at hl 1 rfl) ?_
          refine lv_iload hx hb dX7_add_53 (lv_at hl 0 rfl) ?_
          refine lv_if_eq (tgt := 62) hx hb dX7_add_55 (by decide) (fun _ => ?_) (fun qw => ?_)
          rotate_left
          · exact absurd rfl qw
          refine lv_iconst (v := 1) hx hb dX7_add_62 (by decide) ?_
          refine pw_calli hz (va_runV (As := [.int 1]) (rest := []) ⟨hx, hb, hml, hown, hts⟩ (c_refused_1 l D cJ cI cR b n _ _ a ref ha hm) (cwV 1 hts gX7_add_X7_refused rfl rfl rfl (by decide +kernel) ⟨Nat.le_of_ble_eq_true rfl, Nat.le_of_ble_eq_true rfl⟩) (hz.preV (by omega) hm rfl) rfl rfl hl.1 rfl (lv_room (Nat.le_of_ble_eq_true rfl)) dX7_add_63 ⟨Nat.le_of_ble_eq_true rfl, Nat.le_of_ble_eq_true rfl⟩) (fun r_9 Ev H locs hp hz => ?_)
          obtain ⟨hr_9, hp⟩ := hp
          subst hr_9
          rw [hp] at hz
          have hz : PS D vwCl (tys3 cJ cI cR) b n s (va_up E a (.inr (6, [.int 1, .ref (a + 1), .int 0, .int 0, .ref (a + 2), .ref (a + 3), .int 0, .int 0, .int 0, .ref (a + 4), .ref (a + 5), .int 0, .ref (a + 6), .ref (a + 7), .int 0, .int 0, .int 0, .int 0, .ref (a + 8), .int 0, .long 0, .long 0, .long 0, .int 0, .long 0]))) H locs := hz
          refine lv_if_eq (tgt := 71) hx hb dX7_add_66 (by decide) (fun qw => ?_) (fun _ => ?_)
          · exact absurd qw (by decide)
          refine lv_iconst (v := 0) hx hb dX7_add_69 (by decide) ?_
          exact pw_iret hx hb hret hlocks hz ⟨⟨_, va_up_self _ _ _⟩, fun q h => va_up_ne _ _ (by omega)⟩ dX7_add_70
      · skip
        refine pw_calli hz (va_runS (As := [.int a2]) (rest := []) ⟨hx, hb, hml, hown, hts⟩ (c_isSlot_0 l D cJ cI cR b n _ _ (a2) k2) (va_cwS 1 hts gX7_add_X7_isSlot rfl rfl rfl (by decide +kernel) ⟨Nat.le_of_ble_eq_true rfl, Nat.le_of_ble_eq_true rfl⟩) hz.preS rfl rfl hl.1 rfl (lv_room (Nat.le_of_ble_eq_true rfl)) dX7_add_15 ⟨Nat.le_of_ble_eq_true rfl, Nat.le_of_ble_eq_true rfl⟩) (fun r_10 Ev H locs hp hz => ?_)
        obtain ⟨hr_10, hp⟩ := hp
        subst hr_10
        rw [hp] at hz
        refine lv_if_eq (tgt := 49) hx hb dX7_add_18 (by decide) (fun _ => ?_) (fun qw => ?_)
        rotate_left
        · exact absurd rfl qw
        refine lv_iconst (v := 0) hx hb dX7_add_49 (by decide) ?_
        refine lv_istore (lv' := [(6, .int 0), (0, .ref a), (1, .int a0), (2, .int a1), (3, .int a2), (4, .int a3), (5, .int a4)]) hx hb dX7_add_50 hl (by decide) rfl (fun ls hl => ?_)
        refine lv_aload_n hx hb dX7_add_52 rfl (lv_at hl 1 rfl) ?_
        refine lv_iload hx hb dX7_add_53 (lv_at hl 0 rfl) ?_
        refine lv_if_eq (tgt := 62) hx hb dX7_add_55 (by decide) (fun _ => ?_) (fun qw => ?_)
        rotate_left
        · exact absurd rfl qw
        refine lv_iconst (v := 1) hx hb dX7_add_62 (by decide) ?_
        refine pw_calli hz (va_runV (As := [.int 1]) (rest := []) ⟨hx, hb, hml, hown, hts⟩ (c_refused_1 l D cJ cI cR b n _ _ a ref ha hm) (cwV 1 hts gX7_add_X7_refused rfl rfl rfl (by decide +kernel) ⟨Nat.le_of_ble_eq_true rfl, Nat.le_of_ble_eq_true rfl⟩) (hz.preV (by omega) hm rfl) rfl rfl hl.1 rfl (lv_room (Nat.le_of_ble_eq_true rfl)) dX7_add_63 ⟨Nat.le_of_ble_eq_true rfl, Nat.le_of_ble_eq_true rfl⟩) (fun r_11 Ev H locs hp hz => ?_)
        obtain ⟨hr_11, hp⟩ := hp
        subst hr_11
        rw [hp] at hz
        have hz : PS D vwCl (tys3 cJ cI cR) b n s (va_up E a (.inr (6, [.int 1, .ref (a + 1), .int 0, .int 0, .ref (a + 2), .ref (a + 3), .int 0, .int 0, .int 0, .ref (a + 4), .ref (a + 5), .int 0, .ref (a + 6), .ref (a + 7), .int 0, .int 0, .int 0, .int 0, .ref (a + 8), .int 0, .long 0, .long 0, .long 0, .int 0, .long 0]))) H locs := hz
        refine lv_if_eq (tgt := 71) hx hb dX7_add_66 (by decide) (fun qw => ?_) (fun _ => ?_)
        · exact absurd qw (by decide)
        refine lv_iconst (v := 0) hx hb dX7_add_69 (by decide) ?_
        exact pw_iret hx hb hret hlocks hz ⟨⟨_, va_up_self _ _ _⟩, fun q h => va_up_ne _ _ (by omega)⟩ dX7_add_70
    · skip
      refine pw_calli hz (va_runS (As := [.int a1]) (rest := []) ⟨hx, hb, hml, hown, hts⟩ (c_isSlot_0 l D cJ cI cR b n _ _ (a1) k1) (va_cwS 1 hts gX7_add_X7_isSlot rfl rfl rfl (by decide +kernel) ⟨Nat.le_of_ble_eq_true rfl, Nat.le_of_ble_eq_true rfl⟩) hz.preS rfl rfl hl.1 rfl (lv_room (Nat.le_of_ble_eq_true rfl)) dX7_add_8 ⟨Nat.le_of_ble_eq_true rfl, Nat.le_of_ble_eq_true rfl⟩) (fun r_12 Ev H locs hp hz => ?_)
      obtain ⟨hr_12, hp⟩ := hp
      subst hr_12
      rw [hp] at hz
      refine lv_if_eq (tgt := 49) hx hb dX7_add_11 (by decide) (fun _ => ?_) (fun qw => ?_)
      rotate_left
      · exact absurd rfl qw
      refine lv_iconst (v := 0) hx hb dX7_add_49 (by decide) ?_
      refine lv_istore (lv' := [(6, .int 0), (0, .ref a), (1, .int a0), (2, .int a1), (3, .int a2), (4, .int a3), (5, .int a4)]) hx hb dX7_add_50 hl (by decide) rfl (fun ls hl => ?_)
      refine lv_aload_n hx hb dX7_add_52 rfl (lv_at hl 1 rfl) ?_
      refine lv_iload hx hb dX7_add_53 (lv_at hl 0 rfl) ?_
      refine lv_if_eq (tgt := 62) hx hb dX7_add_55 (by decide) (fun _ => ?_) (fun qw => ?_)
      rotate_left
      · exact absurd rfl qw
      refine lv_iconst (v := 1) hx hb dX7_add_62 (by decide) ?_
      refine pw_calli hz (va_runV (As := [.int 1]) (rest := []) ⟨hx, hb, hml, hown, hts⟩ (c_refused_1 l D cJ cI cR b n _ _ a ref ha hm) (cwV 1 hts gX7_add_X7_refused rfl rfl rfl (by decide +kernel) ⟨Nat.le_of_ble_eq_true rfl, Nat.le_of_ble_eq_true rfl⟩) (hz.preV (by omega) hm rfl) rfl rfl hl.1 rfl (lv_room (Nat.le_of_ble_eq_true rfl)) dX7_add_63 ⟨Nat.le_of_ble_eq_true rfl, Nat.le_of_ble_eq_true rfl⟩) (fun r_13 Ev H locs hp hz => ?_)
      obtain ⟨hr_13, hp⟩ := hp
      subst hr_13
      rw [hp] at hz
      have hz : PS D vwCl (tys3 cJ cI cR) b n s (va_up E a (.inr (6, [.int 1, .ref (a + 1), .int 0, .int 0, .ref (a + 2), .ref (a + 3), .int 0, .int 0, .int 0, .ref (a + 4), .ref (a + 5), .int 0, .ref (a + 6), .ref (a + 7), .int 0, .int 0, .int 0, .int 0, .ref (a + 8), .int 0, .long 0, .long 0, .long 0, .int 0, .long 0]))) H locs := hz
      refine lv_if_eq (tgt := 71) hx hb dX7_add_66 (by decide) (fun qw => ?_) (fun _ => ?_)
      · exact absurd qw (by decide)
      refine lv_iconst (v := 0) hx hb dX7_add_69 (by decide) ?_
      exact pw_iret hx hb hret hlocks hz ⟨⟨_, va_up_self _ _ _⟩, fun q h => va_up_ne _ _ (by omega)⟩ dX7_add_70
  · skip
    refine pw_calli hz (va_runS (As := [.int a0]) (rest := []) ⟨hx, hb, hml, hown, hts⟩ (c_isSlot_0 l D cJ cI cR b n _ _ (a0) k0) (va_cwS 1 hts gX7_add_X7_isSlot rfl rfl rfl (by decide +kernel) ⟨Nat.le_of_ble_eq_true rfl, Nat.le_of_ble_eq_true rfl⟩) hz.preS rfl rfl hl.1 rfl (lv_room (Nat.le_of_ble_eq_true rfl)) dX7_add_1 ⟨Nat.le_of_ble_eq_true rfl, Nat.le_of_ble_eq_true rfl⟩) (fun r_14 Ev H locs hp hz => ?_)
    obtain ⟨hr_14, hp⟩ := hp
    subst hr_14
    rw [hp] at hz
    refine lv_if_eq (tgt := 49) hx hb dX7_add_4 (by decide) (fun _ => ?_) (fun qw => ?_)
    rotate_left
    · exact absurd rfl qw
    refine lv_iconst (v := 0) hx hb dX7_add_49 (by decide) ?_
    refine lv_istore (lv' := [(6, .int 0), (0, .ref a), (1, .int a0), (2, .int a1), (3, .int a2), (4, .int a3), (5, .int a4)]) hx hb dX7_add_50 hl (by decide) rfl (fun ls hl => ?_)
    refine lv_aload_n hx hb dX7_add_52 rfl (lv_at hl 1 rfl) ?_
    refine lv_iload hx hb dX7_add_53 (lv_at hl 0 rfl) ?_
    refine lv_if_eq (tgt := 62) hx hb dX7_add_55 (by decide) (fun _ => ?_) (fun qw => ?_)
    rotate_left
    · exact absurd rfl qw
    refine lv_iconst (v := 1) hx hb dX7_add_62 (by decide) ?_
    refine pw_calli hz (va_runV (As := [.int 1]) (rest := []) ⟨hx, hb, hml, hown, hts⟩ (c_refused_1 l D cJ cI cR b n _ _ a ref ha hm) (cwV 1 hts gX7_add_X7_refused rfl rfl rfl (by decide +kernel) ⟨Nat.le_of_ble_eq_true rfl, Nat.le_of_ble_eq_true rfl⟩) (hz.preV (by omega) hm rfl) rfl rfl hl.1 rfl (lv_room (Nat.le_of_ble_eq_true rfl)) dX7_add_63 ⟨Nat.le_of_ble_eq_true rfl, Nat.le_of_ble_eq_true rfl⟩) (fun r_15 Ev H locs hp hz => ?_)
    obtain ⟨hr_15, hp⟩ := hp
    subst hr_15
    rw [hp] at hz
    have hz : PS D vwCl (tys3 cJ cI cR) b n s (va_up E a (.inr (6, [.int 1, .ref (a + 1), .int 0, .int 0, .ref (a + 2), .ref (a + 3), .int 0, .int 0, .int 0, .ref (a + 4), .ref (a + 5), .int 0, .ref (a + 6), .ref (a + 7), .int 0, .int 0, .int 0, .int 0, .ref (a + 8), .int 0, .long 0, .long 0, .long 0, .int 0, .long 0]))) H locs := hz
    refine lv_if_eq (tgt := 71) hx hb dX7_add_66 (by decide) (fun qw => ?_) (fun _ => ?_)
    · exact absurd qw (by decide)
    refine lv_iconst (v := 0) hx hb dX7_add_69 (by decide) ?_
    exact pw_iret hx hb hret hlocks hz ⟨⟨_, va_up_self _ _ _⟩, fun q h => va_up_ne _ _ (by omega)⟩ dX7_add_70

set_option maxHeartbeats 400000 in
set_option maxRecDepth 100000 in
/-- multiply refused -/
theorem c_mmultiply_no (l : Launch) (D : va_G) (cJ cI cR : ClassId) (b n : Nat) (E : Nat → va_E) (sz : Nat) (a : Nat) (ref : Int32) (ha : b ≤ a ∧ a + 9 ≤ b + n) (hm : E a = modO a ref) (a0 : Int32) (a1 : Int32) (a2 : Int32) (h : ¬ (okS a0 ∧ okS a1 ∧ okS a2)) : Met l yX7_multiply wsX7_multiply { frames := 1, cells := 0, slots := 0, locals := 22 } (cP D vwCl (tys3 cJ cI cR) b n E sz [.ref a, .int a0, .int a1, .int a2]) (cQi D vwCl (tys3 cJ cI cR) b n (fun _ E' => (∃ fs, E' a = .inr (6, .int 1 :: fs)) ∧ ∀ q, q < a ∨ a + 9 ≤ q → E' q = E q)) 0 0 (PA b) := by
  refine Met.ofW (cc := cX7_multiply) (maxL := 6) (ret := (some .int)) (by decide) rfl ?_
  intro p e s m args below meth c s₁ B hml hv
  obtain ⟨rfl, hsz, hB⟩ := hv
  have hx := B.exec
  have hb := B.bytes
  have hret := B.returns
  have hts := atoms_spec (ws := wsX7_multiply) B.pre
  have hown : s.vm.findClass RX7 = some m.cls := findClass_of_methodNamed B.named
  have hlocks := B.notSynchronized
  subst hsz
  have hz := PS.start hB
  have hl := lv_entry ([.ref a, .int a0, .int a1, .int a2]) (n := 6) (Nat.le_of_ble_eq_true rfl)
  rw [lg_entry_eq]
  generalize (lg_sl ([.ref a, .int a0, .int a1, .int a2]) ++ List.replicate (6 - (lg_sl ([.ref a, .int a0, .int a1, .int a2])).length) Slot.unset).toArray = ls at hl ⊢
  have hl : lv_has ls 6 [(0, .ref a), (1, .int a0), (2, .int a1), (3, .int a2)] := hl
  refine lv_aload_n hx hb dX7_multiply_0 rfl (lv_at hl 0 rfl) ?_
  refine lv_iload_n hx hb dX7_multiply_1 rfl (lv_at hl 1 rfl) ?_
  by_cases k0 : okS (a0)
  · skip
    refine pw_calli hz (va_runS (As := [.int a0]) (rest := [.ref a]) ⟨hx, hb, hml, hown, hts⟩ (c_isSlot_1 l D cJ cI cR b n _ _ (a0) k0) (va_cwS 1 hts gX7_multiply_X7_isSlot rfl rfl rfl (by decide +kernel) ⟨Nat.le_of_ble_eq_true rfl, Nat.le_of_ble_eq_true rfl⟩) hz.preS rfl rfl hl.1 rfl (lv_room (Nat.le_of_ble_eq_true rfl)) dX7_multiply_2 ⟨Nat.le_of_ble_eq_true rfl, Nat.le_of_ble_eq_true rfl⟩) (fun r_1 Ev H locs hp hz => ?_)
    obtain ⟨hr_1, hp⟩ := hp
    subst hr_1
    rw [hp] at hz
    refine lv_if_eq (tgt := 26) hx hb dX7_multiply_5 (by decide) (fun qw => ?_) (fun _ => ?_)
    · exact absurd qw (by decide)
    refine lv_iload_n hx hb dX7_multiply_8 rfl (lv_at hl 2 rfl) ?_
    by_cases k1 : okS (a1)
    · skip
      refine pw_calli hz (va_runS (As := [.int a1]) (rest := [.ref a]) ⟨hx, hb, hml, hown, hts⟩ (c_isSlot_1 l D cJ cI cR b n _ _ (a1) k1) (va_cwS 1 hts gX7_multiply_X7_isSlot rfl rfl rfl (by decide +kernel) ⟨Nat.le_of_ble_eq_true rfl, Nat.le_of_ble_eq_true rfl⟩) hz.preS rfl rfl hl.1 rfl (lv_room (Nat.le_of_ble_eq_true rfl)) dX7_multiply_9 ⟨Nat.le_of_ble_eq_true rfl, Nat.le_of_ble_eq_true rfl⟩) (fun r_2 Ev H locs hp hz => ?_)
      obtain ⟨hr_2, hp⟩ := hp
      subst hr_2
      rw [hp] at hz
      refine lv_if_eq (tgt := 26) hx hb dX7_multiply_12 (by decide) (fun qw => ?_) (fun _ => ?_)
      · exact absurd qw (by decide)
      refine lv_iload_n hx hb dX7_multiply_15 rfl (lv_at hl 3 rfl) ?_
      by_cases k2 : okS (a2)
      · skip
        refine pw_calli hz (va_runS (As := [.int a2]) (rest := [.ref a]) ⟨hx, hb, hml, hown, hts⟩ (c_isSlot_1 l D cJ cI cR b n _ _ (a2) k2) (va_cwS 1 hts gX7_multiply_X7_isSlot rfl rfl rfl (by decide +kernel) ⟨Nat.le_of_ble_eq_true rfl, Nat.le_of_ble_eq_true rfl⟩) hz.preS rfl rfl hl.1 rfl (lv_room (Nat.le_of_ble_eq_true rfl)) dX7_multiply_16 ⟨Nat.le_of_ble_eq_true rfl, Nat.le_of_ble_eq_true rfl⟩) (fun r_3 Ev H locs hp hz => ?_)
        obtain ⟨hr_3, hp⟩ := hp
        subst hr_3
        rw [hp] at hz
        refine lv_if_eq (tgt := 26) hx hb dX7_multiply_19 (by decide) (fun qw => ?_) (fun _ => ?_)
        · exact absurd qw (by decide)
        exact absurd ⟨k0, k1, k2⟩ h
      · skip
        refine pw_calli hz (va_runS (As := [.int a2]) (rest := [.ref a]) ⟨hx, hb, hml, hown, hts⟩ (c_isSlot_0 l D cJ cI cR b n _ _ (a2) k2) (va_cwS 1 hts gX7_multiply_X7_isSlot rfl rfl rfl (by decide +kernel) ⟨Nat.le_of_ble_eq_true rfl, Nat.le_of_ble_eq_true rfl⟩) hz.preS rfl rfl hl.1 rfl (lv_room (Nat.le_of_ble_eq_true rfl)) dX7_multiply_16 ⟨Nat.le_of_ble_eq_true rfl, Nat.le_of_ble_eq_true rfl⟩) (fun r_4 Ev H locs hp hz => ?_)
        obtain ⟨hr_4, hp⟩ := hp
        subst hr_4
        rw [hp] at hz
        refine lv_if_eq (tgt := 26) hx hb dX7_multiply_19 (by decide) (fun _ => ?_) (fun qw => ?_)
        rotate_left
        · exact absurd rfl qw
        refine lv_iconst (v := 1) hx hb dX7_multiply_26 (by decide) ?_
        refine pw_calli hz (va_runV (As := [.int 1]) (rest := []) ⟨hx, hb, hml, hown, hts⟩ (c_refused_1 l D cJ cI cR b n _ _ a ref ha hm) (cwV 1 hts gX7_multiply_X7_refused rfl rfl rfl (by decide +kernel) ⟨Nat.le_of_ble_eq_true rfl, Nat.le_of_ble_eq_true rfl⟩) (hz.preV (by omega) hm rfl) rfl rfl hl.1 rfl (lv_room (Nat.le_of_ble_eq_true rfl)) dX7_multiply_27 ⟨Nat.le_of_ble_eq_true rfl, Nat.le_of_ble_eq_true rfl⟩) (fun r_5 Ev H locs hp hz => ?_)
        obtain ⟨hr_5, hp⟩ := hp
        subst hr_5
        rw [hp] at hz
        have hz : PS D vwCl (tys3 cJ cI cR) b n s (va_up E a (.inr (6, [.int 1, .ref (a + 1), .int 0, .int 0, .ref (a + 2), .ref (a + 3), .int 0, .int 0, .int 0, .ref (a + 4), .ref (a + 5), .int 0, .ref (a + 6), .ref (a + 7), .int 0, .int 0, .int 0, .int 0, .ref (a + 8), .int 0, .long 0, .long 0, .long 0, .int 0, .long 0]))) H locs := hz
        refine lv_if_eq (tgt := 35) hx hb dX7_multiply_30 (by decide) (fun qw => ?_) (fun _ => ?_)
        · exact absurd qw (by decide)
        refine lv_iconst (v := 0) hx hb dX7_multiply_33 (by decide) ?_
        exact pw_iret hx hb hret hlocks hz ⟨⟨_, va_up_self _ _ _⟩, fun q h => va_up_ne _ _ (by omega)⟩ dX7_multiply_34
    · skip
      refine pw_calli hz (va_runS (As := [.int a1]) (rest := [.ref a]) ⟨hx, hb, hml, hown, hts⟩ (c_isSlot_0 l D cJ cI cR b n _ _ (a1) k1) (va_cwS 1 hts gX7_multiply_X7_isSlot rfl rfl rfl (by decide +kernel) ⟨Nat.le_of_ble_eq_true rfl, Nat.le_of_ble_eq_true rfl⟩) hz.preS rfl rfl hl.1 rfl (lv_room (Nat.le_of_ble_eq_true rfl)) dX7_multiply_9 ⟨Nat.le_of_ble_eq_true rfl, Nat.le_of_ble_eq_true rfl⟩) (fun r_6 Ev H locs hp hz => ?_)
      obtain ⟨hr_6, hp⟩ := hp
      subst hr_6
      rw [hp] at hz
      refine lv_if_eq (tgt := 26) hx hb dX7_multiply_12 (by decide) (fun _ => ?_) (fun qw => ?_)
      rotate_left
      · exact absurd rfl qw
      refine lv_iconst (v := 1) hx hb dX7_multiply_26 (by decide) ?_
      refine pw_calli hz (va_runV (As := [.int 1]) (rest := []) ⟨hx, hb, hml, hown, hts⟩ (c_refused_1 l D cJ cI cR b n _ _ a ref ha hm) (cwV 1 hts gX7_multiply_X7_refused rfl rfl rfl (by decide +kernel) ⟨Nat.le_of_ble_eq_true rfl, Nat.le_of_ble_eq_true rfl⟩) (hz.preV (by omega) hm rfl) rfl rfl hl.1 rfl (lv_room (Nat.le_of_ble_eq_true rfl)) dX7_multiply_27 ⟨Nat.le_of_ble_eq_true rfl, Nat.le_of_ble_eq_true rfl⟩) (fun r_7 Ev H locs hp hz => ?_)
      obtain ⟨hr_7, hp⟩ := hp
      subst hr_7
      rw [hp] at hz
      have hz : PS D vwCl (tys3 cJ cI cR) b n s (va_up E a (.inr (6, [.int 1, .ref (a + 1), .int 0, .int 0, .ref (a + 2), .ref (a + 3), .int 0, .int 0, .int 0, .ref (a + 4), .ref (a + 5), .int 0, .ref (a + 6), .ref (a + 7), .int 0, .int 0, .int 0, .int 0, .ref (a + 8), .int 0, .long 0, .long 0, .long 0, .int 0, .long 0]))) H locs := hz
      refine lv_if_eq (tgt := 35) hx hb dX7_multiply_30 (by decide) (fun qw => ?_) (fun _ => ?_)
      · exact absurd qw (by decide)
      refine lv_iconst (v := 0) hx hb dX7_multiply_33 (by decide) ?_
      exact pw_iret hx hb hret hlocks hz ⟨⟨_, va_up_self _ _ _⟩, fun q h => va_up_ne _ _ (by omega)⟩ dX7_multiply_34
  · skip
    refine pw_calli hz (va_runS (As := [.int a0]) (rest := [.ref a]) ⟨hx, hb, hml, hown, hts⟩ (c_isSlot_0 l D cJ cI cR b n _ _ (a0) k0) (va_cwS 1 hts gX7_multiply_X7_isSlot rfl rfl rfl (by decide +kernel) ⟨Nat.le_of_ble_eq_true rfl, Nat.le_of_ble_eq_true rfl⟩) hz.preS rfl rfl hl.1 rfl (lv_room (Nat.le_of_ble_eq_true rfl)) dX7_multiply_2 ⟨Nat.le_of_ble_eq_true rfl, Nat.le_of_ble_eq_true rfl⟩) (fun r_8 Ev H locs hp hz => ?_)
    obtain ⟨hr_8, hp⟩ := hp
    subst hr_8
    rw [hp] at hz
    refine lv_if_eq (tgt := 26) hx hb dX7_multiply_5 (by decide) (fun _ => ?_) (fun qw => ?_)
    rotate_left
    · exact absurd rfl qw
    refine lv_iconst (v := 1) hx hb dX7_multiply_26 (by decide) ?_
    refine pw_calli hz (va_runV (As := [.int 1]) (rest := []) ⟨hx, hb, hml, hown, hts⟩ (c_refused_1 l D cJ cI cR b n _ _ a ref ha hm) (cwV 1 hts gX7_multiply_X7_refused rfl rfl rfl (by decide +kernel) ⟨Nat.le_of_ble_eq_true rfl, Nat.le_of_ble_eq_true rfl⟩) (hz.preV (by omega) hm rfl) rfl rfl hl.1 rfl (lv_room (Nat.le_of_ble_eq_true rfl)) dX7_multiply_27 ⟨Nat.le_of_ble_eq_true rfl, Nat.le_of_ble_eq_true rfl⟩) (fun r_9 Ev H locs hp hz => ?_)
    obtain ⟨hr_9, hp⟩ := hp
    subst hr_9
    rw [hp] at hz
    have hz : PS D vwCl (tys3 cJ cI cR) b n s (va_up E a (.inr (6, [.int 1, .ref (a + 1), .int 0, .int 0, .ref (a + 2), .ref (a + 3), .int 0, .int 0, .int 0, .ref (a + 4), .ref (a + 5), .int 0, .ref (a + 6), .ref (a + 7), .int 0, .int 0, .int 0, .int 0, .ref (a + 8), .int 0, .long 0, .long 0, .long 0, .int 0, .long 0]))) H locs := hz
    refine lv_if_eq (tgt := 35) hx hb dX7_multiply_30 (by decide) (fun qw => ?_) (fun _ => ?_)
    · exact absurd qw (by decide)
    refine lv_iconst (v := 0) hx hb dX7_multiply_33 (by decide) ?_
    exact pw_iret hx hb hret hlocks hz ⟨⟨_, va_up_self _ _ _⟩, fun q h => va_up_ne _ _ (by omega)⟩ dX7_multiply_34

set_option maxHeartbeats 400000 in
set_option maxRecDepth 100000 in
/-- divide refused -/
theorem c_mdivide_no (l : Launch) (D : va_G) (cJ cI cR : ClassId) (b n : Nat) (E : Nat → va_E) (sz : Nat) (a : Nat) (ref : Int32) (ha : b ≤ a ∧ a + 9 ≤ b + n) (hm : E a = modO a ref) (a0 : Int32) (a1 : Int32) (a2 : Int32) (h : ¬ (okS a0 ∧ okS a1 ∧ okS a2)) : Met l yX7_divide wsX7_divide { frames := 1, cells := 0, slots := 0, locals := 22 } (cP D vwCl (tys3 cJ cI cR) b n E sz [.ref a, .int a0, .int a1, .int a2]) (cQi D vwCl (tys3 cJ cI cR) b n (fun _ E' => (∃ fs, E' a = .inr (6, .int 1 :: fs)) ∧ ∀ q, q < a ∨ a + 9 ≤ q → E' q = E q)) 0 0 (PA b) := by
  refine Met.ofW (cc := cX7_divide) (maxL := 4) (ret := (some .int)) (by decide) rfl ?_
  intro p e s m args below meth c s₁ B hml hv
  obtain ⟨rfl, hsz, hB⟩ := hv
  have hx := B.exec
  have hb := B.bytes
  have hret := B.returns
  have hts := atoms_spec (ws := wsX7_divide) B.pre
  have hown : s.vm.findClass RX7 = some m.cls := findClass_of_methodNamed B.named
  have hlocks := B.notSynchronized
  subst hsz
  have hz := PS.start hB
  have hl := lv_entry ([.ref a, .int a0, .int a1, .int a2]) (n := 4) (Nat.le_of_ble_eq_true rfl)
  rw [lg_entry_eq]
  generalize (lg_sl ([.ref a, .int a0, .int a1, .int a2]) ++ List.replicate (4 - (lg_sl ([.ref a, .int a0, .int a1, .int a2])).length) Slot.unset).toArray = ls at hl ⊢
  have hl : lv_has ls 4 [(0, .ref a), (1, .int a0), (2, .int a1), (3, .int a2)] := hl
  refine lv_aload_n hx hb dX7_divide_0 rfl (lv_at hl 0 rfl) ?_
  refine lv_iload_n hx hb dX7_divide_1 rfl (lv_at hl 1 rfl) ?_
  by_cases k0 : okS (a0)
  · skip
    refine pw_calli hz (va_runS (As := [.int a0]) (rest := [.ref a]) ⟨hx, hb, hml, hown, hts⟩ (c_isSlot_1 l D cJ cI cR b n _ _ (a0) k0) (va_cwS 1 hts gX7_divide_X7_isSlot rfl rfl rfl (by decide +kernel) ⟨Nat.le_of_ble_eq_true rfl, Nat.le_of_ble_eq_true rfl⟩) hz.preS rfl rfl hl.1 rfl (lv_room (Nat.le_of_ble_eq_true rfl)) dX7_divide_2 ⟨Nat.le_of_ble_eq_true rfl, Nat.le_of_ble_eq_true rfl⟩) (fun r_1 Ev H locs hp hz => ?_)
    obtain ⟨hr_1, hp⟩ := hp
    subst hr_1
    rw [hp] at hz
    refine lv_if_eq (tgt := 26) hx hb dX7_divide_5 (by decide) (fun qw => ?_) (fun _ => ?_)
    · exact absurd qw (by decide)
    refine lv_iload_n hx hb dX7_divide_8 rfl (lv_at hl 2 rfl) ?_
    by_cases k1 : okS (a1)
    · skip
      refine pw_calli hz (va_runS (As := [.int a1]) (rest := [.ref a]) ⟨hx, hb, hml, hown, hts⟩ (c_isSlot_1 l D cJ cI cR b n _ _ (a1) k1) (va_cwS 1 hts gX7_divide_X7_isSlot rfl rfl rfl (by decide +kernel) ⟨Nat.le_of_ble_eq_true rfl, Nat.le_of_ble_eq_true rfl⟩) hz.preS rfl rfl hl.1 rfl (lv_room (Nat.le_of_ble_eq_true rfl)) dX7_divide_9 ⟨Nat.le_of_ble_eq_true rfl, Nat.le_of_ble_eq_true rfl⟩) (fun r_2 Ev H locs hp hz => ?_)
      obtain ⟨hr_2, hp⟩ := hp
      subst hr_2
      rw [hp] at hz
      refine lv_if_eq (tgt := 26) hx hb dX7_divide_12 (by decide) (fun qw => ?_) (fun _ => ?_)
      · exact absurd qw (by decide)
      refine lv_iload_n hx hb dX7_divide_15 rfl (lv_at hl 3 rfl) ?_
      by_cases k2 : okS (a2)
      · skip
        refine pw_calli hz (va_runS (As := [.int a2]) (rest := [.ref a]) ⟨hx, hb, hml, hown, hts⟩ (c_isSlot_1 l D cJ cI cR b n _ _ (a2) k2) (va_cwS 1 hts gX7_divide_X7_isSlot rfl rfl rfl (by decide +kernel) ⟨Nat.le_of_ble_eq_true rfl, Nat.le_of_ble_eq_true rfl⟩) hz.preS rfl rfl hl.1 rfl (lv_room (Nat.le_of_ble_eq_true rfl)) dX7_divide_16 ⟨Nat.le_of_ble_eq_true rfl, Nat.le_of_ble_eq_true rfl⟩) (fun r_3 Ev H locs hp hz => ?_)
        obtain ⟨hr_3, hp⟩ := hp
        subst hr_3
        rw [hp] at hz
        refine lv_if_eq (tgt := 26) hx hb dX7_divide_19 (by decide) (fun qw => ?_) (fun _ => ?_)
        · exact absurd qw (by decide)
        exact absurd ⟨k0, k1, k2⟩ h
      · skip
        refine pw_calli hz (va_runS (As := [.int a2]) (rest := [.ref a]) ⟨hx, hb, hml, hown, hts⟩ (c_isSlot_0 l D cJ cI cR b n _ _ (a2) k2) (va_cwS 1 hts gX7_divide_X7_isSlot rfl rfl rfl (by decide +kernel) ⟨Nat.le_of_ble_eq_true rfl, Nat.le_of_ble_eq_true rfl⟩) hz.preS rfl rfl hl.1 rfl (lv_room (Nat.le_of_ble_eq_true rfl)) dX7_divide_16 ⟨Nat.le_of_ble_eq_true rfl, Nat.le_of_ble_eq_true rfl⟩) (fun r_4 Ev H locs hp hz => ?_)
        obtain ⟨hr_4, hp⟩ := hp
        subst hr_4
        rw [hp] at hz
        refine lv_if_eq (tgt := 26) hx hb dX7_divide_19 (by decide) (fun _ => ?_) (fun qw => ?_)
        rotate_left
        · exact absurd rfl qw
        refine lv_iconst (v := 1) hx hb dX7_divide_26 (by decide) ?_
        refine pw_calli hz (va_runV (As := [.int 1]) (rest := []) ⟨hx, hb, hml, hown, hts⟩ (c_refused_1 l D cJ cI cR b n _ _ a ref ha hm) (cwV 1 hts gX7_divide_X7_refused rfl rfl rfl (by decide +kernel) ⟨Nat.le_of_ble_eq_true rfl, Nat.le_of_ble_eq_true rfl⟩) (hz.preV (by omega) hm rfl) rfl rfl hl.1 rfl (lv_room (Nat.le_of_ble_eq_true rfl)) dX7_divide_27 ⟨Nat.le_of_ble_eq_true rfl, Nat.le_of_ble_eq_true rfl⟩) (fun r_5 Ev H locs hp hz => ?_)
        obtain ⟨hr_5, hp⟩ := hp
        subst hr_5
        rw [hp] at hz
        have hz : PS D vwCl (tys3 cJ cI cR) b n s (va_up E a (.inr (6, [.int 1, .ref (a + 1), .int 0, .int 0, .ref (a + 2), .ref (a + 3), .int 0, .int 0, .int 0, .ref (a + 4), .ref (a + 5), .int 0, .ref (a + 6), .ref (a + 7), .int 0, .int 0, .int 0, .int 0, .ref (a + 8), .int 0, .long 0, .long 0, .long 0, .int 0, .long 0]))) H locs := hz
        refine lv_if_eq (tgt := 35) hx hb dX7_divide_30 (by decide) (fun qw => ?_) (fun _ => ?_)
        · exact absurd qw (by decide)
        refine lv_iconst (v := 0) hx hb dX7_divide_33 (by decide) ?_
        exact pw_iret hx hb hret hlocks hz ⟨⟨_, va_up_self _ _ _⟩, fun q h => va_up_ne _ _ (by omega)⟩ dX7_divide_34
    · skip
      refine pw_calli hz (va_runS (As := [.int a1]) (rest := [.ref a]) ⟨hx, hb, hml, hown, hts⟩ (c_isSlot_0 l D cJ cI cR b n _ _ (a1) k1) (va_cwS 1 hts gX7_divide_X7_isSlot rfl rfl rfl (by decide +kernel) ⟨Nat.le_of_ble_eq_true rfl, Nat.le_of_ble_eq_true rfl⟩) hz.preS rfl rfl hl.1 rfl (lv_room (Nat.le_of_ble_eq_true rfl)) dX7_divide_9 ⟨Nat.le_of_ble_eq_true rfl, Nat.le_of_ble_eq_true rfl⟩) (fun r_6 Ev H locs hp hz => ?_)
      obtain ⟨hr_6, hp⟩ := hp
      subst hr_6
      rw [hp] at hz
      refine lv_if_eq (tgt := 26) hx hb dX7_divide_12 (by decide) (fun _ => ?_) (fun qw => ?_)
      rotate_left
      · exact absurd rfl qw
      refine lv_iconst (v := 1) hx hb dX7_divide_26 (by decide) ?_
      refine pw_calli hz (va_runV (As := [.int 1]) (rest := []) ⟨hx, hb, hml, hown, hts⟩ (c_refused_1 l D cJ cI cR b n _ _ a ref ha hm) (cwV 1 hts gX7_divide_X7_refused rfl rfl rfl (by decide +kernel) ⟨Nat.le_of_ble_eq_true rfl, Nat.le_of_ble_eq_true rfl⟩) (hz.preV (by omega) hm rfl) rfl rfl hl.1 rfl (lv_room (Nat.le_of_ble_eq_true rfl)) dX7_divide_27 ⟨Nat.le_of_ble_eq_true rfl, Nat.le_of_ble_eq_true rfl⟩) (fun r_7 Ev H locs hp hz => ?_)
      obtain ⟨hr_7, hp⟩ := hp
      subst hr_7
      rw [hp] at hz
      have hz : PS D vwCl (tys3 cJ cI cR) b n s (va_up E a (.inr (6, [.int 1, .ref (a + 1), .int 0, .int 0, .ref (a + 2), .ref (a + 3), .int 0, .int 0, .int 0, .ref (a + 4), .ref (a + 5), .int 0, .ref (a + 6), .ref (a + 7), .int 0, .int 0, .int 0, .int 0, .ref (a + 8), .int 0, .long 0, .long 0, .long 0, .int 0, .long 0]))) H locs := hz
      refine lv_if_eq (tgt := 35) hx hb dX7_divide_30 (by decide) (fun qw => ?_) (fun _ => ?_)
      · exact absurd qw (by decide)
      refine lv_iconst (v := 0) hx hb dX7_divide_33 (by decide) ?_
      exact pw_iret hx hb hret hlocks hz ⟨⟨_, va_up_self _ _ _⟩, fun q h => va_up_ne _ _ (by omega)⟩ dX7_divide_34
  · skip
    refine pw_calli hz (va_runS (As := [.int a0]) (rest := [.ref a]) ⟨hx, hb, hml, hown, hts⟩ (c_isSlot_0 l D cJ cI cR b n _ _ (a0) k0) (va_cwS 1 hts gX7_divide_X7_isSlot rfl rfl rfl (by decide +kernel) ⟨Nat.le_of_ble_eq_true rfl, Nat.le_of_ble_eq_true rfl⟩) hz.preS rfl rfl hl.1 rfl (lv_room (Nat.le_of_ble_eq_true rfl)) dX7_divide_2 ⟨Nat.le_of_ble_eq_true rfl, Nat.le_of_ble_eq_true rfl⟩) (fun r_8 Ev H locs hp hz => ?_)
    obtain ⟨hr_8, hp⟩ := hp
    subst hr_8
    rw [hp] at hz
    refine lv_if_eq (tgt := 26) hx hb dX7_divide_5 (by decide) (fun _ => ?_) (fun qw => ?_)
    rotate_left
    · exact absurd rfl qw
    refine lv_iconst (v := 1) hx hb dX7_divide_26 (by decide) ?_
    refine pw_calli hz (va_runV (As := [.int 1]) (rest := []) ⟨hx, hb, hml, hown, hts⟩ (c_refused_1 l D cJ cI cR b n _ _ a ref ha hm) (cwV 1 hts gX7_divide_X7_refused rfl rfl rfl (by decide +kernel) ⟨Nat.le_of_ble_eq_true rfl, Nat.le_of_ble_eq_true rfl⟩) (hz.preV (by omega) hm rfl) rfl rfl hl.1 rfl (lv_room (Nat.le_of_ble_eq_true rfl)) dX7_divide_27 ⟨Nat.le_of_ble_eq_true rfl, Nat.le_of_ble_eq_true rfl⟩) (fun r_9 Ev H locs hp hz => ?_)
    obtain ⟨hr_9, hp⟩ := hp
    subst hr_9
    rw [hp] at hz
    have hz : PS D vwCl (tys3 cJ cI cR) b n s (va_up E a (.inr (6, [.int 1, .ref (a + 1), .int 0, .int 0, .ref (a + 2), .ref (a + 3), .int 0, .int 0, .int 0, .ref (a + 4), .ref (a + 5), .int 0, .ref (a + 6), .ref (a + 7), .int 0, .int 0, .int 0, .int 0, .ref (a + 8), .int 0, .long 0, .long 0, .long 0, .int 0, .long 0]))) H locs := hz
    refine lv_if_eq (tgt := 35) hx hb dX7_divide_30 (by decide) (fun qw => ?_) (fun _ => ?_)
    · exact absurd qw (by decide)
    refine lv_iconst (v := 0) hx hb dX7_divide_33 (by decide) ?_
    exact pw_iret hx hb hret hlocks hz ⟨⟨_, va_up_self _ _ _⟩, fun q h => va_up_ne _ _ (by omega)⟩ dX7_divide_34

set_option maxHeartbeats 400000 in
set_option maxRecDepth 100000 in
/-- common refused -/
theorem c_mcommon_no (l : Launch) (D : va_G) (cJ cI cR : ClassId) (b n : Nat) (E : Nat → va_E) (sz : Nat) (a : Nat) (ref : Int32) (ha : b ≤ a ∧ a + 9 ≤ b + n) (hm : E a = modO a ref) (a0 : Int32) (a1 : Int32) (a2 : Int32) (h : ¬ (okS a0 ∧ okS a1 ∧ okS a2)) : Met l yX7_common wsX7_common { frames := 1, cells := 0, slots := 0, locals := 22 } (cP D vwCl (tys3 cJ cI cR) b n E sz [.ref a, .int a0, .int a1, .int a2]) (cQi D vwCl (tys3 cJ cI cR) b n (fun _ E' => (∃ fs, E' a = .inr (6, .int 1 :: fs)) ∧ ∀ q, q < a ∨ a + 9 ≤ q → E' q = E q)) 0 0 (PA b) := by
  refine Met.ofW (cc := cX7_common) (maxL := 9) (ret := (some .int)) (by decide) rfl ?_
  intro p e s m args below meth c s₁ B hml hv
  obtain ⟨rfl, hsz, hB⟩ := hv
  have hx := B.exec
  have hb := B.bytes
  have hret := B.returns
  have hts := atoms_spec (ws := wsX7_common) B.pre
  have hown : s.vm.findClass RX7 = some m.cls := findClass_of_methodNamed B.named
  have hlocks := B.notSynchronized
  subst hsz
  have hz := PS.start hB
  have hl := lv_entry ([.ref a, .int a0, .int a1, .int a2]) (n := 9) (Nat.le_of_ble_eq_true rfl)
  rw [lg_entry_eq]
  generalize (lg_sl ([.ref a, .int a0, .int a1, .int a2]) ++ List.replicate (9 - (lg_sl ([.ref a, .int a0, .int a1, .int a2])).length) Slot.unset).toArray = ls at hl ⊢
  have hl : lv_has ls 9 [(0, .ref a), (1, .int a0), (2, .int a1), (3, .int a2)] := hl
  refine lv_aload_n hx hb dX7_common_0 rfl (lv_at hl 0 rfl) ?_
  refine lv_iload_n hx hb dX7_common_1 rfl (lv_at hl 1 rfl) ?_
  by_cases k0 : okS (a0)
  · skip
    refine pw_calli hz (va_runS (As := [.int a0]) (rest := [.ref a]) ⟨hx, hb, hml, hown, hts⟩ (c_isSlot_1 l D cJ cI cR b n _ _ (a0) k0) (va_cwS 1 hts gX7_common_X7_isSlot rfl rfl rfl (by decide +kernel) ⟨Nat.le_of_ble_eq_true rfl, Nat.le_of_ble_eq_true rfl⟩) hz.preS rfl rfl hl.1 rfl (lv_room (Nat.le_of_ble_eq_true rfl)) dX7_common_2 ⟨Nat.le_of_ble_eq_true rfl, Nat.le_of_ble_eq_true rfl⟩) (fun r_1 Ev H locs hp hz => ?_)
    obtain ⟨hr_1, hp⟩ := hp
    subst hr_1
    rw [hp] at hz
    refine lv_if_eq (tgt := 26) hx hb dX7_common_5 (by decide) (fun qw => ?_) (fun _ => ?_)
    · exact absurd qw (by decide)
    refine lv_iload_n hx hb dX7_common_8 rfl (lv_at hl 2 rfl) ?_
    by_cases k1 : okS (a1)
    · skip
      refine pw_calli hz (va_runS (As := [.int a1]) (rest := [.ref a]) ⟨hx, hb, hml, hown, hts⟩ (c_isSlot_1 l D cJ cI cR b n _ _ (a1) k1) (va_cwS 1 hts gX7_common_X7_isSlot rfl rfl rfl (by decide +kernel) ⟨Nat.le_of_ble_eq_true rfl, Nat.le_of_ble_eq_true rfl⟩) hz.preS rfl rfl hl.1 rfl (lv_room (Nat.le_of_ble_eq_true rfl)) dX7_common_9 ⟨Nat.le_of_ble_eq_true rfl, Nat.le_of_ble_eq_true rfl⟩) (fun r_2 Ev H locs hp hz => ?_)
      obtain ⟨hr_2, hp⟩ := hp
      subst hr_2
      rw [hp] at hz
      refine lv_if_eq (tgt := 26) hx hb dX7_common_12 (by decide) (fun qw => ?_) (fun _ => ?_)
      · exact absurd qw (by decide)
      refine lv_iload_n hx hb dX7_common_15 rfl (lv_at hl 3 rfl) ?_
      by_cases k2 : okS (a2)
      · skip
        refine pw_calli hz (va_runS (As := [.int a2]) (rest := [.ref a]) ⟨hx, hb, hml, hown, hts⟩ (c_isSlot_1 l D cJ cI cR b n _ _ (a2) k2) (va_cwS 1 hts gX7_common_X7_isSlot rfl rfl rfl (by decide +kernel) ⟨Nat.le_of_ble_eq_true rfl, Nat.le_of_ble_eq_true rfl⟩) hz.preS rfl rfl hl.1 rfl (lv_room (Nat.le_of_ble_eq_true rfl)) dX7_common_16 ⟨Nat.le_of_ble_eq_true rfl, Nat.le_of_ble_eq_true rfl⟩) (fun r_3 Ev H locs hp hz => ?_)
        obtain ⟨hr_3, hp⟩ := hp
        subst hr_3
        rw [hp] at hz
        refine lv_if_eq (tgt := 26) hx hb dX7_common_19 (by decide) (fun qw => ?_) (fun _ => ?_)
        · exact absurd qw (by decide)
        exact absurd ⟨k0, k1, k2⟩ h
      · skip
        refine pw_calli hz (va_runS (As := [.int a2]) (rest := [.ref a]) ⟨hx, hb, hml, hown, hts⟩ (c_isSlot_0 l D cJ cI cR b n _ _ (a2) k2) (va_cwS 1 hts gX7_common_X7_isSlot rfl rfl rfl (by decide +kernel) ⟨Nat.le_of_ble_eq_true rfl, Nat.le_of_ble_eq_true rfl⟩) hz.preS rfl rfl hl.1 rfl (lv_room (Nat.le_of_ble_eq_true rfl)) dX7_common_16 ⟨Nat.le_of_ble_eq_true rfl, Nat.le_of_ble_eq_true rfl⟩) (fun r_4 Ev H locs hp hz => ?_)
        obtain ⟨hr_4, hp⟩ := hp
        subst hr_4
        rw [hp] at hz
        refine lv_if_eq (tgt := 26) hx hb dX7_common_19 (by decide) (fun _ => ?_) (fun qw => ?_)
        rotate_left
        · exact absurd rfl qw
        refine lv_iconst (v := 1) hx hb dX7_common_26 (by decide) ?_
        refine pw_calli hz (va_runV (As := [.int 1]) (rest := []) ⟨hx, hb, hml, hown, hts⟩ (c_refused_1 l D cJ cI cR b n _ _ a ref ha hm) (cwV 1 hts gX7_common_X7_refused rfl rfl rfl (by decide +kernel) ⟨Nat.le_of_ble_eq_true rfl, Nat.le_of_ble_eq_true rfl⟩) (hz.preV (by omega) hm rfl) rfl rfl hl.1 rfl (lv_room (Nat.le_of_ble_eq_true rfl)) dX7_common_27 ⟨Nat.le_of_ble_eq_true rfl, Nat.le_of_ble_eq_true rfl⟩) (fun r_5 Ev H locs hp hz => ?_)
        obtain ⟨hr_5, hp⟩ := hp
        subst hr_5
        rw [hp] at hz
        have hz : PS D vwCl (tys3 cJ cI cR) b n s (va_up E a (.inr (6, [.int 1, .ref (a + 1), .int 0, .int 0, .ref (a + 2), .ref (a + 3), .int 0, .int 0, .int 0, .ref (a + 4), .ref (a + 5), .int 0, .ref (a + 6), .ref (a + 7), .int 0, .int 0, .int 0, .int 0, .ref (a + 8), .int 0, .long 0, .long 0, .long 0, .int 0, .long 0]))) H locs := hz
        refine lv_if_eq (tgt := 35) hx hb dX7_common_30 (by decide) (fun qw => ?_) (fun _ => ?_)
        · exact absurd qw (by decide)
        refine lv_iconst (v := 0) hx hb dX7_common_33 (by decide) ?_
        exact pw_iret hx hb hret hlocks hz ⟨⟨_, va_up_self _ _ _⟩, fun q h => va_up_ne _ _ (by omega)⟩ dX7_common_34
    · skip
      refine pw_calli hz (va_runS (As := [.int a1]) (rest := [.ref a]) ⟨hx, hb, hml, hown, hts⟩ (c_isSlot_0 l D cJ cI cR b n _ _ (a1) k1) (va_cwS 1 hts gX7_common_X7_isSlot rfl rfl rfl (by decide +kernel) ⟨Nat.le_of_ble_eq_true rfl, Nat.le_of_ble_eq_true rfl⟩) hz.preS rfl rfl hl.1 rfl (lv_room (Nat.le_of_ble_eq_true rfl)) dX7_common_9 ⟨Nat.le_of_ble_eq_true rfl, Nat.le_of_ble_eq_true rfl⟩) (fun r_6 Ev H locs hp hz => ?_)
      obtain ⟨hr_6, hp⟩ := hp
      subst hr_6
      rw [hp] at hz
      refine lv_if_eq (tgt := 26) hx hb dX7_common_12 (by decide) (fun _ => ?_) (fun qw => ?_)
      rotate_left
      · exact absurd rfl qw
      refine lv_iconst (v := 1) hx hb dX7_common_26 (by decide) ?_
      refine pw_calli hz (va_runV (As := [.int 1]) (rest := []) ⟨hx, hb, hml, hown, hts⟩ (c_refused_1 l D cJ cI cR b n _ _ a ref ha hm) (cwV 1 hts gX7_common_X7_refused rfl rfl rfl (by decide +kernel) ⟨Nat.le_of_ble_eq_true rfl, Nat.le_of_ble_eq_true rfl⟩) (hz.preV (by omega) hm rfl) rfl rfl hl.1 rfl (lv_room (Nat.le_of_ble_eq_true rfl)) dX7_common_27 ⟨Nat.le_of_ble_eq_true rfl, Nat.le_of_ble_eq_true rfl⟩) (fun r_7 Ev H locs hp hz => ?_)
      obtain ⟨hr_7, hp⟩ := hp
      subst hr_7
      rw [hp] at hz
      have hz : PS D vwCl (tys3 cJ cI cR) b n s (va_up E a (.inr (6, [.int 1, .ref (a + 1), .int 0, .int 0, .ref (a + 2), .ref (a + 3), .int 0, .int 0, .int 0, .ref (a + 4), .ref (a + 5), .int 0, .ref (a + 6), .ref (a + 7), .int 0, .int 0, .int 0, .int 0, .ref (a + 8), .int 0, .long 0, .long 0, .long 0, .int 0, .long 0]))) H locs := hz
      refine lv_if_eq (tgt := 35) hx hb dX7_common_30 (by decide) (fun qw => ?_) (fun _ => ?_)
      · exact absurd qw (by decide)
      refine lv_iconst (v := 0) hx hb dX7_common_33 (by decide) ?_
      exact pw_iret hx hb hret hlocks hz ⟨⟨_, va_up_self _ _ _⟩, fun q h => va_up_ne _ _ (by omega)⟩ dX7_common_34
  · skip
    refine pw_calli hz (va_runS (As := [.int a0]) (rest := [.ref a]) ⟨hx, hb, hml, hown, hts⟩ (c_isSlot_0 l D cJ cI cR b n _ _ (a0) k0) (va_cwS 1 hts gX7_common_X7_isSlot rfl rfl rfl (by decide +kernel) ⟨Nat.le_of_ble_eq_true rfl, Nat.le_of_ble_eq_true rfl⟩) hz.preS rfl rfl hl.1 rfl (lv_room (Nat.le_of_ble_eq_true rfl)) dX7_common_2 ⟨Nat.le_of_ble_eq_true rfl, Nat.le_of_ble_eq_true rfl⟩) (fun r_8 Ev H locs hp hz => ?_)
    obtain ⟨hr_8, hp⟩ := hp
    subst hr_8
    rw [hp] at hz
    refine lv_if_eq (tgt := 26) hx hb dX7_common_5 (by decide) (fun _ => ?_) (fun qw => ?_)
    rotate_left
    · exact absurd rfl qw
    refine lv_iconst (v := 1) hx hb dX7_common_26 (by decide) ?_
    refine pw_calli hz (va_runV (As := [.int 1]) (rest := []) ⟨hx, hb, hml, hown, hts⟩ (c_refused_1 l D cJ cI cR b n _ _ a ref ha hm) (cwV 1 hts gX7_common_X7_refused rfl rfl rfl (by decide +kernel) ⟨Nat.le_of_ble_eq_true rfl, Nat.le_of_ble_eq_true rfl⟩) (hz.preV (by omega) hm rfl) rfl rfl hl.1 rfl (lv_room (Nat.le_of_ble_eq_true rfl)) dX7_common_27 ⟨Nat.le_of_ble_eq_true rfl, Nat.le_of_ble_eq_true rfl⟩) (fun r_9 Ev H locs hp hz => ?_)
    obtain ⟨hr_9, hp⟩ := hp
    subst hr_9
    rw [hp] at hz
    have hz : PS D vwCl (tys3 cJ cI cR) b n s (va_up E a (.inr (6, [.int 1, .ref (a + 1), .int 0, .int 0, .ref (a + 2), .ref (a + 3), .int 0, .int 0, .int 0, .ref (a + 4), .ref (a + 5), .int 0, .ref (a + 6), .ref (a + 7), .int 0, .int 0, .int 0, .int 0, .ref (a + 8), .int 0, .long 0, .long 0, .long 0, .int 0, .long 0]))) H locs := hz
    refine lv_if_eq (tgt := 35) hx hb dX7_common_30 (by decide) (fun qw => ?_) (fun _ => ?_)
    · exact absurd qw (by decide)
    refine lv_iconst (v := 0) hx hb dX7_common_33 (by decide) ?_
    exact pw_iret hx hb hret hlocks hz ⟨⟨_, va_up_self _ _ _⟩, fun q h => va_up_ne _ _ (by omega)⟩ dX7_common_34

set_option maxHeartbeats 400000 in
set_option maxRecDepth 100000 in
/-- derive refused -/
theorem c_mderive_no (l : Launch) (D : va_G) (cJ cI cR : ClassId) (b n : Nat) (E : Nat → va_E) (sz : Nat) (a : Nat) (ref : Int32) (ha : b ≤ a ∧ a + 9 ≤ b + n) (hm : E a = modO a ref) (a0 : Int32) (a1 : Int32) (h : ¬ (okS a0 ∧ okS a1)) : Met l yX7_derive wsX7_derive { frames := 1, cells := 0, slots := 0, locals := 22 } (cP D vwCl (tys3 cJ cI cR) b n E sz [.ref a, .int a0, .int a1]) (cQi D vwCl (tys3 cJ cI cR) b n (fun _ E' => (∃ fs, E' a = .inr (6, .int 1 :: fs)) ∧ ∀ q, q < a ∨ a + 9 ≤ q → E' q = E q)) 0 0 (PA b) := by
  refine Met.ofW (cc := cX7_derive) (maxL := 4) (ret := (some .int)) (by decide) rfl ?_
  intro p e s m args below meth c s₁ B hml hv
  obtain ⟨rfl, hsz, hB⟩ := hv
  have hx := B.exec
  have hb := B.bytes
  have hret := B.returns
  have hts := atoms_spec (ws := wsX7_derive) B.pre
  have hown : s.vm.findClass RX7 = some m.cls := findClass_of_methodNamed B.named
  have hlocks := B.notSynchronized
  subst hsz
  have hz := PS.start hB
  have hl := lv_entry ([.ref a, .int a0, .int a1]) (n := 4) (Nat.le_of_ble_eq_true rfl)
  rw [lg_entry_eq]
  generalize (lg_sl ([.ref a, .int a0, .int a1]) ++ List.replicate (4 - (lg_sl ([.ref a, .int a0, .int a1])).length) Slot.unset).toArray = ls at hl ⊢
  have hl : lv_has ls 4 [(0, .ref a), (1, .int a0), (2, .int a1)] := hl
  refine lv_aload_n hx hb dX7_derive_0 rfl (lv_at hl 0 rfl) ?_
  refine lv_iload_n hx hb dX7_derive_1 rfl (lv_at hl 1 rfl) ?_
  by_cases k0 : okS (a0)
  · skip
    refine pw_calli hz (va_runS (As := [.int a0]) (rest := [.ref a]) ⟨hx, hb, hml, hown, hts⟩ (c_isSlot_1 l D cJ cI cR b n _ _ (a0) k0) (va_cwS 1 hts gX7_derive_X7_isSlot rfl rfl rfl (by decide +kernel) ⟨Nat.le_of_ble_eq_true rfl, Nat.le_of_ble_eq_true rfl⟩) hz.preS rfl rfl hl.1 rfl (lv_room (Nat.le_of_ble_eq_true rfl)) dX7_derive_2 ⟨Nat.le_of_ble_eq_true rfl, Nat.le_of_ble_eq_true rfl⟩) (fun r_1 Ev H locs hp hz => ?_)
    obtain ⟨hr_1, hp⟩ := hp
    subst hr_1
    rw [hp] at hz
    refine lv_if_eq (tgt := 19) hx hb dX7_derive_5 (by decide) (fun qw => ?_) (fun _ => ?_)
    · exact absurd qw (by decide)
    refine lv_iload_n hx hb dX7_derive_8 rfl (lv_at hl 2 rfl) ?_
    by_cases k1 : okS (a1)
    · skip
      refine pw_calli hz (va_runS (As := [.int a1]) (rest := [.ref a]) ⟨hx, hb, hml, hown, hts⟩ (c_isSlot_1 l D cJ cI cR b n _ _ (a1) k1) (va_cwS 1 hts gX7_derive_X7_isSlot rfl rfl rfl (by decide +kernel) ⟨Nat.le_of_ble_eq_true rfl, Nat.le_of_ble_eq_true rfl⟩) hz.preS rfl rfl hl.1 rfl (lv_room (Nat.le_of_ble_eq_true rfl)) dX7_derive_9 ⟨Nat.le_of_ble_eq_true rfl, Nat.le_of_ble_eq_true rfl⟩) (fun r_2 Ev H locs hp hz => ?_)
      obtain ⟨hr_2, hp⟩ := hp
      subst hr_2
      rw [hp] at hz
      refine lv_if_eq (tgt := 19) hx hb dX7_derive_12 (by decide) (fun qw => ?_) (fun _ => ?_)
      · exact absurd qw (by decide)
      exact absurd ⟨k0, k1⟩ h
    · skip
      refine pw_calli hz (va_runS (As := [.int a1]) (rest := [.ref a]) ⟨hx, hb, hml, hown, hts⟩ (c_isSlot_0 l D cJ cI cR b n _ _ (a1) k1) (va_cwS 1 hts gX7_derive_X7_isSlot rfl rfl rfl (by decide +kernel) ⟨Nat.le_of_ble_eq_true rfl, Nat.le_of_ble_eq_true rfl⟩) hz.preS rfl rfl hl.1 rfl (lv_room (Nat.le_of_ble_eq_true rfl)) dX7_derive_9 ⟨Nat.le_of_ble_eq_true rfl, Nat.le_of_ble_eq_true rfl⟩) (fun r_3 Ev H locs hp hz => ?_)
      obtain ⟨hr_3, hp⟩ := hp
      subst hr_3
      rw [hp] at hz
      refine lv_if_eq (tgt := 19) hx hb dX7_derive_12 (by decide) (fun _ => ?_) (fun qw => ?_)
      rotate_left
      · exact absurd rfl qw
      refine lv_iconst (v := 1) hx hb dX7_derive_19 (by decide) ?_
      refine pw_calli hz (va_runV (As := [.int 1]) (rest := []) ⟨hx, hb, hml, hown, hts⟩ (c_refused_1 l D cJ cI cR b n _ _ a ref ha hm) (cwV 1 hts gX7_derive_X7_refused rfl rfl rfl (by decide +kernel) ⟨Nat.le_of_ble_eq_true rfl, Nat.le_of_ble_eq_true rfl⟩) (hz.preV (by omega) hm rfl) rfl rfl hl.1 rfl (lv_room (Nat.le_of_ble_eq_true rfl)) dX7_derive_20 ⟨Nat.le_of_ble_eq_true rfl, Nat.le_of_ble_eq_true rfl⟩) (fun r_4 Ev H locs hp hz => ?_)
      obtain ⟨hr_4, hp⟩ := hp
      subst hr_4
      rw [hp] at hz
      have hz : PS D vwCl (tys3 cJ cI cR) b n s (va_up E a (.inr (6, [.int 1, .ref (a + 1), .int 0, .int 0, .ref (a + 2), .ref (a + 3), .int 0, .int 0, .int 0, .ref (a + 4), .ref (a + 5), .int 0, .ref (a + 6), .ref (a + 7), .int 0, .int 0, .int 0, .int 0, .ref (a + 8), .int 0, .long 0, .long 0, .long 0, .int 0, .long 0]))) H locs := hz
      refine lv_if_eq (tgt := 28) hx hb dX7_derive_23 (by decide) (fun qw => ?_) (fun _ => ?_)
      · exact absurd qw (by decide)
      refine lv_iconst (v := 0) hx hb dX7_derive_26 (by decide) ?_
      exact pw_iret hx hb hret hlocks hz ⟨⟨_, va_up_self _ _ _⟩, fun q h => va_up_ne _ _ (by omega)⟩ dX7_derive_27
  · skip
    refine pw_calli hz (va_runS (As := [.int a0]) (rest := [.ref a]) ⟨hx, hb, hml, hown, hts⟩ (c_isSlot_0 l D cJ cI cR b n _ _ (a0) k0) (va_cwS 1 hts gX7_derive_X7_isSlot rfl rfl rfl (by decide +kernel) ⟨Nat.le_of_ble_eq_true rfl, Nat.le_of_ble_eq_true rfl⟩) hz.preS rfl rfl hl.1 rfl (lv_room (Nat.le_of_ble_eq_true rfl)) dX7_derive_2 ⟨Nat.le_of_ble_eq_true rfl, Nat.le_of_ble_eq_true rfl⟩) (fun r_5 Ev H locs hp hz => ?_)
    obtain ⟨hr_5, hp⟩ := hp
    subst hr_5
    rw [hp] at hz
    refine lv_if_eq (tgt := 19) hx hb dX7_derive_5 (by decide) (fun _ => ?_) (fun qw => ?_)
    rotate_left
    · exact absurd rfl qw
    refine lv_iconst (v := 1) hx hb dX7_derive_19 (by decide) ?_
    refine pw_calli hz (va_runV (As := [.int 1]) (rest := []) ⟨hx, hb, hml, hown, hts⟩ (c_refused_1 l D cJ cI cR b n _ _ a ref ha hm) (cwV 1 hts gX7_derive_X7_refused rfl rfl rfl (by decide +kernel) ⟨Nat.le_of_ble_eq_true rfl, Nat.le_of_ble_eq_true rfl⟩) (hz.preV (by omega) hm rfl) rfl rfl hl.1 rfl (lv_room (Nat.le_of_ble_eq_true rfl)) dX7_derive_20 ⟨Nat.le_of_ble_eq_true rfl, Nat.le_of_ble_eq_true rfl⟩) (fun r_6 Ev H locs hp hz => ?_)
    obtain ⟨hr_6, hp⟩ := hp
    subst hr_6
    rw [hp] at hz
    have hz : PS D vwCl (tys3 cJ cI cR) b n s (va_up E a (.inr (6, [.int 1, .ref (a + 1), .int 0, .int 0, .ref (a + 2), .ref (a + 3), .int 0, .int 0, .int 0, .ref (a + 4), .ref (a + 5), .int 0, .ref (a + 6), .ref (a + 7), .int 0, .int 0, .int 0, .int 0, .ref (a + 8), .int 0, .long 0, .long 0, .long 0, .int 0, .long 0]))) H locs := hz
    refine lv_if_eq (tgt := 28) hx hb dX7_derive_23 (by decide) (fun qw => ?_) (fun _ => ?_)
    · exact absurd qw (by decide)
    refine lv_iconst (v := 0) hx hb dX7_derive_26 (by decide) ?_
    exact pw_iret hx hb hret hlocks hz ⟨⟨_, va_up_self _ _ _⟩, fun q h => va_up_ne _ _ (by omega)⟩ dX7_derive_27

set_option maxHeartbeats 400000 in
set_option maxRecDepth 100000 in
/-- parts refused -/
theorem c_mparts_no (l : Launch) (D : va_G) (cJ cI cR : ClassId) (b n : Nat) (E : Nat → va_E) (sz : Nat) (a : Nat) (ref : Int32) (ha : b ≤ a ∧ a + 9 ≤ b + n) (hm : E a = modO a ref) (a0 : Int32) (h : ¬ (okS a0)) : Met l yX7_parts wsX7_parts { frames := 1, cells := 0, slots := 0, locals := 22 } (cP D vwCl (tys3 cJ cI cR) b n E sz [.ref a, .int a0]) (cQi D vwCl (tys3 cJ cI cR) b n (fun _ E' => (∃ fs, E' a = .inr (6, .int 1 :: fs)) ∧ ∀ q, q < a ∨ a + 9 ≤ q → E' q = E q)) 0 0 (PA b) := by
  refine Met.ofW (cc := cX7_parts) (maxL := 4) (ret := (some .int)) (by decide) rfl ?_
  intro p e s m args below meth c s₁ B hml hv
  obtain ⟨rfl, hsz, hB⟩ := hv
  have hx := B.exec
  have hb := B.bytes
  have hret := B.returns
  have hts := atoms_spec (ws := wsX7_parts) B.pre
  have hown : s.vm.findClass RX7 = some m.cls := findClass_of_methodNamed B.named
  have hlocks := B.notSynchronized
  subst hsz
  have hz := PS.start hB
  have hl := lv_entry ([.ref a, .int a0]) (n := 4) (Nat.le_of_ble_eq_true rfl)
  rw [lg_entry_eq]
  generalize (lg_sl ([.ref a, .int a0]) ++ List.replicate (4 - (lg_sl ([.ref a, .int a0])).length) Slot.unset).toArray = ls at hl ⊢
  have hl : lv_has ls 4 [(0, .ref a), (1, .int a0)] := hl
  refine lv_aload_n hx hb dX7_parts_0 rfl (lv_at hl 0 rfl) ?_
  refine lv_iload_n hx hb dX7_parts_1 rfl (lv_at hl 1 rfl) ?_
  by_cases k0 : okS (a0)
  · skip
    refine pw_calli hz (va_runS (As := [.int a0]) (rest := [.ref a]) ⟨hx, hb, hml, hown, hts⟩ (c_isSlot_1 l D cJ cI cR b n _ _ (a0) k0) (va_cwS 1 hts gX7_parts_X7_isSlot rfl rfl rfl (by decide +kernel) ⟨Nat.le_of_ble_eq_true rfl, Nat.le_of_ble_eq_true rfl⟩) hz.preS rfl rfl hl.1 rfl (lv_room (Nat.le_of_ble_eq_true rfl)) dX7_parts_2 ⟨Nat.le_of_ble_eq_true rfl, Nat.le_of_ble_eq_true rfl⟩) (fun r_1 Ev H locs hp hz => ?_)
    obtain ⟨hr_1, hp⟩ := hp
    subst hr_1
    rw [hp] at hz
    refine lv_if_eq (tgt := 12) hx hb dX7_parts_5 (by decide) (fun qw => ?_) (fun _ => ?_)
    · exact absurd qw (by decide)
    exact absurd k0 h
  · skip
    refine pw_calli hz (va_runS (As := [.int a0]) (rest := [.ref a]) ⟨hx, hb, hml, hown, hts⟩ (c_isSlot_0 l D cJ cI cR b n _ _ (a0) k0) (va_cwS 1 hts gX7_parts_X7_isSlot rfl rfl rfl (by decide +kernel) ⟨Nat.le_of_ble_eq_true rfl, Nat.le_of_ble_eq_true rfl⟩) hz.preS rfl rfl hl.1 rfl (lv_room (Nat.le_of_ble_eq_true rfl)) dX7_parts_2 ⟨Nat.le_of_ble_eq_true rfl, Nat.le_of_ble_eq_true rfl⟩) (fun r_2 Ev H locs hp hz => ?_)
    obtain ⟨hr_2, hp⟩ := hp
    subst hr_2
    rw [hp] at hz
    refine lv_if_eq (tgt := 12) hx hb dX7_parts_5 (by decide) (fun _ => ?_) (fun qw => ?_)
    rotate_left
    · exact absurd rfl qw
    refine lv_iconst (v := 1) hx hb dX7_parts_12 (by decide) ?_
    refine pw_calli hz (va_runV (As := [.int 1]) (rest := []) ⟨hx, hb, hml, hown, hts⟩ (c_refused_1 l D cJ cI cR b n _ _ a ref ha hm) (cwV 1 hts gX7_parts_X7_refused rfl rfl rfl (by decide +kernel) ⟨Nat.le_of_ble_eq_true rfl, Nat.le_of_ble_eq_true rfl⟩) (hz.preV (by omega) hm rfl) rfl rfl hl.1 rfl (lv_room (Nat.le_of_ble_eq_true rfl)) dX7_parts_13 ⟨Nat.le_of_ble_eq_true rfl, Nat.le_of_ble_eq_true rfl⟩) (fun r_3 Ev H locs hp hz => ?_)
    obtain ⟨hr_3, hp⟩ := hp
    subst hr_3
    rw [hp] at hz
    have hz : PS D vwCl (tys3 cJ cI cR) b n s (va_up E a (.inr (6, [.int 1, .ref (a + 1), .int 0, .int 0, .ref (a + 2), .ref (a + 3), .int 0, .int 0, .int 0, .ref (a + 4), .ref (a + 5), .int 0, .ref (a + 6), .ref (a + 7), .int 0, .int 0, .int 0, .int 0, .ref (a + 8), .int 0, .long 0, .long 0, .long 0, .int 0, .long 0]))) H locs := hz
    refine lv_if_eq (tgt := 21) hx hb dX7_parts_16 (by decide) (fun qw => ?_) (fun _ => ?_)
    · exact absurd qw (by decide)
    refine lv_iconst (v := 0) hx hb dX7_parts_19 (by decide) ?_
    exact pw_iret hx hb hret hlocks hz ⟨⟨_, va_up_self _ _ _⟩, fun q h => va_up_ne _ _ (by omega)⟩ dX7_parts_20

set_option maxHeartbeats 400000 in
set_option maxRecDepth 100000 in
/-- galois refused -/
theorem c_mgalois_no (l : Launch) (D : va_G) (cJ cI cR : ClassId) (b n : Nat) (E : Nat → va_E) (sz : Nat) (a : Nat) (ref : Int32) (ha : b ≤ a ∧ a + 9 ≤ b + n) (hm : E a = modO a ref) (a0 : Int32) (h : ¬ (okS a0)) : Met l yX7_galois wsX7_galois { frames := 1, cells := 0, slots := 0, locals := 22 } (cP D vwCl (tys3 cJ cI cR) b n E sz [.ref a, .int a0]) (cQi D vwCl (tys3 cJ cI cR) b n (fun _ E' => (∃ fs, E' a = .inr (6, .int 1 :: fs)) ∧ ∀ q, q < a ∨ a + 9 ≤ q → E' q = E q)) 0 0 (PA b) := by
  refine Met.ofW (cc := cX7_galois) (maxL := 4) (ret := (some .int)) (by decide) rfl ?_
  intro p e s m args below meth c s₁ B hml hv
  obtain ⟨rfl, hsz, hB⟩ := hv
  have hx := B.exec
  have hb := B.bytes
  have hret := B.returns
  have hts := atoms_spec (ws := wsX7_galois) B.pre
  have hown : s.vm.findClass RX7 = some m.cls := findClass_of_methodNamed B.named
  have hlocks := B.notSynchronized
  subst hsz
  have hz := PS.start hB
  have hl := lv_entry ([.ref a, .int a0]) (n := 4) (Nat.le_of_ble_eq_true rfl)
  rw [lg_entry_eq]
  generalize (lg_sl ([.ref a, .int a0]) ++ List.replicate (4 - (lg_sl ([.ref a, .int a0])).length) Slot.unset).toArray = ls at hl ⊢
  have hl : lv_has ls 4 [(0, .ref a), (1, .int a0)] := hl
  refine lv_aload_n hx hb dX7_galois_0 rfl (lv_at hl 0 rfl) ?_
  refine lv_iload_n hx hb dX7_galois_1 rfl (lv_at hl 1 rfl) ?_
  by_cases k0 : okS (a0)
  · skip
    refine pw_calli hz (va_runS (As := [.int a0]) (rest := [.ref a]) ⟨hx, hb, hml, hown, hts⟩ (c_isSlot_1 l D cJ cI cR b n _ _ (a0) k0) (va_cwS 1 hts gX7_galois_X7_isSlot rfl rfl rfl (by decide +kernel) ⟨Nat.le_of_ble_eq_true rfl, Nat.le_of_ble_eq_true rfl⟩) hz.preS rfl rfl hl.1 rfl (lv_room (Nat.le_of_ble_eq_true rfl)) dX7_galois_2 ⟨Nat.le_of_ble_eq_true rfl, Nat.le_of_ble_eq_true rfl⟩) (fun r_1 Ev H locs hp hz => ?_)
    obtain ⟨hr_1, hp⟩ := hp
    subst hr_1
    rw [hp] at hz
    refine lv_if_eq (tgt := 12) hx hb dX7_galois_5 (by decide) (fun qw => ?_) (fun _ => ?_)
    · exact absurd qw (by decide)
    exact absurd k0 h
  · skip
    refine pw_calli hz (va_runS (As := [.int a0]) (rest := [.ref a]) ⟨hx, hb, hml, hown, hts⟩ (c_isSlot_0 l D cJ cI cR b n _ _ (a0) k0) (va_cwS 1 hts gX7_galois_X7_isSlot rfl rfl rfl (by decide +kernel) ⟨Nat.le_of_ble_eq_true rfl, Nat.le_of_ble_eq_true rfl⟩) hz.preS rfl rfl hl.1 rfl (lv_room (Nat.le_of_ble_eq_true rfl)) dX7_galois_2 ⟨Nat.le_of_ble_eq_true rfl, Nat.le_of_ble_eq_true rfl⟩) (fun r_2 Ev H locs hp hz => ?_)
    obtain ⟨hr_2, hp⟩ := hp
    subst hr_2
    rw [hp] at hz
    refine lv_if_eq (tgt := 12) hx hb dX7_galois_5 (by decide) (fun _ => ?_) (fun qw => ?_)
    rotate_left
    · exact absurd rfl qw
    refine lv_iconst (v := 1) hx hb dX7_galois_12 (by decide) ?_
    refine pw_calli hz (va_runV (As := [.int 1]) (rest := []) ⟨hx, hb, hml, hown, hts⟩ (c_refused_1 l D cJ cI cR b n _ _ a ref ha hm) (cwV 1 hts gX7_galois_X7_refused rfl rfl rfl (by decide +kernel) ⟨Nat.le_of_ble_eq_true rfl, Nat.le_of_ble_eq_true rfl⟩) (hz.preV (by omega) hm rfl) rfl rfl hl.1 rfl (lv_room (Nat.le_of_ble_eq_true rfl)) dX7_galois_13 ⟨Nat.le_of_ble_eq_true rfl, Nat.le_of_ble_eq_true rfl⟩) (fun r_3 Ev H locs hp hz => ?_)
    obtain ⟨hr_3, hp⟩ := hp
    subst hr_3
    rw [hp] at hz
    have hz : PS D vwCl (tys3 cJ cI cR) b n s (va_up E a (.inr (6, [.int 1, .ref (a + 1), .int 0, .int 0, .ref (a + 2), .ref (a + 3), .int 0, .int 0, .int 0, .ref (a + 4), .ref (a + 5), .int 0, .ref (a + 6), .ref (a + 7), .int 0, .int 0, .int 0, .int 0, .ref (a + 8), .int 0, .long 0, .long 0, .long 0, .int 0, .long 0]))) H locs := hz
    refine lv_if_eq (tgt := 21) hx hb dX7_galois_16 (by decide) (fun qw => ?_) (fun _ => ?_)
    · exact absurd qw (by decide)
    refine lv_iconst (v := 0) hx hb dX7_galois_19 (by decide) ?_
    exact pw_iret hx hb hret hlocks hz ⟨⟨_, va_up_self _ _ _⟩, fun q h => va_up_ne _ _ (by omega)⟩ dX7_galois_20

set_option maxHeartbeats 400000 in
set_option maxRecDepth 100000 in
/-- pattern refused -/
theorem c_mpattern_no (l : Launch) (D : va_G) (cJ cI cR : ClassId) (b n : Nat) (E : Nat → va_E) (sz : Nat) (a : Nat) (ref : Int32) (ha : b ≤ a ∧ a + 9 ≤ b + n) (hm : E a = modO a ref) (a0 : Int32) (a1 : Int32) (h : ¬ (okS a0 ∧ okP a1)) : Met l yX7_pattern wsX7_pattern { frames := 1, cells := 0, slots := 0, locals := 22 } (cP D vwCl (tys3 cJ cI cR) b n E sz [.ref a, .int a0, .int a1]) (cQi D vwCl (tys3 cJ cI cR) b n (fun _ E' => (∃ fs, E' a = .inr (6, .int 1 :: fs)) ∧ ∀ q, q < a ∨ a + 9 ≤ q → E' q = E q)) 0 0 (PA b) := by
  refine Met.ofW (cc := cX7_pattern) (maxL := 7) (ret := (some .int)) (by decide) rfl ?_
  intro p e s m args below meth c s₁ B hml hv
  obtain ⟨rfl, hsz, hB⟩ := hv
  have hx := B.exec
  have hb := B.bytes
  have hret := B.returns
  have hts := atoms_spec (ws := wsX7_pattern) B.pre
  have hown : s.vm.findClass RX7 = some m.cls := findClass_of_methodNamed B.named
  have hlocks := B.notSynchronized
  subst hsz
  have hz := PS.start hB
  have hl := lv_entry ([.ref a, .int a0, .int a1]) (n := 7) (Nat.le_of_ble_eq_true rfl)
  rw [lg_entry_eq]
  generalize (lg_sl ([.ref a, .int a0, .int a1]) ++ List.replicate (7 - (lg_sl ([.ref a, .int a0, .int a1])).length) Slot.unset).toArray = ls at hl ⊢
  have hl : lv_has ls 7 [(0, .ref a), (1, .int a0), (2, .int a1)] := hl
  refine lv_aload_n hx hb dX7_pattern_0 rfl (lv_at hl 0 rfl) ?_
  refine lv_iload_n hx hb dX7_pattern_1 rfl (lv_at hl 1 rfl) ?_
  by_cases k0 : okS (a0)
  · skip
    refine pw_calli hz (va_runS (As := [.int a0]) (rest := [.ref a]) ⟨hx, hb, hml, hown, hts⟩ (c_isSlot_1 l D cJ cI cR b n _ _ (a0) k0) (va_cwS 1 hts gX7_pattern_X7_isSlot rfl rfl rfl (by decide +kernel) ⟨Nat.le_of_ble_eq_true rfl, Nat.le_of_ble_eq_true rfl⟩) hz.preS rfl rfl hl.1 rfl (lv_room (Nat.le_of_ble_eq_true rfl)) dX7_pattern_2 ⟨Nat.le_of_ble_eq_true rfl, Nat.le_of_ble_eq_true rfl⟩) (fun r_1 Ev H locs hp hz => ?_)
    obtain ⟨hr_1, hp⟩ := hp
    subst hr_1
    rw [hp] at hz
    refine lv_if_eq (tgt := 19) hx hb dX7_pattern_5 (by decide) (fun qw => ?_) (fun _ => ?_)
    · exact absurd qw (by decide)
    refine lv_iload_n hx hb dX7_pattern_8 rfl (lv_at hl 2 rfl) ?_
    by_cases k1 : okP (a1)
    · skip
      refine pw_calli hz (va_runS (As := [.int a1]) (rest := [.ref a]) ⟨hx, hb, hml, hown, hts⟩ (c_isPrime_1 l D cJ cI cR b n _ _ (a1) k1) (va_cwS 1 hts gX7_pattern_X7_isPrime rfl rfl rfl (by decide +kernel) ⟨Nat.le_of_ble_eq_true rfl, Nat.le_of_ble_eq_true rfl⟩) hz.preS rfl rfl hl.1 rfl (lv_room (Nat.le_of_ble_eq_true rfl)) dX7_pattern_9 ⟨Nat.le_of_ble_eq_true rfl, Nat.le_of_ble_eq_true rfl⟩) (fun r_2 Ev H locs hp hz => ?_)
      obtain ⟨hr_2, hp⟩ := hp
      subst hr_2
      rw [hp] at hz
      refine lv_if_eq (tgt := 19) hx hb dX7_pattern_12 (by decide) (fun qw => ?_) (fun _ => ?_)
      · exact absurd qw (by decide)
      exact absurd ⟨k0, k1⟩ h
    · skip
      refine pw_calli hz (va_runS (As := [.int a1]) (rest := [.ref a]) ⟨hx, hb, hml, hown, hts⟩ (c_isPrime_0 l D cJ cI cR b n _ _ (a1) k1) (va_cwS 1 hts gX7_pattern_X7_isPrime rfl rfl rfl (by decide +kernel) ⟨Nat.le_of_ble_eq_true rfl, Nat.le_of_ble_eq_true rfl⟩) hz.preS rfl rfl hl.1 rfl (lv_room (Nat.le_of_ble_eq_true rfl)) dX7_pattern_9 ⟨Nat.le_of_ble_eq_true rfl, Nat.le_of_ble_eq_true rfl⟩) (fun r_3 Ev H locs hp hz => ?_)
      obtain ⟨hr_3, hp⟩ := hp
      subst hr_3
      rw [hp] at hz
      refine lv_if_eq (tgt := 19) hx hb dX7_pattern_12 (by decide) (fun _ => ?_) (fun qw => ?_)
      rotate_left
      · exact absurd rfl qw
      refine lv_iconst (v := 1) hx hb dX7_pattern_19 (by decide) ?_
      refine pw_calli hz (va_runV (As := [.int 1]) (rest := []) ⟨hx, hb, hml, hown, hts⟩ (c_refused_1 l D cJ cI cR b n _ _ a ref ha hm) (cwV 1 hts gX7_pattern_X7_refused rfl rfl rfl (by decide +kernel) ⟨Nat.le_of_ble_eq_true rfl, Nat.le_of_ble_eq_true rfl⟩) (hz.preV (by omega) hm rfl) rfl rfl hl.1 rfl (lv_room (Nat.le_of_ble_eq_true rfl)) dX7_pattern_20 ⟨Nat.le_of_ble_eq_true rfl, Nat.le_of_ble_eq_true rfl⟩) (fun r_4 Ev H locs hp hz => ?_)
      obtain ⟨hr_4, hp⟩ := hp
      subst hr_4
      rw [hp] at hz
      have hz : PS D vwCl (tys3 cJ cI cR) b n s (va_up E a (.inr (6, [.int 1, .ref (a + 1), .int 0, .int 0, .ref (a + 2), .ref (a + 3), .int 0, .int 0, .int 0, .ref (a + 4), .ref (a + 5), .int 0, .ref (a + 6), .ref (a + 7), .int 0, .int 0, .int 0, .int 0, .ref (a + 8), .int 0, .long 0, .long 0, .long 0, .int 0, .long 0]))) H locs := hz
      refine lv_if_eq (tgt := 28) hx hb dX7_pattern_23 (by decide) (fun qw => ?_) (fun _ => ?_)
      · exact absurd qw (by decide)
      refine lv_iconst (v := 0) hx hb dX7_pattern_26 (by decide) ?_
      exact pw_iret hx hb hret hlocks hz ⟨⟨_, va_up_self _ _ _⟩, fun q h => va_up_ne _ _ (by omega)⟩ dX7_pattern_27
  · skip
    refine pw_calli hz (va_runS (As := [.int a0]) (rest := [.ref a]) ⟨hx, hb, hml, hown, hts⟩ (c_isSlot_0 l D cJ cI cR b n _ _ (a0) k0) (va_cwS 1 hts gX7_pattern_X7_isSlot rfl rfl rfl (by decide +kernel) ⟨Nat.le_of_ble_eq_true rfl, Nat.le_of_ble_eq_true rfl⟩) hz.preS rfl rfl hl.1 rfl (lv_room (Nat.le_of_ble_eq_true rfl)) dX7_pattern_2 ⟨Nat.le_of_ble_eq_true rfl, Nat.le_of_ble_eq_true rfl⟩) (fun r_5 Ev H locs hp hz => ?_)
    obtain ⟨hr_5, hp⟩ := hp
    subst hr_5
    rw [hp] at hz
    refine lv_if_eq (tgt := 19) hx hb dX7_pattern_5 (by decide) (fun _ => ?_) (fun qw => ?_)
    rotate_left
    · exact absurd rfl qw
    refine lv_iconst (v := 1) hx hb dX7_pattern_19 (by decide) ?_
    refine pw_calli hz (va_runV (As := [.int 1]) (rest := []) ⟨hx, hb, hml, hown, hts⟩ (c_refused_1 l D cJ cI cR b n _ _ a ref ha hm) (cwV 1 hts gX7_pattern_X7_refused rfl rfl rfl (by decide +kernel) ⟨Nat.le_of_ble_eq_true rfl, Nat.le_of_ble_eq_true rfl⟩) (hz.preV (by omega) hm rfl) rfl rfl hl.1 rfl (lv_room (Nat.le_of_ble_eq_true rfl)) dX7_pattern_20 ⟨Nat.le_of_ble_eq_true rfl, Nat.le_of_ble_eq_true rfl⟩) (fun r_6 Ev H locs hp hz => ?_)
    obtain ⟨hr_6, hp⟩ := hp
    subst hr_6
    rw [hp] at hz
    have hz : PS D vwCl (tys3 cJ cI cR) b n s (va_up E a (.inr (6, [.int 1, .ref (a + 1), .int 0, .int 0, .ref (a + 2), .ref (a + 3), .int 0, .int 0, .int 0, .ref (a + 4), .ref (a + 5), .int 0, .ref (a + 6), .ref (a + 7), .int 0, .int 0, .int 0, .int 0, .ref (a + 8), .int 0, .long 0, .long 0, .long 0, .int 0, .long 0]))) H locs := hz
    refine lv_if_eq (tgt := 28) hx hb dX7_pattern_23 (by decide) (fun qw => ?_) (fun _ => ?_)
    · exact absurd qw (by decide)
    refine lv_iconst (v := 0) hx hb dX7_pattern_26 (by decide) ?_
    exact pw_iret hx hb hret hlocks hz ⟨⟨_, va_up_self _ _ _⟩, fun q h => va_up_ne _ _ (by omega)⟩ dX7_pattern_27
