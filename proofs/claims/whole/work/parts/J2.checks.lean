/-! THE REFERENCE's constructor. -/
def modelAt (cJ cI : ClassId) (a : Nat) (E : Nat → va_E) : Prop := E a = .inr (6, [.int 0, .ref (a + 1), .int 0, .int 0, .ref (a + 2), .ref (a + 3), .int 0, .int 0, .int 0, .ref (a + 4), .ref (a + 5), .int 0, .ref (a + 6), .ref (a + 7), .int 0, .int 0, .int 0, .int 0, .ref (a + 8), .int 0, .long 0, .long 0, .long 0, .int 0, .long 0]) ∧ E (a + 1) = .inl (cJ, 240, .inr (.inl (fun _ => 0))) ∧ E (a + 2) = .inl (cI, 8, .inl (fun _ => 0)) ∧ E (a + 3) = .inl (cI, 8, .inl (fun _ => 0)) ∧ E (a + 4) = .inl (cJ, 56, .inr (.inl (fun _ => 0))) ∧ E (a + 5) = .inl (cI, 7, .inl (fun _ => 0)) ∧ E (a + 6) = .inl (cI, 7, .inl (fun _ => 0)) ∧ E (a + 7) = .inl (cI, 600, .inl (fun _ => 0)) ∧ E (a + 8) = .inl (cI, 160, .inl (fun _ => 0))

set_option maxHeartbeats 400000 in
set_option maxRecDepth 100000 in
/-- GaloisDeskModel() -/
theorem c_Model_new (l : Launch) (D : va_G) (cJ cI cR : ClassId) (b : Nat) (E : Nat → va_E) (sz k : Nat) (hsz0 : sz = b + (k + 1)) (hthis : E (b + k) = .inr (6, [.int 0, .null, .int 0, .int 0, .null, .null, .int 0, .int 0, .int 0, .null, .null, .int 0, .null, .null, .int 0, .int 0, .int 0, .int 0, .null, .int 0, .long 0, .long 0, .long 0, .int 0, .long 0])) : Met l yX7_init wsX7_init { frames := 1, cells := 8, slots := 1086, locals := 12 } (cP D vwCl (tys3 cJ cI cR) b (k + 1) E sz [.ref (b + k)]) (cQm D vwCl (tys3 cJ cI cR) b (k + 9) (fun E' => modelAt cJ cI (b + k) E' ∧ ∀ a, a < b + k → E' a = E a)) 8 1086 (PA b) := by
  refine Met.ofW (cc := cX7_init) (maxL := 1) (ret := none) (by decide) rfl ?_
  intro p e s m args below meth c s₁ B hml hv
  obtain ⟨rfl, hsz, hB⟩ := hv
  have hx := B.exec
  have hb := B.bytes
  have hret := B.returns
  have hts := atoms_spec (ws := wsX7_init) B.pre
  have hown : s.vm.findClass RX7 = some m.cls := findClass_of_methodNamed B.named
  have hlocks := B.notSynchronized
  have hin : meth.name = "<init>" := (name_of_methodNamed B.named B.method).1
  subst hsz
  have hz := PS.start hB
  have hl := lv_entry ([.ref (b + k)]) (n := 1) (Nat.le_of_ble_eq_true rfl)
  rw [lg_entry_eq]
  generalize (lg_sl ([.ref (b + k)]) ++ List.replicate (1 - (lg_sl ([.ref (b + k)])).length) Slot.unset).toArray = ls at hl ⊢
  have hl : lv_has ls 1 [(0, .ref (b + k))] := hl
  have hw0 := hts (.methodLink RX7 1 objectInit) (by decide +kernel)
  have hw1 := hts (.instanceMethod objectInit) (by decide +kernel)
  have hw2 := hts (.code objectInit ⟨#[0xb1]⟩ 1 none) (List.mem_of_getElem? (i := 3) rfl)
  have hw3 := hts (.arrayClass .long) (by decide +kernel)
  have hw4 : ∀ w ∈ u_ws RX7 TX7 25, w ∈ wsX7_init := by decide +kernel
  have hw5 := hts (.fieldLink RX7 7 "GaloisDeskModel" "row" "[J") (by decide +kernel)
  have hw6 := hts (.arrayClass .int) (by decide +kernel)
  have hw7 := hts (.fieldLink RX7 13 "GaloisDeskModel" "often" "[I") (by decide +kernel)
  have hw8 := hts (.fieldLink RX7 17 "GaloisDeskModel" "otherOften" "[I") (by decide +kernel)
  have hw9 := hts (.fieldLink RX7 20 "GaloisDeskModel" "toldRow" "[J") (by decide +kernel)
  have hw10 := hts (.fieldLink RX7 23 "GaloisDeskModel" "toldOften" "[I") (by decide +kernel)
  have hw11 := hts (.fieldLink RX7 26 "GaloisDeskModel" "pattern" "[I") (by decide +kernel)
  have hw12 := hts (.fieldLink RX7 29 "GaloisDeskModel" "divisors" "[I") (by decide +kernel)
  have hw13 := hts (.fieldLink RX7 32 "GaloisDeskModel" "mod" "[I") (by decide +kernel)
  have hH : s.heap.size = b + (k + 1) := hsz0
  refine lv_aload_n hx hb dX7_init_0 rfl (lv_at hl 0 rfl) ?_
  refine W.objInit hx hb hown hw0 hw1 hw2 rfl (by rw [hml]; exact hl.1) rfl dX7_init_1 (Nat.le_of_ble_eq_true rfl) (Nat.le_of_ble_eq_true rfl) ?_
  refine W.eq (g2 := F0 m 4 ls []) rfl ?_
  refine lv_aload_n hx hb dX7_init_4 rfl (lv_at hl 0 rfl) ?_
  refine lv_sipush (v := 240) hx hb dX7_init_5 (by decide) ?_
  refine pw_newa (atype := .long) (ty := .long) (N' := 240) (a0 := (240, .inr (.inl (fun _ => 0)))) hx hb hw3 rfl hz hH 0 rfl (fun _ h => by cases h) (fun cA => by rw [vp_cell_l]; rfl) (by decide +kernel) (by decide +kernel) (by show 240 * 8 ≤ 536870912; omega) (Nat.le_of_ble_eq_true rfl) (Nat.le_of_ble_eq_true rfl) dX7_init_8 (fun H hz hH => ?_)
  have hH : H.size = b + (k + 2) := hH
  obtain ⟨E1, hE1⟩ : ∃ X, X = va_up E (b + (k + 1)) (.inl (cJ, 240, .inr (.inl (fun _ => 0)))) := ⟨_, rfl⟩
  have hz : PS D vwCl (tys3 cJ cI cR) b (k + 2) s E1 H [] := by rw [hE1]; exact hz
  have q1 : ∀ a : Nat, a ≠ (b + (k + 1)) → E1 a = E a := fun a h => by rw [hE1]; exact va_up_ne _ _ h
  have p1 : E1 (b + (k + 1)) = .inl (cJ, 240, .inr (.inl (fun _ => 0))) := by rw [hE1]; exact va_up_self _ _ _
  refine pw_putFS (C := RX7) (T := TX7) (N := 25) (ci := 6) (ty := .array .long) (v := .ref (b + (k + 1))) hx hb hts hw4 tyX7 tyX7_ok nmX7 hown hz hH (by omega) ((q1 _ (lt_ne (Nat.le_of_ble_eq_true rfl))).trans hthis) rfl 1 (by decide) hw5 (fun _ h9 => h9) rfl hin rfl (by decide +kernel) rfl rfl (Nat.le_of_ble_eq_true rfl) dX7_init_10 (fun H locs hz hH => ?_)
  obtain ⟨E2, hE2⟩ : ∃ X, X = va_up E1 (b + k) (.inr (6, [.int 0, .ref (b + (k + 1)), .int 0, .int 0, .null, .null, .int 0, .int 0, .int 0, .null, .null, .int 0, .null, .null, .int 0, .int 0, .int 0, .int 0, .null, .int 0, .long 0, .long 0, .long 0, .int 0, .long 0])) := ⟨_, rfl⟩
  have hz : PS D vwCl (tys3 cJ cI cR) b (k + 2) s E2 H locs := by rw [hE2]; exact hz
  have q2 : ∀ a : Nat, a ≠ (b + k) → E2 a = E1 a := fun a h => by rw [hE2]; exact va_up_ne _ _ h
  have p2 : E2 (b + k) = .inr (6, [.int 0, .ref (b + (k + 1)), .int 0, .int 0, .null, .null, .int 0, .int 0, .int 0, .null, .null, .int 0, .null, .null, .int 0, .int 0, .int 0, .int 0, .null, .int 0, .long 0, .long 0, .long 0, .int 0, .long 0]) := by rw [hE2]; exact va_up_self _ _ _
  refine lv_aload_n hx hb dX7_init_13 rfl (lv_at hl 0 rfl) ?_
  refine lv_bipush (v := 8) hx hb dX7_init_14 (by decide) ?_
  refine pw_newa (atype := .int) (ty := .int) (N' := 8) (a0 := (8, .inl (fun _ => 0))) hx hb hw6 rfl hz hH 1 rfl (fun _ h => by cases h) (fun cA => by rw [vp_cell_i]; rfl) (by decide +kernel) (by decide +kernel) (by show 8 * 4 ≤ 536870912; omega) (Nat.le_of_ble_eq_true rfl) (Nat.le_of_ble_eq_true rfl) dX7_init_16 (fun H hz hH => ?_)
  have hH : H.size = b + (k + 3) := hH
  obtain ⟨E3, hE3⟩ : ∃ X, X = va_up E2 (b + (k + 2)) (.inl (cI, 8, .inl (fun _ => 0))) := ⟨_, rfl⟩
  have hz : PS D vwCl (tys3 cJ cI cR) b (k + 3) s E3 H locs := by rw [hE3]; exact hz
  have q3 : ∀ a : Nat, a ≠ (b + (k + 2)) → E3 a = E2 a := fun a h => by rw [hE3]; exact va_up_ne _ _ h
  have p3 : E3 (b + (k + 2)) = .inl (cI, 8, .inl (fun _ => 0)) := by rw [hE3]; exact va_up_self _ _ _
  refine pw_putFS (C := RX7) (T := TX7) (N := 25) (ci := 6) (ty := .array .int) (v := .ref (b + (k + 2))) hx hb hts hw4 tyX7 tyX7_ok nmX7 hown hz hH (by omega) ((q3 _ (lt_ne (Nat.le_of_ble_eq_true rfl))).trans p2) rfl 4 (by decide) hw7 (fun _ h9 => h9) rfl hin rfl (by decide +kernel) rfl rfl (Nat.le_of_ble_eq_true rfl) dX7_init_18 (fun H locs hz hH => ?_)
  obtain ⟨E4, hE4⟩ : ∃ X, X = va_up E3 (b + k) (.inr (6, [.int 0, .ref (b + (k + 1)), .int 0, .int 0, .ref (b + (k + 2)), .null, .int 0, .int 0, .int 0, .null, .null, .int 0, .null, .null, .int 0, .int 0, .int 0, .int 0, .null, .int 0, .long 0, .long 0, .long 0, .int 0, .long 0])) := ⟨_, rfl⟩
  have hz : PS D vwCl (tys3 cJ cI cR) b (k + 3) s E4 H locs := by rw [hE4]; exact hz
  have q4 : ∀ a : Nat, a ≠ (b + k) → E4 a = E3 a := fun a h => by rw [hE4]; exact va_up_ne _ _ h
  have p4 : E4 (b + k) = .inr (6, [.int 0, .ref (b + (k + 1)), .int 0, .int 0, .ref (b + (k + 2)), .null, .int 0, .int 0, .int 0, .null, .null, .int 0, .null, .null, .int 0, .int 0, .int 0, .int 0, .null, .int 0, .long 0, .long 0, .long 0, .int 0, .long 0]) := by rw [hE4]; exact va_up_self _ _ _
  refine lv_aload_n hx hb dX7_init_21 rfl (lv_at hl 0 rfl) ?_
  refine lv_bipush (v := 8) hx hb dX7_init_22 (by decide) ?_
  refine pw_newa (atype := .int) (ty := .int) (N' := 8) (a0 := (8, .inl (fun _ => 0))) hx hb hw6 rfl hz hH 1 rfl (fun _ h => by cases h) (fun cA => by rw [vp_cell_i]; rfl) (by decide +kernel) (by decide +kernel) (by show 8 * 4 ≤ 536870912; omega) (Nat.le_of_ble_eq_true rfl) (Nat.le_of_ble_eq_true rfl) dX7_init_24 (fun H hz hH => ?_)
  have hH : H.size = b + (k + 4) := hH
  obtain ⟨E5, hE5⟩ : ∃ X, X = va_up E4 (b + (k + 3)) (.inl (cI, 8, .inl (fun _ => 0))) := ⟨_, rfl⟩
  have hz : PS D vwCl (tys3 cJ cI cR) b (k + 4) s E5 H locs := by rw [hE5]; exact hz
  have q5 : ∀ a : Nat, a ≠ (b + (k + 3)) → E5 a = E4 a := fun a h => by rw [hE5]; exact va_up_ne _ _ h
  have p5 : E5 (b + (k + 3)) = .inl (cI, 8, .inl (fun _ => 0)) := by rw [hE5]; exact va_up_self _ _ _
  refine pw_putFS (C := RX7) (T := TX7) (N := 25) (ci := 6) (ty := .array .int) (v := .ref (b + (k + 3))) hx hb hts hw4 tyX7 tyX7_ok nmX7 hown hz hH (by omega) ((q5 _ (lt_ne (Nat.le_of_ble_eq_true rfl))).trans p4) rfl 5 (by decide) hw8 (fun _ h9 => h9) rfl hin rfl (by decide +kernel) rfl rfl (Nat.le_of_ble_eq_true rfl) dX7_init_26 (fun H locs hz hH => ?_)
  obtain ⟨E6, hE6⟩ : ∃ X, X = va_up E5 (b + k) (.inr (6, [.int 0, .ref (b + (k + 1)), .int 0, .int 0, .ref (b + (k + 2)), .ref (b + (k + 3)), .int 0, .int 0, .int 0, .null, .null, .int 0, .null, .null, .int 0, .int 0, .int 0, .int 0, .null, .int 0, .long 0, .long 0, .long 0, .int 0, .long 0])) := ⟨_, rfl⟩
  have hz : PS D vwCl (tys3 cJ cI cR) b (k + 4) s E6 H locs := by rw [hE6]; exact hz
  have q6 : ∀ a : Nat, a ≠ (b + k) → E6 a = E5 a := fun a h => by rw [hE6]; exact va_up_ne _ _ h
  have p6 : E6 (b + k) = .inr (6, [.int 0, .ref (b + (k + 1)), .int 0, .int 0, .ref (b + (k + 2)), .ref (b + (k + 3)), .int 0, .int 0, .int 0, .null, .null, .int 0, .null, .null, .int 0, .int 0, .int 0, .int 0, .null, .int 0, .long 0, .long 0, .long 0, .int 0, .long 0]) := by rw [hE6]; exact va_up_self _ _ _
  refine lv_aload_n hx hb dX7_init_29 rfl (lv_at hl 0 rfl) ?_
  refine lv_bipush (v := 56) hx hb dX7_init_30 (by decide) ?_
  refine pw_newa (atype := .long) (ty := .long) (N' := 56) (a0 := (56, .inr (.inl (fun _ => 0)))) hx hb hw3 rfl hz hH 0 rfl (fun _ h => by cases h) (fun cA => by rw [vp_cell_l]; rfl) (by decide +kernel) (by decide +kernel) (by show 56 * 8 ≤ 536870912; omega) (Nat.le_of_ble_eq_true rfl) (Nat.le_of_ble_eq_true rfl) dX7_init_32 (fun H hz hH => ?_)
  have hH : H.size = b + (k + 5) := hH
  obtain ⟨E7, hE7⟩ : ∃ X, X = va_up E6 (b + (k + 4)) (.inl (cJ, 56, .inr (.inl (fun _ => 0)))) := ⟨_, rfl⟩
  have hz : PS D vwCl (tys3 cJ cI cR) b (k + 5) s E7 H locs := by rw [hE7]; exact hz
  have q7 : ∀ a : Nat, a ≠ (b + (k + 4)) → E7 a = E6 a := fun a h => by rw [hE7]; exact va_up_ne _ _ h
  have p7 : E7 (b + (k + 4)) = .inl (cJ, 56, .inr (.inl (fun _ => 0))) := by rw [hE7]; exact va_up_self _ _ _
  refine pw_putFS (C := RX7) (T := TX7) (N := 25) (ci := 6) (ty := .array .long) (v := .ref (b + (k + 4))) hx hb hts hw4 tyX7 tyX7_ok nmX7 hown hz hH (by omega) ((q7 _ (lt_ne (Nat.le_of_ble_eq_true rfl))).trans p6) rfl 9 (by decide) hw9 (fun _ h9 => h9) rfl hin rfl (by decide +kernel) rfl rfl (Nat.le_of_ble_eq_true rfl) dX7_init_34 (fun H locs hz hH => ?_)
  obtain ⟨E8, hE8⟩ : ∃ X, X = va_up E7 (b + k) (.inr (6, [.int 0, .ref (b + (k + 1)), .int 0, .int 0, .ref (b + (k + 2)), .ref (b + (k + 3)), .int 0, .int 0, .int 0, .ref (b + (k + 4)), .null, .int 0, .null, .null, .int 0, .int 0, .int 0, .int 0, .null, .int 0, .long 0, .long 0, .long 0, .int 0, .long 0])) := ⟨_, rfl⟩
  have hz : PS D vwCl (tys3 cJ cI cR) b (k + 5) s E8 H locs := by rw [hE8]; exact hz
  have q8 : ∀ a : Nat, a ≠ (b + k) → E8 a = E7 a := fun a h => by rw [hE8]; exact va_up_ne _ _ h
  have p8 : E8 (b + k) = .inr (6, [.int 0, .ref (b + (k + 1)), .int 0, .int 0, .ref (b + (k + 2)), .ref (b + (k + 3)), .int 0, .int 0, .int 0, .ref (b + (k + 4)), .null, .int 0, .null, .null, .int 0, .int 0, .int 0, .int 0, .null, .int 0, .long 0, .long 0, .long 0, .int 0, .long 0]) := by rw [hE8]; exact va_up_self _ _ _
  refine lv_aload_n hx hb dX7_init_37 rfl (lv_at hl 0 rfl) ?_
  refine lv_bipush (v := 7) hx hb dX7_init_38 (by decide) ?_
  refine pw_newa (atype := .int) (ty := .int) (N' := 7) (a0 := (7, .inl (fun _ => 0))) hx hb hw6 rfl hz hH 1 rfl (fun _ h => by cases h) (fun cA => by rw [vp_cell_i]; rfl) (by decide +kernel) (by decide +kernel) (by show 7 * 4 ≤ 536870912; omega) (Nat.le_of_ble_eq_true rfl) (Nat.le_of_ble_eq_true rfl) dX7_init_40 (fun H hz hH => ?_)
  have hH : H.size = b + (k + 6) := hH
  obtain ⟨E9, hE9⟩ : ∃ X, X = va_up E8 (b + (k + 5)) (.inl (cI, 7, .inl (fun _ => 0))) := ⟨_, rfl⟩
  have hz : PS D vwCl (tys3 cJ cI cR) b (k + 6) s E9 H locs := by rw [hE9]; exact hz
  have q9 : ∀ a : Nat, a ≠ (b + (k + 5)) → E9 a = E8 a := fun a h => by rw [hE9]; exact va_up_ne _ _ h
  have p9 : E9 (b + (k + 5)) = .inl (cI, 7, .inl (fun _ => 0)) := by rw [hE9]; exact va_up_self _ _ _
  refine pw_putFS (C := RX7) (T := TX7) (N := 25) (ci := 6) (ty := .array .int) (v := .ref (b + (k + 5))) hx hb hts hw4 tyX7 tyX7_ok nmX7 hown hz hH (by omega) ((q9 _ (lt_ne (Nat.le_of_ble_eq_true rfl))).trans p8) rfl 10 (by decide) hw10 (fun _ h9 => h9) rfl hin rfl (by decide +kernel) rfl rfl (Nat.le_of_ble_eq_true rfl) dX7_init_42 (fun H locs hz hH => ?_)
  obtain ⟨E10, hE10⟩ : ∃ X, X = va_up E9 (b + k) (.inr (6, [.int 0, .ref (b + (k + 1)), .int 0, .int 0, .ref (b + (k + 2)), .ref (b + (k + 3)), .int 0, .int 0, .int 0, .ref (b + (k + 4)), .ref (b + (k + 5)), .int 0, .null, .null, .int 0, .int 0, .int 0, .int 0, .null, .int 0, .long 0, .long 0, .long 0, .int 0, .long 0])) := ⟨_, rfl⟩
  have hz : PS D vwCl (tys3 cJ cI cR) b (k + 6) s E10 H locs := by rw [hE10]; exact hz
  have q10 : ∀ a : Nat, a ≠ (b + k) → E10 a = E9 a := fun a h => by rw [hE10]; exact va_up_ne _ _ h
  have p10 : E10 (b + k) = .inr (6, [.int 0, .ref (b + (k + 1)), .int 0, .int 0, .ref (b + (k + 2)), .ref (b + (k + 3)), .int 0, .int 0, .int 0, .ref (b + (k + 4)), .ref (b + (k + 5)), .int 0, .null, .null, .int 0, .int 0, .int 0, .int 0, .null, .int 0, .long 0, .long 0, .long 0, .int 0, .long 0]) := by rw [hE10]; exact va_up_self _ _ _
  refine lv_aload_n hx hb dX7_init_45 rfl (lv_at hl 0 rfl) ?_
  refine lv_bipush (v := 7) hx hb dX7_init_46 (by decide) ?_
  refine pw_newa (atype := .int) (ty := .int) (N' := 7) (a0 := (7, .inl (fun _ => 0))) hx hb hw6 rfl hz hH 1 rfl (fun _ h => by cases h) (fun cA => by rw [vp_cell_i]; rfl) (by decide +kernel) (by decide +kernel) (by show 7 * 4 ≤ 536870912; omega) (Nat.le_of_ble_eq_true rfl) (Nat.le_of_ble_eq_true rfl) dX7_init_48 (fun H hz hH => ?_)
  have hH : H.size = b + (k + 7) := hH
  obtain ⟨E11, hE11⟩ : ∃ X, X = va_up E10 (b + (k + 6)) (.inl (cI, 7, .inl (fun _ => 0))) := ⟨_, rfl⟩
  have hz : PS D vwCl (tys3 cJ cI cR) b (k + 7) s E11 H locs := by rw [hE11]; exact hz
  have q11 : ∀ a : Nat, a ≠ (b + (k + 6)) → E11 a = E10 a := fun a h => by rw [hE11]; exact va_up_ne _ _ h
  have p11 : E11 (b + (k + 6)) = .inl (cI, 7, .inl (fun _ => 0)) := by rw [hE11]; exact va_up_self _ _ _
  refine pw_putFS (C := RX7) (T := TX7) (N := 25) (ci := 6) (ty := .array .int) (v := .ref (b + (k + 6))) hx hb hts hw4 tyX7 tyX7_ok nmX7 hown hz hH (by omega) ((q11 _ (lt_ne (Nat.le_of_ble_eq_true rfl))).trans p10) rfl 12 (by decide) hw11 (fun _ h9 => h9) rfl hin rfl (by decide +kernel) rfl rfl (Nat.le_of_ble_eq_true rfl) dX7_init_50 (fun H locs hz hH => ?_)
  obtain ⟨E12, hE12⟩ : ∃ X, X = va_up E11 (b + k) (.inr (6, [.int 0, .ref (b + (k + 1)), .int 0, .int 0, .ref (b + (k + 2)), .ref (b + (k + 3)), .int 0, .int 0, .int 0, .ref (b + (k + 4)), .ref (b + (k + 5)), .int 0, .ref (b + (k + 6)), .null, .int 0, .int 0, .int 0, .int 0, .null, .int 0, .long 0, .long 0, .long 0, .int 0, .long 0])) := ⟨_, rfl⟩
  have hz : PS D vwCl (tys3 cJ cI cR) b (k + 7) s E12 H locs := by rw [hE12]; exact hz
  have q12 : ∀ a : Nat, a ≠ (b + k) → E12 a = E11 a := fun a h => by rw [hE12]; exact va_up_ne _ _ h
  have p12 : E12 (b + k) = .inr (6, [.int 0, .ref (b + (k + 1)), .int 0, .int 0, .ref (b + (k + 2)), .ref (b + (k + 3)), .int 0, .int 0, .int 0, .ref (b + (k + 4)), .ref (b + (k + 5)), .int 0, .ref (b + (k + 6)), .null, .int 0, .int 0, .int 0, .int 0, .null, .int 0, .long 0, .long 0, .long 0, .int 0, .long 0]) := by rw [hE12]; exact va_up_self _ _ _
  refine lv_aload_n hx hb dX7_init_53 rfl (lv_at hl 0 rfl) ?_
  refine lv_sipush (v := 600) hx hb dX7_init_54 (by decide) ?_
  refine pw_newa (atype := .int) (ty := .int) (N' := 600) (a0 := (600, .inl (fun _ => 0))) hx hb hw6 rfl hz hH 1 rfl (fun _ h => by cases h) (fun cA => by rw [vp_cell_i]; rfl) (by decide +kernel) (by decide +kernel) (by show 600 * 4 ≤ 536870912; omega) (Nat.le_of_ble_eq_true rfl) (Nat.le_of_ble_eq_true rfl) dX7_init_57 (fun H hz hH => ?_)
  have hH : H.size = b + (k + 8) := hH
  obtain ⟨E13, hE13⟩ : ∃ X, X = va_up E12 (b + (k + 7)) (.inl (cI, 600, .inl (fun _ => 0))) := ⟨_, rfl⟩
  have hz : PS D vwCl (tys3 cJ cI cR) b (k + 8) s E13 H locs := by rw [hE13]; exact hz
  have q13 : ∀ a : Nat, a ≠ (b + (k + 7)) → E13 a = E12 a := fun a h => by rw [hE13]; exact va_up_ne _ _ h
  have p13 : E13 (b + (k + 7)) = .inl (cI, 600, .inl (fun _ => 0)) := by rw [hE13]; exact va_up_self _ _ _
  refine pw_putFS (C := RX7) (T := TX7) (N := 25) (ci := 6) (ty := .array .int) (v := .ref (b + (k + 7))) hx hb hts hw4 tyX7 tyX7_ok nmX7 hown hz hH (by omega) ((q13 _ (lt_ne (Nat.le_of_ble_eq_true rfl))).trans p12) rfl 13 (by decide) hw12 (fun _ h9 => h9) rfl hin rfl (by decide +kernel) rfl rfl (Nat.le_of_ble_eq_true rfl) dX7_init_59 (fun H locs hz hH => ?_)
  obtain ⟨E14, hE14⟩ : ∃ X, X = va_up E13 (b + k) (.inr (6, [.int 0, .ref (b + (k + 1)), .int 0, .int 0, .ref (b + (k + 2)), .ref (b + (k + 3)), .int 0, .int 0, .int 0, .ref (b + (k + 4)), .ref (b + (k + 5)), .int 0, .ref (b + (k + 6)), .ref (b + (k + 7)), .int 0, .int 0, .int 0, .int 0, .null, .int 0, .long 0, .long 0, .long 0, .int 0, .long 0])) := ⟨_, rfl⟩
  have hz : PS D vwCl (tys3 cJ cI cR) b (k + 8) s E14 H locs := by rw [hE14]; exact hz
  have q14 : ∀ a : Nat, a ≠ (b + k) → E14 a = E13 a := fun a h => by rw [hE14]; exact va_up_ne _ _ h
  have p14 : E14 (b + k) = .inr (6, [.int 0, .ref (b + (k + 1)), .int 0, .int 0, .ref (b + (k + 2)), .ref (b + (k + 3)), .int 0, .int 0, .int 0, .ref (b + (k + 4)), .ref (b + (k + 5)), .int 0, .ref (b + (k + 6)), .ref (b + (k + 7)), .int 0, .int 0, .int 0, .int 0, .null, .int 0, .long 0, .long 0, .long 0, .int 0, .long 0]) := by rw [hE14]; exact va_up_self _ _ _
  refine lv_aload_n hx hb dX7_init_62 rfl (lv_at hl 0 rfl) ?_
  refine lv_sipush (v := 160) hx hb dX7_init_63 (by decide) ?_
  refine pw_newa (atype := .int) (ty := .int) (N' := 160) (a0 := (160, .inl (fun _ => 0))) hx hb hw6 rfl hz hH 1 rfl (fun _ h => by cases h) (fun cA => by rw [vp_cell_i]; rfl) (by decide +kernel) (by decide +kernel) (by show 160 * 4 ≤ 536870912; omega) (Nat.le_of_ble_eq_true rfl) (Nat.le_of_ble_eq_true rfl) dX7_init_66 (fun H hz hH => ?_)
  have hH : H.size = b + (k + 9) := hH
  obtain ⟨E15, hE15⟩ : ∃ X, X = va_up E14 (b + (k + 8)) (.inl (cI, 160, .inl (fun _ => 0))) := ⟨_, rfl⟩
  have hz : PS D vwCl (tys3 cJ cI cR) b (k + 9) s E15 H locs := by rw [hE15]; exact hz
  have q15 : ∀ a : Nat, a ≠ (b + (k + 8)) → E15 a = E14 a := fun a h => by rw [hE15]; exact va_up_ne _ _ h
  have p15 : E15 (b + (k + 8)) = .inl (cI, 160, .inl (fun _ => 0)) := by rw [hE15]; exact va_up_self _ _ _
  refine pw_putFS (C := RX7) (T := TX7) (N := 25) (ci := 6) (ty := .array .int) (v := .ref (b + (k + 8))) hx hb hts hw4 tyX7 tyX7_ok nmX7 hown hz hH (by omega) ((q15 _ (lt_ne (Nat.le_of_ble_eq_true rfl))).trans p14) rfl 18 (by decide) hw13 (fun _ h9 => h9) rfl hin rfl (by decide +kernel) rfl rfl (Nat.le_of_ble_eq_true rfl) dX7_init_68 (fun H locs hz hH => ?_)
  obtain ⟨E16, hE16⟩ : ∃ X, X = va_up E15 (b + k) (.inr (6, [.int 0, .ref (b + (k + 1)), .int 0, .int 0, .ref (b + (k + 2)), .ref (b + (k + 3)), .int 0, .int 0, .int 0, .ref (b + (k + 4)), .ref (b + (k + 5)), .int 0, .ref (b + (k + 6)), .ref (b + (k + 7)), .int 0, .int 0, .int 0, .int 0, .ref (b + (k + 8)), .int 0, .long 0, .long 0, .long 0, .int 0, .long 0])) := ⟨_, rfl⟩
  have hz : PS D vwCl (tys3 cJ cI cR) b (k + 9) s E16 H locs := by rw [hE16]; exact hz
  have q16 : ∀ a : Nat, a ≠ (b + k) → E16 a = E15 a := fun a h => by rw [hE16]; exact va_up_ne _ _ h
  have p16 : E16 (b + k) = .inr (6, [.int 0, .ref (b + (k + 1)), .int 0, .int 0, .ref (b + (k + 2)), .ref (b + (k + 3)), .int 0, .int 0, .int 0, .ref (b + (k + 4)), .ref (b + (k + 5)), .int 0, .ref (b + (k + 6)), .ref (b + (k + 7)), .int 0, .int 0, .int 0, .int 0, .ref (b + (k + 8)), .int 0, .long 0, .long 0, .long 0, .int 0, .long 0]) := by rw [hE16]; exact va_up_self _ _ _
  have kc1 := ((q16 _ (lc_nt (Nat.le_of_ble_eq_true rfl))).trans ((q15 _ (lc_ne (Nat.le_of_ble_eq_true rfl))).trans ((q14 _ (lc_nt (Nat.le_of_ble_eq_true rfl))).trans ((q13 _ (lc_ne (Nat.le_of_ble_eq_true rfl))).trans ((q12 _ (lc_nt (Nat.le_of_ble_eq_true rfl))).trans ((q11 _ (lc_ne (Nat.le_of_ble_eq_true rfl))).trans ((q10 _ (lc_nt (Nat.le_of_ble_eq_true rfl))).trans ((q9 _ (lc_ne (Nat.le_of_ble_eq_true rfl))).trans ((q8 _ (lc_nt (Nat.le_of_ble_eq_true rfl))).trans ((q7 _ (lc_ne (Nat.le_of_ble_eq_true rfl))).trans ((q6 _ (lc_nt (Nat.le_of_ble_eq_true rfl))).trans ((q5 _ (lc_ne (Nat.le_of_ble_eq_true rfl))).trans ((q4 _ (lc_nt (Nat.le_of_ble_eq_true rfl))).trans ((q3 _ (lc_ne (Nat.le_of_ble_eq_true rfl))).trans ((q2 _ (lc_nt (Nat.le_of_ble_eq_true rfl))).trans p1)))))))))))))))
  rw [(Nat.add_assoc b k 1).symm] at kc1
  have kc2 := ((q16 _ (lc_nt (Nat.le_of_ble_eq_true rfl))).trans ((q15 _ (lc_ne (Nat.le_of_ble_eq_true rfl))).trans ((q14 _ (lc_nt (Nat.le_of_ble_eq_true rfl))).trans ((q13 _ (lc_ne (Nat.le_of_ble_eq_true rfl))).trans ((q12 _ (lc_nt (Nat.le_of_ble_eq_true rfl))).trans ((q11 _ (lc_ne (Nat.le_of_ble_eq_true rfl))).trans ((q10 _ (lc_nt (Nat.le_of_ble_eq_true rfl))).trans ((q9 _ (lc_ne (Nat.le_of_ble_eq_true rfl))).trans ((q8 _ (lc_nt (Nat.le_of_ble_eq_true rfl))).trans ((q7 _ (lc_ne (Nat.le_of_ble_eq_true rfl))).trans ((q6 _ (lc_nt (Nat.le_of_ble_eq_true rfl))).trans ((q5 _ (lc_ne (Nat.le_of_ble_eq_true rfl))).trans ((q4 _ (lc_nt (Nat.le_of_ble_eq_true rfl))).trans p3)))))))))))))
  rw [(Nat.add_assoc b k 2).symm] at kc2
  have kc3 := ((q16 _ (lc_nt (Nat.le_of_ble_eq_true rfl))).trans ((q15 _ (lc_ne (Nat.le_of_ble_eq_true rfl))).trans ((q14 _ (lc_nt (Nat.le_of_ble_eq_true rfl))).trans ((q13 _ (lc_ne (Nat.le_of_ble_eq_true rfl))).trans ((q12 _ (lc_nt (Nat.le_of_ble_eq_true rfl))).trans ((q11 _ (lc_ne (Nat.le_of_ble_eq_true rfl))).trans ((q10 _ (lc_nt (Nat.le_of_ble_eq_true rfl))).trans ((q9 _ (lc_ne (Nat.le_of_ble_eq_true rfl))).trans ((q8 _ (lc_nt (Nat.le_of_ble_eq_true rfl))).trans ((q7 _ (lc_ne (Nat.le_of_ble_eq_true rfl))).trans ((q6 _ (lc_nt (Nat.le_of_ble_eq_true rfl))).trans p5)))))))))))
  rw [(Nat.add_assoc b k 3).symm] at kc3
  have kc4 := ((q16 _ (lc_nt (Nat.le_of_ble_eq_true rfl))).trans ((q15 _ (lc_ne (Nat.le_of_ble_eq_true rfl))).trans ((q14 _ (lc_nt (Nat.le_of_ble_eq_true rfl))).trans ((q13 _ (lc_ne (Nat.le_of_ble_eq_true rfl))).trans ((q12 _ (lc_nt (Nat.le_of_ble_eq_true rfl))).trans ((q11 _ (lc_ne (Nat.le_of_ble_eq_true rfl))).trans ((q10 _ (lc_nt (Nat.le_of_ble_eq_true rfl))).trans ((q9 _ (lc_ne (Nat.le_of_ble_eq_true rfl))).trans ((q8 _ (lc_nt (Nat.le_of_ble_eq_true rfl))).trans p7)))))))))
  rw [(Nat.add_assoc b k 4).symm] at kc4
  have kc5 := ((q16 _ (lc_nt (Nat.le_of_ble_eq_true rfl))).trans ((q15 _ (lc_ne (Nat.le_of_ble_eq_true rfl))).trans ((q14 _ (lc_nt (Nat.le_of_ble_eq_true rfl))).trans ((q13 _ (lc_ne (Nat.le_of_ble_eq_true rfl))).trans ((q12 _ (lc_nt (Nat.le_of_ble_eq_true rfl))).trans ((q11 _ (lc_ne (Nat.le_of_ble_eq_true rfl))).trans ((q10 _ (lc_nt (Nat.le_of_ble_eq_true rfl))).trans p9)))))))
  rw [(Nat.add_assoc b k 5).symm] at kc5
  have kc6 := ((q16 _ (lc_nt (Nat.le_of_ble_eq_true rfl))).trans ((q15 _ (lc_ne (Nat.le_of_ble_eq_true rfl))).trans ((q14 _ (lc_nt (Nat.le_of_ble_eq_true rfl))).trans ((q13 _ (lc_ne (Nat.le_of_ble_eq_true rfl))).trans ((q12 _ (lc_nt (Nat.le_of_ble_eq_true rfl))).trans p11)))))
  rw [(Nat.add_assoc b k 6).symm] at kc6
  have kc7 := ((q16 _ (lc_nt (Nat.le_of_ble_eq_true rfl))).trans ((q15 _ (lc_ne (Nat.le_of_ble_eq_true rfl))).trans ((q14 _ (lc_nt (Nat.le_of_ble_eq_true rfl))).trans p13)))
  rw [(Nat.add_assoc b k 7).symm] at kc7
  have kc8 := ((q16 _ (lc_nt (Nat.le_of_ble_eq_true rfl))).trans p15)
  rw [(Nat.add_assoc b k 8).symm] at kc8
  have kc0 := p16
  rw [(Nat.add_assoc b k 8).symm] at kc0
  rw [(Nat.add_assoc b k 7).symm] at kc0
  rw [(Nat.add_assoc b k 6).symm] at kc0
  rw [(Nat.add_assoc b k 5).symm] at kc0
  rw [(Nat.add_assoc b k 4).symm] at kc0
  rw [(Nat.add_assoc b k 3).symm] at kc0
  rw [(Nat.add_assoc b k 2).symm] at kc0
  rw [(Nat.add_assoc b k 1).symm] at kc0
  exact pw_mret hx hb hret hlocks hz hH (⟨⟨kc0, kc1, kc2, kc3, kc4, kc5, kc6, kc7, kc8⟩, fun a h => ((q16 a (Nat.ne_of_lt h)).trans ((q15 a (lu_ne0 h)).trans ((q14 a (Nat.ne_of_lt h)).trans ((q13 a (lu_ne0 h)).trans ((q12 a (Nat.ne_of_lt h)).trans ((q11 a (lu_ne0 h)).trans ((q10 a (Nat.ne_of_lt h)).trans ((q9 a (lu_ne0 h)).trans ((q8 a (Nat.ne_of_lt h)).trans ((q7 a (lu_ne0 h)).trans ((q6 a (Nat.ne_of_lt h)).trans ((q5 a (lu_ne0 h)).trans ((q4 a (Nat.ne_of_lt h)).trans ((q3 a (lu_ne0 h)).trans ((q2 a (Nat.ne_of_lt h)).trans (q1 a (lu_ne0 h)))))))))))))))))⟩) dX7_init_71

/-! THROWS. -/
theorem vx_bad : ∀ w ∈ (vx_atS RX6 179 XIA XUP).filter (fun w => !goodWord w), w ∈ [Cond.castable XIA XIA, .declares (Bundle.initS "java/lang/RuntimeException"), .declares (Bundle.initS "java/lang/Exception"), .declares (Bundle.initS Bundle.tN)] := by decide +kernel
theorem vx_gd : ∀ w ∈ Cond.classLink RX6 175 XIA :: Cond.initialized XIA :: vx_atS RX6 179 XIA XUP, vx_ot w = true := by decide +kernel
/-- an IllegalArgumentException; the pool as px says -/
def cX (D : va_G) (cl : List vw_C) (b n : Nat) (px : (Nat → va_E) → Prop) : String → State → State → Prop := vx_X px (fun Ex E' t => Ex = XIA ∧ va_P D cl (va_pl (pl_L b n) E') t.heap) (PA b)
section TH
variable {p : Program} {l : Launch} {e : Env} {R : Room} {s : State} {m : MethodId} {args : Array Value} {below : List Frame} {meth : Method} {c : Code} {H : Heap} {locs : List Loc} {cells slots : Nat} {Q : State → Prop}
variable {cc : ByteArray} {pc : Nat} {ls : Array Slot} {rest : List Value} {Qc : Array Value → State → Outcome → State → Prop}
variable {D : va_G} {cl : List vw_C} {tys : List (ClassId × FieldType)} {b n : Nat} {E : Nat → va_E} {px : (Nat → va_E) → Prop}
theorem pw_throw {text : String} {is mc ms sa : Nat} (hexec : p.tables.exec = Jvm.exec) (hb : c.code = cc) (hl : l.stackTraces = false) (hown : s.vm.findClass RX6 = some m.cls)
    (hk : (Cond.classLink RX6 175 XIA).before args s = true) (hini : (Cond.initialized XIA).before args s = true) (hg : ∀ w ∈ (vx_atS RX6 179 XIA XUP).filter goodWord, w.before args s = true) (hstr : vk_R RX6 is text sa s) (hz : PS D cl tys b n s E H locs) (hsize : ls.size = c.maxLocals) (hnt : ∀ x ∈ c.exceptionTable.toList, False)
    (d0 : decode cc pc = .ok (.new 175, 3)) (d3 : decode cc (pc + 3) = .ok (.dup, 1)) (d4 : decode cc (pc + 4) = .ok (.ldc is, 2)) (d6 : decode cc (pc + 6) = .ok (.invokespecial 179, 3)) (d9 : decode cc (pc + 9) = .ok (.athrow, 1))
    (hRframes : 5 < R.frames) (hRlocals : (rest.map fun v => v.category).sum + 82 ≤ R.locals) (hRcells : cells + 1 ≤ R.cells) (hRslots : slots + 6 ≤ R.slots) (hlocks : meth.locks = false) (hp : px E) (hc : cells + 1 ≤ mc) (hs : slots + 6 ≤ ms) :
    W p l e R s m args below meth c H locs cells slots (vx_MQ below Qc (cX D cl b n px) args s mc ms (PA b)) (F0 m pc ls rest) := by
  have hG := hz.2.2.2.2.2.2.1.2.2.2.2.2
  have hat : ∀ w ∈ vx_atS RX6 179 XIA XUP, w.before args s = true := vx_hat hg vx_bad (vx_c (hG.1.use rfl) (vx_c (hG.2.1.use rfl) (vx_c (hG.2.2.1.use rfl) (vx_c (hG.2.2.2.use rfl) vx_n))))
  refine vx_throwS (A := PA b) (names := XUP) hexec hb hl hown (by decide +kernel) (by decide +kernel) hk hini hstr hat vx_gd hz.2.2.2.2.2.2.2.1.1 hz.2.2.2.2.2.2.2.1.2 hz.2.1 hsize d0 d3 d4 d6 d9 (fun x h => (hnt x h).elim) hRframes hRlocals hRcells hRslots hlocks ?_ hz.2.1.2.2 hc hs
  intro t ha h1 h2
  refine ⟨E, hp, ⟨rfl, fun k q hk => (hz.1 k q hk).kept (h2 q.1 (hz.1 k q hk).lt)⟩, ⟨Nat.le_trans hz.2.1.1 h1, fun q g1 g2 => ?_⟩⟩
  rw [h2 q (Nat.lt_of_lt_of_le g1 hz.2.1.1)]
  exact hz.2.1.2.1 q g1 g2
end TH

set_option maxHeartbeats 400000 in
set_option maxRecDepth 100000 in
theorem c_checkSlot_ok (l : Launch) (D : va_G) (cJ cI cR : ClassId) (b n : Nat) (E : Nat → va_E) (sz : Nat) (x : Int32) (h : ¬ x < 0 ∧ x < 8) : Met l yX6_checkSlot wsX6_checkSlot { frames := 0, cells := 0, slots := 0, locals := 0 } (cP D vwCl (tys3 cJ cI cR) b n E sz [.int x]) (cQv D vwCl (tys3 cJ cI cR) b n (fun E' => E' = E)) 0 0 (PA b) := by
  refine Met.ofW (cc := cX6_checkSlot) (maxL := 1) (ret := none) (by decide) rfl ?_
  intro p e s m args below meth c s₁ B hml hv
  obtain ⟨rfl, hsz, hB⟩ := hv
  have hx := B.exec
  have hb := B.bytes
  have hret := B.returns
  have hts := atoms_spec (ws := wsX6_checkSlot) B.pre
  have hown : s.vm.findClass RX6 = some m.cls := findClass_of_methodNamed B.named
  have hlocks := B.notSynchronized
  subst hsz
  have hz := PS.start hB
  have hl := lv_entry ([.int x]) (n := 1) (Nat.le_of_ble_eq_true rfl)
  rw [lg_entry_eq]
  generalize (lg_sl ([.int x]) ++ List.replicate (1 - (lg_sl ([.int x])).length) Slot.unset).toArray = ls at hl ⊢
  have hl : lv_has ls 1 [(0, .int x)] := hl
  refine lv_iload_n hx hb dX6_checkSlot_0 rfl (lv_at hl 0 rfl) ?_
  refine lv_if_lt (tgt := 10) hx hb dX6_checkSlot_1 (by decide) (fun q1 => ?_) (fun q1 => ?_)
  · skip
    exact absurd q1 h.1
  · skip
    refine lv_iload_n hx hb dX6_checkSlot_4 rfl (lv_at hl 0 rfl) ?_
    refine lv_bipush (v := 8) hx hb dX6_checkSlot_5 (by decide) ?_
    refine lv_icmp_lt (tgt := 20) hx hb dX6_checkSlot_7 (by decide) (fun q2 => ?_) (fun q2 => ?_)
    · skip
      exact pw_vret hx hb hret hlocks hz rfl dX6_checkSlot_20
    · skip
      exact absurd h.2 q2

set_option maxHeartbeats 400000 in
set_option maxRecDepth 100000 in
theorem c_checkSlot_no (l : Launch) (hst : l.stackTraces = false) (D : va_G) (cJ cI cR : ClassId) (b n : Nat) (E : Nat → va_E) (sz : Nat) (x : Int32) (h : ¬ (¬ x < 0 ∧ x < 8)) : vx_Met l yX6_checkSlot wsX6_checkSlot { frames := 6, cells := 1, slots := 6, locals := 82 } (cP D vwCl (tys3 cJ cI cR) b n E sz [.int x]) (cQv D vwCl (tys3 cJ cI cR) b n (fun _ => False)) (cX D vwCl b n (fun E' => E' = E)) 1 6 (PA b) := by
  refine vx_ofW (cc := cX6_checkSlot) (maxL := 1) (ret := none) (by decide) rfl ?_
  intro p e s m args below meth c s₁ B hml hnt hv
  obtain ⟨rfl, hsz, hB⟩ := hv
  have hx := B.exec
  have hb := B.bytes
  have hret := B.returns
  have hts := atoms_spec (ws := wsX6_checkSlot) B.pre
  have hown : s.vm.findClass RX6 = some m.cls := findClass_of_methodNamed B.named
  have hlocks := B.notSynchronized
  subst hsz
  have hz := PS.start hB
  have hl := lv_entry ([.int x]) (n := 1) (Nat.le_of_ble_eq_true rfl)
  rw [lg_entry_eq]
  generalize (lg_sl ([.int x]) ++ List.replicate (1 - (lg_sl ([.int x])).length) Slot.unset).toArray = ls at hl ⊢
  have hl : lv_has ls 1 [(0, .int x)] := hl
  have hw0 := hts (.classLink RX6 175 XIA) (by decide +kernel)
  have hw1 := hts (.initialized XIA) (by decide +kernel)
  refine lv_iload_n hx hb dX6_checkSlot_0 rfl (lv_at hl 0 rfl) ?_
  refine lv_if_lt (tgt := 10) hx hb dX6_checkSlot_1 (by decide) (fun q1 => ?_) (fun q1 => ?_)
  · skip
    obtain ⟨sa, hstr⟩ := hz.2.2.2.2.2.2.1.1
    exact pw_throw hx hb hst hown hw0 hw1 (fun w h => hts w (List.mem_cons_of_mem _ (List.mem_append_right _ h))) hstr hz (by rw [hml]; exact hl.1) hnt dX6_checkSlot_10 dX6_checkSlot_13 dX6_checkSlot_14 dX6_checkSlot_16 dX6_checkSlot_19 (Nat.le_of_ble_eq_true rfl) (Nat.le_of_ble_eq_true rfl) (Nat.le_of_ble_eq_true rfl) (Nat.le_of_ble_eq_true rfl) hlocks rfl (Nat.le_of_ble_eq_true rfl) (Nat.le_of_ble_eq_true rfl)
  · skip
    refine lv_iload_n hx hb dX6_checkSlot_4 rfl (lv_at hl 0 rfl) ?_
    refine lv_bipush (v := 8) hx hb dX6_checkSlot_5 (by decide) ?_
    refine lv_icmp_lt (tgt := 20) hx hb dX6_checkSlot_7 (by decide) (fun q2 => ?_) (fun q2 => ?_)
    · skip
      exact absurd ⟨q1, q2⟩ h
    · skip
      obtain ⟨sa, hstr⟩ := hz.2.2.2.2.2.2.1.1
      exact pw_throw hx hb hst hown hw0 hw1 (fun w h => hts w (List.mem_cons_of_mem _ (List.mem_append_right _ h))) hstr hz (by rw [hml]; exact hl.1) hnt dX6_checkSlot_10 dX6_checkSlot_13 dX6_checkSlot_14 dX6_checkSlot_16 dX6_checkSlot_19 (Nat.le_of_ble_eq_true rfl) (Nat.le_of_ble_eq_true rfl) (Nat.le_of_ble_eq_true rfl) (Nat.le_of_ble_eq_true rfl) hlocks rfl (Nat.le_of_ble_eq_true rfl) (Nat.le_of_ble_eq_true rfl)

set_option maxHeartbeats 400000 in
set_option maxRecDepth 100000 in
theorem c_checkPlace_ok (l : Launch) (D : va_G) (cJ cI cR : ClassId) (b n : Nat) (E : Nat → va_E) (sz : Nat) (x : Int32) (h : ¬ x < 0 ∧ x ≤ 6) : Met l yX6_checkPlace wsX6_checkPlace { frames := 0, cells := 0, slots := 0, locals := 0 } (cP D vwCl (tys3 cJ cI cR) b n E sz [.int x]) (cQv D vwCl (tys3 cJ cI cR) b n (fun E' => E' = E)) 0 0 (PA b) := by
  refine Met.ofW (cc := cX6_checkPlace) (maxL := 1) (ret := none) (by decide) rfl ?_
  intro p e s m args below meth c s₁ B hml hv
  obtain ⟨rfl, hsz, hB⟩ := hv
  have hx := B.exec
  have hb := B.bytes
  have hret := B.returns
  have hts := atoms_spec (ws := wsX6_checkPlace) B.pre
  have hown : s.vm.findClass RX6 = some m.cls := findClass_of_methodNamed B.named
  have hlocks := B.notSynchronized
  subst hsz
  have hz := PS.start hB
  have hl := lv_entry ([.int x]) (n := 1) (Nat.le_of_ble_eq_true rfl)
  rw [lg_entry_eq]
  generalize (lg_sl ([.int x]) ++ List.replicate (1 - (lg_sl ([.int x])).length) Slot.unset).toArray = ls at hl ⊢
  have hl : lv_has ls 1 [(0, .int x)] := hl
  refine lv_iload_n hx hb dX6_checkPlace_0 rfl (lv_at hl 0 rfl) ?_
  refine lv_if_lt (tgt := 10) hx hb dX6_checkPlace_1 (by decide) (fun q1 => ?_) (fun q1 => ?_)
  · skip
    exact absurd q1 h.1
  · skip
    refine lv_iload_n hx hb dX6_checkPlace_4 rfl (lv_at hl 0 rfl) ?_
    refine lv_bipush (v := 6) hx hb dX6_checkPlace_5 (by decide) ?_
    refine lv_icmp_le (tgt := 20) hx hb dX6_checkPlace_7 (by decide) (fun q2 => ?_) (fun q2 => ?_)
    · skip
      exact pw_vret hx hb hret hlocks hz rfl dX6_checkPlace_20
    · skip
      exact absurd h.2 q2

set_option maxHeartbeats 400000 in
set_option maxRecDepth 100000 in
theorem c_checkPlace_no (l : Launch) (hst : l.stackTraces = false) (D : va_G) (cJ cI cR : ClassId) (b n : Nat) (E : Nat → va_E) (sz : Nat) (x : Int32) (h : ¬ (¬ x < 0 ∧ x ≤ 6)) : vx_Met l yX6_checkPlace wsX6_checkPlace { frames := 6, cells := 1, slots := 6, locals := 82 } (cP D vwCl (tys3 cJ cI cR) b n E sz [.int x]) (cQv D vwCl (tys3 cJ cI cR) b n (fun _ => False)) (cX D vwCl b n (fun E' => E' = E)) 1 6 (PA b) := by
  refine vx_ofW (cc := cX6_checkPlace) (maxL := 1) (ret := none) (by decide) rfl ?_
  intro p e s m args below meth c s₁ B hml hnt hv
  obtain ⟨rfl, hsz, hB⟩ := hv
  have hx := B.exec
  have hb := B.bytes
  have hret := B.returns
  have hts := atoms_spec (ws := wsX6_checkPlace) B.pre
  have hown : s.vm.findClass RX6 = some m.cls := findClass_of_methodNamed B.named
  have hlocks := B.notSynchronized
  subst hsz
  have hz := PS.start hB
  have hl := lv_entry ([.int x]) (n := 1) (Nat.le_of_ble_eq_true rfl)
  rw [lg_entry_eq]
  generalize (lg_sl ([.int x]) ++ List.replicate (1 - (lg_sl ([.int x])).length) Slot.unset).toArray = ls at hl ⊢
  have hl : lv_has ls 1 [(0, .int x)] := hl
  have hw0 := hts (.classLink RX6 175 XIA) (by decide +kernel)
  have hw1 := hts (.initialized XIA) (by decide +kernel)
  refine lv_iload_n hx hb dX6_checkPlace_0 rfl (lv_at hl 0 rfl) ?_
  refine lv_if_lt (tgt := 10) hx hb dX6_checkPlace_1 (by decide) (fun q1 => ?_) (fun q1 => ?_)
  · skip
    obtain ⟨sa, hstr⟩ := hz.2.2.2.2.2.2.1.2.1
    exact pw_throw hx hb hst hown hw0 hw1 (fun w h => hts w (List.mem_cons_of_mem _ (List.mem_append_right _ h))) hstr hz (by rw [hml]; exact hl.1) hnt dX6_checkPlace_10 dX6_checkPlace_13 dX6_checkPlace_14 dX6_checkPlace_16 dX6_checkPlace_19 (Nat.le_of_ble_eq_true rfl) (Nat.le_of_ble_eq_true rfl) (Nat.le_of_ble_eq_true rfl) (Nat.le_of_ble_eq_true rfl) hlocks rfl (Nat.le_of_ble_eq_true rfl) (Nat.le_of_ble_eq_true rfl)
  · skip
    refine lv_iload_n hx hb dX6_checkPlace_4 rfl (lv_at hl 0 rfl) ?_
    refine lv_bipush (v := 6) hx hb dX6_checkPlace_5 (by decide) ?_
    refine lv_icmp_le (tgt := 20) hx hb dX6_checkPlace_7 (by decide) (fun q2 => ?_) (fun q2 => ?_)
    · skip
      exact absurd ⟨q1, q2⟩ h
    · skip
      obtain ⟨sa, hstr⟩ := hz.2.2.2.2.2.2.1.2.1
      exact pw_throw hx hb hst hown hw0 hw1 (fun w h => hts w (List.mem_cons_of_mem _ (List.mem_append_right _ h))) hstr hz (by rw [hml]; exact hl.1) hnt dX6_checkPlace_10 dX6_checkPlace_13 dX6_checkPlace_14 dX6_checkPlace_16 dX6_checkPlace_19 (Nat.le_of_ble_eq_true rfl) (Nat.le_of_ble_eq_true rfl) (Nat.le_of_ble_eq_true rfl) (Nat.le_of_ble_eq_true rfl) hlocks rfl (Nat.le_of_ble_eq_true rfl) (Nat.le_of_ble_eq_true rfl)

set_option maxHeartbeats 400000 in
set_option maxRecDepth 100000 in
theorem c_checkWithin_ok (l : Launch) (D : va_G) (cJ cI cR : ClassId) (b n : Nat) (E : Nat → va_E) (sz : Nat) (x y : Int32) (h : ¬ x < -y ∧ x ≤ y) : Met l yX6_checkWithin wsX6_checkWithin { frames := 0, cells := 0, slots := 0, locals := 0 } (cP D vwCl (tys3 cJ cI cR) b n E sz [.int x, .int y]) (cQv D vwCl (tys3 cJ cI cR) b n (fun E' => E' = E)) 0 0 (PA b) := by
  refine Met.ofW (cc := cX6_checkWithin) (maxL := 2) (ret := none) (by decide) rfl ?_
  intro p e s m args below meth c s₁ B hml hv
  obtain ⟨rfl, hsz, hB⟩ := hv
  have hx := B.exec
  have hb := B.bytes
  have hret := B.returns
  have hts := atoms_spec (ws := wsX6_checkWithin) B.pre
  have hown : s.vm.findClass RX6 = some m.cls := findClass_of_methodNamed B.named
  have hlocks := B.notSynchronized
  subst hsz
  have hz := PS.start hB
  have hl := lv_entry ([.int x, .int y]) (n := 2) (Nat.le_of_ble_eq_true rfl)
  rw [lg_entry_eq]
  generalize (lg_sl ([.int x, .int y]) ++ List.replicate (2 - (lg_sl ([.int x, .int y])).length) Slot.unset).toArray = ls at hl ⊢
  have hl : lv_has ls 2 [(0, .int x), (1, .int y)] := hl
  refine lv_iload_n hx hb dX6_checkWithin_0 rfl (lv_at hl 0 rfl) ?_
  refine lv_iload_n hx hb dX6_checkWithin_1 rfl (lv_at hl 1 rfl) ?_
  refine lv_ineg hx hb dX6_checkWithin_2 ?_
  refine lv_icmp_lt (tgt := 11) hx hb dX6_checkWithin_3 (by decide) (fun q1 => ?_) (fun q1 => ?_)
  · skip
    exact absurd q1 h.1
  · skip
    refine lv_iload_n hx hb dX6_checkWithin_6 rfl (lv_at hl 0 rfl) ?_
    refine lv_iload_n hx hb dX6_checkWithin_7 rfl (lv_at hl 1 rfl) ?_
    refine lv_icmp_le (tgt := 21) hx hb dX6_checkWithin_8 (by decide) (fun q2 => ?_) (fun q2 => ?_)
    · skip
      exact pw_vret hx hb hret hlocks hz rfl dX6_checkWithin_21
    · skip
      exact absurd h.2 q2

set_option maxHeartbeats 400000 in
set_option maxRecDepth 100000 in
theorem c_checkWithin_no (l : Launch) (hst : l.stackTraces = false) (D : va_G) (cJ cI cR : ClassId) (b n : Nat) (E : Nat → va_E) (sz : Nat) (x y : Int32) (h : ¬ (¬ x < -y ∧ x ≤ y)) : vx_Met l yX6_checkWithin wsX6_checkWithin { frames := 6, cells := 1, slots := 6, locals := 82 } (cP D vwCl (tys3 cJ cI cR) b n E sz [.int x, .int y]) (cQv D vwCl (tys3 cJ cI cR) b n (fun _ => False)) (cX D vwCl b n (fun E' => E' = E)) 1 6 (PA b) := by
  refine vx_ofW (cc := cX6_checkWithin) (maxL := 2) (ret := none) (by decide) rfl ?_
  intro p e s m args below meth c s₁ B hml hnt hv
  obtain ⟨rfl, hsz, hB⟩ := hv
  have hx := B.exec
  have hb := B.bytes
  have hret := B.returns
  have hts := atoms_spec (ws := wsX6_checkWithin) B.pre
  have hown : s.vm.findClass RX6 = some m.cls := findClass_of_methodNamed B.named
  have hlocks := B.notSynchronized
  subst hsz
  have hz := PS.start hB
  have hl := lv_entry ([.int x, .int y]) (n := 2) (Nat.le_of_ble_eq_true rfl)
  rw [lg_entry_eq]
  generalize (lg_sl ([.int x, .int y]) ++ List.replicate (2 - (lg_sl ([.int x, .int y])).length) Slot.unset).toArray = ls at hl ⊢
  have hl : lv_has ls 2 [(0, .int x), (1, .int y)] := hl
  have hw0 := hts (.classLink RX6 175 XIA) (by decide +kernel)
  have hw1 := hts (.initialized XIA) (by decide +kernel)
  refine lv_iload_n hx hb dX6_checkWithin_0 rfl (lv_at hl 0 rfl) ?_
  refine lv_iload_n hx hb dX6_checkWithin_1 rfl (lv_at hl 1 rfl) ?_
  refine lv_ineg hx hb dX6_checkWithin_2 ?_
  refine lv_icmp_lt (tgt := 11) hx hb dX6_checkWithin_3 (by decide) (fun q1 => ?_) (fun q1 => ?_)
  · skip
    obtain ⟨sa, hstr⟩ := hz.2.2.2.2.2.2.1.2.2.1
    exact pw_throw hx hb hst hown hw0 hw1 (fun w h => hts w (List.mem_cons_of_mem _ (List.mem_append_right _ h))) hstr hz (by rw [hml]; exact hl.1) hnt dX6_checkWithin_11 dX6_checkWithin_14 dX6_checkWithin_15 dX6_checkWithin_17 dX6_checkWithin_20 (Nat.le_of_ble_eq_true rfl) (Nat.le_of_ble_eq_true rfl) (Nat.le_of_ble_eq_true rfl) (Nat.le_of_ble_eq_true rfl) hlocks rfl (Nat.le_of_ble_eq_true rfl) (Nat.le_of_ble_eq_true rfl)
  · skip
    refine lv_iload_n hx hb dX6_checkWithin_6 rfl (lv_at hl 0 rfl) ?_
    refine lv_iload_n hx hb dX6_checkWithin_7 rfl (lv_at hl 1 rfl) ?_
    refine lv_icmp_le (tgt := 21) hx hb dX6_checkWithin_8 (by decide) (fun q2 => ?_) (fun q2 => ?_)
    · skip
      exact absurd ⟨q1, q2⟩ h
    · skip
      obtain ⟨sa, hstr⟩ := hz.2.2.2.2.2.2.1.2.2.1
      exact pw_throw hx hb hst hown hw0 hw1 (fun w h => hts w (List.mem_cons_of_mem _ (List.mem_append_right _ h))) hstr hz (by rw [hml]; exact hl.1) hnt dX6_checkWithin_11 dX6_checkWithin_14 dX6_checkWithin_15 dX6_checkWithin_17 dX6_checkWithin_20 (Nat.le_of_ble_eq_true rfl) (Nat.le_of_ble_eq_true rfl) (Nat.le_of_ble_eq_true rfl) (Nat.le_of_ble_eq_true rfl) hlocks rfl (Nat.le_of_ble_eq_true rfl) (Nat.le_of_ble_eq_true rfl)
