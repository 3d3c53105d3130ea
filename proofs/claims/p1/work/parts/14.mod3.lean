theorem sum0v (p q : Int64) : p * 0 + q * 0 = 0 := by simp
theorem mul0v (p : Int64) : p * 0 = 0 := by simp
theorem ix63 {k : Nat} (h : 1 ≤ k) : (64 : Int32) + nI k - 1 = nI (63 + k) := by
  rw [ix64, show 64 + k = (63 + k) + 1 by omega, nI_pred]
theorem ix64b (i k : Nat) : (64 : Int32) + nI i + nI k = nI (64 + i + k) := by rw [ix64, nI_add]
theorem m1lt {i : Int32} (h : ¬ i < 0) : (0 - 1 : Int32) < i := by
  obtain ⟨j, hj, rfl⟩ := nI_of h
  rw [Int32.lt_iff_toInt_lt, nI_toInt hj, show (0 - 1 : Int32).toInt = -1 by decide]
  omega
theorem notIn (i : Int32) : ¬ inI i 0 (0 - 1) := fun h => h.2 (m1lt h.1)

set_option maxHeartbeats 400000 in
set_option maxRecDepth 100000 in
/-- set of the fresh reference -/
theorem c_mset_ok (l : Launch) (D : va_G) (cJ cI cR : ClassId) (b n : Nat) (E : Nat → va_E) (sz : Nat) (a : Nat) (ref : Int32) (ha : b ≤ a ∧ a + 9 ≤ b + n) (hm : E a = modO a ref) (hrow : E (a + 1) = rowM cJ (fun _ => 0)) (j : Nat) (hj : j < 8) (i : Nat) (hi : i < 7) (hi6 : inI (nI i) 0 6) (cv : Int32) (hc : inI cv (-300) 300) : Met l yX7_set wsX7_set { frames := 1, cells := 0, slots := 0, locals := 22 } (cP D vwCl (tys3 cJ cI cR) b n E sz [.ref a, .int (nI j), .int (nI i), .int cv]) (cQi D vwCl (tys3 cJ cI cR) b n (fun v E' => v = (dg (fun k => vp_updL (fun _ => 0) (8 * j + i) (Int32.toInt64 cv) (8 * j + k)) 8) ∧ (∃ fs, E' a = .inr (6, .int 0 :: fs)) ∧ ∀ q, q < a ∨ a + 9 ≤ q → E' q = E q)) 0 0 (PA b) := by
  refine Met.ofW (cc := cX7_set) (maxL := 4) (ret := (some .int)) (by decide) rfl ?_
  intro p e s m args below meth c s₁ B hml hv
  obtain ⟨rfl, hsz, hB⟩ := hv
  have hx := B.exec
  have hb := B.bytes
  have hret := B.returns
  have hts := atoms_spec (ws := wsX7_set) B.pre
  have hown : s.vm.findClass RX7 = some m.cls := findClass_of_methodNamed B.named
  have hlocks := B.notSynchronized
  subst hsz
  have hz := PS.start hB
  have hl := lv_entry ([.ref a, .int (nI j), .int (nI i), .int cv]) (n := 4) (Nat.le_of_ble_eq_true rfl)
  rw [lg_entry_eq]
  generalize (lg_sl ([.ref a, .int (nI j), .int (nI i), .int cv]) ++ List.replicate (4 - (lg_sl ([.ref a, .int (nI j), .int (nI i), .int cv])).length) Slot.unset).toArray = ls at hl ⊢
  have hl : lv_has ls 4 [(0, .ref a), (1, .int (nI j)), (2, .int (nI i)), (3, .int cv)] := hl
  have hw0 : ∀ w ∈ u_ws RX7 TX7 25, w ∈ wsX7_set := by decide +kernel
  have hw1 := hts (.fieldLink RX7 7 "GaloisDeskModel" "row" "[J") (by decide +kernel)
  refine lv_aload_n hx hb dX7_set_0 rfl (lv_at hl 0 rfl) ?_
  refine lv_iload_n hx hb dX7_set_1 rfl (lv_at hl 1 rfl) ?_
  refine pw_calli hz (va_runS (As := [.int (nI j)]) (rest := [.ref a]) ⟨hx, hb, hml, hown, hts⟩ (c_isSlot_1 l D cJ cI cR b n _ _ ((nI j)) (nI_okS hj)) (va_cwS 1 hts gX7_set_X7_isSlot rfl rfl rfl (by decide +kernel) ⟨Nat.le_of_ble_eq_true rfl, Nat.le_of_ble_eq_true rfl⟩) hz.preS rfl rfl hl.1 rfl (lv_room (Nat.le_of_ble_eq_true rfl)) dX7_set_2 ⟨Nat.le_of_ble_eq_true rfl, Nat.le_of_ble_eq_true rfl⟩) (fun r_1 Ev H locs hp hz => ?_)
  obtain ⟨hr_1, hp⟩ := hp
  subst hr_1
  rw [hp] at hz
  refine lv_if_eq (tgt := 35) hx hb dX7_set_5 (by decide) (fun qw => ?_) (fun _ => ?_)
  · exact absurd qw (by decide)
  refine lv_iload_n hx hb dX7_set_8 rfl (lv_at hl 2 rfl) ?_
  refine lv_iconst (v := 0) hx hb dX7_set_9 (by decide) ?_
  refine lv_bipush (v := 6) hx hb dX7_set_10 (by decide) ?_
  refine pw_calli hz (va_runS (As := [.int (nI i), .int 0, .int 6]) (rest := [.ref a]) ⟨hx, hb, hml, hown, hts⟩ (c_isIn_1 l D cJ cI cR b n _ _ ((nI i)) (0) (6) hi6) (va_cwS 3 hts gX7_set_X7_isIn rfl rfl rfl (by decide +kernel) ⟨Nat.le_of_ble_eq_true rfl, Nat.le_of_ble_eq_true rfl⟩) hz.preS rfl rfl hl.1 rfl (lv_room (Nat.le_of_ble_eq_true rfl)) dX7_set_12 ⟨Nat.le_of_ble_eq_true rfl, Nat.le_of_ble_eq_true rfl⟩) (fun r_2 Ev H locs hp hz => ?_)
  obtain ⟨hr_2, hp⟩ := hp
  subst hr_2
  rw [hp] at hz
  refine lv_if_eq (tgt := 35) hx hb dX7_set_15 (by decide) (fun qw => ?_) (fun _ => ?_)
  · exact absurd qw (by decide)
  refine lv_iload_n hx hb dX7_set_18 rfl (lv_at hl 3 rfl) ?_
  refine lv_sipush (v := (-300)) hx hb dX7_set_19 (by decide) ?_
  refine lv_sipush (v := 300) hx hb dX7_set_22 (by decide) ?_
  refine pw_calli hz (va_runS (As := [.int cv, .int (-300), .int 300]) (rest := [.ref a]) ⟨hx, hb, hml, hown, hts⟩ (c_isIn_1 l D cJ cI cR b n _ _ (cv) ((-300)) (300) hc) (va_cwS 3 hts gX7_set_X7_isIn rfl rfl rfl (by decide +kernel) ⟨Nat.le_of_ble_eq_true rfl, Nat.le_of_ble_eq_true rfl⟩) hz.preS rfl rfl hl.1 rfl (lv_room (Nat.le_of_ble_eq_true rfl)) dX7_set_25 ⟨Nat.le_of_ble_eq_true rfl, Nat.le_of_ble_eq_true rfl⟩) (fun r_3 Ev H locs hp hz => ?_)
  obtain ⟨hr_3, hp⟩ := hp
  subst hr_3
  rw [hp] at hz
  refine lv_if_eq (tgt := 35) hx hb dX7_set_28 (by decide) (fun qw => ?_) (fun _ => ?_)
  · exact absurd qw (by decide)
  refine lv_iconst (v := 0) hx hb dX7_set_31 (by decide) ?_
  refine lv_goto (tgt := 36) hx hb dX7_set_32 (by decide) ?_
  refine pw_calli hz (va_runV (As := [.int 0]) (rest := []) ⟨hx, hb, hml, hown, hts⟩ (c_refused_0 l D cJ cI cR b n _ _ a ref ha hm) (cwV 1 hts gX7_set_X7_refused rfl rfl rfl (by decide +kernel) ⟨Nat.le_of_ble_eq_true rfl, Nat.le_of_ble_eq_true rfl⟩) (hz.preV (by omega) hm rfl) rfl rfl hl.1 rfl (lv_room (Nat.le_of_ble_eq_true rfl)) dX7_set_36 ⟨Nat.le_of_ble_eq_true rfl, Nat.le_of_ble_eq_true rfl⟩) (fun r_4 Ev H locs hp hz => ?_)
  obtain ⟨hr_4, hp⟩ := hp
  subst hr_4
  rw [hp] at hz
  have hz : PS D vwCl (tys3 cJ cI cR) b n s (va_up E a (.inr (6, [.int 0, .ref (a + 1), .int 0, .int 0, .ref (a + 2), .ref (a + 3), .int 0, .int 0, .int 0, .ref (a + 4), .ref (a + 5), .int 0, .ref (a + 6), .ref (a + 7), .int 0, .int 0, .int 0, .int 0, .ref (a + 8), .int 0, .long 0, .long 0, .long 0, .int 0, .long 0]))) H locs := hz
  refine lv_if_eq (tgt := 44) hx hb dX7_set_39 (by decide) (fun _ => ?_) (fun qw => ?_)
  rotate_left
  · exact absurd rfl qw
  obtain ⟨E2, hE2⟩ : ∃ X, X = va_up E a (modO a 0) := ⟨_, rfl⟩
  have hz : PS D vwCl (tys3 cJ cI cR) b n s E2 H locs := by rw [hE2]; exact hz
  have hm2 : E2 a = modO a 0 := by rw [hE2]; exact va_up_self _ _ _
  have hrow2 : E2 (a + 1) = rowM cJ (fun _ => 0) := by rw [hE2]; exact (va_up_ne _ _ (by omega)).trans hrow
  have fr : ∀ q, q < a ∨ a + 9 ≤ q → E2 q = E q := fun q h => by rw [hE2]; exact va_up_ne _ _ (by omega)
  refine lv_aload_n hx hb dX7_set_44 rfl (lv_at hl 0 rfl) ?_
  refine pw_get (C := RX7) (T := TX7) (N := 25) (ci := 6) (v := .ref (a + 1)) hx hb hts hw0 hown hz (by omega) hm2 rfl 1 (by decide) hw1 (fun _ h9 => h9) rfl dX7_set_45 ?_
  refine lv_bipush (v := 8) hx hb dX7_set_48 (by decide) ?_
  refine lv_iload_n hx hb dX7_set_50 rfl (lv_at hl 1 rfl) ?_
  refine lv_imul hx hb dX7_set_51 ?_
  refine lv_iload_n hx hb dX7_set_52 rfl (lv_at hl 2 rfl) ?_
  refine lv_iadd hx hb dX7_set_53 ?_
  refine lv_iload_n hx hb dX7_set_54 rfl (lv_at hl 3 rfl) ?_
  refine lv_i2l hx hb dX7_set_55 rfl ?_
  refine pw_last hx hb hz (by omega) hrow2 0 rfl (by rw [ix8]; exact vp_in_nI (show 8 * j + i < 240 by omega) (by decide)) dX7_set_56 (fun H locs hz => ?_)
  have hz : PS D vwCl (tys3 cJ cI cR) b n s (va_up E2 (a + 1) (.inl (cJ, 240, .inr (.inl (vp_updL (fun _ => 0) (Int32.toNatClampNeg ((8 * (nI j)) + (nI i))) (Int32.toInt64 cv)))))) H locs := hz
  refine lv_aload_n hx hb dX7_set_57 rfl (lv_at hl 0 rfl) ?_
  refine lv_iload_n hx hb dX7_set_58 rfl (lv_at hl 1 rfl) ?_
  refine pw_calli hz (va_runV (As := [.int (nI j)]) (rest := []) ⟨hx, hb, hml, hown, hts⟩ (c_degreeOf l D cJ cI cR b n _ _ a 0 ha ((va_up_ne _ _ (by omega)).trans hm2) (vp_updL (fun _ => 0) (Int32.toNatClampNeg ((8 * (nI j)) + (nI i))) (Int32.toInt64 cv)) (va_up_self _ _ _) j (by omega)) (cwV 1 hts gX7_set_X7_degreeOf rfl rfl rfl (by decide +kernel) ⟨Nat.le_of_ble_eq_true rfl, Nat.le_of_ble_eq_true rfl⟩) (hz.preV (by omega) ((va_up_ne _ _ (by omega)).trans hm2) rfl) rfl rfl hl.1 rfl (lv_room (Nat.le_of_ble_eq_true rfl)) dX7_set_59 ⟨Nat.le_of_ble_eq_true rfl, Nat.le_of_ble_eq_true rfl⟩) (fun r_5 Ev H locs hp hz => ?_)
  obtain ⟨hr_5, hp⟩ := hp
  subst hr_5
  rw [hp] at hz
  exact pw_iret hx hb hret hlocks hz ⟨by rw [ix8, nI_clamp (show 8 * j + i < 2 ^ 31 by omega)], ⟨_, (va_up_ne _ _ (by omega)).trans hm2⟩, fun q h => (va_up_ne _ _ (by omega)).trans (fr q h)⟩ dX7_set_62

set_option maxHeartbeats 400000 in
set_option maxRecDepth 100000 in
/-- get of the fresh reference -/
theorem c_mget_ok (l : Launch) (D : va_G) (cJ cI cR : ClassId) (b n : Nat) (E : Nat → va_E) (sz : Nat) (a : Nat) (ref : Int32) (ha : b ≤ a ∧ a + 9 ≤ b + n) (hm : E a = modO a ref) (hrow : E (a + 1) = rowM cJ (fun _ => 0)) (j : Nat) (hj : j < 8) (i : Nat) (hi : i < 7) (hi6 : inI (nI i) 0 6) : Met l yX7_get wsX7_get { frames := 1, cells := 0, slots := 0, locals := 22 } (cP D vwCl (tys3 cJ cI cR) b n E sz [.ref a, .int (nI j), .int (nI i)]) (cQi D vwCl (tys3 cJ cI cR) b n (fun v E' => v = 0 ∧ (∃ fs, E' a = .inr (6, .int 0 :: fs)) ∧ ∀ q, q < a ∨ a + 9 ≤ q → E' q = E q)) 0 0 (PA b) := by
  refine Met.ofW (cc := cX7_get) (maxL := 3) (ret := (some .int)) (by decide) rfl ?_
  intro p e s m args below meth c s₁ B hml hv
  obtain ⟨rfl, hsz, hB⟩ := hv
  have hx := B.exec
  have hb := B.bytes
  have hret := B.returns
  have hts := atoms_spec (ws := wsX7_get) B.pre
  have hown : s.vm.findClass RX7 = some m.cls := findClass_of_methodNamed B.named
  have hlocks := B.notSynchronized
  subst hsz
  have hz := PS.start hB
  have hl := lv_entry ([.ref a, .int (nI j), .int (nI i)]) (n := 3) (Nat.le_of_ble_eq_true rfl)
  rw [lg_entry_eq]
  generalize (lg_sl ([.ref a, .int (nI j), .int (nI i)]) ++ List.replicate (3 - (lg_sl ([.ref a, .int (nI j), .int (nI i)])).length) Slot.unset).toArray = ls at hl ⊢
  have hl : lv_has ls 3 [(0, .ref a), (1, .int (nI j)), (2, .int (nI i))] := hl
  have hw0 : ∀ w ∈ u_ws RX7 TX7 25, w ∈ wsX7_get := by decide +kernel
  have hw1 := hts (.fieldLink RX7 7 "GaloisDeskModel" "row" "[J") (by decide +kernel)
  refine lv_aload_n hx hb dX7_get_0 rfl (lv_at hl 0 rfl) ?_
  refine lv_iload_n hx hb dX7_get_1 rfl (lv_at hl 1 rfl) ?_
  refine pw_calli hz (va_runS (As := [.int (nI j)]) (rest := [.ref a]) ⟨hx, hb, hml, hown, hts⟩ (c_isSlot_1 l D cJ cI cR b n _ _ ((nI j)) (nI_okS hj)) (va_cwS 1 hts gX7_get_X7_isSlot rfl rfl rfl (by decide +kernel) ⟨Nat.le_of_ble_eq_true rfl, Nat.le_of_ble_eq_true rfl⟩) hz.preS rfl rfl hl.1 rfl (lv_room (Nat.le_of_ble_eq_true rfl)) dX7_get_2 ⟨Nat.le_of_ble_eq_true rfl, Nat.le_of_ble_eq_true rfl⟩) (fun r_1 Ev H locs hp hz => ?_)
  obtain ⟨hr_1, hp⟩ := hp
  subst hr_1
  rw [hp] at hz
  refine lv_if_eq (tgt := 22) hx hb dX7_get_5 (by decide) (fun qw => ?_) (fun _ => ?_)
  · exact absurd qw (by decide)
  refine lv_iload_n hx hb dX7_get_8 rfl (lv_at hl 2 rfl) ?_
  refine lv_iconst (v := 0) hx hb dX7_get_9 (by decide) ?_
  refine lv_bipush (v := 6) hx hb dX7_get_10 (by decide) ?_
  refine pw_calli hz (va_runS (As := [.int (nI i), .int 0, .int 6]) (rest := [.ref a]) ⟨hx, hb, hml, hown, hts⟩ (c_isIn_1 l D cJ cI cR b n _ _ ((nI i)) (0) (6) hi6) (va_cwS 3 hts gX7_get_X7_isIn rfl rfl rfl (by decide +kernel) ⟨Nat.le_of_ble_eq_true rfl, Nat.le_of_ble_eq_true rfl⟩) hz.preS rfl rfl hl.1 rfl (lv_room (Nat.le_of_ble_eq_true rfl)) dX7_get_12 ⟨Nat.le_of_ble_eq_true rfl, Nat.le_of_ble_eq_true rfl⟩) (fun r_2 Ev H locs hp hz => ?_)
  obtain ⟨hr_2, hp⟩ := hp
  subst hr_2
  rw [hp] at hz
  refine lv_if_eq (tgt := 22) hx hb dX7_get_15 (by decide) (fun qw => ?_) (fun _ => ?_)
  · exact absurd qw (by decide)
  refine lv_iconst (v := 0) hx hb dX7_get_18 (by decide) ?_
  refine lv_goto (tgt := 23) hx hb dX7_get_19 (by decide) ?_
  refine pw_calli hz (va_runV (As := [.int 0]) (rest := []) ⟨hx, hb, hml, hown, hts⟩ (c_refused_0 l D cJ cI cR b n _ _ a ref ha hm) (cwV 1 hts gX7_get_X7_refused rfl rfl rfl (by decide +kernel) ⟨Nat.le_of_ble_eq_true rfl, Nat.le_of_ble_eq_true rfl⟩) (hz.preV (by omega) hm rfl) rfl rfl hl.1 rfl (lv_room (Nat.le_of_ble_eq_true rfl)) dX7_get_23 ⟨Nat.le_of_ble_eq_true rfl, Nat.le_of_ble_eq_true rfl⟩) (fun r_3 Ev H locs hp hz => ?_)
  obtain ⟨hr_3, hp⟩ := hp
  subst hr_3
  rw [hp] at hz
  have hz : PS D vwCl (tys3 cJ cI cR) b n s (va_up E a (.inr (6, [.int 0, .ref (a + 1), .int 0, .int 0, .ref (a + 2), .ref (a + 3), .int 0, .int 0, .int 0, .ref (a + 4), .ref (a + 5), .int 0, .ref (a + 6), .ref (a + 7), .int 0, .int 0, .int 0, .int 0, .ref (a + 8), .int 0, .long 0, .long 0, .long 0, .int 0, .long 0]))) H locs := hz
  refine lv_if_eq (tgt := 31) hx hb dX7_get_26 (by decide) (fun _ => ?_) (fun qw => ?_)
  rotate_left
  · exact absurd rfl qw
  obtain ⟨E2, hE2⟩ : ∃ X, X = va_up E a (modO a 0) := ⟨_, rfl⟩
  have hz : PS D vwCl (tys3 cJ cI cR) b n s E2 H locs := by rw [hE2]; exact hz
  have hm2 : E2 a = modO a 0 := by rw [hE2]; exact va_up_self _ _ _
  have hrow2 : E2 (a + 1) = rowM cJ (fun _ => 0) := by rw [hE2]; exact (va_up_ne _ _ (by omega)).trans hrow
  have fr : ∀ q, q < a ∨ a + 9 ≤ q → E2 q = E q := fun q h => by rw [hE2]; exact va_up_ne _ _ (by omega)
  refine lv_aload_n hx hb dX7_get_31 rfl (lv_at hl 0 rfl) ?_
  refine pw_get (C := RX7) (T := TX7) (N := 25) (ci := 6) (v := .ref (a + 1)) hx hb hts hw0 hown hz (by omega) hm2 rfl 1 (by decide) hw1 (fun _ h9 => h9) rfl dX7_get_32 ?_
  refine lv_bipush (v := 8) hx hb dX7_get_35 (by decide) ?_
  refine lv_iload_n hx hb dX7_get_37 rfl (lv_at hl 1 rfl) ?_
  refine lv_imul hx hb dX7_get_38 ?_
  refine lv_iload_n hx hb dX7_get_39 rfl (lv_at hl 2 rfl) ?_
  refine lv_iadd hx hb dX7_get_40 ?_
  refine pw_lald hx hb hz (by omega) hrow2 0 rfl (by rw [ix8]; exact vp_in_nI (show 8 * j + i < 240 by omega) (by decide)) dX7_get_41 ?_
  refine lv_l2i hx hb dX7_get_42 rfl ?_
  exact pw_iret hx hb hret hlocks hz ⟨by decide +kernel, ⟨_, hm2⟩, fr⟩ dX7_get_43

set_option maxHeartbeats 400000 in
set_option maxRecDepth 100000 in
/-- add of the fresh reference -/
theorem c_madd_ok (l : Launch) (D : va_G) (cJ cI cR : ClassId) (b n : Nat) (E : Nat → va_E) (sz : Nat) (a : Nat) (ref : Int32) (ha : b ≤ a ∧ a + 9 ≤ b + n) (hm : E a = modO a ref) (hrow : E (a + 1) = rowM cJ (fun _ => 0)) (j u v : Nat) (hj : j < 8) (hu : u < 8) (hv : v < 8) (p0 q0 : Int32) (hpA : inI p0 (-10) 10) (hqA : inI q0 (-10) 10) : Met l yX7_add wsX7_add { frames := 2, cells := 0, slots := 0, locals := 46 } (cP D vwCl (tys3 cJ cI cR) b n E sz [.ref a, .int (nI j), .int (nI u), .int (nI v), .int p0, .int q0]) (cQi D vwCl (tys3 cJ cI cR) b n (fun v E' => v = -1 ∧ (∃ fs, E' a = .inr (6, .int 0 :: fs)) ∧ ∀ q, q < a ∨ a + 9 ≤ q → E' q = E q)) 0 0 (PA b) := by
  refine Met.ofW (cc := cX7_add) (maxL := 8) (ret := (some .int)) (by decide) rfl ?_
  intro p e s m args below meth c s₁ B hml hv
  obtain ⟨rfl, hsz, hB⟩ := hv
  have hx := B.exec
  have hb := B.bytes
  have hret := B.returns
  have hts := atoms_spec (ws := wsX7_add) B.pre
  have hown : s.vm.findClass RX7 = some m.cls := findClass_of_methodNamed B.named
  have hlocks := B.notSynchronized
  subst hsz
  have hz := PS.start hB
  have hl := lv_entry ([.ref a, .int (nI j), .int (nI u), .int (nI v), .int p0, .int q0]) (n := 8) (Nat.le_of_ble_eq_true rfl)
  rw [lg_entry_eq]
  generalize (lg_sl ([.ref a, .int (nI j), .int (nI u), .int (nI v), .int p0, .int q0]) ++ List.replicate (8 - (lg_sl ([.ref a, .int (nI j), .int (nI u), .int (nI v), .int p0, .int q0])).length) Slot.unset).toArray = ls at hl ⊢
  have hl : lv_has ls 8 [(0, .ref a), (1, .int (nI j)), (2, .int (nI u)), (3, .int (nI v)), (4, .int p0), (5, .int q0)] := hl
  have hw0 : ∀ w ∈ u_ws RX7 TX7 25, w ∈ wsX7_add := by decide +kernel
  have hw1 := hts (.fieldLink RX7 7 "GaloisDeskModel" "row" "[J") (by decide +kernel)
  refine lv_iload_n hx hb dX7_add_0 rfl (lv_at hl 1 rfl) ?_
  refine pw_calli hz (va_runS (As := [.int (nI j)]) (rest := []) ⟨hx, hb, hml, hown, hts⟩ (c_isSlot_1 l D cJ cI cR b n _ _ ((nI j)) (nI_okS hj)) (va_cwS 1 hts gX7_add_X7_isSlot rfl rfl rfl (by decide +kernel) ⟨Nat.le_of_ble_eq_true rfl, Nat.le_of_ble_eq_true rfl⟩) hz.preS rfl rfl hl.1 rfl (lv_room (Nat.le_of_ble_eq_true rfl)) dX7_add_1 ⟨Nat.le_of_ble_eq_true rfl, Nat.le_of_ble_eq_true rfl⟩) (fun r_1 Ev H locs hp hz => ?_)
  obtain ⟨hr_1, hp⟩ := hp
  subst hr_1
  rw [hp] at hz
  refine lv_if_eq (tgt := 49) hx hb dX7_add_4 (by decide) (fun qw => ?_) (fun _ => ?_)
  · exact absurd qw (by decide)
  refine lv_iload_n hx hb dX7_add_7 rfl (lv_at hl 2 rfl) ?_
  refine pw_calli hz (va_runS (As := [.int (nI u)]) (rest := []) ⟨hx, hb, hml, hown, hts⟩ (c_isSlot_1 l D cJ cI cR b n _ _ ((nI u)) (nI_okS hu)) (va_cwS 1 hts gX7_add_X7_isSlot rfl rfl rfl (by decide +kernel) ⟨Nat.le_of_ble_eq_true rfl, Nat.le_of_ble_eq_true rfl⟩) hz.preS rfl rfl hl.1 rfl (lv_room (Nat.le_of_ble_eq_true rfl)) dX7_add_8 ⟨Nat.le_of_ble_eq_true rfl, Nat.le_of_ble_eq_true rfl⟩) (fun r_2 Ev H locs hp hz => ?_)
  obtain ⟨hr_2, hp⟩ := hp
  subst hr_2
  rw [hp] at hz
  refine lv_if_eq (tgt := 49) hx hb dX7_add_11 (by decide) (fun qw => ?_) (fun _ => ?_)
  · exact absurd qw (by decide)
  refine lv_iload_n hx hb dX7_add_14 rfl (lv_at hl 3 rfl) ?_
  refine pw_calli hz (va_runS (As := [.int (nI v)]) (rest := []) ⟨hx, hb, hml, hown, hts⟩ (c_isSlot_1 l D cJ cI cR b n _ _ ((nI v)) (nI_okS hv)) (va_cwS 1 hts gX7_add_X7_isSlot rfl rfl rfl (by decide +kernel) ⟨Nat.le_of_ble_eq_true rfl, Nat.le_of_ble_eq_true rfl⟩) hz.preS rfl rfl hl.1 rfl (lv_room (Nat.le_of_ble_eq_true rfl)) dX7_add_15 ⟨Nat.le_of_ble_eq_true rfl, Nat.le_of_ble_eq_true rfl⟩) (fun r_3 Ev H locs hp hz => ?_)
  obtain ⟨hr_3, hp⟩ := hp
  subst hr_3
  rw [hp] at hz
  refine lv_if_eq (tgt := 49) hx hb dX7_add_18 (by decide) (fun qw => ?_) (fun _ => ?_)
  · exact absurd qw (by decide)
  refine lv_iload hx hb dX7_add_21 (lv_at hl 4 rfl) ?_
  refine lv_bipush (v := (-10)) hx hb dX7_add_23 (by decide) ?_
  refine lv_bipush (v := 10) hx hb dX7_add_25 (by decide) ?_
  refine pw_calli hz (va_runS (As := [.int p0, .int (-10), .int 10]) (rest := []) ⟨hx, hb, hml, hown, hts⟩ (c_isIn_1 l D cJ cI cR b n _ _ (p0) ((-10)) (10) hpA) (va_cwS 3 hts gX7_add_X7_isIn rfl rfl rfl (by decide +kernel) ⟨Nat.le_of_ble_eq_true rfl, Nat.le_of_ble_eq_true rfl⟩) hz.preS rfl rfl hl.1 rfl (lv_room (Nat.le_of_ble_eq_true rfl)) dX7_add_27 ⟨Nat.le_of_ble_eq_true rfl, Nat.le_of_ble_eq_true rfl⟩) (fun r_4 Ev H locs hp hz => ?_)
  obtain ⟨hr_4, hp⟩ := hp
  subst hr_4
  rw [hp] at hz
  refine lv_if_eq (tgt := 49) hx hb dX7_add_30 (by decide) (fun qw => ?_) (fun _ => ?_)
  · exact absurd qw (by decide)
  refine lv_iload hx hb dX7_add_33 (lv_at hl 5 rfl) ?_
  refine lv_bipush (v := (-10)) hx hb dX7_add_35 (by decide) ?_
  refine lv_bipush (v := 10) hx hb dX7_add_37 (by decide) ?_
  refine pw_calli hz (va_runS (As := [.int q0, .int (-10), .int 10]) (rest := []) ⟨hx, hb, hml, hown, hts⟩ (c_isIn_1 l D cJ cI cR b n _ _ (q0) ((-10)) (10) hqA) (va_cwS 3 hts gX7_add_X7_isIn rfl rfl rfl (by decide +kernel) ⟨Nat.le_of_ble_eq_true rfl, Nat.le_of_ble_eq_true rfl⟩) hz.preS rfl rfl hl.1 rfl (lv_room (Nat.le_of_ble_eq_true rfl)) dX7_add_39 ⟨Nat.le_of_ble_eq_true rfl, Nat.le_of_ble_eq_true rfl⟩) (fun r_5 Ev H locs hp hz => ?_)
  obtain ⟨hr_5, hp⟩ := hp
  subst hr_5
  rw [hp] at hz
  refine lv_if_eq (tgt := 49) hx hb dX7_add_42 (by decide) (fun qw => ?_) (fun _ => ?_)
  · exact absurd qw (by decide)
  refine lv_iconst (v := 1) hx hb dX7_add_45 (by decide) ?_
  refine lv_goto (tgt := 50) hx hb dX7_add_46 (by decide) ?_
  refine lv_istore (lv' := [(6, .int 1), (0, .ref a), (1, .int (nI j)), (2, .int (nI u)), (3, .int (nI v)), (4, .int p0), (5, .int q0)]) hx hb dX7_add_50 hl (by decide) rfl (fun ls hl => ?_)
  refine lv_aload_n hx hb dX7_add_52 rfl (lv_at hl 1 rfl) ?_
  refine lv_iload hx hb dX7_add_53 (lv_at hl 0 rfl) ?_
  refine lv_if_eq (tgt := 62) hx hb dX7_add_55 (by decide) (fun qw => ?_) (fun _ => ?_)
  · exact absurd qw (by decide)
  refine lv_iconst (v := 0) hx hb dX7_add_58 (by decide) ?_
  refine lv_goto (tgt := 63) hx hb dX7_add_59 (by decide) ?_
  refine pw_calli hz (va_runV (As := [.int 0]) (rest := []) ⟨hx, hb, hml, hown, hts⟩ (c_refused_0 l D cJ cI cR b n _ _ a ref ha hm) (cwV 1 hts gX7_add_X7_refused rfl rfl rfl (by decide +kernel) ⟨Nat.le_of_ble_eq_true rfl, Nat.le_of_ble_eq_true rfl⟩) (hz.preV (by omega) hm rfl) rfl rfl hl.1 rfl (lv_room (Nat.le_of_ble_eq_true rfl)) dX7_add_63 ⟨Nat.le_of_ble_eq_true rfl, Nat.le_of_ble_eq_true rfl⟩) (fun r_6 Ev H locs hp hz => ?_)
  obtain ⟨hr_6, hp⟩ := hp
  subst hr_6
  rw [hp] at hz
  have hz : PS D vwCl (tys3 cJ cI cR) b n s (va_up E a (.inr (6, [.int 0, .ref (a + 1), .int 0, .int 0, .ref (a + 2), .ref (a + 3), .int 0, .int 0, .int 0, .ref (a + 4), .ref (a + 5), .int 0, .ref (a + 6), .ref (a + 7), .int 0, .int 0, .int 0, .int 0, .ref (a + 8), .int 0, .long 0, .long 0, .long 0, .int 0, .long 0]))) H locs := hz
  refine lv_if_eq (tgt := 71) hx hb dX7_add_66 (by decide) (fun _ => ?_) (fun qw => ?_)
  rotate_left
  · exact absurd rfl qw
  obtain ⟨E2, hE2⟩ : ∃ X, X = va_up E a (modO a 0) := ⟨_, rfl⟩
  have hz : PS D vwCl (tys3 cJ cI cR) b n s E2 H locs := by rw [hE2]; exact hz
  have hm2 : E2 a = modO a 0 := by rw [hE2]; exact va_up_self _ _ _
  have hrow2 : E2 (a + 1) = rowM cJ (fun _ => 0) := by rw [hE2]; exact (va_up_ne _ _ (by omega)).trans hrow
  have fr : ∀ q, q < a ∨ a + 9 ≤ q → E2 q = E q := fun q h => by rw [hE2]; exact va_up_ne _ _ (by omega)
  refine lv_iconst (v := 0) hx hb dX7_add_71 (by decide) ?_
  refine lv_istore (lv' := [(7, .int 0), (6, .int 1), (0, .ref a), (1, .int (nI j)), (2, .int (nI u)), (3, .int (nI v)), (4, .int p0), (5, .int q0)]) hx hb dX7_add_72 hl (by decide) rfl (fun ls hl => ?_)
  have loop : ∀ (k i : Nat), i + k = 8 → ∀ (H : Heap) (locs : List Loc) (ls : Array Slot), PS D vwCl (tys3 cJ cI cR) b n s E2 H locs → lv_has ls 8 [(7, .int (nI i)), (6, .int 1), (0, .ref a), (1, .int (nI j)), (2, .int (nI u)), (3, .int (nI v)), (4, .int p0), (5, .int q0)] → W p l e (headSpec wsX7_add { frames := 2, cells := 0, slots := 0, locals := 46 }).room s m ([.ref a, .int (nI j), .int (nI u), .int (nI v), .int p0, .int q0] : List Value).toArray below meth c H locs 0 0 (MQ below (cQi D vwCl (tys3 cJ cI cR) b n (fun v E' => v = -1 ∧ (∃ fs, E' a = .inr (6, .int 0 :: fs)) ∧ ∀ q, q < a ∨ a + 9 ≤ q → E' q = E q)) ([.ref a, .int (nI j), .int (nI u), .int (nI v), .int p0, .int q0] : List Value).toArray s 0 0 (PA b)) (F0 m 74 ls []) := by
    clear hz hl
    intro k
    induction k with
    | zero =>
      intro i hi H locs ls hz hl
      have hi : 8 = i := by omega
      subst hi
      refine lv_iload hx hb dX7_add_74 (lv_at hl 0 rfl) ?_
      refine lv_bipush (v := 8) hx hb dX7_add_76 (by decide) ?_
      refine lv_icmp_ge (tgt := 130) hx hb dX7_add_78 (by decide) (fun _ => ?_) (fun q => ?_)
      · skip
        refine lv_aload_n hx hb dX7_add_130 rfl (lv_at hl 2 rfl) ?_
        refine lv_iload_n hx hb dX7_add_131 rfl (lv_at hl 3 rfl) ?_
        refine pw_calli hz (va_runV (As := [.int (nI j)]) (rest := []) ⟨hx, hb, hml, hown, hts⟩ (c_finish_0 l D cJ cI cR b n _ _ a 0 ha hm2 hrow2 j (by omega)) (cwV 1 hts gX7_add_X7_finish rfl rfl rfl (by decide +kernel) ⟨Nat.le_of_ble_eq_true rfl, Nat.le_of_ble_eq_true rfl⟩) (hz.preV (by omega) hm2 rfl) rfl rfl hl.1 rfl (lv_room (Nat.le_of_ble_eq_true rfl)) dX7_add_132 ⟨Nat.le_of_ble_eq_true rfl, Nat.le_of_ble_eq_true rfl⟩) (fun r_7 Ev H locs hp hz => ?_)
        obtain ⟨hr_7, hp⟩ := hp
        subst hr_7
        rw [hp] at hz
        exact pw_iret hx hb hret hlocks hz ⟨rfl, ⟨_, hm2⟩, fr⟩ dX7_add_135
      · skip
        exact absurd (by decide) q
    | succ k ih =>
      intro i hi H locs ls hz hl
      have hlt : i < 8 := by omega
      refine lv_iload hx hb dX7_add_74 (lv_at hl 0 rfl) ?_
      refine lv_bipush (v := 8) hx hb dX7_add_76 (by decide) ?_
      refine lv_icmp_ge (tgt := 130) hx hb dX7_add_78 (by decide) (fun q => ?_) (fun _ => ?_)
      · skip
        exact absurd q (nI_ge (b := 8) hlt (by decide))
      · skip
        refine lv_aload_n hx hb dX7_add_81 rfl (lv_at hl 2 rfl) ?_
        refine pw_get (C := RX7) (T := TX7) (N := 25) (ci := 6) (v := .ref (a + 1)) hx hb hts hw0 hown hz (by omega) hm2 rfl 1 (by decide) hw1 (fun _ h9 => h9) rfl dX7_add_82 ?_
        refine lv_bipush (v := 64) hx hb dX7_add_85 (by decide) ?_
        refine lv_iload hx hb dX7_add_87 (lv_at hl 0 rfl) ?_
        refine lv_iadd hx hb dX7_add_89 ?_
        refine lv_iload hx hb dX7_add_90 (lv_at hl 6 rfl) ?_
        refine lv_i2l hx hb dX7_add_92 rfl ?_
        refine lv_aload_n hx hb dX7_add_93 rfl (lv_at hl 2 rfl) ?_
        refine pw_get (C := RX7) (T := TX7) (N := 25) (ci := 6) (v := .ref (a + 1)) hx hb hts hw0 hown hz (by omega) hm2 rfl 1 (by decide) hw1 (fun _ h9 => h9) rfl dX7_add_94 ?_
        refine lv_bipush (v := 8) hx hb dX7_add_97 (by decide) ?_
        refine lv_iload_n hx hb dX7_add_99 rfl (lv_at hl 4 rfl) ?_
        refine lv_imul hx hb dX7_add_100 ?_
        refine lv_iload hx hb dX7_add_101 (lv_at hl 0 rfl) ?_
        refine lv_iadd hx hb dX7_add_103 ?_
        refine pw_lald hx hb hz (by omega) hrow2 0 rfl (by rw [ix8]; exact vp_in_nI (by omega) (by decide)) dX7_add_104 ?_
        refine lv_lmul hx hb dX7_add_105 ?_
        refine lv_iload hx hb dX7_add_106 (lv_at hl 7 rfl) ?_
        refine lv_i2l hx hb dX7_add_108 rfl ?_
        refine lv_aload_n hx hb dX7_add_109 rfl (lv_at hl 2 rfl) ?_
        refine pw_get (C := RX7) (T := TX7) (N := 25) (ci := 6) (v := .ref (a + 1)) hx hb hts hw0 hown hz (by omega) hm2 rfl 1 (by decide) hw1 (fun _ h9 => h9) rfl dX7_add_110 ?_
        refine lv_bipush (v := 8) hx hb dX7_add_113 (by decide) ?_
        refine lv_iload_n hx hb dX7_add_115 rfl (lv_at hl 5 rfl) ?_
        refine lv_imul hx hb dX7_add_116 ?_
        refine lv_iload hx hb dX7_add_117 (lv_at hl 0 rfl) ?_
        refine lv_iadd hx hb dX7_add_119 ?_
        refine pw_lald hx hb hz (by omega) hrow2 0 rfl (by rw [ix8]; exact vp_in_nI (by omega) (by decide)) dX7_add_120 ?_
        refine lv_lmul hx hb dX7_add_121 ?_
        refine lv_ladd hx hb dX7_add_122 ?_
        rw [sum0v]
        refine pw_last hx hb hz (by omega) hrow2 0 rfl (by rw [ix64]; exact vp_in_nI (by omega) (by decide)) dX7_add_123 (fun H locs hz => ?_)
        have hz : PS D vwCl (tys3 cJ cI cR) b n s (va_up E2 (a + 1) (.inl (cJ, 240, .inr (.inl (vp_updL (fun _ => 0) (Int32.toNatClampNeg (64 + (nI i))) 0))))) H locs := hz
        rw [upd0, up_same hrow2] at hz
        refine lv_iinc (v := (nI (i + 1))) (lv' := [(7, .int (nI (i + 1))), (6, .int 1), (0, .ref a), (1, .int (nI j)), (2, .int (nI u)), (3, .int (nI v)), (4, .int p0), (5, .int q0)]) hx hb dX7_add_124 hl (k := 0) rfl (by exact nI_1 i) (by decide) rfl (fun ls hl => ?_)
        refine lv_goto (tgt := 74) hx hb dX7_add_127 (by decide) ?_
        exact ih (i + 1) (by omega) H locs ls hz (lv_sub hl [0, 1, 2, 3, 4, 5, 6, 7] rfl)
  exact loop 8 0 rfl _ _ ls hz (lv_sub hl [0, 1, 2, 3, 4, 5, 6, 7] rfl)

set_option maxHeartbeats 400000 in
set_option maxRecDepth 100000 in
/-- multiply of the fresh reference -/
theorem c_mmultiply_ok (l : Launch) (D : va_G) (cJ cI cR : ClassId) (b n : Nat) (E : Nat → va_E) (sz : Nat) (a : Nat) (ref : Int32) (ha : b ≤ a ∧ a + 9 ≤ b + n) (hm : E a = modO a ref) (hrow : E (a + 1) = rowM cJ (fun _ => 0)) (j u v : Nat) (hj : j < 8) (hu : u < 8) (hv : v < 8) : Met l yX7_multiply wsX7_multiply { frames := 2, cells := 0, slots := 0, locals := 46 } (cP D vwCl (tys3 cJ cI cR) b n E sz [.ref a, .int (nI j), .int (nI u), .int (nI v)]) (cQi D vwCl (tys3 cJ cI cR) b n (fun v E' => v = -1 ∧ (∃ fs, E' a = .inr (6, .int 0 :: fs)) ∧ ∀ q, q < a ∨ a + 9 ≤ q → E' q = E q)) 0 0 (PA b) := by
  refine Met.ofW (cc := cX7_multiply) (maxL := 6) (ret := (some .int)) (by decide) rfl ?_
  intro p e s m args below meth c s₁ B hml hv
  obtain ⟨rfl, hsz, hB⟩ := hv
  have hx := B.exec
  have hb := B.bytes
  have hret := B.returns
  have hts := atoms_spec (ws := wsX7_multiply) B.pre
  have hown : s.vm.findClass RX7 = some m.cls := findClass_of_methodNamed B.named
  have hlocks := B.notSynchronized
  subst hsz
  have hz := PS.start hB
  have hl := lv_entry ([.ref a, .int (nI j), .int (nI u), .int (nI v)]) (n := 6) (Nat.le_of_ble_eq_true rfl)
  rw [lg_entry_eq]
  generalize (lg_sl ([.ref a, .int (nI j), .int (nI u), .int (nI v)]) ++ List.replicate (6 - (lg_sl ([.ref a, .int (nI j), .int (nI u), .int (nI v)])).length) Slot.unset).toArray = ls at hl ⊢
  have hl : lv_has ls 6 [(0, .ref a), (1, .int (nI j)), (2, .int (nI u)), (3, .int (nI v))] := hl
  have hw0 : ∀ w ∈ u_ws RX7 TX7 25, w ∈ wsX7_multiply := by decide +kernel
  have hw1 := hts (.fieldLink RX7 7 "GaloisDeskModel" "row" "[J") (by decide +kernel)
  refine lv_aload_n hx hb dX7_multiply_0 rfl (lv_at hl 0 rfl) ?_
  refine lv_iload_n hx hb dX7_multiply_1 rfl (lv_at hl 1 rfl) ?_
  refine pw_calli hz (va_runS (As := [.int (nI j)]) (rest := [.ref a]) ⟨hx, hb, hml, hown, hts⟩ (c_isSlot_1 l D cJ cI cR b n _ _ ((nI j)) (nI_okS hj)) (va_cwS 1 hts gX7_multiply_X7_isSlot rfl rfl rfl (by decide +kernel) ⟨Nat.le_of_ble_eq_true rfl, Nat.le_of_ble_eq_true rfl⟩) hz.preS rfl rfl hl.1 rfl (lv_room (Nat.le_of_ble_eq_true rfl)) dX7_multiply_2 ⟨Nat.le_of_ble_eq_true rfl, Nat.le_of_ble_eq_true rfl⟩) (fun r_1 Ev H locs hp hz => ?_)
  obtain ⟨hr_1, hp⟩ := hp
  subst hr_1
  rw [hp] at hz
  refine lv_if_eq (tgt := 26) hx hb dX7_multiply_5 (by decide) (fun qw => ?_) (fun _ => ?_)
  · exact absurd qw (by decide)
  refine lv_iload_n hx hb dX7_multiply_8 rfl (lv_at hl 2 rfl) ?_
  refine pw_calli hz (va_runS (As := [.int (nI u)]) (rest := [.ref a]) ⟨hx, hb, hml, hown, hts⟩ (c_isSlot_1 l D cJ cI cR b n _ _ ((nI u)) (nI_okS hu)) (va_cwS 1 hts gX7_multiply_X7_isSlot rfl rfl rfl (by decide +kernel) ⟨Nat.le_of_ble_eq_true rfl, Nat.le_of_ble_eq_true rfl⟩) hz.preS rfl rfl hl.1 rfl (lv_room (Nat.le_of_ble_eq_true rfl)) dX7_multiply_9 ⟨Nat.le_of_ble_eq_true rfl, Nat.le_of_ble_eq_true rfl⟩) (fun r_2 Ev H locs hp hz => ?_)
  obtain ⟨hr_2, hp⟩ := hp
  subst hr_2
  rw [hp] at hz
  refine lv_if_eq (tgt := 26) hx hb dX7_multiply_12 (by decide) (fun qw => ?_) (fun _ => ?_)
  · exact absurd qw (by decide)
  refine lv_iload_n hx hb dX7_multiply_15 rfl (lv_at hl 3 rfl) ?_
  refine pw_calli hz (va_runS (As := [.int (nI v)]) (rest := [.ref a]) ⟨hx, hb, hml, hown, hts⟩ (c_isSlot_1 l D cJ cI cR b n _ _ ((nI v)) (nI_okS hv)) (va_cwS 1 hts gX7_multiply_X7_isSlot rfl rfl rfl (by decide +kernel) ⟨Nat.le_of_ble_eq_true rfl, Nat.le_of_ble_eq_true rfl⟩) hz.preS rfl rfl hl.1 rfl (lv_room (Nat.le_of_ble_eq_true rfl)) dX7_multiply_16 ⟨Nat.le_of_ble_eq_true rfl, Nat.le_of_ble_eq_true rfl⟩) (fun r_3 Ev H locs hp hz => ?_)
  obtain ⟨hr_3, hp⟩ := hp
  subst hr_3
  rw [hp] at hz
  refine lv_if_eq (tgt := 26) hx hb dX7_multiply_19 (by decide) (fun qw => ?_) (fun _ => ?_)
  · exact absurd qw (by decide)
  refine lv_iconst (v := 0) hx hb dX7_multiply_22 (by decide) ?_
  refine lv_goto (tgt := 27) hx hb dX7_multiply_23 (by decide) ?_
  refine pw_calli hz (va_runV (As := [.int 0]) (rest := []) ⟨hx, hb, hml, hown, hts⟩ (c_refused_0 l D cJ cI cR b n _ _ a ref ha hm) (cwV 1 hts gX7_multiply_X7_refused rfl rfl rfl (by decide +kernel) ⟨Nat.le_of_ble_eq_true rfl, Nat.le_of_ble_eq_true rfl⟩) (hz.preV (by omega) hm rfl) rfl rfl hl.1 rfl (lv_room (Nat.le_of_ble_eq_true rfl)) dX7_multiply_27 ⟨Nat.le_of_ble_eq_true rfl, Nat.le_of_ble_eq_true rfl⟩) (fun r_4 Ev H locs hp hz => ?_)
  obtain ⟨hr_4, hp⟩ := hp
  subst hr_4
  rw [hp] at hz
  have hz : PS D vwCl (tys3 cJ cI cR) b n s (va_up E a (.inr (6, [.int 0, .ref (a + 1), .int 0, .int 0, .ref (a + 2), .ref (a + 3), .int 0, .int 0, .int 0, .ref (a + 4), .ref (a + 5), .int 0, .ref (a + 6), .ref (a + 7), .int 0, .int 0, .int 0, .int 0, .ref (a + 8), .int 0, .long 0, .long 0, .long 0, .int 0, .long 0]))) H locs := hz
  refine lv_if_eq (tgt := 35) hx hb dX7_multiply_30 (by decide) (fun _ => ?_) (fun qw => ?_)
  rotate_left
  · exact absurd rfl qw
  obtain ⟨E2, hE2⟩ : ∃ X, X = va_up E a (modO a 0) := ⟨_, rfl⟩
  have hz : PS D vwCl (tys3 cJ cI cR) b n s E2 H locs := by rw [hE2]; exact hz
  have hm2 : E2 a = modO a 0 := by rw [hE2]; exact va_up_self _ _ _
  have hrow2 : E2 (a + 1) = rowM cJ (fun _ => 0) := by rw [hE2]; exact (va_up_ne _ _ (by omega)).trans hrow
  have fr : ∀ q, q < a ∨ a + 9 ≤ q → E2 q = E q := fun q h => by rw [hE2]; exact va_up_ne _ _ (by omega)
  refine lv_aload_n hx hb dX7_multiply_35 rfl (lv_at hl 0 rfl) ?_
  refine lv_bipush (v := 8) hx hb dX7_multiply_36 (by decide) ?_
  refine pw_callv hz (va_runV (As := [.int 8]) (rest := []) ⟨hx, hb, hml, hown, hts⟩ (c_mclear_0 l D cJ cI cR b n _ _ a 0 ha hm2 hrow2 8 (by decide)) (cwV 1 hts gX7_multiply_X7_clear rfl rfl rfl (by decide +kernel) ⟨Nat.le_of_ble_eq_true rfl, Nat.le_of_ble_eq_true rfl⟩) (hz.preV (by omega) hm2 rfl) rfl rfl hl.1 rfl (lv_room (Nat.le_of_ble_eq_true rfl)) dX7_multiply_38 ⟨Nat.le_of_ble_eq_true rfl, Nat.le_of_ble_eq_true rfl⟩) (fun Ev H locs hp hz => ?_)
  rw [hp] at hz
  refine lv_aload_n hx hb dX7_multiply_41 rfl (lv_at hl 0 rfl) ?_
  refine lv_iload_n hx hb dX7_multiply_42 rfl (lv_at hl 2 rfl) ?_
  refine pw_calli hz (va_runV (As := [.int (nI u)]) (rest := []) ⟨hx, hb, hml, hown, hts⟩ (c_isZero_0 l D cJ cI cR b n _ _ a 0 ha hm2 hrow2 u (by omega)) (cwV 1 hts gX7_multiply_X7_isZero rfl rfl rfl (by decide +kernel) ⟨Nat.le_of_ble_eq_true rfl, Nat.le_of_ble_eq_true rfl⟩) (hz.preV (by omega) hm2 rfl) rfl rfl hl.1 rfl (lv_room (Nat.le_of_ble_eq_true rfl)) dX7_multiply_43 ⟨Nat.le_of_ble_eq_true rfl, Nat.le_of_ble_eq_true rfl⟩) (fun r_6 Ev H locs hp hz => ?_)
  obtain ⟨hr_6, hp⟩ := hp
  subst hr_6
  rw [hp] at hz
  refine lv_if_ne (tgt := 76) hx hb dX7_multiply_46 (by decide) (fun _ => ?_) (fun qw => ?_)
  rotate_left
  · exact absurd qw (by decide)
  refine lv_iconst (v := 0) hx hb dX7_multiply_76 (by decide) ?_
  refine lv_istore (lv' := [(4, .int 0), (0, .ref a), (1, .int (nI j)), (2, .int (nI u)), (3, .int (nI v))]) hx hb dX7_multiply_77 hl (by decide) rfl (fun ls hl => ?_)
  have inner : ∀ (c2 k2 i : Nat), i < 7 → k2 + c2 = 8 → ∀ (H : Heap) (locs : List Loc) (ls : Array Slot), (∀ (H : Heap) (locs : List Loc) (ls : Array Slot), PS D vwCl (tys3 cJ cI cR) b n s E2 H locs → lv_has ls 6 [(4, .int (nI (i + 1))), (0, .ref a), (1, .int (nI j)), (2, .int (nI u)), (3, .int (nI v))] → W p l e (headSpec wsX7_multiply { frames := 2, cells := 0, slots := 0, locals := 46 }).room s m ([.ref a, .int (nI j), .int (nI u), .int (nI v)] : List Value).toArray below meth c H locs 0 0 (MQ below (cQi D vwCl (tys3 cJ cI cR) b n (fun v E' => v = -1 ∧ (∃ fs, E' a = .inr (6, .int 0 :: fs)) ∧ ∀ q, q < a ∨ a + 9 ≤ q → E' q = E q)) ([.ref a, .int (nI j), .int (nI u), .int (nI v)] : List Value).toArray s 0 0 (PA b)) (F0 m 79 ls [])) → PS D vwCl (tys3 cJ cI cR) b n s E2 H locs → lv_has ls 6 [(5, .int (nI k2)), (4, .int (nI i)), (0, .ref a), (1, .int (nI j)), (2, .int (nI u)), (3, .int (nI v))] → W p l e (headSpec wsX7_multiply { frames := 2, cells := 0, slots := 0, locals := 46 }).room s m ([.ref a, .int (nI j), .int (nI u), .int (nI v)] : List Value).toArray below meth c H locs 0 0 (MQ below (cQi D vwCl (tys3 cJ cI cR) b n (fun v E' => v = -1 ∧ (∃ fs, E' a = .inr (6, .int 0 :: fs)) ∧ ∀ q, q < a ∨ a + 9 ≤ q → E' q = E q)) ([.ref a, .int (nI j), .int (nI u), .int (nI v)] : List Value).toArray s 0 0 (PA b)) (F0 m 89 ls []) := by
    clear hz hl
    intro c2
    induction c2 with
    | zero =>
      intro k2 i hi7 hk H locs ls nx hz hl
      refine lv_iload hx hb dX7_multiply_89 (lv_at hl 1 rfl) ?_
      refine lv_iload hx hb dX7_multiply_91 (lv_at hl 0 rfl) ?_
      refine lv_iadd hx hb dX7_multiply_93 ?_
      refine lv_bipush (v := 7) hx hb dX7_multiply_94 (by decide) ?_
      rw [nI_add]
      refine lv_icmp_ge (tgt := 157) hx hb dX7_multiply_96 (by decide) (fun c1 => ?_) (fun c1 => ?_)
      · skip
        refine lv_iinc (v := (nI (i + 1))) (lv' := [(4, .int (nI (i + 1))), (5, .int (nI k2)), (0, .ref a), (1, .int (nI j)), (2, .int (nI u)), (3, .int (nI v))]) hx hb dX7_multiply_157 hl (k := 1) rfl (by exact nI_1 i) (by decide) rfl (fun ls hl => ?_)
        refine lv_goto (tgt := 79) hx hb dX7_multiply_160 (by decide) ?_
        exact nx H locs ls hz (lv_sub hl [0, 2, 3, 4, 5] rfl)
      · skip
        have hlt : i + k2 < 7 := Nat.not_le.mp (fun h9 => c1 (nI_le (a := 7) h9 (by omega)))
        exact absurd hlt (by omega)
    | succ c2 ih =>
      intro k2 i hi7 hk H locs ls nx hz hl
      refine lv_iload hx hb dX7_multiply_89 (lv_at hl 1 rfl) ?_
      refine lv_iload hx hb dX7_multiply_91 (lv_at hl 0 rfl) ?_
      refine lv_iadd hx hb dX7_multiply_93 ?_
      refine lv_bipush (v := 7) hx hb dX7_multiply_94 (by decide) ?_
      rw [nI_add]
      refine lv_icmp_ge (tgt := 157) hx hb dX7_multiply_96 (by decide) (fun c1 => ?_) (fun c1 => ?_)
      · skip
        refine lv_iinc (v := (nI (i + 1))) (lv' := [(4, .int (nI (i + 1))), (5, .int (nI k2)), (0, .ref a), (1, .int (nI j)), (2, .int (nI u)), (3, .int (nI v))]) hx hb dX7_multiply_157 hl (k := 1) rfl (by exact nI_1 i) (by decide) rfl (fun ls hl => ?_)
        refine lv_goto (tgt := 79) hx hb dX7_multiply_160 (by decide) ?_
        exact nx H locs ls hz (lv_sub hl [0, 2, 3, 4, 5] rfl)
      · skip
        have hlt : i + k2 < 7 := Nat.not_le.mp (fun h9 => c1 (nI_le (a := 7) h9 (by omega)))
        refine lv_aload_n hx hb dX7_multiply_99 rfl (lv_at hl 2 rfl) ?_
        refine pw_get (C := RX7) (T := TX7) (N := 25) (ci := 6) (v := .ref (a + 1)) hx hb hts hw0 hown hz (by omega) hm2 rfl 1 (by decide) hw1 (fun _ h9 => h9) rfl dX7_multiply_100 ?_
        refine lv_bipush (v := 64) hx hb dX7_multiply_103 (by decide) ?_
        refine lv_iload hx hb dX7_multiply_105 (lv_at hl 1 rfl) ?_
        refine lv_iadd hx hb dX7_multiply_107 ?_
        refine lv_iload hx hb dX7_multiply_108 (lv_at hl 0 rfl) ?_
        refine lv_iadd hx hb dX7_multiply_110 ?_
        refine lv_aload_n hx hb dX7_multiply_111 rfl (lv_at hl 2 rfl) ?_
        refine pw_get (C := RX7) (T := TX7) (N := 25) (ci := 6) (v := .ref (a + 1)) hx hb hts hw0 hown hz (by omega) hm2 rfl 1 (by decide) hw1 (fun _ h9 => h9) rfl dX7_multiply_112 ?_
        refine lv_bipush (v := 64) hx hb dX7_multiply_115 (by decide) ?_
        refine lv_iload hx hb dX7_multiply_117 (lv_at hl 1 rfl) ?_
        refine lv_iadd hx hb dX7_multiply_119 ?_
        refine lv_iload hx hb dX7_multiply_120 (lv_at hl 0 rfl) ?_
        refine lv_iadd hx hb dX7_multiply_122 ?_
        refine pw_lald hx hb hz (by omega) hrow2 0 rfl (by rw [ix64b]; exact vp_in_nI (by omega) (by decide)) dX7_multiply_123 ?_
        refine lv_aload_n hx hb dX7_multiply_124 rfl (lv_at hl 2 rfl) ?_
        refine pw_get (C := RX7) (T := TX7) (N := 25) (ci := 6) (v := .ref (a + 1)) hx hb hts hw0 hown hz (by omega) hm2 rfl 1 (by decide) hw1 (fun _ h9 => h9) rfl dX7_multiply_125 ?_
        refine lv_bipush (v := 8) hx hb dX7_multiply_128 (by decide) ?_
        refine lv_iload_n hx hb dX7_multiply_130 rfl (lv_at hl 4 rfl) ?_
        refine lv_imul hx hb dX7_multiply_131 ?_
        refine lv_iload hx hb dX7_multiply_132 (lv_at hl 1 rfl) ?_
        refine lv_iadd hx hb dX7_multiply_134 ?_
        refine pw_lald hx hb hz (by omega) hrow2 0 rfl (by rw [ix8]; exact vp_in_nI (by omega) (by decide)) dX7_multiply_135 ?_
        refine lv_aload_n hx hb dX7_multiply_136 rfl (lv_at hl 2 rfl) ?_
        refine pw_get (C := RX7) (T := TX7) (N := 25) (ci := 6) (v := .ref (a + 1)) hx hb hts hw0 hown hz (by omega) hm2 rfl 1 (by decide) hw1 (fun _ h9 => h9) rfl dX7_multiply_137 ?_
        refine lv_bipush (v := 8) hx hb dX7_multiply_140 (by decide) ?_
        refine lv_iload_n hx hb dX7_multiply_142 rfl (lv_at hl 5 rfl) ?_
        refine lv_imul hx hb dX7_multiply_143 ?_
        refine lv_iload hx hb dX7_multiply_144 (lv_at hl 0 rfl) ?_
        refine lv_iadd hx hb dX7_multiply_146 ?_
        refine pw_lald hx hb hz (by omega) hrow2 0 rfl (by rw [ix8]; exact vp_in_nI (by omega) (by decide)) dX7_multiply_147 ?_
        refine lv_lmul hx hb dX7_multiply_148 ?_
        refine lv_ladd hx hb dX7_multiply_149 ?_
        rw [mul0v, Int64.add_zero]
        refine pw_last hx hb hz (by omega) hrow2 0 rfl (by rw [ix64b]; exact vp_in_nI (by omega) (by decide)) dX7_multiply_150 (fun H locs hz => ?_)
        have hz : PS D vwCl (tys3 cJ cI cR) b n s (va_up E2 (a + 1) (.inl (cJ, 240, .inr (.inl (vp_updL (fun _ => 0) (Int32.toNatClampNeg ((64 + (nI i)) + (nI k2))) 0))))) H locs := hz
        rw [upd0, up_same hrow2] at hz
        refine lv_iinc (v := (nI (k2 + 1))) (lv' := [(5, .int (nI (k2 + 1))), (4, .int (nI i)), (0, .ref a), (1, .int (nI j)), (2, .int (nI u)), (3, .int (nI v))]) hx hb dX7_multiply_151 hl (k := 0) rfl (by exact nI_1 k2) (by decide) rfl (fun ls hl => ?_)
        refine lv_goto (tgt := 89) hx hb dX7_multiply_154 (by decide) ?_
        exact ih (k2 + 1) i hi7 (by omega) H locs ls nx hz (lv_sub hl [0, 1, 2, 3, 4, 5] rfl)
  have loop : ∀ (k i : Nat), i + k = 7 → ∀ (H : Heap) (locs : List Loc) (ls : Array Slot), PS D vwCl (tys3 cJ cI cR) b n s E2 H locs → lv_has ls 6 [(4, .int (nI i)), (0, .ref a), (1, .int (nI j)), (2, .int (nI u)), (3, .int (nI v))] → W p l e (headSpec wsX7_multiply { frames := 2, cells := 0, slots := 0, locals := 46 }).room s m ([.ref a, .int (nI j), .int (nI u), .int (nI v)] : List Value).toArray below meth c H locs 0 0 (MQ below (cQi D vwCl (tys3 cJ cI cR) b n (fun v E' => v = -1 ∧ (∃ fs, E' a = .inr (6, .int 0 :: fs)) ∧ ∀ q, q < a ∨ a + 9 ≤ q → E' q = E q)) ([.ref a, .int (nI j), .int (nI u), .int (nI v)] : List Value).toArray s 0 0 (PA b)) (F0 m 79 ls []) := by
    clear hz hl
    intro k
    induction k with
    | zero =>
      intro i hi H locs ls hz hl
      have hi : 7 = i := by omega
      subst hi
      refine lv_iload hx hb dX7_multiply_79 (lv_at hl 0 rfl) ?_
      refine lv_bipush (v := 7) hx hb dX7_multiply_81 (by decide) ?_
      refine lv_icmp_ge (tgt := 163) hx hb dX7_multiply_83 (by decide) (fun _ => ?_) (fun qw => ?_)
      rotate_left
      · exact absurd (by decide) qw
      refine lv_aload_n hx hb dX7_multiply_163 rfl (lv_at hl 1 rfl) ?_
      refine lv_iload_n hx hb dX7_multiply_164 rfl (lv_at hl 2 rfl) ?_
      refine pw_calli hz (va_runV (As := [.int (nI j)]) (rest := []) ⟨hx, hb, hml, hown, hts⟩ (c_finish_0 l D cJ cI cR b n _ _ a 0 ha hm2 hrow2 j (by omega)) (cwV 1 hts gX7_multiply_X7_finish rfl rfl rfl (by decide +kernel) ⟨Nat.le_of_ble_eq_true rfl, Nat.le_of_ble_eq_true rfl⟩) (hz.preV (by omega) hm2 rfl) rfl rfl hl.1 rfl (lv_room (Nat.le_of_ble_eq_true rfl)) dX7_multiply_165 ⟨Nat.le_of_ble_eq_true rfl, Nat.le_of_ble_eq_true rfl⟩) (fun r_7 Ev H locs hp hz => ?_)
      obtain ⟨hr_7, hp⟩ := hp
      subst hr_7
      rw [hp] at hz
      exact pw_iret hx hb hret hlocks hz ⟨rfl, ⟨_, hm2⟩, fr⟩ dX7_multiply_168
    | succ k ih =>
      intro i hi H locs ls hz hl
      have hlt : i < 7 := by omega
      refine lv_iload hx hb dX7_multiply_79 (lv_at hl 0 rfl) ?_
      refine lv_bipush (v := 7) hx hb dX7_multiply_81 (by decide) ?_
      refine lv_icmp_ge (tgt := 163) hx hb dX7_multiply_83 (by decide) (fun qw => ?_) (fun _ => ?_)
      · exact absurd qw (nI_ge (b := 7) hlt (by decide))
      refine lv_iconst (v := 0) hx hb dX7_multiply_86 (by decide) ?_
      refine lv_istore (lv' := [(5, .int 0), (4, .int (nI i)), (0, .ref a), (1, .int (nI j)), (2, .int (nI u)), (3, .int (nI v))]) hx hb dX7_multiply_87 hl (by decide) rfl (fun ls hl => ?_)
      exact inner 8 0 i hlt rfl H locs ls (fun H locs ls hz hl => ih (i + 1) (by omega) H locs ls hz hl) hz (lv_sub hl [0, 1, 2, 3, 4, 5] rfl)
  exact loop 7 0 rfl _ _ ls hz (lv_sub hl [0, 1, 2, 3, 4] rfl)

set_option maxHeartbeats 400000 in
set_option maxRecDepth 100000 in
/-- derive of the fresh reference -/
theorem c_mderive_ok (l : Launch) (D : va_G) (cJ cI cR : ClassId) (b n : Nat) (E : Nat → va_E) (sz : Nat) (a : Nat) (ref : Int32) (ha : b ≤ a ∧ a + 9 ≤ b + n) (hm : E a = modO a ref) (hrow : E (a + 1) = rowM cJ (fun _ => 0)) (j u : Nat) (hj : j < 8) (hu : u < 8) : Met l yX7_derive wsX7_derive { frames := 2, cells := 0, slots := 0, locals := 46 } (cP D vwCl (tys3 cJ cI cR) b n E sz [.ref a, .int (nI j), .int (nI u)]) (cQi D vwCl (tys3 cJ cI cR) b n (fun v E' => v = -1 ∧ (∃ fs, E' a = .inr (6, .int 0 :: fs)) ∧ ∀ q, q < a ∨ a + 9 ≤ q → E' q = E q)) 0 0 (PA b) := by
  refine Met.ofW (cc := cX7_derive) (maxL := 4) (ret := (some .int)) (by decide) rfl ?_
  intro p e s m args below meth c s₁ B hml hv
  obtain ⟨rfl, hsz, hB⟩ := hv
  have hx := B.exec
  have hb := B.bytes
  have hret := B.returns
  have hts := atoms_spec (ws := wsX7_derive) B.pre
  have hown : s.vm.findClass RX7 = some m.cls := findClass_of_methodNamed B.named
  have hlocks := B.notSynchronized
  subst hsz
  have hz := PS.start hB
  have hl := lv_entry ([.ref a, .int (nI j), .int (nI u)]) (n := 4) (Nat.le_of_ble_eq_true rfl)
  rw [lg_entry_eq]
  generalize (lg_sl ([.ref a, .int (nI j), .int (nI u)]) ++ List.replicate (4 - (lg_sl ([.ref a, .int (nI j), .int (nI u)])).length) Slot.unset).toArray = ls at hl ⊢
  have hl : lv_has ls 4 [(0, .ref a), (1, .int (nI j)), (2, .int (nI u))] := hl
  have hw0 : ∀ w ∈ u_ws RX7 TX7 25, w ∈ wsX7_derive := by decide +kernel
  have hw1 := hts (.fieldLink RX7 7 "GaloisDeskModel" "row" "[J") (by decide +kernel)
  refine lv_aload_n hx hb dX7_derive_0 rfl (lv_at hl 0 rfl) ?_
  refine lv_iload_n hx hb dX7_derive_1 rfl (lv_at hl 1 rfl) ?_
  refine pw_calli hz (va_runS (As := [.int (nI j)]) (rest := [.ref a]) ⟨hx, hb, hml, hown, hts⟩ (c_isSlot_1 l D cJ cI cR b n _ _ ((nI j)) (nI_okS hj)) (va_cwS 1 hts gX7_derive_X7_isSlot rfl rfl rfl (by decide +kernel) ⟨Nat.le_of_ble_eq_true rfl, Nat.le_of_ble_eq_true rfl⟩) hz.preS rfl rfl hl.1 rfl (lv_room (Nat.le_of_ble_eq_true rfl)) dX7_derive_2 ⟨Nat.le_of_ble_eq_true rfl, Nat.le_of_ble_eq_true rfl⟩) (fun r_1 Ev H locs hp hz => ?_)
  obtain ⟨hr_1, hp⟩ := hp
  subst hr_1
  rw [hp] at hz
  refine lv_if_eq (tgt := 19) hx hb dX7_derive_5 (by decide) (fun qw => ?_) (fun _ => ?_)
  · exact absurd qw (by decide)
  refine lv_iload_n hx hb dX7_derive_8 rfl (lv_at hl 2 rfl) ?_
  refine pw_calli hz (va_runS (As := [.int (nI u)]) (rest := [.ref a]) ⟨hx, hb, hml, hown, hts⟩ (c_isSlot_1 l D cJ cI cR b n _ _ ((nI u)) (nI_okS hu)) (va_cwS 1 hts gX7_derive_X7_isSlot rfl rfl rfl (by decide +kernel) ⟨Nat.le_of_ble_eq_true rfl, Nat.le_of_ble_eq_true rfl⟩) hz.preS rfl rfl hl.1 rfl (lv_room (Nat.le_of_ble_eq_true rfl)) dX7_derive_9 ⟨Nat.le_of_ble_eq_true rfl, Nat.le_of_ble_eq_true rfl⟩) (fun r_2 Ev H locs hp hz => ?_)
  obtain ⟨hr_2, hp⟩ := hp
  subst hr_2
  rw [hp] at hz
  refine lv_if_eq (tgt := 19) hx hb dX7_derive_12 (by decide) (fun qw => ?_) (fun _ => ?_)
  · exact absurd qw (by decide)
  refine lv_iconst (v := 0) hx hb dX7_derive_15 (by decide) ?_
  refine lv_goto (tgt := 20) hx hb dX7_derive_16 (by decide) ?_
  refine pw_calli hz (va_runV (As := [.int 0]) (rest := []) ⟨hx, hb, hml, hown, hts⟩ (c_refused_0 l D cJ cI cR b n _ _ a ref ha hm) (cwV 1 hts gX7_derive_X7_refused rfl rfl rfl (by decide +kernel) ⟨Nat.le_of_ble_eq_true rfl, Nat.le_of_ble_eq_true rfl⟩) (hz.preV (by omega) hm rfl) rfl rfl hl.1 rfl (lv_room (Nat.le_of_ble_eq_true rfl)) dX7_derive_20 ⟨Nat.le_of_ble_eq_true rfl, Nat.le_of_ble_eq_true rfl⟩) (fun r_3 Ev H locs hp hz => ?_)
  obtain ⟨hr_3, hp⟩ := hp
  subst hr_3
  rw [hp] at hz
  have hz : PS D vwCl (tys3 cJ cI cR) b n s (va_up E a (.inr (6, [.int 0, .ref (a + 1), .int 0, .int 0, .ref (a + 2), .ref (a + 3), .int 0, .int 0, .int 0, .ref (a + 4), .ref (a + 5), .int 0, .ref (a + 6), .ref (a + 7), .int 0, .int 0, .int 0, .int 0, .ref (a + 8), .int 0, .long 0, .long 0, .long 0, .int 0, .long 0]))) H locs := hz
  refine lv_if_eq (tgt := 28) hx hb dX7_derive_23 (by decide) (fun _ => ?_) (fun qw => ?_)
  rotate_left
  · exact absurd rfl qw
  obtain ⟨E2, hE2⟩ : ∃ X, X = va_up E a (modO a 0) := ⟨_, rfl⟩
  have hz : PS D vwCl (tys3 cJ cI cR) b n s E2 H locs := by rw [hE2]; exact hz
  have hm2 : E2 a = modO a 0 := by rw [hE2]; exact va_up_self _ _ _
  have hrow2 : E2 (a + 1) = rowM cJ (fun _ => 0) := by rw [hE2]; exact (va_up_ne _ _ (by omega)).trans hrow
  have fr : ∀ q, q < a ∨ a + 9 ≤ q → E2 q = E q := fun q h => by rw [hE2]; exact va_up_ne _ _ (by omega)
  refine lv_aload_n hx hb dX7_derive_28 rfl (lv_at hl 0 rfl) ?_
  refine lv_bipush (v := 8) hx hb dX7_derive_29 (by decide) ?_
  refine pw_callv hz (va_runV (As := [.int 8]) (rest := []) ⟨hx, hb, hml, hown, hts⟩ (c_mclear_0 l D cJ cI cR b n _ _ a 0 ha hm2 hrow2 8 (by decide)) (cwV 1 hts gX7_derive_X7_clear rfl rfl rfl (by decide +kernel) ⟨Nat.le_of_ble_eq_true rfl, Nat.le_of_ble_eq_true rfl⟩) (hz.preV (by omega) hm2 rfl) rfl rfl hl.1 rfl (lv_room (Nat.le_of_ble_eq_true rfl)) dX7_derive_31 ⟨Nat.le_of_ble_eq_true rfl, Nat.le_of_ble_eq_true rfl⟩) (fun Ev H locs hp hz => ?_)
  rw [hp] at hz
  refine lv_iconst (v := 1) hx hb dX7_derive_34 (by decide) ?_
  refine lv_istore_n (lv' := [(3, .int 1), (0, .ref a), (1, .int (nI j)), (2, .int (nI u))]) hx hb dX7_derive_35 rfl hl (by decide) rfl (fun ls hl => ?_)
  have loop : ∀ (k i : Nat), i + k = 7 → 1 ≤ i → ∀ (H : Heap) (locs : List Loc) (ls : Array Slot), PS D vwCl (tys3 cJ cI cR) b n s E2 H locs → lv_has ls 4 [(3, .int (nI i)), (0, .ref a), (1, .int (nI j)), (2, .int (nI u))] → W p l e (headSpec wsX7_derive { frames := 2, cells := 0, slots := 0, locals := 46 }).room s m ([.ref a, .int (nI j), .int (nI u)] : List Value).toArray below meth c H locs 0 0 (MQ below (cQi D vwCl (tys3 cJ cI cR) b n (fun v E' => v = -1 ∧ (∃ fs, E' a = .inr (6, .int 0 :: fs)) ∧ ∀ q, q < a ∨ a + 9 ≤ q → E' q = E q)) ([.ref a, .int (nI j), .int (nI u)] : List Value).toArray s 0 0 (PA b)) (F0 m 36 ls []) := by
    clear hz hl
    intro k
    induction k with
    | zero =>
      intro i hi h1 H locs ls hz hl
      have hi : 7 = i := by omega
      subst hi
      refine lv_iload_n hx hb dX7_derive_36 rfl (lv_at hl 0 rfl) ?_
      refine lv_bipush (v := 7) hx hb dX7_derive_37 (by decide) ?_
      refine lv_icmp_ge (tgt := 73) hx hb dX7_derive_39 (by decide) (fun _ => ?_) (fun qw => ?_)
      rotate_left
      · exact absurd (by decide) qw
      refine lv_aload_n hx hb dX7_derive_73 rfl (lv_at hl 1 rfl) ?_
      refine lv_iload_n hx hb dX7_derive_74 rfl (lv_at hl 2 rfl) ?_
      refine pw_calli hz (va_runV (As := [.int (nI j)]) (rest := []) ⟨hx, hb, hml, hown, hts⟩ (c_finish_0 l D cJ cI cR b n _ _ a 0 ha hm2 hrow2 j (by omega)) (cwV 1 hts gX7_derive_X7_finish rfl rfl rfl (by decide +kernel) ⟨Nat.le_of_ble_eq_true rfl, Nat.le_of_ble_eq_true rfl⟩) (hz.preV (by omega) hm2 rfl) rfl rfl hl.1 rfl (lv_room (Nat.le_of_ble_eq_true rfl)) dX7_derive_75 ⟨Nat.le_of_ble_eq_true rfl, Nat.le_of_ble_eq_true rfl⟩) (fun r_5 Ev H locs hp hz => ?_)
      obtain ⟨hr_5, hp⟩ := hp
      subst hr_5
      rw [hp] at hz
      exact pw_iret hx hb hret hlocks hz ⟨rfl, ⟨_, hm2⟩, fr⟩ dX7_derive_78
    | succ k ih =>
      intro i hi h1 H locs ls hz hl
      have hlt : i < 7 := by omega
      refine lv_iload_n hx hb dX7_derive_36 rfl (lv_at hl 0 rfl) ?_
      refine lv_bipush (v := 7) hx hb dX7_derive_37 (by decide) ?_
      refine lv_icmp_ge (tgt := 73) hx hb dX7_derive_39 (by decide) (fun qw => ?_) (fun _ => ?_)
      · exact absurd qw (nI_ge (b := 7) hlt (by decide))
      refine lv_aload_n hx hb dX7_derive_42 rfl (lv_at hl 1 rfl) ?_
      refine pw_get (C := RX7) (T := TX7) (N := 25) (ci := 6) (v := .ref (a + 1)) hx hb hts hw0 hown hz (by omega) hm2 rfl 1 (by decide) hw1 (fun _ h9 => h9) rfl dX7_derive_43 ?_
      refine lv_bipush (v := 64) hx hb dX7_derive_46 (by decide) ?_
      refine lv_iload_n hx hb dX7_derive_48 rfl (lv_at hl 0 rfl) ?_
      refine lv_iadd hx hb dX7_derive_49 ?_
      refine lv_iconst (v := 1) hx hb dX7_derive_50 (by decide) ?_
      refine lv_isub hx hb dX7_derive_51 ?_
      refine lv_iload_n hx hb dX7_derive_52 rfl (lv_at hl 0 rfl) ?_
      refine lv_i2l hx hb dX7_derive_53 rfl ?_
      refine lv_aload_n hx hb dX7_derive_54 rfl (lv_at hl 1 rfl) ?_
      refine pw_get (C := RX7) (T := TX7) (N := 25) (ci := 6) (v := .ref (a + 1)) hx hb hts hw0 hown hz (by omega) hm2 rfl 1 (by decide) hw1 (fun _ h9 => h9) rfl dX7_derive_55 ?_
      refine lv_bipush (v := 8) hx hb dX7_derive_58 (by decide) ?_
      refine lv_iload_n hx hb dX7_derive_60 rfl (lv_at hl 3 rfl) ?_
      refine lv_imul hx hb dX7_derive_61 ?_
      refine lv_iload_n hx hb dX7_derive_62 rfl (lv_at hl 0 rfl) ?_
      refine lv_iadd hx hb dX7_derive_63 ?_
      refine pw_lald hx hb hz (by omega) hrow2 0 rfl (by rw [ix8]; exact vp_in_nI (by omega) (by decide)) dX7_derive_64 ?_
      refine lv_lmul hx hb dX7_derive_65 ?_
      rw [mul0v]
      refine pw_last hx hb hz (by omega) hrow2 0 rfl (by rw [ix63 h1]; exact vp_in_nI (by omega) (by decide)) dX7_derive_66 (fun H locs hz => ?_)
      have hz : PS D vwCl (tys3 cJ cI cR) b n s (va_up E2 (a + 1) (.inl (cJ, 240, .inr (.inl (vp_updL (fun _ => 0) (Int32.toNatClampNeg ((64 + (nI i)) - 1)) 0))))) H locs := hz
      rw [upd0, up_same hrow2] at hz
      refine lv_iinc (v := (nI (i + 1))) (lv' := [(3, .int (nI (i + 1))), (0, .ref a), (1, .int (nI j)), (2, .int (nI u))]) hx hb dX7_derive_67 hl (k := 0) rfl (by exact nI_1 i) (by decide) rfl (fun ls hl => ?_)
      refine lv_goto (tgt := 36) hx hb dX7_derive_70 (by decide) ?_
      exact ih (i + 1) (by omega) (by omega) H locs ls hz hl
  exact loop 6 1 rfl (by decide) _ _ ls hz (lv_sub hl [0, 1, 2, 3] rfl)

set_option maxHeartbeats 400000 in
set_option maxRecDepth 100000 in
/-- divide of the fresh reference -/
theorem c_mdivide_ok (l : Launch) (D : va_G) (cJ cI cR : ClassId) (b n : Nat) (E : Nat → va_E) (sz : Nat) (a : Nat) (ref : Int32) (ha : b ≤ a ∧ a + 9 ≤ b + n) (hm : E a = modO a ref) (hrow : E (a + 1) = rowM cJ (fun _ => 0)) (j u v : Nat) (hj : j < 8) (hu : u < 8) (hv : v < 8) : Met l yX7_divide wsX7_divide { frames := 2, cells := 0, slots := 0, locals := 43 } (cP D vwCl (tys3 cJ cI cR) b n E sz [.ref a, .int (nI j), .int (nI u), .int (nI v)]) (cQi D vwCl (tys3 cJ cI cR) b n (fun v E' => v = -3 ∧ (∃ fs, E' a = .inr (6, .int 0 :: fs)) ∧ ∀ q, q < a ∨ a + 9 ≤ q → E' q = E q)) 0 0 (PA b) := by
  refine Met.ofW (cc := cX7_divide) (maxL := 4) (ret := (some .int)) (by decide) rfl ?_
  intro p e s m args below meth c s₁ B hml hv
  obtain ⟨rfl, hsz, hB⟩ := hv
  have hx := B.exec
  have hb := B.bytes
  have hret := B.returns
  have hts := atoms_spec (ws := wsX7_divide) B.pre
  have hown : s.vm.findClass RX7 = some m.cls := findClass_of_methodNamed B.named
  have hlocks := B.notSynchronized
  subst hsz
  have hz := PS.start hB
  have hl := lv_entry ([.ref a, .int (nI j), .int (nI u), .int (nI v)]) (n := 4) (Nat.le_of_ble_eq_true rfl)
  rw [lg_entry_eq]
  generalize (lg_sl ([.ref a, .int (nI j), .int (nI u), .int (nI v)]) ++ List.replicate (4 - (lg_sl ([.ref a, .int (nI j), .int (nI u), .int (nI v)])).length) Slot.unset).toArray = ls at hl ⊢
  have hl : lv_has ls 4 [(0, .ref a), (1, .int (nI j)), (2, .int (nI u)), (3, .int (nI v))] := hl
  refine lv_aload_n hx hb dX7_divide_0 rfl (lv_at hl 0 rfl) ?_
  refine lv_iload_n hx hb dX7_divide_1 rfl (lv_at hl 1 rfl) ?_
  refine pw_calli hz (va_runS (As := [.int (nI j)]) (rest := [.ref a]) ⟨hx, hb, hml, hown, hts⟩ (c_isSlot_1 l D cJ cI cR b n _ _ ((nI j)) (nI_okS hj)) (va_cwS 1 hts gX7_divide_X7_isSlot rfl rfl rfl (by decide +kernel) ⟨Nat.le_of_ble_eq_true rfl, Nat.le_of_ble_eq_true rfl⟩) hz.preS rfl rfl hl.1 rfl (lv_room (Nat.le_of_ble_eq_true rfl)) dX7_divide_2 ⟨Nat.le_of_ble_eq_true rfl, Nat.le_of_ble_eq_true rfl⟩) (fun r_1 Ev H locs hp hz => ?_)
  obtain ⟨hr_1, hp⟩ := hp
  subst hr_1
  rw [hp] at hz
  refine lv_if_eq (tgt := 26) hx hb dX7_divide_5 (by decide) (fun qw => ?_) (fun _ => ?_)
  · exact absurd qw (by decide)
  refine lv_iload_n hx hb dX7_divide_8 rfl (lv_at hl 2 rfl) ?_
  refine pw_calli hz (va_runS (As := [.int (nI u)]) (rest := [.ref a]) ⟨hx, hb, hml, hown, hts⟩ (c_isSlot_1 l D cJ cI cR b n _ _ ((nI u)) (nI_okS hu)) (va_cwS 1 hts gX7_divide_X7_isSlot rfl rfl rfl (by decide +kernel) ⟨Nat.le_of_ble_eq_true rfl, Nat.le_of_ble_eq_true rfl⟩) hz.preS rfl rfl hl.1 rfl (lv_room (Nat.le_of_ble_eq_true rfl)) dX7_divide_9 ⟨Nat.le_of_ble_eq_true rfl, Nat.le_of_ble_eq_true rfl⟩) (fun r_2 Ev H locs hp hz => ?_)
  obtain ⟨hr_2, hp⟩ := hp
  subst hr_2
  rw [hp] at hz
  refine lv_if_eq (tgt := 26) hx hb dX7_divide_12 (by decide) (fun qw => ?_) (fun _ => ?_)
  · exact absurd qw (by decide)
  refine lv_iload_n hx hb dX7_divide_15 rfl (lv_at hl 3 rfl) ?_
  refine pw_calli hz (va_runS (As := [.int (nI v)]) (rest := [.ref a]) ⟨hx, hb, hml, hown, hts⟩ (c_isSlot_1 l D cJ cI cR b n _ _ ((nI v)) (nI_okS hv)) (va_cwS 1 hts gX7_divide_X7_isSlot rfl rfl rfl (by decide +kernel) ⟨Nat.le_of_ble_eq_true rfl, Nat.le_of_ble_eq_true rfl⟩) hz.preS rfl rfl hl.1 rfl (lv_room (Nat.le_of_ble_eq_true rfl)) dX7_divide_16 ⟨Nat.le_of_ble_eq_true rfl, Nat.le_of_ble_eq_true rfl⟩) (fun r_3 Ev H locs hp hz => ?_)
  obtain ⟨hr_3, hp⟩ := hp
  subst hr_3
  rw [hp] at hz
  refine lv_if_eq (tgt := 26) hx hb dX7_divide_19 (by decide) (fun qw => ?_) (fun _ => ?_)
  · exact absurd qw (by decide)
  refine lv_iconst (v := 0) hx hb dX7_divide_22 (by decide) ?_
  refine lv_goto (tgt := 27) hx hb dX7_divide_23 (by decide) ?_
  refine pw_calli hz (va_runV (As := [.int 0]) (rest := []) ⟨hx, hb, hml, hown, hts⟩ (c_refused_0 l D cJ cI cR b n _ _ a ref ha hm) (cwV 1 hts gX7_divide_X7_refused rfl rfl rfl (by decide +kernel) ⟨Nat.le_of_ble_eq_true rfl, Nat.le_of_ble_eq_true rfl⟩) (hz.preV (by omega) hm rfl) rfl rfl hl.1 rfl (lv_room (Nat.le_of_ble_eq_true rfl)) dX7_divide_27 ⟨Nat.le_of_ble_eq_true rfl, Nat.le_of_ble_eq_true rfl⟩) (fun r_4 Ev H locs hp hz => ?_)
  obtain ⟨hr_4, hp⟩ := hp
  subst hr_4
  rw [hp] at hz
  have hz : PS D vwCl (tys3 cJ cI cR) b n s (va_up E a (.inr (6, [.int 0, .ref (a + 1), .int 0, .int 0, .ref (a + 2), .ref (a + 3), .int 0, .int 0, .int 0, .ref (a + 4), .ref (a + 5), .int 0, .ref (a + 6), .ref (a + 7), .int 0, .int 0, .int 0, .int 0, .ref (a + 8), .int 0, .long 0, .long 0, .long 0, .int 0, .long 0]))) H locs := hz
  refine lv_if_eq (tgt := 35) hx hb dX7_divide_30 (by decide) (fun _ => ?_) (fun qw => ?_)
  rotate_left
  · exact absurd rfl qw
  obtain ⟨E2, hE2⟩ : ∃ X, X = va_up E a (modO a 0) := ⟨_, rfl⟩
  have hz : PS D vwCl (tys3 cJ cI cR) b n s E2 H locs := by rw [hE2]; exact hz
  have hm2 : E2 a = modO a 0 := by rw [hE2]; exact va_up_self _ _ _
  have hrow2 : E2 (a + 1) = rowM cJ (fun _ => 0) := by rw [hE2]; exact (va_up_ne _ _ (by omega)).trans hrow
  have fr : ∀ q, q < a ∨ a + 9 ≤ q → E2 q = E q := fun q h => by rw [hE2]; exact va_up_ne _ _ (by omega)
  refine lv_aload_n hx hb dX7_divide_35 rfl (lv_at hl 0 rfl) ?_
  refine lv_iload_n hx hb dX7_divide_36 rfl (lv_at hl 3 rfl) ?_
  refine pw_calli hz (va_runV (As := [.int (nI v)]) (rest := []) ⟨hx, hb, hml, hown, hts⟩ (c_isZero_0 l D cJ cI cR b n _ _ a 0 ha hm2 hrow2 v (by omega)) (cwV 1 hts gX7_divide_X7_isZero rfl rfl rfl (by decide +kernel) ⟨Nat.le_of_ble_eq_true rfl, Nat.le_of_ble_eq_true rfl⟩) (hz.preV (by omega) hm2 rfl) rfl rfl hl.1 rfl (lv_room (Nat.le_of_ble_eq_true rfl)) dX7_divide_37 ⟨Nat.le_of_ble_eq_true rfl, Nat.le_of_ble_eq_true rfl⟩) (fun r_5 Ev H locs hp hz => ?_)
  obtain ⟨hr_5, hp⟩ := hp
  subst hr_5
  rw [hp] at hz
  refine lv_if_eq (tgt := 46) hx hb dX7_divide_40 (by decide) (fun qw => ?_) (fun _ => ?_)
  · exact absurd qw (by decide)
  refine lv_bipush (v := (-3)) hx hb dX7_divide_43 (by decide) ?_
  exact pw_iret hx hb hret hlocks hz ⟨rfl, ⟨_, hm2⟩, fr⟩ dX7_divide_45

set_option maxHeartbeats 400000 in
set_option maxRecDepth 100000 in
/-- common of the fresh reference -/
theorem c_mcommon_ok (l : Launch) (D : va_G) (cJ cI cR : ClassId) (b n : Nat) (E : Nat → va_E) (sz : Nat) (a : Nat) (ref : Int32) (ha : b ≤ a ∧ a + 9 ≤ b + n) (hm : E a = modO a ref) (hrow : E (a + 1) = rowM cJ (fun _ => 0)) (j u v : Nat) (hj : j < 8) (hu : u < 8) (hv : v < 8) : Met l yX7_common wsX7_common { frames := 2, cells := 0, slots := 0, locals := 54 } (cP D vwCl (tys3 cJ cI cR) b n E sz [.ref a, .int (nI j), .int (nI u), .int (nI v)]) (cQi D vwCl (tys3 cJ cI cR) b n (fun v E' => v = -1 ∧ (∃ fs, E' a = .inr (6, .int 0 :: fs)) ∧ ∀ q, q < a ∨ a + 9 ≤ q → E' q = E q)) 0 0 (PA b) := by
  refine Met.ofW (cc := cX7_common) (maxL := 9) (ret := (some .int)) (by decide) rfl ?_
  intro p e s m args below meth c s₁ B hml hv
  obtain ⟨rfl, hsz, hB⟩ := hv
  have hx := B.exec
  have hb := B.bytes
  have hret := B.returns
  have hts := atoms_spec (ws := wsX7_common) B.pre
  have hown : s.vm.findClass RX7 = some m.cls := findClass_of_methodNamed B.named
  have hlocks := B.notSynchronized
  subst hsz
  have hz := PS.start hB
  have hl := lv_entry ([.ref a, .int (nI j), .int (nI u), .int (nI v)]) (n := 9) (Nat.le_of_ble_eq_true rfl)
  rw [lg_entry_eq]
  generalize (lg_sl ([.ref a, .int (nI j), .int (nI u), .int (nI v)]) ++ List.replicate (9 - (lg_sl ([.ref a, .int (nI j), .int (nI u), .int (nI v)])).length) Slot.unset).toArray = ls at hl ⊢
  have hl : lv_has ls 9 [(0, .ref a), (1, .int (nI j)), (2, .int (nI u)), (3, .int (nI v))] := hl
  have hw0 : ∀ w ∈ u_ws RX7 TX7 25, w ∈ wsX7_common := by decide +kernel
  have hw1 := hts (.fieldLink RX7 134 "GaloisDeskModel" "content" "I") (by decide +kernel)
  refine lv_aload_n hx hb dX7_common_0 rfl (lv_at hl 0 rfl) ?_
  refine lv_iload_n hx hb dX7_common_1 rfl (lv_at hl 1 rfl) ?_
  refine pw_calli hz (va_runS (As := [.int (nI j)]) (rest := [.ref a]) ⟨hx, hb, hml, hown, hts⟩ (c_isSlot_1 l D cJ cI cR b n _ _ ((nI j)) (nI_okS hj)) (va_cwS 1 hts gX7_common_X7_isSlot rfl rfl rfl (by decide +kernel) ⟨Nat.le_of_ble_eq_true rfl, Nat.le_of_ble_eq_true rfl⟩) hz.preS rfl rfl hl.1 rfl (lv_room (Nat.le_of_ble_eq_true rfl)) dX7_common_2 ⟨Nat.le_of_ble_eq_true rfl, Nat.le_of_ble_eq_true rfl⟩) (fun r_1 Ev H locs hp hz => ?_)
  obtain ⟨hr_1, hp⟩ := hp
  subst hr_1
  rw [hp] at hz
  refine lv_if_eq (tgt := 26) hx hb dX7_common_5 (by decide) (fun qw => ?_) (fun _ => ?_)
  · exact absurd qw (by decide)
  refine lv_iload_n hx hb dX7_common_8 rfl (lv_at hl 2 rfl) ?_
  refine pw_calli hz (va_runS (As := [.int (nI u)]) (rest := [.ref a]) ⟨hx, hb, hml, hown, hts⟩ (c_isSlot_1 l D cJ cI cR b n _ _ ((nI u)) (nI_okS hu)) (va_cwS 1 hts gX7_common_X7_isSlot rfl rfl rfl (by decide +kernel) ⟨Nat.le_of_ble_eq_true rfl, Nat.le_of_ble_eq_true rfl⟩) hz.preS rfl rfl hl.1 rfl (lv_room (Nat.le_of_ble_eq_true rfl)) dX7_common_9 ⟨Nat.le_of_ble_eq_true rfl, Nat.le_of_ble_eq_true rfl⟩) (fun r_2 Ev H locs hp hz => ?_)
  obtain ⟨hr_2, hp⟩ := hp
  subst hr_2
  rw [hp] at hz
  refine lv_if_eq (tgt := 26) hx hb dX7_common_12 (by decide) (fun qw => ?_) (fun _ => ?_)
  · exact absurd qw (by decide)
  refine lv_iload_n hx hb dX7_common_15 rfl (lv_at hl 3 rfl) ?_
  refine pw_calli hz (va_runS (As := [.int (nI v)]) (rest := [.ref a]) ⟨hx, hb, hml, hown, hts⟩ (c_isSlot_1 l D cJ cI cR b n _ _ ((nI v)) (nI_okS hv)) (va_cwS 1 hts gX7_common_X7_isSlot rfl rfl rfl (by decide +kernel) ⟨Nat.le_of_ble_eq_true rfl, Nat.le_of_ble_eq_true rfl⟩) hz.preS rfl rfl hl.1 rfl (lv_room (Nat.le_of_ble_eq_true rfl)) dX7_common_16 ⟨Nat.le_of_ble_eq_true rfl, Nat.le_of_ble_eq_true rfl⟩) (fun r_3 Ev H locs hp hz => ?_)
  obtain ⟨hr_3, hp⟩ := hp
  subst hr_3
  rw [hp] at hz
  refine lv_if_eq (tgt := 26) hx hb dX7_common_19 (by decide) (fun qw => ?_) (fun _ => ?_)
  · exact absurd qw (by decide)
  refine lv_iconst (v := 0) hx hb dX7_common_22 (by decide) ?_
  refine lv_goto (tgt := 27) hx hb dX7_common_23 (by decide) ?_
  refine pw_calli hz (va_runV (As := [.int 0]) (rest := []) ⟨hx, hb, hml, hown, hts⟩ (c_refused_0 l D cJ cI cR b n _ _ a ref ha hm) (cwV 1 hts gX7_common_X7_refused rfl rfl rfl (by decide +kernel) ⟨Nat.le_of_ble_eq_true rfl, Nat.le_of_ble_eq_true rfl⟩) (hz.preV (by omega) hm rfl) rfl rfl hl.1 rfl (lv_room (Nat.le_of_ble_eq_true rfl)) dX7_common_27 ⟨Nat.le_of_ble_eq_true rfl, Nat.le_of_ble_eq_true rfl⟩) (fun r_4 Ev H locs hp hz => ?_)
  obtain ⟨hr_4, hp⟩ := hp
  subst hr_4
  rw [hp] at hz
  have hz : PS D vwCl (tys3 cJ cI cR) b n s (va_up E a (.inr (6, [.int 0, .ref (a + 1), .int 0, .int 0, .ref (a + 2), .ref (a + 3), .int 0, .int 0, .int 0, .ref (a + 4), .ref (a + 5), .int 0, .ref (a + 6), .ref (a + 7), .int 0, .int 0, .int 0, .int 0, .ref (a + 8), .int 0, .long 0, .long 0, .long 0, .int 0, .long 0]))) H locs := hz
  refine lv_if_eq (tgt := 35) hx hb dX7_common_30 (by decide) (fun _ => ?_) (fun qw => ?_)
  rotate_left
  · exact absurd rfl qw
  obtain ⟨E2, hE2⟩ : ∃ X, X = va_up E a (modO a 0) := ⟨_, rfl⟩
  have hz : PS D vwCl (tys3 cJ cI cR) b n s E2 H locs := by rw [hE2]; exact hz
  have hm2 : E2 a = modO a 0 := by rw [hE2]; exact va_up_self _ _ _
  have hrow2 : E2 (a + 1) = rowM cJ (fun _ => 0) := by rw [hE2]; exact (va_up_ne _ _ (by omega)).trans hrow
  have fr : ∀ q, q < a ∨ a + 9 ≤ q → E2 q = E q := fun q h => by rw [hE2]; exact va_up_ne _ _ (by omega)
  refine lv_aload_n hx hb dX7_common_35 rfl (lv_at hl 0 rfl) ?_
  refine lv_iload_n hx hb dX7_common_36 rfl (lv_at hl 2 rfl) ?_
  refine pw_calli hz (va_runV (As := [.int (nI u)]) (rest := []) ⟨hx, hb, hml, hown, hts⟩ (c_isZero_0 l D cJ cI cR b n _ _ a 0 ha hm2 hrow2 u (by omega)) (cwV 1 hts gX7_common_X7_isZero rfl rfl rfl (by decide +kernel) ⟨Nat.le_of_ble_eq_true rfl, Nat.le_of_ble_eq_true rfl⟩) (hz.preV (by omega) hm2 rfl) rfl rfl hl.1 rfl (lv_room (Nat.le_of_ble_eq_true rfl)) dX7_common_37 ⟨Nat.le_of_ble_eq_true rfl, Nat.le_of_ble_eq_true rfl⟩) (fun r_5 Ev H locs hp hz => ?_)
  obtain ⟨hr_5, hp⟩ := hp
  subst hr_5
  rw [hp] at hz
  refine lv_if_ne (tgt := 51) hx hb dX7_common_40 (by decide) (fun _ => ?_) (fun qw => ?_)
  rotate_left
  · exact absurd qw (by decide)
  refine lv_aload_n hx hb dX7_common_51 rfl (lv_at hl 0 rfl) ?_
  refine lv_bipush (v := 8) hx hb dX7_common_52 (by decide) ?_
  refine lv_aload_n hx hb dX7_common_54 rfl (lv_at hl 0 rfl) ?_
  refine lv_iload_n hx hb dX7_common_55 rfl (lv_at hl 2 rfl) ?_
  refine pw_calli hz (va_runV (As := [.int (nI u)]) (rest := [.int 8, .ref a]) ⟨hx, hb, hml, hown, hts⟩ (c_isZero_0 l D cJ cI cR b n _ _ a 0 ha hm2 hrow2 u (by omega)) (cwV 1 hts gX7_common_X7_isZero rfl rfl rfl (by decide +kernel) ⟨Nat.le_of_ble_eq_true rfl, Nat.le_of_ble_eq_true rfl⟩) (hz.preV (by omega) hm2 rfl) rfl rfl hl.1 rfl (lv_room (Nat.le_of_ble_eq_true rfl)) dX7_common_56 ⟨Nat.le_of_ble_eq_true rfl, Nat.le_of_ble_eq_true rfl⟩) (fun r_6 Ev H locs hp hz => ?_)
  obtain ⟨hr_6, hp⟩ := hp
  subst hr_6
  rw [hp] at hz
  refine lv_if_eq (tgt := 66) hx hb dX7_common_59 (by decide) (fun qw => ?_) (fun _ => ?_)
  · exact absurd qw (by decide)
  refine lv_iload_n hx hb dX7_common_62 rfl (lv_at hl 3 rfl) ?_
  refine lv_goto (tgt := 67) hx hb dX7_common_63 (by decide) ?_
  refine pw_callv hz (va_runV (As := [.int 8, .int (nI v)]) (rest := []) ⟨hx, hb, hml, hown, hts⟩ (c_mcopy_0 l D cJ cI cR b n _ _ a 0 ha hm2 hrow2 8 v (by decide) (by omega)) (cwV 2 hts gX7_common_X7_copy rfl rfl rfl (by decide +kernel) ⟨Nat.le_of_ble_eq_true rfl, Nat.le_of_ble_eq_true rfl⟩) (hz.preV (by omega) hm2 rfl) rfl rfl hl.1 rfl (lv_room (Nat.le_of_ble_eq_true rfl)) dX7_common_67 ⟨Nat.le_of_ble_eq_true rfl, Nat.le_of_ble_eq_true rfl⟩) (fun Ev H locs hp hz => ?_)
  rw [hp] at hz
  refine lv_aload_n hx hb dX7_common_70 rfl (lv_at hl 0 rfl) ?_
  refine lv_aload_n hx hb dX7_common_71 rfl (lv_at hl 0 rfl) ?_
  refine lv_bipush (v := 8) hx hb dX7_common_72 (by decide) ?_
  refine pw_calll hz (va_runV (As := [.int 8]) (rest := [.ref a]) ⟨hx, hb, hml, hown, hts⟩ (c_takeContent_0 l D cJ cI cR b n _ _ a 0 ha hm2 hrow2 8 (by decide)) (cwV 1 hts gX7_common_X7_takeContent rfl rfl rfl (by decide +kernel) ⟨Nat.le_of_ble_eq_true rfl, Nat.le_of_ble_eq_true rfl⟩) (hz.preV (by omega) hm2 rfl) rfl rfl hl.1 rfl (lv_room (Nat.le_of_ble_eq_true rfl)) dX7_common_74 ⟨Nat.le_of_ble_eq_true rfl, Nat.le_of_ble_eq_true rfl⟩) (fun r_8 Ev H locs hp hz => ?_)
  obtain ⟨hr_8, hp⟩ := hp
  subst hr_8
  rw [hp] at hz
  refine lv_l2i hx hb dX7_common_77 rfl ?_
  refine pw_put (C := RX7) (T := TX7) (N := 25) (ci := 6) (ty := .int) (v := .int (Int64.toInt32 0)) hx hb hts hw0 tyX7 tyX7_ok nmX7 hown hz (by omega) hm2 rfl 6 (by decide) hw1 (fun _ h9 => h9) rfl (by decide +kernel) rfl rfl (Nat.le_of_ble_eq_true rfl) dX7_common_78 (fun H locs hz => ?_)
  have hz : PS D vwCl (tys3 cJ cI cR) b n s (va_up E2 a (.inr (6, [.int 0, .ref (a + 1), .int 0, .int 0, .ref (a + 2), .ref (a + 3), .int (Int64.toInt32 0), .int 0, .int 0, .ref (a + 4), .ref (a + 5), .int 0, .ref (a + 6), .ref (a + 7), .int 0, .int 0, .int 0, .int 0, .ref (a + 8), .int 0, .long 0, .long 0, .long 0, .int 0, .long 0]))) H locs := hz
  have hz : PS D vwCl (tys3 cJ cI cR) b n s (va_up E2 a (modO a 0)) H locs := hz
  rw [up_same hm2] at hz
  refine lv_aload_n hx hb dX7_common_81 rfl (lv_at hl 0 rfl) ?_
  refine lv_iload_n hx hb dX7_common_82 rfl (lv_at hl 1 rfl) ?_
  refine pw_calli hz (va_runV (As := [.int (nI j)]) (rest := []) ⟨hx, hb, hml, hown, hts⟩ (c_finish_0 l D cJ cI cR b n _ _ a 0 ha hm2 hrow2 j (by omega)) (cwV 1 hts gX7_common_X7_finish rfl rfl rfl (by decide +kernel) ⟨Nat.le_of_ble_eq_true rfl, Nat.le_of_ble_eq_true rfl⟩) (hz.preV (by omega) hm2 rfl) rfl rfl hl.1 rfl (lv_room (Nat.le_of_ble_eq_true rfl)) dX7_common_83 ⟨Nat.le_of_ble_eq_true rfl, Nat.le_of_ble_eq_true rfl⟩) (fun r_9 Ev H locs hp hz => ?_)
  obtain ⟨hr_9, hp⟩ := hp
  subst hr_9
  rw [hp] at hz
  exact pw_iret hx hb hret hlocks hz ⟨rfl, ⟨_, hm2⟩, fr⟩ dX7_common_86

set_option maxHeartbeats 400000 in
set_option maxRecDepth 100000 in
/-- parts of the fresh reference -/
theorem c_mparts_ok (l : Launch) (D : va_G) (cJ cI cR : ClassId) (b n : Nat) (E : Nat → va_E) (sz : Nat) (a : Nat) (ref : Int32) (ha : b ≤ a ∧ a + 9 ≤ b + n) (hm : E a = modO a ref) (hrow : E (a + 1) = rowM cJ (fun _ => 0)) (j : Nat) (hj : j < 8) : Met l yX7_parts wsX7_parts { frames := 2, cells := 0, slots := 0, locals := 43 } (cP D vwCl (tys3 cJ cI cR) b n E sz [.ref a, .int (nI j)]) (cQi D vwCl (tys3 cJ cI cR) b n (fun v E' => v = -3 ∧ (∃ fs, E' a = .inr (6, .int 0 :: fs)) ∧ ∀ q, q < a ∨ a + 9 ≤ q → E' q = E q)) 0 0 (PA b) := by
  refine Met.ofW (cc := cX7_parts) (maxL := 4) (ret := (some .int)) (by decide) rfl ?_
  intro p e s m args below meth c s₁ B hml hv
  obtain ⟨rfl, hsz, hB⟩ := hv
  have hx := B.exec
  have hb := B.bytes
  have hret := B.returns
  have hts := atoms_spec (ws := wsX7_parts) B.pre
  have hown : s.vm.findClass RX7 = some m.cls := findClass_of_methodNamed B.named
  have hlocks := B.notSynchronized
  subst hsz
  have hz := PS.start hB
  have hl := lv_entry ([.ref a, .int (nI j)]) (n := 4) (Nat.le_of_ble_eq_true rfl)
  rw [lg_entry_eq]
  generalize (lg_sl ([.ref a, .int (nI j)]) ++ List.replicate (4 - (lg_sl ([.ref a, .int (nI j)])).length) Slot.unset).toArray = ls at hl ⊢
  have hl : lv_has ls 4 [(0, .ref a), (1, .int (nI j))] := hl
  refine lv_aload_n hx hb dX7_parts_0 rfl (lv_at hl 0 rfl) ?_
  refine lv_iload_n hx hb dX7_parts_1 rfl (lv_at hl 1 rfl) ?_
  refine pw_calli hz (va_runS (As := [.int (nI j)]) (rest := [.ref a]) ⟨hx, hb, hml, hown, hts⟩ (c_isSlot_1 l D cJ cI cR b n _ _ ((nI j)) (nI_okS hj)) (va_cwS 1 hts gX7_parts_X7_isSlot rfl rfl rfl (by decide +kernel) ⟨Nat.le_of_ble_eq_true rfl, Nat.le_of_ble_eq_true rfl⟩) hz.preS rfl rfl hl.1 rfl (lv_room (Nat.le_of_ble_eq_true rfl)) dX7_parts_2 ⟨Nat.le_of_ble_eq_true rfl, Nat.le_of_ble_eq_true rfl⟩) (fun r_1 Ev H locs hp hz => ?_)
  obtain ⟨hr_1, hp⟩ := hp
  subst hr_1
  rw [hp] at hz
  refine lv_if_eq (tgt := 12) hx hb dX7_parts_5 (by decide) (fun qw => ?_) (fun _ => ?_)
  · exact absurd qw (by decide)
  refine lv_iconst (v := 0) hx hb dX7_parts_8 (by decide) ?_
  refine lv_goto (tgt := 13) hx hb dX7_parts_9 (by decide) ?_
  refine pw_calli hz (va_runV (As := [.int 0]) (rest := []) ⟨hx, hb, hml, hown, hts⟩ (c_refused_0 l D cJ cI cR b n _ _ a ref ha hm) (cwV 1 hts gX7_parts_X7_refused rfl rfl rfl (by decide +kernel) ⟨Nat.le_of_ble_eq_true rfl, Nat.le_of_ble_eq_true rfl⟩) (hz.preV (by omega) hm rfl) rfl rfl hl.1 rfl (lv_room (Nat.le_of_ble_eq_true rfl)) dX7_parts_13 ⟨Nat.le_of_ble_eq_true rfl, Nat.le_of_ble_eq_true rfl⟩) (fun r_2 Ev H locs hp hz => ?_)
  obtain ⟨hr_2, hp⟩ := hp
  subst hr_2
  rw [hp] at hz
  have hz : PS D vwCl (tys3 cJ cI cR) b n s (va_up E a (.inr (6, [.int 0, .ref (a + 1), .int 0, .int 0, .ref (a + 2), .ref (a + 3), .int 0, .int 0, .int 0, .ref (a + 4), .ref (a + 5), .int 0, .ref (a + 6), .ref (a + 7), .int 0, .int 0, .int 0, .int 0, .ref (a + 8), .int 0, .long 0, .long 0, .long 0, .int 0, .long 0]))) H locs := hz
  refine lv_if_eq (tgt := 21) hx hb dX7_parts_16 (by decide) (fun _ => ?_) (fun qw => ?_)
  rotate_left
  · exact absurd rfl qw
  obtain ⟨E2, hE2⟩ : ∃ X, X = va_up E a (modO a 0) := ⟨_, rfl⟩
  have hz : PS D vwCl (tys3 cJ cI cR) b n s E2 H locs := by rw [hE2]; exact hz
  have hm2 : E2 a = modO a 0 := by rw [hE2]; exact va_up_self _ _ _
  have hrow2 : E2 (a + 1) = rowM cJ (fun _ => 0) := by rw [hE2]; exact (va_up_ne _ _ (by omega)).trans hrow
  have fr : ∀ q, q < a ∨ a + 9 ≤ q → E2 q = E q := fun q h => by rw [hE2]; exact va_up_ne _ _ (by omega)
  refine lv_aload_n hx hb dX7_parts_21 rfl (lv_at hl 0 rfl) ?_
  refine lv_iload_n hx hb dX7_parts_22 rfl (lv_at hl 1 rfl) ?_
  refine pw_calli hz (va_runV (As := [.int (nI j)]) (rest := []) ⟨hx, hb, hml, hown, hts⟩ (c_isZero_0 l D cJ cI cR b n _ _ a 0 ha hm2 hrow2 j (by omega)) (cwV 1 hts gX7_parts_X7_isZero rfl rfl rfl (by decide +kernel) ⟨Nat.le_of_ble_eq_true rfl, Nat.le_of_ble_eq_true rfl⟩) (hz.preV (by omega) hm2 rfl) rfl rfl hl.1 rfl (lv_room (Nat.le_of_ble_eq_true rfl)) dX7_parts_23 ⟨Nat.le_of_ble_eq_true rfl, Nat.le_of_ble_eq_true rfl⟩) (fun r_3 Ev H locs hp hz => ?_)
  obtain ⟨hr_3, hp⟩ := hp
  subst hr_3
  rw [hp] at hz
  refine lv_if_eq (tgt := 32) hx hb dX7_parts_26 (by decide) (fun qw => ?_) (fun _ => ?_)
  · exact absurd qw (by decide)
  refine lv_bipush (v := (-3)) hx hb dX7_parts_29 (by decide) ?_
  exact pw_iret hx hb hret hlocks hz ⟨rfl, ⟨_, hm2⟩, fr⟩ dX7_parts_31

set_option maxHeartbeats 400000 in
set_option maxRecDepth 100000 in
/-- galois of the fresh reference -/
theorem c_mgalois_ok (l : Launch) (D : va_G) (cJ cI cR : ClassId) (b n : Nat) (E : Nat → va_E) (sz : Nat) (a : Nat) (ref : Int32) (ha : b ≤ a ∧ a + 9 ≤ b + n) (hm : E a = modO a ref) (hrow : E (a + 1) = rowM cJ (fun _ => 0)) (j : Nat) (hj : j < 8) : Met l yX7_galois wsX7_galois { frames := 1, cells := 0, slots := 0, locals := 22 } (cP D vwCl (tys3 cJ cI cR) b n E sz [.ref a, .int (nI j)]) (cQi D vwCl (tys3 cJ cI cR) b n (fun v E' => v = 0 ∧ (∃ fs, E' a = .inr (6, .int 0 :: fs)) ∧ ∀ q, q < a ∨ a + 9 ≤ q → E' q = E q)) 0 0 (PA b) := by
  refine Met.ofW (cc := cX7_galois) (maxL := 4) (ret := (some .int)) (by decide) rfl ?_
  intro p e s m args below meth c s₁ B hml hv
  obtain ⟨rfl, hsz, hB⟩ := hv
  have hx := B.exec
  have hb := B.bytes
  have hret := B.returns
  have hts := atoms_spec (ws := wsX7_galois) B.pre
  have hown : s.vm.findClass RX7 = some m.cls := findClass_of_methodNamed B.named
  have hlocks := B.notSynchronized
  subst hsz
  have hz := PS.start hB
  have hl := lv_entry ([.ref a, .int (nI j)]) (n := 4) (Nat.le_of_ble_eq_true rfl)
  rw [lg_entry_eq]
  generalize (lg_sl ([.ref a, .int (nI j)]) ++ List.replicate (4 - (lg_sl ([.ref a, .int (nI j)])).length) Slot.unset).toArray = ls at hl ⊢
  have hl : lv_has ls 4 [(0, .ref a), (1, .int (nI j))] := hl
  refine lv_aload_n hx hb dX7_galois_0 rfl (lv_at hl 0 rfl) ?_
  refine lv_iload_n hx hb dX7_galois_1 rfl (lv_at hl 1 rfl) ?_
  refine pw_calli hz (va_runS (As := [.int (nI j)]) (rest := [.ref a]) ⟨hx, hb, hml, hown, hts⟩ (c_isSlot_1 l D cJ cI cR b n _ _ ((nI j)) (nI_okS hj)) (va_cwS 1 hts gX7_galois_X7_isSlot rfl rfl rfl (by decide +kernel) ⟨Nat.le_of_ble_eq_true rfl, Nat.le_of_ble_eq_true rfl⟩) hz.preS rfl rfl hl.1 rfl (lv_room (Nat.le_of_ble_eq_true rfl)) dX7_galois_2 ⟨Nat.le_of_ble_eq_true rfl, Nat.le_of_ble_eq_true rfl⟩) (fun r_1 Ev H locs hp hz => ?_)
  obtain ⟨hr_1, hp⟩ := hp
  subst hr_1
  rw [hp] at hz
  refine lv_if_eq (tgt := 12) hx hb dX7_galois_5 (by decide) (fun qw => ?_) (fun _ => ?_)
  · exact absurd qw (by decide)
  refine lv_iconst (v := 0) hx hb dX7_galois_8 (by decide) ?_
  refine lv_goto (tgt := 13) hx hb dX7_galois_9 (by decide) ?_
  refine pw_calli hz (va_runV (As := [.int 0]) (rest := []) ⟨hx, hb, hml, hown, hts⟩ (c_refused_0 l D cJ cI cR b n _ _ a ref ha hm) (cwV 1 hts gX7_galois_X7_refused rfl rfl rfl (by decide +kernel) ⟨Nat.le_of_ble_eq_true rfl, Nat.le_of_ble_eq_true rfl⟩) (hz.preV (by omega) hm rfl) rfl rfl hl.1 rfl (lv_room (Nat.le_of_ble_eq_true rfl)) dX7_galois_13 ⟨Nat.le_of_ble_eq_true rfl, Nat.le_of_ble_eq_true rfl⟩) (fun r_2 Ev H locs hp hz => ?_)
  obtain ⟨hr_2, hp⟩ := hp
  subst hr_2
  rw [hp] at hz
  have hz : PS D vwCl (tys3 cJ cI cR) b n s (va_up E a (.inr (6, [.int 0, .ref (a + 1), .int 0, .int 0, .ref (a + 2), .ref (a + 3), .int 0, .int 0, .int 0, .ref (a + 4), .ref (a + 5), .int 0, .ref (a + 6), .ref (a + 7), .int 0, .int 0, .int 0, .int 0, .ref (a + 8), .int 0, .long 0, .long 0, .long 0, .int 0, .long 0]))) H locs := hz
  refine lv_if_eq (tgt := 21) hx hb dX7_galois_16 (by decide) (fun _ => ?_) (fun qw => ?_)
  rotate_left
  · exact absurd rfl qw
  obtain ⟨E2, hE2⟩ : ∃ X, X = va_up E a (modO a 0) := ⟨_, rfl⟩
  have hz : PS D vwCl (tys3 cJ cI cR) b n s E2 H locs := by rw [hE2]; exact hz
  have hm2 : E2 a = modO a 0 := by rw [hE2]; exact va_up_self _ _ _
  have hrow2 : E2 (a + 1) = rowM cJ (fun _ => 0) := by rw [hE2]; exact (va_up_ne _ _ (by omega)).trans hrow
  have fr : ∀ q, q < a ∨ a + 9 ≤ q → E2 q = E q := fun q h => by rw [hE2]; exact va_up_ne _ _ (by omega)
  refine lv_aload_n hx hb dX7_galois_21 rfl (lv_at hl 0 rfl) ?_
  refine lv_iload_n hx hb dX7_galois_22 rfl (lv_at hl 1 rfl) ?_
  refine pw_calli hz (va_runV (As := [.int (nI j)]) (rest := []) ⟨hx, hb, hml, hown, hts⟩ (c_degreeOf l D cJ cI cR b n _ _ a 0 ha hm2 (fun _ => 0) hrow2 j (by omega)) (cwV 1 hts gX7_galois_X7_degreeOf rfl rfl rfl (by decide +kernel) ⟨Nat.le_of_ble_eq_true rfl, Nat.le_of_ble_eq_true rfl⟩) (hz.preV (by omega) hm2 rfl) rfl rfl hl.1 rfl (lv_room (Nat.le_of_ble_eq_true rfl)) dX7_galois_23 ⟨Nat.le_of_ble_eq_true rfl, Nat.le_of_ble_eq_true rfl⟩) (fun r_3 Ev H locs hp hz => ?_)
  obtain ⟨hr_3, hp⟩ := hp
  subst hr_3
  rw [hp] at hz
  rw [dg_0]
  refine lv_istore_n (lv' := [(2, .int (-1)), (0, .ref a), (1, .int (nI j))]) hx hb dX7_galois_26 rfl hl (by decide) rfl (fun ls hl => ?_)
  refine lv_iload_n hx hb dX7_galois_27 rfl (lv_at hl 0 rfl) ?_
  refine lv_iconst (v := 1) hx hb dX7_galois_28 (by decide) ?_
  refine lv_icmp_lt (tgt := 37) hx hb dX7_galois_29 (by decide) (fun _ => ?_) (fun qw => ?_)
  rotate_left
  · exact absurd (by decide) qw
  refine lv_iconst (v := 0) hx hb dX7_galois_37 (by decide) ?_
  exact pw_iret hx hb hret hlocks hz ⟨rfl, ⟨_, hm2⟩, fr⟩ dX7_galois_38

set_option maxHeartbeats 400000 in
set_option maxRecDepth 100000 in
/-- pattern of the fresh reference -/
theorem c_mpattern_ok (l : Launch) (D : va_G) (cJ cI cR : ClassId) (b n : Nat) (E : Nat → va_E) (sz : Nat) (a : Nat) (ref : Int32) (ha : b ≤ a ∧ a + 9 ≤ b + n) (hm : E a = modO a ref) (hrow : E (a + 1) = rowM cJ (fun _ => 0)) (j : Nat) (hj : j < 8) (p0 : Int32) (hpP : okP p0) : Met l yX7_pattern wsX7_pattern { frames := 1, cells := 0, slots := 0, locals := 22 } (cP D vwCl (tys3 cJ cI cR) b n E sz [.ref a, .int (nI j), .int p0]) (cQi D vwCl (tys3 cJ cI cR) b n (fun v E' => v = -3 ∧ (∃ fs, E' a = .inr (6, .int 0 :: fs)) ∧ ∀ q, q < a ∨ a + 9 ≤ q → E' q = E q)) 0 0 (PA b) := by
  refine Met.ofW (cc := cX7_pattern) (maxL := 7) (ret := (some .int)) (by decide) rfl ?_
  intro p e s m args below meth c s₁ B hml hv
  obtain ⟨rfl, hsz, hB⟩ := hv
  have hx := B.exec
  have hb := B.bytes
  have hret := B.returns
  have hts := atoms_spec (ws := wsX7_pattern) B.pre
  have hown : s.vm.findClass RX7 = some m.cls := findClass_of_methodNamed B.named
  have hlocks := B.notSynchronized
  subst hsz
  have hz := PS.start hB
  have hl := lv_entry ([.ref a, .int (nI j), .int p0]) (n := 7) (Nat.le_of_ble_eq_true rfl)
  rw [lg_entry_eq]
  generalize (lg_sl ([.ref a, .int (nI j), .int p0]) ++ List.replicate (7 - (lg_sl ([.ref a, .int (nI j), .int p0])).length) Slot.unset).toArray = ls at hl ⊢
  have hl : lv_has ls 7 [(0, .ref a), (1, .int (nI j)), (2, .int p0)] := hl
  have hw0 : ∀ w ∈ u_ws RX7 TX7 25, w ∈ wsX7_pattern := by decide +kernel
  have hw1 := hts (.fieldLink RX7 188 "GaloisDeskModel" "degrees" "I") (by decide +kernel)
  refine lv_aload_n hx hb dX7_pattern_0 rfl (lv_at hl 0 rfl) ?_
  refine lv_iload_n hx hb dX7_pattern_1 rfl (lv_at hl 1 rfl) ?_
  refine pw_calli hz (va_runS (As := [.int (nI j)]) (rest := [.ref a]) ⟨hx, hb, hml, hown, hts⟩ (c_isSlot_1 l D cJ cI cR b n _ _ ((nI j)) (nI_okS hj)) (va_cwS 1 hts gX7_pattern_X7_isSlot rfl rfl rfl (by decide +kernel) ⟨Nat.le_of_ble_eq_true rfl, Nat.le_of_ble_eq_true rfl⟩) hz.preS rfl rfl hl.1 rfl (lv_room (Nat.le_of_ble_eq_true rfl)) dX7_pattern_2 ⟨Nat.le_of_ble_eq_true rfl, Nat.le_of_ble_eq_true rfl⟩) (fun r_1 Ev H locs hp hz => ?_)
  obtain ⟨hr_1, hp⟩ := hp
  subst hr_1
  rw [hp] at hz
  refine lv_if_eq (tgt := 19) hx hb dX7_pattern_5 (by decide) (fun qw => ?_) (fun _ => ?_)
  · exact absurd qw (by decide)
  refine lv_iload_n hx hb dX7_pattern_8 rfl (lv_at hl 2 rfl) ?_
  refine pw_calli hz (va_runS (As := [.int p0]) (rest := [.ref a]) ⟨hx, hb, hml, hown, hts⟩ (c_isPrime_1 l D cJ cI cR b n _ _ (p0) hpP) (va_cwS 1 hts gX7_pattern_X7_isPrime rfl rfl rfl (by decide +kernel) ⟨Nat.le_of_ble_eq_true rfl, Nat.le_of_ble_eq_true rfl⟩) hz.preS rfl rfl hl.1 rfl (lv_room (Nat.le_of_ble_eq_true rfl)) dX7_pattern_9 ⟨Nat.le_of_ble_eq_true rfl, Nat.le_of_ble_eq_true rfl⟩) (fun r_2 Ev H locs hp hz => ?_)
  obtain ⟨hr_2, hp⟩ := hp
  subst hr_2
  rw [hp] at hz
  refine lv_if_eq (tgt := 19) hx hb dX7_pattern_12 (by decide) (fun qw => ?_) (fun _ => ?_)
  · exact absurd qw (by decide)
  refine lv_iconst (v := 0) hx hb dX7_pattern_15 (by decide) ?_
  refine lv_goto (tgt := 20) hx hb dX7_pattern_16 (by decide) ?_
  refine pw_calli hz (va_runV (As := [.int 0]) (rest := []) ⟨hx, hb, hml, hown, hts⟩ (c_refused_0 l D cJ cI cR b n _ _ a ref ha hm) (cwV 1 hts gX7_pattern_X7_refused rfl rfl rfl (by decide +kernel) ⟨Nat.le_of_ble_eq_true rfl, Nat.le_of_ble_eq_true rfl⟩) (hz.preV (by omega) hm rfl) rfl rfl hl.1 rfl (lv_room (Nat.le_of_ble_eq_true rfl)) dX7_pattern_20 ⟨Nat.le_of_ble_eq_true rfl, Nat.le_of_ble_eq_true rfl⟩) (fun r_3 Ev H locs hp hz => ?_)
  obtain ⟨hr_3, hp⟩ := hp
  subst hr_3
  rw [hp] at hz
  have hz : PS D vwCl (tys3 cJ cI cR) b n s (va_up E a (.inr (6, [.int 0, .ref (a + 1), .int 0, .int 0, .ref (a + 2), .ref (a + 3), .int 0, .int 0, .int 0, .ref (a + 4), .ref (a + 5), .int 0, .ref (a + 6), .ref (a + 7), .int 0, .int 0, .int 0, .int 0, .ref (a + 8), .int 0, .long 0, .long 0, .long 0, .int 0, .long 0]))) H locs := hz
  refine lv_if_eq (tgt := 28) hx hb dX7_pattern_23 (by decide) (fun _ => ?_) (fun qw => ?_)
  rotate_left
  · exact absurd rfl qw
  obtain ⟨E2, hE2⟩ : ∃ X, X = va_up E a (modO a 0) := ⟨_, rfl⟩
  have hz : PS D vwCl (tys3 cJ cI cR) b n s E2 H locs := by rw [hE2]; exact hz
  have hm2 : E2 a = modO a 0 := by rw [hE2]; exact va_up_self _ _ _
  have hrow2 : E2 (a + 1) = rowM cJ (fun _ => 0) := by rw [hE2]; exact (va_up_ne _ _ (by omega)).trans hrow
  have fr : ∀ q, q < a ∨ a + 9 ≤ q → E2 q = E q := fun q h => by rw [hE2]; exact va_up_ne _ _ (by omega)
  refine lv_aload_n hx hb dX7_pattern_28 rfl (lv_at hl 0 rfl) ?_
  refine lv_iconst (v := 0) hx hb dX7_pattern_29 (by decide) ?_
  refine pw_put (C := RX7) (T := TX7) (N := 25) (ci := 6) (ty := .int) (v := .int 0) hx hb hts hw0 tyX7 tyX7_ok nmX7 hown hz (by omega) hm2 rfl 11 (by decide) hw1 (fun _ h9 => h9) rfl (by decide +kernel) rfl rfl (Nat.le_of_ble_eq_true rfl) dX7_pattern_30 (fun H locs hz => ?_)
  have hz : PS D vwCl (tys3 cJ cI cR) b n s (va_up E2 a (.inr (6, [.int 0, .ref (a + 1), .int 0, .int 0, .ref (a + 2), .ref (a + 3), .int 0, .int 0, .int 0, .ref (a + 4), .ref (a + 5), .int 0, .ref (a + 6), .ref (a + 7), .int 0, .int 0, .int 0, .int 0, .ref (a + 8), .int 0, .long 0, .long 0, .long 0, .int 0, .long 0]))) H locs := hz
  rw [up_same hm2] at hz
  refine lv_aload_n hx hb dX7_pattern_33 rfl (lv_at hl 0 rfl) ?_
  refine lv_iload_n hx hb dX7_pattern_34 rfl (lv_at hl 1 rfl) ?_
  refine pw_calli hz (va_runV (As := [.int (nI j)]) (rest := []) ⟨hx, hb, hml, hown, hts⟩ (c_degreeOf l D cJ cI cR b n _ _ a 0 ha hm2 (fun _ => 0) hrow2 j (by omega)) (cwV 1 hts gX7_pattern_X7_degreeOf rfl rfl rfl (by decide +kernel) ⟨Nat.le_of_ble_eq_true rfl, Nat.le_of_ble_eq_true rfl⟩) (hz.preV (by omega) hm2 rfl) rfl rfl hl.1 rfl (lv_room (Nat.le_of_ble_eq_true rfl)) dX7_pattern_35 ⟨Nat.le_of_ble_eq_true rfl, Nat.le_of_ble_eq_true rfl⟩) (fun r_4 Ev H locs hp hz => ?_)
  obtain ⟨hr_4, hp⟩ := hp
  subst hr_4
  rw [hp] at hz
  rw [dg_0]
  refine lv_istore_n (lv' := [(3, .int (-1)), (0, .ref a), (1, .int (nI j)), (2, .int p0)]) hx hb dX7_pattern_38 rfl hl (by decide) rfl (fun ls hl => ?_)
  refine lv_iload_n hx hb dX7_pattern_39 rfl (lv_at hl 0 rfl) ?_
  refine lv_iconst (v := 1) hx hb dX7_pattern_40 (by decide) ?_
  refine lv_icmp_ge (tgt := 47) hx hb dX7_pattern_41 (by decide) (fun qw => ?_) (fun _ => ?_)
  · exact absurd qw (by decide)
  refine lv_bipush (v := (-3)) hx hb dX7_pattern_44 (by decide) ?_
  exact pw_iret hx hb hret hlocks hz ⟨rfl, ⟨_, hm2⟩, fr⟩ dX7_pattern_46

set_option maxHeartbeats 400000 in
set_option maxRecDepth 100000 in
/-- part of the fresh reference -/
theorem c_mpart_ok (l : Launch) (D : va_G) (cJ cI cR : ClassId) (b n : Nat) (E : Nat → va_E) (sz : Nat) (a : Nat) (ref : Int32) (ha : b ≤ a ∧ a + 9 ≤ b + n) (hm : E a = modO a ref) (hrow : E (a + 1) = rowM cJ (fun _ => 0)) (i k : Int32) : Met l yX7_part wsX7_part { frames := 1, cells := 0, slots := 0, locals := 22 } (cP D vwCl (tys3 cJ cI cR) b n E sz [.ref a, .int i, .int k]) (cQl D vwCl (tys3 cJ cI cR) b n (fun v E' => v = 0 ∧ (∃ fs, E' a = .inr (6, .int 0 :: fs)) ∧ ∀ q, q < a ∨ a + 9 ≤ q → E' q = E q)) 0 0 (PA b) := by
  refine Met.ofW (cc := cX7_part) (maxL := 3) (ret := (some .long)) (by decide) rfl ?_
  intro p e s m args below meth c s₁ B hml hv
  obtain ⟨rfl, hsz, hB⟩ := hv
  have hx := B.exec
  have hb := B.bytes
  have hret := B.returns
  have hts := atoms_spec (ws := wsX7_part) B.pre
  have hown : s.vm.findClass RX7 = some m.cls := findClass_of_methodNamed B.named
  have hlocks := B.notSynchronized
  subst hsz
  have hz := PS.start hB
  have hl := lv_entry ([.ref a, .int i, .int k]) (n := 3) (Nat.le_of_ble_eq_true rfl)
  rw [lg_entry_eq]
  generalize (lg_sl ([.ref a, .int i, .int k]) ++ List.replicate (3 - (lg_sl ([.ref a, .int i, .int k])).length) Slot.unset).toArray = ls at hl ⊢
  have hl : lv_has ls 3 [(0, .ref a), (1, .int i), (2, .int k)] := hl
  have hw0 : ∀ w ∈ u_ws RX7 TX7 25, w ∈ wsX7_part := by decide +kernel
  have hw1 := hts (.fieldLink RX7 35 "GaloisDeskModel" "refusal" "I") (by decide +kernel)
  have hw2 := hts (.fieldLink RX7 161 "GaloisDeskModel" "told" "I") (by decide +kernel)
  refine lv_aload_n hx hb dX7_part_0 rfl (lv_at hl 0 rfl) ?_
  refine lv_iconst (v := 0) hx hb dX7_part_1 (by decide) ?_
  refine pw_put (C := RX7) (T := TX7) (N := 25) (ci := 6) (ty := .int) (v := .int 0) hx hb hts hw0 tyX7 tyX7_ok nmX7 hown hz (by omega) hm rfl 0 (by decide) hw1 (fun _ h9 => h9) rfl (by decide +kernel) rfl rfl (Nat.le_of_ble_eq_true rfl) dX7_part_2 (fun H locs hz => ?_)
  have hz : PS D vwCl (tys3 cJ cI cR) b n s (va_up E a (.inr (6, [.int 0, .ref (a + 1), .int 0, .int 0, .ref (a + 2), .ref (a + 3), .int 0, .int 0, .int 0, .ref (a + 4), .ref (a + 5), .int 0, .ref (a + 6), .ref (a + 7), .int 0, .int 0, .int 0, .int 0, .ref (a + 8), .int 0, .long 0, .long 0, .long 0, .int 0, .long 0]))) H locs := hz
  have hz : PS D vwCl (tys3 cJ cI cR) b n s (va_up E a (modO a 0)) H locs := hz
  obtain ⟨E2, hE2⟩ : ∃ X, X = va_up E a (modO a 0) := ⟨_, rfl⟩
  have hz : PS D vwCl (tys3 cJ cI cR) b n s E2 H locs := by rw [hE2]; exact hz
  have hm2 : E2 a = modO a 0 := by rw [hE2]; exact va_up_self _ _ _
  have hrow2 : E2 (a + 1) = rowM cJ (fun _ => 0) := by rw [hE2]; exact (va_up_ne _ _ (by omega)).trans hrow
  have fr : ∀ q, q < a ∨ a + 9 ≤ q → E2 q = E q := fun q h => by rw [hE2]; exact va_up_ne _ _ (by omega)
  refine lv_iload_n hx hb dX7_part_5 rfl (lv_at hl 1 rfl) ?_
  refine lv_iconst (v := 0) hx hb dX7_part_6 (by decide) ?_
  refine lv_aload_n hx hb dX7_part_7 rfl (lv_at hl 0 rfl) ?_
  refine pw_get (C := RX7) (T := TX7) (N := 25) (ci := 6) (v := .int 0) hx hb hts hw0 hown hz (by omega) hm2 rfl 7 (by decide) hw2 (fun _ h9 => h9) rfl dX7_part_8 ?_
  refine lv_iconst (v := 1) hx hb dX7_part_11 (by decide) ?_
  refine lv_isub hx hb dX7_part_12 ?_
  refine pw_calli hz (va_runS (As := [.int i, .int 0, .int (0 - 1)]) (rest := []) ⟨hx, hb, hml, hown, hts⟩ (c_isIn_0 l D cJ cI cR b n _ _ i 0 (0 - 1) (notIn i)) (va_cwS 3 hts gX7_part_X7_isIn rfl rfl rfl (by decide +kernel) ⟨Nat.le_of_ble_eq_true rfl, Nat.le_of_ble_eq_true rfl⟩) hz.preS rfl rfl hl.1 rfl (lv_room (Nat.le_of_ble_eq_true rfl)) dX7_part_13 ⟨Nat.le_of_ble_eq_true rfl, Nat.le_of_ble_eq_true rfl⟩) (fun r_1 Ev H locs hp hz => ?_)
  obtain ⟨hr_1, hp⟩ := hp
  subst hr_1
  rw [hp] at hz
  refine lv_if_eq (tgt := 43) hx hb dX7_part_16 (by decide) (fun _ => ?_) (fun qw => ?_)
  rotate_left
  · exact absurd rfl qw
  refine lv_lconst (v := 0) hx hb dX7_part_43 (by decide) ?_
  exact pw_lret hx hb hret hlocks hz ⟨rfl, ⟨_, hm2⟩, fr⟩ dX7_part_44

set_option maxHeartbeats 400000 in
set_option maxRecDepth 100000 in
/-- times of the fresh reference -/
theorem c_mtimes_ok (l : Launch) (D : va_G) (cJ cI cR : ClassId) (b n : Nat) (E : Nat → va_E) (sz : Nat) (a : Nat) (ref : Int32) (ha : b ≤ a ∧ a + 9 ≤ b + n) (hm : E a = modO a ref) (hrow : E (a + 1) = rowM cJ (fun _ => 0)) (i : Int32) : Met l yX7_times wsX7_times { frames := 1, cells := 0, slots := 0, locals := 22 } (cP D vwCl (tys3 cJ cI cR) b n E sz [.ref a, .int i]) (cQi D vwCl (tys3 cJ cI cR) b n (fun v E' => v = 0 ∧ (∃ fs, E' a = .inr (6, .int 0 :: fs)) ∧ ∀ q, q < a ∨ a + 9 ≤ q → E' q = E q)) 0 0 (PA b) := by
  refine Met.ofW (cc := cX7_times) (maxL := 2) (ret := (some .int)) (by decide) rfl ?_
  intro p e s m args below meth c s₁ B hml hv
  obtain ⟨rfl, hsz, hB⟩ := hv
  have hx := B.exec
  have hb := B.bytes
  have hret := B.returns
  have hts := atoms_spec (ws := wsX7_times) B.pre
  have hown : s.vm.findClass RX7 = some m.cls := findClass_of_methodNamed B.named
  have hlocks := B.notSynchronized
  subst hsz
  have hz := PS.start hB
  have hl := lv_entry ([.ref a, .int i]) (n := 2) (Nat.le_of_ble_eq_true rfl)
  rw [lg_entry_eq]
  generalize (lg_sl ([.ref a, .int i]) ++ List.replicate (2 - (lg_sl ([.ref a, .int i])).length) Slot.unset).toArray = ls at hl ⊢
  have hl : lv_has ls 2 [(0, .ref a), (1, .int i)] := hl
  have hw0 : ∀ w ∈ u_ws RX7 TX7 25, w ∈ wsX7_times := by decide +kernel
  have hw1 := hts (.fieldLink RX7 35 "GaloisDeskModel" "refusal" "I") (by decide +kernel)
  have hw2 := hts (.fieldLink RX7 161 "GaloisDeskModel" "told" "I") (by decide +kernel)
  refine lv_aload_n hx hb dX7_times_0 rfl (lv_at hl 0 rfl) ?_
  refine lv_iconst (v := 0) hx hb dX7_times_1 (by decide) ?_
  refine pw_put (C := RX7) (T := TX7) (N := 25) (ci := 6) (ty := .int) (v := .int 0) hx hb hts hw0 tyX7 tyX7_ok nmX7 hown hz (by omega) hm rfl 0 (by decide) hw1 (fun _ h9 => h9) rfl (by decide +kernel) rfl rfl (Nat.le_of_ble_eq_true rfl) dX7_times_2 (fun H locs hz => ?_)
  have hz : PS D vwCl (tys3 cJ cI cR) b n s (va_up E a (.inr (6, [.int 0, .ref (a + 1), .int 0, .int 0, .ref (a + 2), .ref (a + 3), .int 0, .int 0, .int 0, .ref (a + 4), .ref (a + 5), .int 0, .ref (a + 6), .ref (a + 7), .int 0, .int 0, .int 0, .int 0, .ref (a + 8), .int 0, .long 0, .long 0, .long 0, .int 0, .long 0]))) H locs := hz
  have hz : PS D vwCl (tys3 cJ cI cR) b n s (va_up E a (modO a 0)) H locs := hz
  obtain ⟨E2, hE2⟩ : ∃ X, X = va_up E a (modO a 0) := ⟨_, rfl⟩
  have hz : PS D vwCl (tys3 cJ cI cR) b n s E2 H locs := by rw [hE2]; exact hz
  have hm2 : E2 a = modO a 0 := by rw [hE2]; exact va_up_self _ _ _
  have hrow2 : E2 (a + 1) = rowM cJ (fun _ => 0) := by rw [hE2]; exact (va_up_ne _ _ (by omega)).trans hrow
  have fr : ∀ q, q < a ∨ a + 9 ≤ q → E2 q = E q := fun q h => by rw [hE2]; exact va_up_ne _ _ (by omega)
  refine lv_iload_n hx hb dX7_times_5 rfl (lv_at hl 1 rfl) ?_
  refine lv_iconst (v := 0) hx hb dX7_times_6 (by decide) ?_
  refine lv_aload_n hx hb dX7_times_7 rfl (lv_at hl 0 rfl) ?_
  refine pw_get (C := RX7) (T := TX7) (N := 25) (ci := 6) (v := .int 0) hx hb hts hw0 hown hz (by omega) hm2 rfl 7 (by decide) hw2 (fun _ h9 => h9) rfl dX7_times_8 ?_
  refine lv_iconst (v := 1) hx hb dX7_times_11 (by decide) ?_
  refine lv_isub hx hb dX7_times_12 ?_
  refine pw_calli hz (va_runS (As := [.int i, .int 0, .int (0 - 1)]) (rest := []) ⟨hx, hb, hml, hown, hts⟩ (c_isIn_0 l D cJ cI cR b n _ _ i 0 (0 - 1) (notIn i)) (va_cwS 3 hts gX7_times_X7_isIn rfl rfl rfl (by decide +kernel) ⟨Nat.le_of_ble_eq_true rfl, Nat.le_of_ble_eq_true rfl⟩) hz.preS rfl rfl hl.1 rfl (lv_room (Nat.le_of_ble_eq_true rfl)) dX7_times_13 ⟨Nat.le_of_ble_eq_true rfl, Nat.le_of_ble_eq_true rfl⟩) (fun r_1 Ev H locs hp hz => ?_)
  obtain ⟨hr_1, hp⟩ := hp
  subst hr_1
  rw [hp] at hz
  refine lv_if_eq (tgt := 28) hx hb dX7_times_16 (by decide) (fun _ => ?_) (fun qw => ?_)
  rotate_left
  · exact absurd rfl qw
  refine lv_iconst (v := 0) hx hb dX7_times_28 (by decide) ?_
  exact pw_iret hx hb hret hlocks hz ⟨rfl, ⟨_, hm2⟩, fr⟩ dX7_times_29

set_option maxHeartbeats 400000 in
set_option maxRecDepth 100000 in
/-- degree of the fresh reference -/
theorem c_mdegree_ok (l : Launch) (D : va_G) (cJ cI cR : ClassId) (b n : Nat) (E : Nat → va_E) (sz : Nat) (a : Nat) (ref : Int32) (ha : b ≤ a ∧ a + 9 ≤ b + n) (hm : E a = modO a ref) (hrow : E (a + 1) = rowM cJ (fun _ => 0)) (i : Int32) : Met l yX7_degree wsX7_degree { frames := 1, cells := 0, slots := 0, locals := 22 } (cP D vwCl (tys3 cJ cI cR) b n E sz [.ref a, .int i]) (cQi D vwCl (tys3 cJ cI cR) b n (fun v E' => v = 0 ∧ (∃ fs, E' a = .inr (6, .int 0 :: fs)) ∧ ∀ q, q < a ∨ a + 9 ≤ q → E' q = E q)) 0 0 (PA b) := by
  refine Met.ofW (cc := cX7_degree) (maxL := 2) (ret := (some .int)) (by decide) rfl ?_
  intro p e s m args below meth c s₁ B hml hv
  obtain ⟨rfl, hsz, hB⟩ := hv
  have hx := B.exec
  have hb := B.bytes
  have hret := B.returns
  have hts := atoms_spec (ws := wsX7_degree) B.pre
  have hown : s.vm.findClass RX7 = some m.cls := findClass_of_methodNamed B.named
  have hlocks := B.notSynchronized
  subst hsz
  have hz := PS.start hB
  have hl := lv_entry ([.ref a, .int i]) (n := 2) (Nat.le_of_ble_eq_true rfl)
  rw [lg_entry_eq]
  generalize (lg_sl ([.ref a, .int i]) ++ List.replicate (2 - (lg_sl ([.ref a, .int i])).length) Slot.unset).toArray = ls at hl ⊢
  have hl : lv_has ls 2 [(0, .ref a), (1, .int i)] := hl
  have hw0 : ∀ w ∈ u_ws RX7 TX7 25, w ∈ wsX7_degree := by decide +kernel
  have hw1 := hts (.fieldLink RX7 35 "GaloisDeskModel" "refusal" "I") (by decide +kernel)
  have hw2 := hts (.fieldLink RX7 188 "GaloisDeskModel" "degrees" "I") (by decide +kernel)
  refine lv_aload_n hx hb dX7_degree_0 rfl (lv_at hl 0 rfl) ?_
  refine lv_iconst (v := 0) hx hb dX7_degree_1 (by decide) ?_
  refine pw_put (C := RX7) (T := TX7) (N := 25) (ci := 6) (ty := .int) (v := .int 0) hx hb hts hw0 tyX7 tyX7_ok nmX7 hown hz (by omega) hm rfl 0 (by decide) hw1 (fun _ h9 => h9) rfl (by decide +kernel) rfl rfl (Nat.le_of_ble_eq_true rfl) dX7_degree_2 (fun H locs hz => ?_)
  have hz : PS D vwCl (tys3 cJ cI cR) b n s (va_up E a (.inr (6, [.int 0, .ref (a + 1), .int 0, .int 0, .ref (a + 2), .ref (a + 3), .int 0, .int 0, .int 0, .ref (a + 4), .ref (a + 5), .int 0, .ref (a + 6), .ref (a + 7), .int 0, .int 0, .int 0, .int 0, .ref (a + 8), .int 0, .long 0, .long 0, .long 0, .int 0, .long 0]))) H locs := hz
  have hz : PS D vwCl (tys3 cJ cI cR) b n s (va_up E a (modO a 0)) H locs := hz
  obtain ⟨E2, hE2⟩ : ∃ X, X = va_up E a (modO a 0) := ⟨_, rfl⟩
  have hz : PS D vwCl (tys3 cJ cI cR) b n s E2 H locs := by rw [hE2]; exact hz
  have hm2 : E2 a = modO a 0 := by rw [hE2]; exact va_up_self _ _ _
  have hrow2 : E2 (a + 1) = rowM cJ (fun _ => 0) := by rw [hE2]; exact (va_up_ne _ _ (by omega)).trans hrow
  have fr : ∀ q, q < a ∨ a + 9 ≤ q → E2 q = E q := fun q h => by rw [hE2]; exact va_up_ne _ _ (by omega)
  refine lv_iload_n hx hb dX7_degree_5 rfl (lv_at hl 1 rfl) ?_
  refine lv_iconst (v := 0) hx hb dX7_degree_6 (by decide) ?_
  refine lv_aload_n hx hb dX7_degree_7 rfl (lv_at hl 0 rfl) ?_
  refine pw_get (C := RX7) (T := TX7) (N := 25) (ci := 6) (v := .int 0) hx hb hts hw0 hown hz (by omega) hm2 rfl 11 (by decide) hw2 (fun _ h9 => h9) rfl dX7_degree_8 ?_
  refine lv_iconst (v := 1) hx hb dX7_degree_11 (by decide) ?_
  refine lv_isub hx hb dX7_degree_12 ?_
  refine pw_calli hz (va_runS (As := [.int i, .int 0, .int (0 - 1)]) (rest := []) ⟨hx, hb, hml, hown, hts⟩ (c_isIn_0 l D cJ cI cR b n _ _ i 0 (0 - 1) (notIn i)) (va_cwS 3 hts gX7_degree_X7_isIn rfl rfl rfl (by decide +kernel) ⟨Nat.le_of_ble_eq_true rfl, Nat.le_of_ble_eq_true rfl⟩) hz.preS rfl rfl hl.1 rfl (lv_room (Nat.le_of_ble_eq_true rfl)) dX7_degree_13 ⟨Nat.le_of_ble_eq_true rfl, Nat.le_of_ble_eq_true rfl⟩) (fun r_1 Ev H locs hp hz => ?_)
  obtain ⟨hr_1, hp⟩ := hp
  subst hr_1
  rw [hp] at hz
  refine lv_if_eq (tgt := 28) hx hb dX7_degree_16 (by decide) (fun _ => ?_) (fun qw => ?_)
  rotate_left
  · exact absurd rfl qw
  refine lv_iconst (v := 0) hx hb dX7_degree_28 (by decide) ?_
  exact pw_iret hx hb hret hlocks hz ⟨rfl, ⟨_, hm2⟩, fr⟩ dX7_degree_29

set_option maxHeartbeats 400000 in
set_option maxRecDepth 100000 in
/-- content of the fresh reference -/
theorem c_mcontent_ok (l : Launch) (D : va_G) (cJ cI cR : ClassId) (b n : Nat) (E : Nat → va_E) (sz : Nat) (a : Nat) (ref : Int32) (ha : b ≤ a ∧ a + 9 ≤ b + n) (hm : E a = modO a ref) (hrow : E (a + 1) = rowM cJ (fun _ => 0))  : Met l yX7_content wsX7_content { frames := 0, cells := 0, slots := 0, locals := 0 } (cP D vwCl (tys3 cJ cI cR) b n E sz [.ref a]) (cQi D vwCl (tys3 cJ cI cR) b n (fun v E' => v = 0 ∧ (∃ fs, E' a = .inr (6, .int 0 :: fs)) ∧ ∀ q, q < a ∨ a + 9 ≤ q → E' q = E q)) 0 0 (PA b) := by
  refine Met.ofW (cc := cX7_content) (maxL := 1) (ret := (some .int)) (by decide) rfl ?_
  intro p e s m args below meth c s₁ B hml hv
  obtain ⟨rfl, hsz, hB⟩ := hv
  have hx := B.exec
  have hb := B.bytes
  have hret := B.returns
  have hts := atoms_spec (ws := wsX7_content) B.pre
  have hown : s.vm.findClass RX7 = some m.cls := findClass_of_methodNamed B.named
  have hlocks := B.notSynchronized
  subst hsz
  have hz := PS.start hB
  have hl := lv_entry ([.ref a]) (n := 1) (Nat.le_of_ble_eq_true rfl)
  rw [lg_entry_eq]
  generalize (lg_sl ([.ref a]) ++ List.replicate (1 - (lg_sl ([.ref a])).length) Slot.unset).toArray = ls at hl ⊢
  have hl : lv_has ls 1 [(0, .ref a)] := hl
  have hw0 : ∀ w ∈ u_ws RX7 TX7 25, w ∈ wsX7_content := by decide +kernel
  have hw1 := hts (.fieldLink RX7 35 "GaloisDeskModel" "refusal" "I") (by decide +kernel)
  have hw2 := hts (.fieldLink RX7 164 "GaloisDeskModel" "toldContent" "I") (by decide +kernel)
  refine lv_aload_n hx hb dX7_content_0 rfl (lv_at hl 0 rfl) ?_
  refine lv_iconst (v := 0) hx hb dX7_content_1 (by decide) ?_
  refine pw_put (C := RX7) (T := TX7) (N := 25) (ci := 6) (ty := .int) (v := .int 0) hx hb hts hw0 tyX7 tyX7_ok nmX7 hown hz (by omega) hm rfl 0 (by decide) hw1 (fun _ h9 => h9) rfl (by decide +kernel) rfl rfl (Nat.le_of_ble_eq_true rfl) dX7_content_2 (fun H locs hz => ?_)
  have hz : PS D vwCl (tys3 cJ cI cR) b n s (va_up E a (.inr (6, [.int 0, .ref (a + 1), .int 0, .int 0, .ref (a + 2), .ref (a + 3), .int 0, .int 0, .int 0, .ref (a + 4), .ref (a + 5), .int 0, .ref (a + 6), .ref (a + 7), .int 0, .int 0, .int 0, .int 0, .ref (a + 8), .int 0, .long 0, .long 0, .long 0, .int 0, .long 0]))) H locs := hz
  have hz : PS D vwCl (tys3 cJ cI cR) b n s (va_up E a (modO a 0)) H locs := hz
  obtain ⟨E2, hE2⟩ : ∃ X, X = va_up E a (modO a 0) := ⟨_, rfl⟩
  have hz : PS D vwCl (tys3 cJ cI cR) b n s E2 H locs := by rw [hE2]; exact hz
  have hm2 : E2 a = modO a 0 := by rw [hE2]; exact va_up_self _ _ _
  have hrow2 : E2 (a + 1) = rowM cJ (fun _ => 0) := by rw [hE2]; exact (va_up_ne _ _ (by omega)).trans hrow
  have fr : ∀ q, q < a ∨ a + 9 ≤ q → E2 q = E q := fun q h => by rw [hE2]; exact va_up_ne _ _ (by omega)
  refine lv_aload_n hx hb dX7_content_5 rfl (lv_at hl 0 rfl) ?_
  refine pw_get (C := RX7) (T := TX7) (N := 25) (ci := 6) (v := .int 0) hx hb hts hw0 hown hz (by omega) hm2 rfl 8 (by decide) hw2 (fun _ h9 => h9) rfl dX7_content_6 ?_
  exact pw_iret hx hb hret hlocks hz ⟨rfl, ⟨_, hm2⟩, fr⟩ dX7_content_9

set_option maxHeartbeats 400000 in
set_option maxRecDepth 100000 in
/-- thrown() -/
theorem c_thrown (l : Launch) (D : va_G) (cJ cI cR : ClassId) (b n : Nat) (E : Nat → va_E) (sz : Nat) (a : Nat) (ref : Int32) (fs : List Value) (ha : b ≤ a ∧ a + 9 ≤ b + n) (hm : E a = .inr (6, .int ref :: fs)) : Met l yX7_thrown wsX7_thrown { frames := 0, cells := 0, slots := 0, locals := 0 } (cP D vwCl (tys3 cJ cI cR) b n E sz [.ref a]) (cQi D vwCl (tys3 cJ cI cR) b n (fun v E' => v = ref ∧ E' = E)) 0 0 (PA b) := by
  refine Met.ofW (cc := cX7_thrown) (maxL := 1) (ret := (some .int)) (by decide) rfl ?_
  intro p e s m args below meth c s₁ B hml hv
  obtain ⟨rfl, hsz, hB⟩ := hv
  have hx := B.exec
  have hb := B.bytes
  have hret := B.returns
  have hts := atoms_spec (ws := wsX7_thrown) B.pre
  have hown : s.vm.findClass RX7 = some m.cls := findClass_of_methodNamed B.named
  have hlocks := B.notSynchronized
  subst hsz
  have hz := PS.start hB
  have hl := lv_entry ([.ref a]) (n := 1) (Nat.le_of_ble_eq_true rfl)
  rw [lg_entry_eq]
  generalize (lg_sl ([.ref a]) ++ List.replicate (1 - (lg_sl ([.ref a])).length) Slot.unset).toArray = ls at hl ⊢
  have hl : lv_has ls 1 [(0, .ref a)] := hl
  have hw0 : ∀ w ∈ u_ws RX7 TX7 25, w ∈ wsX7_thrown := by decide +kernel
  have hw1 := hts (.fieldLink RX7 35 "GaloisDeskModel" "refusal" "I") (by decide +kernel)
  refine lv_aload_n hx hb dX7_thrown_0 rfl (lv_at hl 0 rfl) ?_
  refine pw_get (C := RX7) (T := TX7) (N := 25) (ci := 6) (v := .int ref) hx hb hts hw0 hown hz (by omega) hm rfl 0 (by decide) hw1 (fun _ h9 => h9) rfl dX7_thrown_1 ?_
  exact pw_iret hx hb hret hlocks hz ⟨rfl, rfl⟩ dX7_thrown_4
