theorem sum0 (p q : Int64) : (fun _ : Nat => p * 0 + q * 0) = fun _ => 0 := by funext j; simp

set_option maxHeartbeats 400000 in
set_option maxRecDepth 100000 in
/-- set on a fresh desk -/
theorem c_set_ok (l : Launch) (D : va_G) (cJ cI cR : ClassId) (b n : Nat) (E : Nat → va_E) (sz : Nat) (x : Nat) (hx0 : b ≤ x ∧ x + 124 ≤ b + n) (hF : deskAt cJ cI cR x E) (j : Nat) (hj : j < 8) (i : Nat) (hi : i < 7) (cv : Int32) (hc : okW cv 300) : Met l yX6_set wsX6_set { frames := 1, cells := 0, slots := 0, locals := 21 } (cP D vwCl (tys3 cJ cI cR) b n E sz [.ref x, .int (nI j), .int (nI i), .int cv]) (cQi D vwCl (tys3 cJ cI cR) b n (fun v E' => v = dg (vp_updL (fun _ => 0) i (Int32.toInt64 cv)) 13 ∧ ∀ a, x + 124 ≤ a → E' a = E a)) 0 0 (PA b) := by
  refine Met.ofW (cc := cX6_set) (maxL := 4) (ret := (some .int)) (by decide) rfl ?_
  intro p e s m args below meth c s₁ B hml hv
  obtain ⟨rfl, hsz, hB⟩ := hv
  have hx := B.exec
  have hb := B.bytes
  have hret := B.returns
  have hts := atoms_spec (ws := wsX6_set) B.pre
  have hown : s.vm.findClass RX6 = some m.cls := findClass_of_methodNamed B.named
  have hlocks := B.notSynchronized
  subst hsz
  have hz := PS.start hB
  have hl := lv_entry ([.ref x, .int (nI j), .int (nI i), .int cv]) (n := 4) (Nat.le_of_ble_eq_true rfl)
  rw [lg_entry_eq]
  generalize (lg_sl ([.ref x, .int (nI j), .int (nI i), .int cv]) ++ List.replicate (4 - (lg_sl ([.ref x, .int (nI j), .int (nI i), .int cv])).length) Slot.unset).toArray = ls at hl ⊢
  have hl : lv_has ls 4 [(0, .ref x), (1, .int (nI j)), (2, .int (nI i)), (3, .int cv)] := hl
  have hw0 : ∀ w ∈ u_ws RX6 TX6 9, w ∈ wsX6_set := by decide +kernel
  have hw1 := hts (.fieldLink RX6 13 "GaloisDesk" "slots" "[LGaloisDesk$Row;") (by decide +kernel)
  have hw2 : ∀ w ∈ u_ws RX4 TX4 2, w ∈ wsX6_set := by decide +kernel
  have hw3 := hts (.fieldLink RX6 68 "GaloisDesk$Row" "c" "[J") (by decide +kernel)
  have hw4 := hts (.fieldLink RX6 75 "GaloisDesk$Row" "top" "I") (by decide +kernel)
  obtain ⟨hd, ⟨⟨g, hs, hg⟩, hrows⟩, hq, hle, hri, ht, hpd, hfa⟩ := hF
  refine lv_iload_n hx hb dX6_set_0 rfl (lv_at hl 1 rfl) ?_
  refine pw_callv hz (va_runS (As := [.int (nI j)]) (rest := []) ⟨hx, hb, hml, hown, hts⟩ (c_checkSlot_ok l D cJ cI cR b n _ _ ((nI j)) (nI_okS hj)) (va_cwS 1 hts gX6_set_X6_checkSlot rfl rfl rfl (by decide +kernel) ⟨Nat.le_of_ble_eq_true rfl, Nat.le_of_ble_eq_true rfl⟩) hz.preS rfl rfl hl.1 rfl (lv_room (Nat.le_of_ble_eq_true rfl)) dX6_set_1 ⟨Nat.le_of_ble_eq_true rfl, Nat.le_of_ble_eq_true rfl⟩) (fun Ev H locs hp hz => ?_)
  rw [hp] at hz
  refine lv_iload_n hx hb dX6_set_4 rfl (lv_at hl 2 rfl) ?_
  refine pw_callv hz (va_runS (As := [.int (nI i)]) (rest := []) ⟨hx, hb, hml, hown, hts⟩ (c_checkPlace_ok l D cJ cI cR b n _ _ ((nI i)) (nI_okK hi)) (va_cwS 1 hts gX6_set_X6_checkPlace rfl rfl rfl (by decide +kernel) ⟨Nat.le_of_ble_eq_true rfl, Nat.le_of_ble_eq_true rfl⟩) hz.preS rfl rfl hl.1 rfl (lv_room (Nat.le_of_ble_eq_true rfl)) dX6_set_5 ⟨Nat.le_of_ble_eq_true rfl, Nat.le_of_ble_eq_true rfl⟩) (fun Ev H locs hp hz => ?_)
  rw [hp] at hz
  refine lv_iload_n hx hb dX6_set_8 rfl (lv_at hl 3 rfl) ?_
  refine lv_sipush (v := 300) hx hb dX6_set_9 (by decide) ?_
  refine pw_callv hz (va_runS (As := [.int cv, .int 300]) (rest := []) ⟨hx, hb, hml, hown, hts⟩ (c_checkWithin_ok l D cJ cI cR b n _ _ (cv) (300) hc) (va_cwS 2 hts gX6_set_X6_checkWithin rfl rfl rfl (by decide +kernel) ⟨Nat.le_of_ble_eq_true rfl, Nat.le_of_ble_eq_true rfl⟩) hz.preS rfl rfl hl.1 rfl (lv_room (Nat.le_of_ble_eq_true rfl)) dX6_set_12 ⟨Nat.le_of_ble_eq_true rfl, Nat.le_of_ble_eq_true rfl⟩) (fun Ev H locs hp hz => ?_)
  rw [hp] at hz
  refine lv_aload_n hx hb dX6_set_15 rfl (lv_at hl 0 rfl) ?_
  refine pw_get (C := RX6) (T := TX6) (N := 9) (ci := 5) (v := .ref (x + 1)) hx hb hts hw0 hown hz (by omega) hd rfl 0 (by decide) hw1 (fun _ h9 => h9) rfl dX6_set_16 ?_
  refine lv_iload_n hx hb dX6_set_19 rfl (lv_at hl 1 rfl) ?_
  refine pw_aldq (v := (x + 1 + 1 + 2 * j)) hx hb hz (by omega) hs 2 rfl (vp_in_nI hj (by decide)) (by rw [nI_clamp (by omega)]; exact hg j hj) dX6_set_20 ?_
  refine pw_get (C := RX4) (T := TX4) (N := 2) (ci := 3) (v := .ref ((x + 1 + 1 + 2 * j) + 1)) hx hb hts hw2 hown hz (by omega) (hrows j hj).1 rfl 0 (by decide) hw3 (fun _ h9 => h9) rfl dX6_set_21 ?_
  refine lv_iload_n hx hb dX6_set_24 rfl (lv_at hl 2 rfl) ?_
  refine lv_iload_n hx hb dX6_set_25 rfl (lv_at hl 3 rfl) ?_
  refine lv_i2l hx hb dX6_set_26 rfl ?_
  refine pw_last hx hb hz (by omega) (hrows j hj).2 0 rfl (vp_in_nI (show i < 13 by omega) (by decide)) dX6_set_27 (fun H locs hz => ?_)
  have hz : PS D vwCl (tys3 cJ cI cR) b n s (va_up E ((x + 1 + 1 + 2 * j) + 1) (.inl (cJ, 13, .inr (.inl (vp_updL (fun _ => 0) (Int32.toNatClampNeg (nI i)) (Int32.toInt64 cv)))))) H locs := hz
  refine lv_aload_n hx hb dX6_set_28 rfl (lv_at hl 0 rfl) ?_
  refine pw_get (C := RX6) (T := TX6) (N := 9) (ci := 5) (v := .ref (x + 1)) hx hb hts hw0 hown hz (by omega) ((va_up_ne _ _ (by omega)).trans hd) rfl 0 (by decide) hw1 (fun _ h9 => h9) rfl dX6_set_29 ?_
  refine lv_iload_n hx hb dX6_set_32 rfl (lv_at hl 1 rfl) ?_
  refine pw_aldq (v := (x + 1 + 1 + 2 * j)) hx hb hz (by omega) ((va_up_ne _ _ (by omega)).trans hs) 2 rfl (vp_in_nI hj (by decide)) (by rw [nI_clamp (by omega)]; exact hg j hj) dX6_set_33 ?_
  refine pw_callv hz (va_runV (As := []) (rest := []) ⟨hx, hb, hml, hown, hts⟩ (c_Row_settle l D cJ cI cR b n _ _ (x + 1 + 1 + 2 * j) (vp_updL (fun _ => 0) (Int32.toNatClampNeg (nI i)) (Int32.toInt64 cv)) (-1) (by omega) ((va_up_ne _ _ (by omega)).trans (hrows j hj).1) (va_up_self _ _ _)) (cwV 0 hts gX6_set_X4_settle rfl rfl rfl (by decide +kernel) ⟨Nat.le_of_ble_eq_true rfl, Nat.le_of_ble_eq_true rfl⟩) (hz.preV (by omega) ((va_up_ne _ _ (by omega)).trans (hrows j hj).1) rfl) rfl rfl hl.1 rfl (lv_room (Nat.le_of_ble_eq_true rfl)) dX6_set_34 ⟨Nat.le_of_ble_eq_true rfl, Nat.le_of_ble_eq_true rfl⟩) (fun Ev H locs hp hz => ?_)
  rw [hp] at hz
  have hz : PS D vwCl (tys3 cJ cI cR) b n s (va_up (va_up E ((x + 1 + 1 + 2 * j) + 1) (.inl (cJ, 13, .inr (.inl (vp_updL (fun _ => 0) (Int32.toNatClampNeg (nI i)) (Int32.toInt64 cv)))))) (x + 1 + 1 + 2 * j) (.inr (3, [.ref ((x + 1 + 1 + 2 * j) + 1), .int (dg (vp_updL (fun _ => 0) (Int32.toNatClampNeg (nI i)) (Int32.toInt64 cv)) 13)]))) H locs := hz
  refine lv_aload_n hx hb dX6_set_37 rfl (lv_at hl 0 rfl) ?_
  refine pw_get (C := RX6) (T := TX6) (N := 9) (ci := 5) (v := .ref (x + 1)) hx hb hts hw0 hown hz (by omega) ((va_up_ne _ _ (by omega)).trans ((va_up_ne _ _ (by omega)).trans hd)) rfl 0 (by decide) hw1 (fun _ h9 => h9) rfl dX6_set_38 ?_
  refine lv_iload_n hx hb dX6_set_41 rfl (lv_at hl 1 rfl) ?_
  refine pw_aldq (v := (x + 1 + 1 + 2 * j)) hx hb hz (by omega) ((va_up_ne _ _ (by omega)).trans ((va_up_ne _ _ (by omega)).trans hs)) 2 rfl (vp_in_nI hj (by decide)) (by rw [nI_clamp (by omega)]; exact hg j hj) dX6_set_42 ?_
  refine pw_get (C := RX4) (T := TX4) (N := 2) (ci := 3) (v := .int (dg (vp_updL (fun _ => 0) (Int32.toNatClampNeg (nI i)) (Int32.toInt64 cv)) 13)) hx hb hts hw2 hown hz (by omega) (va_up_self _ _ _) rfl 1 (by decide) hw4 (fun _ h9 => h9) rfl dX6_set_43 ?_
  exact pw_iret hx hb hret hlocks hz ⟨by rw [nI_clamp (by omega)], (fun a ha => (va_up_ne _ _ (by omega)).trans (va_up_ne _ _ (by omega)))⟩ dX6_set_46

set_option maxHeartbeats 400000 in
set_option maxRecDepth 100000 in
/-- get on a fresh desk -/
theorem c_get_ok (l : Launch) (D : va_G) (cJ cI cR : ClassId) (b n : Nat) (E : Nat → va_E) (sz : Nat) (x : Nat) (hx0 : b ≤ x ∧ x + 124 ≤ b + n) (hF : deskAt cJ cI cR x E) (j : Nat) (hj : j < 8) (i : Nat) (hi : i < 7) : Met l yX6_get wsX6_get { frames := 1, cells := 0, slots := 0, locals := 20 } (cP D vwCl (tys3 cJ cI cR) b n E sz [.ref x, .int (nI j), .int (nI i)]) (cQi D vwCl (tys3 cJ cI cR) b n (fun v E' => v = 0 ∧ ∀ a, x + 124 ≤ a → E' a = E a)) 0 0 (PA b) := by
  refine Met.ofW (cc := cX6_get) (maxL := 3) (ret := (some .int)) (by decide) rfl ?_
  intro p e s m args below meth c s₁ B hml hv
  obtain ⟨rfl, hsz, hB⟩ := hv
  have hx := B.exec
  have hb := B.bytes
  have hret := B.returns
  have hts := atoms_spec (ws := wsX6_get) B.pre
  have hown : s.vm.findClass RX6 = some m.cls := findClass_of_methodNamed B.named
  have hlocks := B.notSynchronized
  subst hsz
  have hz := PS.start hB
  have hl := lv_entry ([.ref x, .int (nI j), .int (nI i)]) (n := 3) (Nat.le_of_ble_eq_true rfl)
  rw [lg_entry_eq]
  generalize (lg_sl ([.ref x, .int (nI j), .int (nI i)]) ++ List.replicate (3 - (lg_sl ([.ref x, .int (nI j), .int (nI i)])).length) Slot.unset).toArray = ls at hl ⊢
  have hl : lv_has ls 3 [(0, .ref x), (1, .int (nI j)), (2, .int (nI i))] := hl
  have hw0 : ∀ w ∈ u_ws RX6 TX6 9, w ∈ wsX6_get := by decide +kernel
  have hw1 := hts (.fieldLink RX6 13 "GaloisDesk" "slots" "[LGaloisDesk$Row;") (by decide +kernel)
  have hw2 : ∀ w ∈ u_ws RX4 TX4 2, w ∈ wsX6_get := by decide +kernel
  have hw3 := hts (.fieldLink RX6 68 "GaloisDesk$Row" "c" "[J") (by decide +kernel)
  obtain ⟨hd, ⟨⟨g, hs, hg⟩, hrows⟩, hq, hle, hri, ht, hpd, hfa⟩ := hF
  refine lv_iload_n hx hb dX6_get_0 rfl (lv_at hl 1 rfl) ?_
  refine pw_callv hz (va_runS (As := [.int (nI j)]) (rest := []) ⟨hx, hb, hml, hown, hts⟩ (c_checkSlot_ok l D cJ cI cR b n _ _ ((nI j)) (nI_okS hj)) (va_cwS 1 hts gX6_get_X6_checkSlot rfl rfl rfl (by decide +kernel) ⟨Nat.le_of_ble_eq_true rfl, Nat.le_of_ble_eq_true rfl⟩) hz.preS rfl rfl hl.1 rfl (lv_room (Nat.le_of_ble_eq_true rfl)) dX6_get_1 ⟨Nat.le_of_ble_eq_true rfl, Nat.le_of_ble_eq_true rfl⟩) (fun Ev H locs hp hz => ?_)
  rw [hp] at hz
  refine lv_iload_n hx hb dX6_get_4 rfl (lv_at hl 2 rfl) ?_
  refine pw_callv hz (va_runS (As := [.int (nI i)]) (rest := []) ⟨hx, hb, hml, hown, hts⟩ (c_checkPlace_ok l D cJ cI cR b n _ _ ((nI i)) (nI_okK hi)) (va_cwS 1 hts gX6_get_X6_checkPlace rfl rfl rfl (by decide +kernel) ⟨Nat.le_of_ble_eq_true rfl, Nat.le_of_ble_eq_true rfl⟩) hz.preS rfl rfl hl.1 rfl (lv_room (Nat.le_of_ble_eq_true rfl)) dX6_get_5 ⟨Nat.le_of_ble_eq_true rfl, Nat.le_of_ble_eq_true rfl⟩) (fun Ev H locs hp hz => ?_)
  rw [hp] at hz
  refine lv_aload_n hx hb dX6_get_8 rfl (lv_at hl 0 rfl) ?_
  refine pw_get (C := RX6) (T := TX6) (N := 9) (ci := 5) (v := .ref (x + 1)) hx hb hts hw0 hown hz (by omega) hd rfl 0 (by decide) hw1 (fun _ h9 => h9) rfl dX6_get_9 ?_
  refine lv_iload_n hx hb dX6_get_12 rfl (lv_at hl 1 rfl) ?_
  refine pw_aldq (v := (x + 1 + 1 + 2 * j)) hx hb hz (by omega) hs 2 rfl (vp_in_nI hj (by decide)) (by rw [nI_clamp (by omega)]; exact hg j hj) dX6_get_13 ?_
  refine pw_get (C := RX4) (T := TX4) (N := 2) (ci := 3) (v := .ref ((x + 1 + 1 + 2 * j) + 1)) hx hb hts hw2 hown hz (by omega) (hrows j hj).1 rfl 0 (by decide) hw3 (fun _ h9 => h9) rfl dX6_get_14 ?_
  refine lv_iload_n hx hb dX6_get_17 rfl (lv_at hl 2 rfl) ?_
  refine pw_lald hx hb hz (by omega) (hrows j hj).2 0 rfl (vp_in_nI (show i < 13 by omega) (by decide)) dX6_get_18 ?_
  refine lv_l2i hx hb dX6_get_19 rfl ?_
  exact pw_iret hx hb hret hlocks hz ⟨by decide +kernel, (fun a ha => rfl)⟩ dX6_get_20

set_option maxHeartbeats 400000 in
set_option maxRecDepth 100000 in
/-- add on a fresh desk -/
theorem c_add_ok (l : Launch) (D : va_G) (cJ cI cR : ClassId) (b n : Nat) (E : Nat → va_E) (sz : Nat) (x : Nat) (hx0 : b ≤ x ∧ x + 124 ≤ b + n) (hF : deskAt cJ cI cR x E) (j u v : Nat) (hj : j < 8) (hu : u < 8) (hv : v < 8) (p0 q0 : Int32) (hpA : okW p0 10) (hq9 : okW q0 10) : Met l yX6_add wsX6_add { frames := 3, cells := 0, slots := 0, locals := 82 } (cP D vwCl (tys3 cJ cI cR) b n E sz [.ref x, .int (nI j), .int (nI u), .int (nI v), .int p0, .int q0]) (cQi D vwCl (tys3 cJ cI cR) b n (fun v E' => v = -1 ∧ ∀ a, x + 124 ≤ a → E' a = E a)) 0 0 (PA b) := by
  refine Met.ofW (cc := cX6_add) (maxL := 6) (ret := (some .int)) (by decide) rfl ?_
  intro p e s m args below meth c s₁ B hml hv
  obtain ⟨rfl, hsz, hB⟩ := hv
  have hx := B.exec
  have hb := B.bytes
  have hret := B.returns
  have hts := atoms_spec (ws := wsX6_add) B.pre
  have hown : s.vm.findClass RX6 = some m.cls := findClass_of_methodNamed B.named
  have hlocks := B.notSynchronized
  subst hsz
  have hz := PS.start hB
  have hl := lv_entry ([.ref x, .int (nI j), .int (nI u), .int (nI v), .int p0, .int q0]) (n := 6) (Nat.le_of_ble_eq_true rfl)
  rw [lg_entry_eq]
  generalize (lg_sl ([.ref x, .int (nI j), .int (nI u), .int (nI v), .int p0, .int q0]) ++ List.replicate (6 - (lg_sl ([.ref x, .int (nI j), .int (nI u), .int (nI v), .int p0, .int q0])).length) Slot.unset).toArray = ls at hl ⊢
  have hl : lv_has ls 6 [(0, .ref x), (1, .int (nI j)), (2, .int (nI u)), (3, .int (nI v)), (4, .int p0), (5, .int q0)] := hl
  have hw0 : ∀ w ∈ u_ws RX6 TX6 9, w ∈ wsX6_add := by decide +kernel
  have hw1 := hts (.fieldLink RX6 20 "GaloisDesk" "result" "LGaloisDesk$Row;") (by decide +kernel)
  have hw2 := hts (.fieldLink RX6 13 "GaloisDesk" "slots" "[LGaloisDesk$Row;") (by decide +kernel)
  obtain ⟨hd, ⟨⟨g, hs, hg⟩, hrows⟩, hq, hle, hri, ht, hpd, hfa⟩ := hF
  refine lv_iload_n hx hb dX6_add_0 rfl (lv_at hl 1 rfl) ?_
  refine lv_iload_n hx hb dX6_add_1 rfl (lv_at hl 2 rfl) ?_
  refine lv_iload_n hx hb dX6_add_2 rfl (lv_at hl 3 rfl) ?_
  refine pw_callv hz (va_runS (As := [.int (nI j), .int (nI u), .int (nI v)]) (rest := []) ⟨hx, hb, hml, hown, hts⟩ (c_checkThree_ok l D cJ cI cR b n _ _ ((nI j)) ((nI u)) ((nI v)) ⟨nI_okS hj, nI_okS hu, nI_okS hv⟩) (va_cwS 3 hts gX6_add_X6_checkThreeSlots rfl rfl rfl (by decide +kernel) ⟨Nat.le_of_ble_eq_true rfl, Nat.le_of_ble_eq_true rfl⟩) hz.preS rfl rfl hl.1 rfl (lv_room (Nat.le_of_ble_eq_true rfl)) dX6_add_3 ⟨Nat.le_of_ble_eq_true rfl, Nat.le_of_ble_eq_true rfl⟩) (fun Ev H locs hp hz => ?_)
  rw [hp] at hz
  refine lv_iload hx hb dX6_add_6 (lv_at hl 4 rfl) ?_
  refine lv_bipush (v := 10) hx hb dX6_add_8 (by decide) ?_
  refine pw_callv hz (va_runS (As := [.int p0, .int 10]) (rest := []) ⟨hx, hb, hml, hown, hts⟩ (c_checkWithin_ok l D cJ cI cR b n _ _ (p0) (10) hpA) (va_cwS 2 hts gX6_add_X6_checkWithin rfl rfl rfl (by decide +kernel) ⟨Nat.le_of_ble_eq_true rfl, Nat.le_of_ble_eq_true rfl⟩) hz.preS rfl rfl hl.1 rfl (lv_room (Nat.le_of_ble_eq_true rfl)) dX6_add_10 ⟨Nat.le_of_ble_eq_true rfl, Nat.le_of_ble_eq_true rfl⟩) (fun Ev H locs hp hz => ?_)
  rw [hp] at hz
  refine lv_iload hx hb dX6_add_13 (lv_at hl 5 rfl) ?_
  refine lv_bipush (v := 10) hx hb dX6_add_15 (by decide) ?_
  refine pw_callv hz (va_runS (As := [.int q0, .int 10]) (rest := []) ⟨hx, hb, hml, hown, hts⟩ (c_checkWithin_ok l D cJ cI cR b n _ _ (q0) (10) hq9) (va_cwS 2 hts gX6_add_X6_checkWithin rfl rfl rfl (by decide +kernel) ⟨Nat.le_of_ble_eq_true rfl, Nat.le_of_ble_eq_true rfl⟩) hz.preS rfl rfl hl.1 rfl (lv_room (Nat.le_of_ble_eq_true rfl)) dX6_add_17 ⟨Nat.le_of_ble_eq_true rfl, Nat.le_of_ble_eq_true rfl⟩) (fun Ev H locs hp hz => ?_)
  rw [hp] at hz
  refine lv_aload_n hx hb dX6_add_20 rfl (lv_at hl 0 rfl) ?_
  refine pw_get (C := RX6) (T := TX6) (N := 9) (ci := 5) (v := .ref (x + 18)) hx hb hts hw0 hown hz (by omega) hd rfl 1 (by decide) hw1 (fun _ h9 => h9) rfl dX6_add_21 ?_
  refine lv_aload_n hx hb dX6_add_24 rfl (lv_at hl 0 rfl) ?_
  refine pw_get (C := RX6) (T := TX6) (N := 9) (ci := 5) (v := .ref (x + 1)) hx hb hts hw0 hown hz (by omega) hd rfl 0 (by decide) hw2 (fun _ h9 => h9) rfl dX6_add_25 ?_
  refine lv_iload_n hx hb dX6_add_28 rfl (lv_at hl 2 rfl) ?_
  refine pw_aldq (v := (x + 1 + 1 + 2 * u)) hx hb hz (by omega) hs 2 rfl (vp_in_nI hu (by decide)) (by rw [nI_clamp (by omega)]; exact hg u hu) dX6_add_29 ?_
  refine lv_iload hx hb dX6_add_30 (lv_at hl 4 rfl) ?_
  refine lv_i2l hx hb dX6_add_32 rfl ?_
  refine lv_aload_n hx hb dX6_add_33 rfl (lv_at hl 0 rfl) ?_
  refine pw_get (C := RX6) (T := TX6) (N := 9) (ci := 5) (v := .ref (x + 1)) hx hb hts hw0 hown hz (by omega) hd rfl 0 (by decide) hw2 (fun _ h9 => h9) rfl dX6_add_34 ?_
  refine lv_iload_n hx hb dX6_add_37 rfl (lv_at hl 3 rfl) ?_
  refine pw_aldq (v := (x + 1 + 1 + 2 * v)) hx hb hz (by omega) hs 2 rfl (vp_in_nI hv (by decide)) (by rw [nI_clamp (by omega)]; exact hg v hv) dX6_add_38 ?_
  refine lv_iload hx hb dX6_add_39 (lv_at hl 5 rfl) ?_
  refine lv_i2l hx hb dX6_add_41 rfl ?_
  refine pw_callv hz (va_runV (As := [.ref (x + 1 + 1 + 2 * u), .long (Int32.toInt64 p0), .ref (x + 1 + 1 + 2 * v), .long (Int32.toInt64 q0)]) (rest := []) ⟨hx, hb, hml, hown, hts⟩ (c_Row_becomeSum l D cJ cI cR b n _ _ (x + 18) (fun _ => 0) (-1) (by omega) hq.1 hq.2 (x + 1 + 1 + 2 * u) (fun _ => 0) (-1) (by omega) (hrows u hu).1 (hrows u hu).2 (x + 1 + 1 + 2 * v) (fun _ => 0) (-1) (by omega) (hrows v hv).1 (hrows v hv).2 _ _ (by omega) (by omega)) (cwV 4 hts gX6_add_X4_becomeSum rfl rfl rfl (by decide +kernel) ⟨Nat.le_of_ble_eq_true rfl, Nat.le_of_ble_eq_true rfl⟩) (hz.preV (by omega) hq.1 rfl) rfl rfl hl.1 rfl (lv_room (Nat.le_of_ble_eq_true rfl)) dX6_add_42 ⟨Nat.le_of_ble_eq_true rfl, Nat.le_of_ble_eq_true rfl⟩) (fun Ev H locs hp hz => ?_)
  rw [hp] at hz
  have hz : PS D vwCl (tys3 cJ cI cR) b n s (va_up (va_up E ((x + 18) + 1) (.inl (cJ, 13, .inr (.inl (fun _ => Int32.toInt64 p0 * 0 + Int32.toInt64 q0 * 0))))) (x + 18) (.inr (3, [.ref ((x + 18) + 1), .int (dg (fun _ => Int32.toInt64 p0 * 0 + Int32.toInt64 q0 * 0) 13)]))) H locs := hz
  rw [sum0, dg_0] at hz
  have hz : PS D vwCl (tys3 cJ cI cR) b n s (va_up (va_up E ((x + 18) + 1) (.inl (cJ, 13, .inr (.inl (fun _ => 0))))) (x + 18) (.inr (3, [.ref ((x + 18) + 1), .int (-1)]))) H locs := hz
  refine lv_aload_n hx hb dX6_add_45 rfl (lv_at hl 0 rfl) ?_
  refine lv_iload_n hx hb dX6_add_46 rfl (lv_at hl 1 rfl) ?_
  refine pw_calli hz (va_runV (As := [.int (nI j)]) (rest := []) ⟨hx, hb, hml, hown, hts⟩ (c_keepResult_0 l D cJ cI cR b n _ _ x 0 g hx0 ((va_up_ne _ _ (by omega)).trans ((va_up_ne _ _ (by omega)).trans hd)) ((va_up_ne _ _ (by omega)).trans ((va_up_ne _ _ (by omega)).trans hs)) hg j hj (fun _ => 0) (-1) ((va_up_ne _ _ (by omega)).trans ((va_up_ne _ _ (by omega)).trans (hrows j hj).1)) ((va_up_ne _ _ (by omega)).trans ((va_up_ne _ _ (by omega)).trans (hrows j hj).2)) (fun _ => 0) (va_up_self _ _ _) ((va_up_ne _ _ (by omega)).trans (va_up_self _ _ _))) (cwV 1 hts gX6_add_X6_keepResult rfl rfl rfl (by decide +kernel) ⟨Nat.le_of_ble_eq_true rfl, Nat.le_of_ble_eq_true rfl⟩) (hz.preV (by omega) ((va_up_ne _ _ (by omega)).trans ((va_up_ne _ _ (by omega)).trans hd)) rfl) rfl rfl hl.1 rfl (lv_room (Nat.le_of_ble_eq_true rfl)) dX6_add_47 ⟨Nat.le_of_ble_eq_true rfl, Nat.le_of_ble_eq_true rfl⟩) (fun r_5 Ev H locs hp hz => ?_)
  obtain ⟨hr_5, hp⟩ := hp
  subst hr_5
  rw [hp] at hz
  have hz : PS D vwCl (tys3 cJ cI cR) b n s (va_up (va_up (va_up (va_up E ((x + 18) + 1) (.inl (cJ, 13, .inr (.inl (fun _ => 0))))) (x + 18) (.inr (3, [.ref ((x + 18) + 1), .int (-1)]))) ((x + 1 + 1 + 2 * j) + 1) (.inl (cJ, 13, .inr (.inl (fun _ => 0))))) (x + 1 + 1 + 2 * j) (.inr (3, [.ref ((x + 1 + 1 + 2 * j) + 1), .int (-1)]))) H locs := hz
  exact pw_iret hx hb hret hlocks hz ⟨rfl, (fun a ha => (va_up_ne _ _ (by omega)).trans ((va_up_ne _ _ (by omega)).trans ((va_up_ne _ _ (by omega)).trans (va_up_ne _ _ (by omega)))))⟩ dX6_add_50

set_option maxHeartbeats 400000 in
set_option maxRecDepth 100000 in
/-- multiply on a fresh desk -/
theorem c_multiply_ok (l : Launch) (D : va_G) (cJ cI cR : ClassId) (b n : Nat) (E : Nat → va_E) (sz : Nat) (x : Nat) (hx0 : b ≤ x ∧ x + 124 ≤ b + n) (hF : deskAt cJ cI cR x E) (j u v : Nat) (hj : j < 8) (hu : u < 8) (hv : v < 8) : Met l yX6_multiply wsX6_multiply { frames := 3, cells := 0, slots := 0, locals := 82 } (cP D vwCl (tys3 cJ cI cR) b n E sz [.ref x, .int (nI j), .int (nI u), .int (nI v)]) (cQi D vwCl (tys3 cJ cI cR) b n (fun v E' => v = -1 ∧ ∀ a, x + 124 ≤ a → E' a = E a)) 0 0 (PA b) := by
  refine Met.ofW (cc := cX6_multiply) (maxL := 4) (ret := (some .int)) (by decide) rfl ?_
  intro p e s m args below meth c s₁ B hml hv
  obtain ⟨rfl, hsz, hB⟩ := hv
  have hx := B.exec
  have hb := B.bytes
  have hret := B.returns
  have hts := atoms_spec (ws := wsX6_multiply) B.pre
  have hown : s.vm.findClass RX6 = some m.cls := findClass_of_methodNamed B.named
  have hlocks := B.notSynchronized
  subst hsz
  have hz := PS.start hB
  have hl := lv_entry ([.ref x, .int (nI j), .int (nI u), .int (nI v)]) (n := 4) (Nat.le_of_ble_eq_true rfl)
  rw [lg_entry_eq]
  generalize (lg_sl ([.ref x, .int (nI j), .int (nI u), .int (nI v)]) ++ List.replicate (4 - (lg_sl ([.ref x, .int (nI j), .int (nI u), .int (nI v)])).length) Slot.unset).toArray = ls at hl ⊢
  have hl : lv_has ls 4 [(0, .ref x), (1, .int (nI j)), (2, .int (nI u)), (3, .int (nI v))] := hl
  have hw0 : ∀ w ∈ u_ws RX6 TX6 9, w ∈ wsX6_multiply := by decide +kernel
  have hw1 := hts (.fieldLink RX6 20 "GaloisDesk" "result" "LGaloisDesk$Row;") (by decide +kernel)
  have hw2 := hts (.fieldLink RX6 13 "GaloisDesk" "slots" "[LGaloisDesk$Row;") (by decide +kernel)
  obtain ⟨hd, ⟨⟨g, hs, hg⟩, hrows⟩, hq, hle, hri, ht, hpd, hfa⟩ := hF
  refine lv_iload_n hx hb dX6_multiply_0 rfl (lv_at hl 1 rfl) ?_
  refine lv_iload_n hx hb dX6_multiply_1 rfl (lv_at hl 2 rfl) ?_
  refine lv_iload_n hx hb dX6_multiply_2 rfl (lv_at hl 3 rfl) ?_
  refine pw_callv hz (va_runS (As := [.int (nI j), .int (nI u), .int (nI v)]) (rest := []) ⟨hx, hb, hml, hown, hts⟩ (c_checkThree_ok l D cJ cI cR b n _ _ ((nI j)) ((nI u)) ((nI v)) ⟨nI_okS hj, nI_okS hu, nI_okS hv⟩) (va_cwS 3 hts gX6_multiply_X6_checkThreeSlots rfl rfl rfl (by decide +kernel) ⟨Nat.le_of_ble_eq_true rfl, Nat.le_of_ble_eq_true rfl⟩) hz.preS rfl rfl hl.1 rfl (lv_room (Nat.le_of_ble_eq_true rfl)) dX6_multiply_3 ⟨Nat.le_of_ble_eq_true rfl, Nat.le_of_ble_eq_true rfl⟩) (fun Ev H locs hp hz => ?_)
  rw [hp] at hz
  refine lv_aload_n hx hb dX6_multiply_6 rfl (lv_at hl 0 rfl) ?_
  refine pw_get (C := RX6) (T := TX6) (N := 9) (ci := 5) (v := .ref (x + 18)) hx hb hts hw0 hown hz (by omega) hd rfl 1 (by decide) hw1 (fun _ h9 => h9) rfl dX6_multiply_7 ?_
  refine lv_aload_n hx hb dX6_multiply_10 rfl (lv_at hl 0 rfl) ?_
  refine pw_get (C := RX6) (T := TX6) (N := 9) (ci := 5) (v := .ref (x + 1)) hx hb hts hw0 hown hz (by omega) hd rfl 0 (by decide) hw2 (fun _ h9 => h9) rfl dX6_multiply_11 ?_
  refine lv_iload_n hx hb dX6_multiply_14 rfl (lv_at hl 2 rfl) ?_
  refine pw_aldq (v := (x + 1 + 1 + 2 * u)) hx hb hz (by omega) hs 2 rfl (vp_in_nI hu (by decide)) (by rw [nI_clamp (by omega)]; exact hg u hu) dX6_multiply_15 ?_
  refine lv_aload_n hx hb dX6_multiply_16 rfl (lv_at hl 0 rfl) ?_
  refine pw_get (C := RX6) (T := TX6) (N := 9) (ci := 5) (v := .ref (x + 1)) hx hb hts hw0 hown hz (by omega) hd rfl 0 (by decide) hw2 (fun _ h9 => h9) rfl dX6_multiply_17 ?_
  refine lv_iload_n hx hb dX6_multiply_20 rfl (lv_at hl 3 rfl) ?_
  refine pw_aldq (v := (x + 1 + 1 + 2 * v)) hx hb hz (by omega) hs 2 rfl (vp_in_nI hv (by decide)) (by rw [nI_clamp (by omega)]; exact hg v hv) dX6_multiply_21 ?_
  refine pw_callv hz (va_runV (As := [.ref (x + 1 + 1 + 2 * u), .ref (x + 1 + 1 + 2 * v)]) (rest := []) ⟨hx, hb, hml, hown, hts⟩ (c_Row_becomeProduct_0 l D cJ cI cR b n _ _ (x + 18) (fun _ => 0) (-1) (by omega) hq.1 hq.2 (x + 1 + 1 + 2 * u) (fun _ => 0) (by omega) (hrows u hu).1 (hrows u hu).2 (by omega) (x + 1 + 1 + 2 * v)) (cwV 2 hts gX6_multiply_X4_becomeProduct rfl rfl rfl (by decide +kernel) ⟨Nat.le_of_ble_eq_true rfl, Nat.le_of_ble_eq_true rfl⟩) (hz.preV (by omega) hq.1 rfl) rfl rfl hl.1 rfl (lv_room (Nat.le_of_ble_eq_true rfl)) dX6_multiply_22 ⟨Nat.le_of_ble_eq_true rfl, Nat.le_of_ble_eq_true rfl⟩) (fun Ev H locs hp hz => ?_)
  rw [hp] at hz
  have hz : PS D vwCl (tys3 cJ cI cR) b n s (va_up (va_up E ((x + 18) + 1) (.inl (cJ, 13, .inr (.inl (fun _ => 0))))) (x + 18) (.inr (3, [.ref ((x + 18) + 1), .int (-1)]))) H locs := hz
  refine lv_aload_n hx hb dX6_multiply_25 rfl (lv_at hl 0 rfl) ?_
  refine lv_iload_n hx hb dX6_multiply_26 rfl (lv_at hl 1 rfl) ?_
  refine pw_calli hz (va_runV (As := [.int (nI j)]) (rest := []) ⟨hx, hb, hml, hown, hts⟩ (c_keepResult_0 l D cJ cI cR b n _ _ x 0 g hx0 ((va_up_ne _ _ (by omega)).trans ((va_up_ne _ _ (by omega)).trans hd)) ((va_up_ne _ _ (by omega)).trans ((va_up_ne _ _ (by omega)).trans hs)) hg j hj (fun _ => 0) (-1) ((va_up_ne _ _ (by omega)).trans ((va_up_ne _ _ (by omega)).trans (hrows j hj).1)) ((va_up_ne _ _ (by omega)).trans ((va_up_ne _ _ (by omega)).trans (hrows j hj).2)) (fun _ => 0) (va_up_self _ _ _) ((va_up_ne _ _ (by omega)).trans (va_up_self _ _ _))) (cwV 1 hts gX6_multiply_X6_keepResult rfl rfl rfl (by decide +kernel) ⟨Nat.le_of_ble_eq_true rfl, Nat.le_of_ble_eq_true rfl⟩) (hz.preV (by omega) ((va_up_ne _ _ (by omega)).trans ((va_up_ne _ _ (by omega)).trans hd)) rfl) rfl rfl hl.1 rfl (lv_room (Nat.le_of_ble_eq_true rfl)) dX6_multiply_27 ⟨Nat.le_of_ble_eq_true rfl, Nat.le_of_ble_eq_true rfl⟩) (fun r_3 Ev H locs hp hz => ?_)
  obtain ⟨hr_3, hp⟩ := hp
  subst hr_3
  rw [hp] at hz
  have hz : PS D vwCl (tys3 cJ cI cR) b n s (va_up (va_up (va_up (va_up E ((x + 18) + 1) (.inl (cJ, 13, .inr (.inl (fun _ => 0))))) (x + 18) (.inr (3, [.ref ((x + 18) + 1), .int (-1)]))) ((x + 1 + 1 + 2 * j) + 1) (.inl (cJ, 13, .inr (.inl (fun _ => 0))))) (x + 1 + 1 + 2 * j) (.inr (3, [.ref ((x + 1 + 1 + 2 * j) + 1), .int (-1)]))) H locs := hz
  exact pw_iret hx hb hret hlocks hz ⟨rfl, (fun a ha => (va_up_ne _ _ (by omega)).trans ((va_up_ne _ _ (by omega)).trans ((va_up_ne _ _ (by omega)).trans (va_up_ne _ _ (by omega)))))⟩ dX6_multiply_30

set_option maxHeartbeats 400000 in
set_option maxRecDepth 100000 in
/-- derive on a fresh desk -/
theorem c_derive_ok (l : Launch) (D : va_G) (cJ cI cR : ClassId) (b n : Nat) (E : Nat → va_E) (sz : Nat) (x : Nat) (hx0 : b ≤ x ∧ x + 124 ≤ b + n) (hF : deskAt cJ cI cR x E) (j u : Nat) (hj : j < 8) (hu : u < 8) : Met l yX6_derive wsX6_derive { frames := 3, cells := 0, slots := 0, locals := 82 } (cP D vwCl (tys3 cJ cI cR) b n E sz [.ref x, .int (nI j), .int (nI u)]) (cQi D vwCl (tys3 cJ cI cR) b n (fun v E' => v = -1 ∧ ∀ a, x + 124 ≤ a → E' a = E a)) 0 0 (PA b) := by
  refine Met.ofW (cc := cX6_derive) (maxL := 3) (ret := (some .int)) (by decide) rfl ?_
  intro p e s m args below meth c s₁ B hml hv
  obtain ⟨rfl, hsz, hB⟩ := hv
  have hx := B.exec
  have hb := B.bytes
  have hret := B.returns
  have hts := atoms_spec (ws := wsX6_derive) B.pre
  have hown : s.vm.findClass RX6 = some m.cls := findClass_of_methodNamed B.named
  have hlocks := B.notSynchronized
  subst hsz
  have hz := PS.start hB
  have hl := lv_entry ([.ref x, .int (nI j), .int (nI u)]) (n := 3) (Nat.le_of_ble_eq_true rfl)
  rw [lg_entry_eq]
  generalize (lg_sl ([.ref x, .int (nI j), .int (nI u)]) ++ List.replicate (3 - (lg_sl ([.ref x, .int (nI j), .int (nI u)])).length) Slot.unset).toArray = ls at hl ⊢
  have hl : lv_has ls 3 [(0, .ref x), (1, .int (nI j)), (2, .int (nI u))] := hl
  have hw0 : ∀ w ∈ u_ws RX6 TX6 9, w ∈ wsX6_derive := by decide +kernel
  have hw1 := hts (.fieldLink RX6 20 "GaloisDesk" "result" "LGaloisDesk$Row;") (by decide +kernel)
  have hw2 := hts (.fieldLink RX6 13 "GaloisDesk" "slots" "[LGaloisDesk$Row;") (by decide +kernel)
  obtain ⟨hd, ⟨⟨g, hs, hg⟩, hrows⟩, hq, hle, hri, ht, hpd, hfa⟩ := hF
  refine lv_iload_n hx hb dX6_derive_0 rfl (lv_at hl 1 rfl) ?_
  refine pw_callv hz (va_runS (As := [.int (nI j)]) (rest := []) ⟨hx, hb, hml, hown, hts⟩ (c_checkSlot_ok l D cJ cI cR b n _ _ ((nI j)) (nI_okS hj)) (va_cwS 1 hts gX6_derive_X6_checkSlot rfl rfl rfl (by decide +kernel) ⟨Nat.le_of_ble_eq_true rfl, Nat.le_of_ble_eq_true rfl⟩) hz.preS rfl rfl hl.1 rfl (lv_room (Nat.le_of_ble_eq_true rfl)) dX6_derive_1 ⟨Nat.le_of_ble_eq_true rfl, Nat.le_of_ble_eq_true rfl⟩) (fun Ev H locs hp hz => ?_)
  rw [hp] at hz
  refine lv_iload_n hx hb dX6_derive_4 rfl (lv_at hl 2 rfl) ?_
  refine pw_callv hz (va_runS (As := [.int (nI u)]) (rest := []) ⟨hx, hb, hml, hown, hts⟩ (c_checkSlot_ok l D cJ cI cR b n _ _ ((nI u)) (nI_okS hu)) (va_cwS 1 hts gX6_derive_X6_checkSlot rfl rfl rfl (by decide +kernel) ⟨Nat.le_of_ble_eq_true rfl, Nat.le_of_ble_eq_true rfl⟩) hz.preS rfl rfl hl.1 rfl (lv_room (Nat.le_of_ble_eq_true rfl)) dX6_derive_5 ⟨Nat.le_of_ble_eq_true rfl, Nat.le_of_ble_eq_true rfl⟩) (fun Ev H locs hp hz => ?_)
  rw [hp] at hz
  refine lv_aload_n hx hb dX6_derive_8 rfl (lv_at hl 0 rfl) ?_
  refine pw_get (C := RX6) (T := TX6) (N := 9) (ci := 5) (v := .ref (x + 18)) hx hb hts hw0 hown hz (by omega) hd rfl 1 (by decide) hw1 (fun _ h9 => h9) rfl dX6_derive_9 ?_
  refine lv_aload_n hx hb dX6_derive_12 rfl (lv_at hl 0 rfl) ?_
  refine pw_get (C := RX6) (T := TX6) (N := 9) (ci := 5) (v := .ref (x + 1)) hx hb hts hw0 hown hz (by omega) hd rfl 0 (by decide) hw2 (fun _ h9 => h9) rfl dX6_derive_13 ?_
  refine lv_iload_n hx hb dX6_derive_16 rfl (lv_at hl 2 rfl) ?_
  refine pw_aldq (v := (x + 1 + 1 + 2 * u)) hx hb hz (by omega) hs 2 rfl (vp_in_nI hu (by decide)) (by rw [nI_clamp (by omega)]; exact hg u hu) dX6_derive_17 ?_
  refine pw_callv hz (va_runV (As := [.ref (x + 1 + 1 + 2 * u)]) (rest := []) ⟨hx, hb, hml, hown, hts⟩ (c_Row_becomeSlope_0 l D cJ cI cR b n _ _ (x + 18) (fun _ => 0) (-1) (by omega) hq.1 hq.2 (x + 1 + 1 + 2 * u) (fun _ => 0) (by omega) (hrows u hu).1 (hrows u hu).2 (by omega)) (cwV 1 hts gX6_derive_X4_becomeSlope rfl rfl rfl (by decide +kernel) ⟨Nat.le_of_ble_eq_true rfl, Nat.le_of_ble_eq_true rfl⟩) (hz.preV (by omega) hq.1 rfl) rfl rfl hl.1 rfl (lv_room (Nat.le_of_ble_eq_true rfl)) dX6_derive_18 ⟨Nat.le_of_ble_eq_true rfl, Nat.le_of_ble_eq_true rfl⟩) (fun Ev H locs hp hz => ?_)
  rw [hp] at hz
  have hz : PS D vwCl (tys3 cJ cI cR) b n s (va_up (va_up E ((x + 18) + 1) (.inl (cJ, 13, .inr (.inl (fun _ => 0))))) (x + 18) (.inr (3, [.ref ((x + 18) + 1), .int (-1)]))) H locs := hz
  refine lv_aload_n hx hb dX6_derive_21 rfl (lv_at hl 0 rfl) ?_
  refine lv_iload_n hx hb dX6_derive_22 rfl (lv_at hl 1 rfl) ?_
  refine pw_calli hz (va_runV (As := [.int (nI j)]) (rest := []) ⟨hx, hb, hml, hown, hts⟩ (c_keepResult_0 l D cJ cI cR b n _ _ x 0 g hx0 ((va_up_ne _ _ (by omega)).trans ((va_up_ne _ _ (by omega)).trans hd)) ((va_up_ne _ _ (by omega)).trans ((va_up_ne _ _ (by omega)).trans hs)) hg j hj (fun _ => 0) (-1) ((va_up_ne _ _ (by omega)).trans ((va_up_ne _ _ (by omega)).trans (hrows j hj).1)) ((va_up_ne _ _ (by omega)).trans ((va_up_ne _ _ (by omega)).trans (hrows j hj).2)) (fun _ => 0) (va_up_self _ _ _) ((va_up_ne _ _ (by omega)).trans (va_up_self _ _ _))) (cwV 1 hts gX6_derive_X6_keepResult rfl rfl rfl (by decide +kernel) ⟨Nat.le_of_ble_eq_true rfl, Nat.le_of_ble_eq_true rfl⟩) (hz.preV (by omega) ((va_up_ne _ _ (by omega)).trans ((va_up_ne _ _ (by omega)).trans hd)) rfl) rfl rfl hl.1 rfl (lv_room (Nat.le_of_ble_eq_true rfl)) dX6_derive_23 ⟨Nat.le_of_ble_eq_true rfl, Nat.le_of_ble_eq_true rfl⟩) (fun r_4 Ev H locs hp hz => ?_)
  obtain ⟨hr_4, hp⟩ := hp
  subst hr_4
  rw [hp] at hz
  have hz : PS D vwCl (tys3 cJ cI cR) b n s (va_up (va_up (va_up (va_up E ((x + 18) + 1) (.inl (cJ, 13, .inr (.inl (fun _ => 0))))) (x + 18) (.inr (3, [.ref ((x + 18) + 1), .int (-1)]))) ((x + 1 + 1 + 2 * j) + 1) (.inl (cJ, 13, .inr (.inl (fun _ => 0))))) (x + 1 + 1 + 2 * j) (.inr (3, [.ref ((x + 1 + 1 + 2 * j) + 1), .int (-1)]))) H locs := hz
  exact pw_iret hx hb hret hlocks hz ⟨rfl, (fun a ha => (va_up_ne _ _ (by omega)).trans ((va_up_ne _ _ (by omega)).trans ((va_up_ne _ _ (by omega)).trans (va_up_ne _ _ (by omega)))))⟩ dX6_derive_26

set_option maxHeartbeats 400000 in
set_option maxRecDepth 100000 in
/-- divide on a fresh desk -/
theorem c_divide_ok (l : Launch) (D : va_G) (cJ cI cR : ClassId) (b n : Nat) (E : Nat → va_E) (sz : Nat) (x : Nat) (hx0 : b ≤ x ∧ x + 124 ≤ b + n) (hF : deskAt cJ cI cR x E) (j u v : Nat) (hj : j < 8) (hu : u < 8) (hv : v < 8) : Met l yX6_divide wsX6_divide { frames := 2, cells := 0, slots := 0, locals := 42 } (cP D vwCl (tys3 cJ cI cR) b n E sz [.ref x, .int (nI j), .int (nI u), .int (nI v)]) (cQi D vwCl (tys3 cJ cI cR) b n (fun v E' => v = -3 ∧ ∀ a, x + 124 ≤ a → E' a = E a)) 0 0 (PA b) := by
  refine Met.ofW (cc := cX6_divide) (maxL := 4) (ret := (some .int)) (by decide) rfl ?_
  intro p e s m args below meth c s₁ B hml hv
  obtain ⟨rfl, hsz, hB⟩ := hv
  have hx := B.exec
  have hb := B.bytes
  have hret := B.returns
  have hts := atoms_spec (ws := wsX6_divide) B.pre
  have hown : s.vm.findClass RX6 = some m.cls := findClass_of_methodNamed B.named
  have hlocks := B.notSynchronized
  subst hsz
  have hz := PS.start hB
  have hl := lv_entry ([.ref x, .int (nI j), .int (nI u), .int (nI v)]) (n := 4) (Nat.le_of_ble_eq_true rfl)
  rw [lg_entry_eq]
  generalize (lg_sl ([.ref x, .int (nI j), .int (nI u), .int (nI v)]) ++ List.replicate (4 - (lg_sl ([.ref x, .int (nI j), .int (nI u), .int (nI v)])).length) Slot.unset).toArray = ls at hl ⊢
  have hl : lv_has ls 4 [(0, .ref x), (1, .int (nI j)), (2, .int (nI u)), (3, .int (nI v))] := hl
  have hw0 : ∀ w ∈ u_ws RX6 TX6 9, w ∈ wsX6_divide := by decide +kernel
  have hw1 := hts (.fieldLink RX6 13 "GaloisDesk" "slots" "[LGaloisDesk$Row;") (by decide +kernel)
  have hw2 : ∀ w ∈ u_ws RX4 TX4 2, w ∈ wsX6_divide := by decide +kernel
  have hw3 := hts (.fieldLink RX6 75 "GaloisDesk$Row" "top" "I") (by decide +kernel)
  obtain ⟨hd, ⟨⟨g, hs, hg⟩, hrows⟩, hq, hle, hri, ht, hpd, hfa⟩ := hF
  refine lv_iload_n hx hb dX6_divide_0 rfl (lv_at hl 1 rfl) ?_
  refine lv_iload_n hx hb dX6_divide_1 rfl (lv_at hl 2 rfl) ?_
  refine lv_iload_n hx hb dX6_divide_2 rfl (lv_at hl 3 rfl) ?_
  refine pw_callv hz (va_runS (As := [.int (nI j), .int (nI u), .int (nI v)]) (rest := []) ⟨hx, hb, hml, hown, hts⟩ (c_checkThree_ok l D cJ cI cR b n _ _ ((nI j)) ((nI u)) ((nI v)) ⟨nI_okS hj, nI_okS hu, nI_okS hv⟩) (va_cwS 3 hts gX6_divide_X6_checkThreeSlots rfl rfl rfl (by decide +kernel) ⟨Nat.le_of_ble_eq_true rfl, Nat.le_of_ble_eq_true rfl⟩) hz.preS rfl rfl hl.1 rfl (lv_room (Nat.le_of_ble_eq_true rfl)) dX6_divide_3 ⟨Nat.le_of_ble_eq_true rfl, Nat.le_of_ble_eq_true rfl⟩) (fun Ev H locs hp hz => ?_)
  rw [hp] at hz
  refine lv_aload_n hx hb dX6_divide_6 rfl (lv_at hl 0 rfl) ?_
  refine pw_get (C := RX6) (T := TX6) (N := 9) (ci := 5) (v := .ref (x + 1)) hx hb hts hw0 hown hz (by omega) hd rfl 0 (by decide) hw1 (fun _ h9 => h9) rfl dX6_divide_7 ?_
  refine lv_iload_n hx hb dX6_divide_10 rfl (lv_at hl 3 rfl) ?_
  refine pw_aldq (v := (x + 1 + 1 + 2 * v)) hx hb hz (by omega) hs 2 rfl (vp_in_nI hv (by decide)) (by rw [nI_clamp (by omega)]; exact hg v hv) dX6_divide_11 ?_
  refine pw_get (C := RX4) (T := TX4) (N := 2) (ci := 3) (v := .int (-1)) hx hb hts hw2 hown hz (by omega) (hrows v hv).1 rfl 1 (by decide) hw3 (fun _ h9 => h9) rfl dX6_divide_12 ?_
  refine lv_if_ge (tgt := 21) hx hb dX6_divide_15 (by decide) (fun q => ?_) (fun _ => ?_)
  · skip
    exact absurd q (by decide)
  · skip
    refine lv_bipush (v := (-3)) hx hb dX6_divide_18 (by decide) ?_
    exact pw_iret hx hb hret hlocks hz ⟨rfl, (fun a ha => rfl)⟩ dX6_divide_20

set_option maxHeartbeats 400000 in
set_option maxRecDepth 100000 in
/-- common on a fresh desk -/
theorem c_common_ok (l : Launch) (D : va_G) (cJ cI cR : ClassId) (b n : Nat) (E : Nat → va_E) (sz : Nat) (x : Nat) (hx0 : b ≤ x ∧ x + 124 ≤ b + n) (hF : deskAt cJ cI cR x E) (j u v : Nat) (hj : j < 8) (hu : u < 8) (hv : v < 8) : Met l yX6_common wsX6_common { frames := 4, cells := 0, slots := 0, locals := 87 } (cP D vwCl (tys3 cJ cI cR) b n E sz [.ref x, .int (nI j), .int (nI u), .int (nI v)]) (cQi D vwCl (tys3 cJ cI cR) b n (fun v E' => v = -1 ∧ ∀ a, x + 124 ≤ a → E' a = E a)) 0 0 (PA b) := by
  refine Met.ofW (cc := cX6_common) (maxL := 4) (ret := (some .int)) (by decide) rfl ?_
  intro p e s m args below meth c s₁ B hml hv
  obtain ⟨rfl, hsz, hB⟩ := hv
  have hx := B.exec
  have hb := B.bytes
  have hret := B.returns
  have hts := atoms_spec (ws := wsX6_common) B.pre
  have hown : s.vm.findClass RX6 = some m.cls := findClass_of_methodNamed B.named
  have hlocks := B.notSynchronized
  subst hsz
  have hz := PS.start hB
  have hl := lv_entry ([.ref x, .int (nI j), .int (nI u), .int (nI v)]) (n := 4) (Nat.le_of_ble_eq_true rfl)
  rw [lg_entry_eq]
  generalize (lg_sl ([.ref x, .int (nI j), .int (nI u), .int (nI v)]) ++ List.replicate (4 - (lg_sl ([.ref x, .int (nI j), .int (nI u), .int (nI v)])).length) Slot.unset).toArray = ls at hl ⊢
  have hl : lv_has ls 4 [(0, .ref x), (1, .int (nI j)), (2, .int (nI u)), (3, .int (nI v))] := hl
  have hw0 : ∀ w ∈ u_ws RX6 TX6 9, w ∈ wsX6_common := by decide +kernel
  have hw1 := hts (.fieldLink RX6 24 "GaloisDesk" "left" "LGaloisDesk$Row;") (by decide +kernel)
  have hw2 := hts (.fieldLink RX6 13 "GaloisDesk" "slots" "[LGaloisDesk$Row;") (by decide +kernel)
  have hw3 := hts (.fieldLink RX6 27 "GaloisDesk" "right" "LGaloisDesk$Row;") (by decide +kernel)
  have hw4 : ∀ w ∈ u_ws RX4 TX4 2, w ∈ wsX6_common := by decide +kernel
  have hw5 := hts (.fieldLink RX6 75 "GaloisDesk$Row" "top" "I") (by decide +kernel)
  have hw6 := hts (.fieldLink RX6 20 "GaloisDesk" "result" "LGaloisDesk$Row;") (by decide +kernel)
  obtain ⟨hd, ⟨⟨g, hs, hg⟩, hrows⟩, hq, hle, hri, ht, hpd, hfa⟩ := hF
  refine lv_iload_n hx hb dX6_common_0 rfl (lv_at hl 1 rfl) ?_
  refine lv_iload_n hx hb dX6_common_1 rfl (lv_at hl 2 rfl) ?_
  refine lv_iload_n hx hb dX6_common_2 rfl (lv_at hl 3 rfl) ?_
  refine pw_callv hz (va_runS (As := [.int (nI j), .int (nI u), .int (nI v)]) (rest := []) ⟨hx, hb, hml, hown, hts⟩ (c_checkThree_ok l D cJ cI cR b n _ _ ((nI j)) ((nI u)) ((nI v)) ⟨nI_okS hj, nI_okS hu, nI_okS hv⟩) (va_cwS 3 hts gX6_common_X6_checkThreeSlots rfl rfl rfl (by decide +kernel) ⟨Nat.le_of_ble_eq_true rfl, Nat.le_of_ble_eq_true rfl⟩) hz.preS rfl rfl hl.1 rfl (lv_room (Nat.le_of_ble_eq_true rfl)) dX6_common_3 ⟨Nat.le_of_ble_eq_true rfl, Nat.le_of_ble_eq_true rfl⟩) (fun Ev H locs hp hz => ?_)
  rw [hp] at hz
  refine lv_aload_n hx hb dX6_common_6 rfl (lv_at hl 0 rfl) ?_
  refine pw_get (C := RX6) (T := TX6) (N := 9) (ci := 5) (v := .ref (x + 20)) hx hb hts hw0 hown hz (by omega) hd rfl 2 (by decide) hw1 (fun _ h9 => h9) rfl dX6_common_7 ?_
  refine lv_aload_n hx hb dX6_common_10 rfl (lv_at hl 0 rfl) ?_
  refine pw_get (C := RX6) (T := TX6) (N := 9) (ci := 5) (v := .ref (x + 1)) hx hb hts hw0 hown hz (by omega) hd rfl 0 (by decide) hw2 (fun _ h9 => h9) rfl dX6_common_11 ?_
  refine lv_iload_n hx hb dX6_common_14 rfl (lv_at hl 2 rfl) ?_
  refine pw_aldq (v := (x + 1 + 1 + 2 * u)) hx hb hz (by omega) hs 2 rfl (vp_in_nI hu (by decide)) (by rw [nI_clamp (by omega)]; exact hg u hu) dX6_common_15 ?_
  refine pw_callv hz (va_runV (As := [.ref (x + 1 + 1 + 2 * u)]) (rest := []) ⟨hx, hb, hml, hown, hts⟩ (c_Row_become l D cJ cI cR b n _ _ (x + 20) (fun _ => 0) (-1) (by omega) hle.1 hle.2 (x + 1 + 1 + 2 * u) (fun _ => 0) (-1) (by omega) (hrows u hu).1 (hrows u hu).2 (by omega)) (cwV 1 hts gX6_common_X4_become rfl rfl rfl (by decide +kernel) ⟨Nat.le_of_ble_eq_true rfl, Nat.le_of_ble_eq_true rfl⟩) (hz.preV (by omega) hle.1 rfl) rfl rfl hl.1 rfl (lv_room (Nat.le_of_ble_eq_true rfl)) dX6_common_16 ⟨Nat.le_of_ble_eq_true rfl, Nat.le_of_ble_eq_true rfl⟩) (fun Ev H locs hp hz => ?_)
  rw [hp] at hz
  have hz : PS D vwCl (tys3 cJ cI cR) b n s (va_up (va_up E ((x + 20) + 1) (.inl (cJ, 13, .inr (.inl (fun _ => 0))))) (x + 20) (.inr (3, [.ref ((x + 20) + 1), .int (-1)]))) H locs := hz
  refine lv_aload_n hx hb dX6_common_19 rfl (lv_at hl 0 rfl) ?_
  refine pw_get (C := RX6) (T := TX6) (N := 9) (ci := 5) (v := .ref (x + 20)) hx hb hts hw0 hown hz (by omega) ((va_up_ne _ _ (by omega)).trans ((va_up_ne _ _ (by omega)).trans hd)) rfl 2 (by decide) hw1 (fun _ h9 => h9) rfl dX6_common_20 ?_
  refine pw_callv hz (va_runV (As := []) (rest := []) ⟨hx, hb, hml, hown, hts⟩ (c_Row_makePrimitive_0 l D cJ cI cR b n _ _ (x + 20) (fun _ => 0) (by omega) (va_up_self _ _ _) ((va_up_ne _ _ (by omega)).trans (va_up_self _ _ _))) (cwV 0 hts gX6_common_X4_makePrimitive rfl rfl rfl (by decide +kernel) ⟨Nat.le_of_ble_eq_true rfl, Nat.le_of_ble_eq_true rfl⟩) (hz.preV (by omega) (va_up_self _ _ _) rfl) rfl rfl hl.1 rfl (lv_room (Nat.le_of_ble_eq_true rfl)) dX6_common_23 ⟨Nat.le_of_ble_eq_true rfl, Nat.le_of_ble_eq_true rfl⟩) (fun Ev H locs hp hz => ?_)
  rw [hp] at hz
  refine lv_aload_n hx hb dX6_common_26 rfl (lv_at hl 0 rfl) ?_
  refine pw_get (C := RX6) (T := TX6) (N := 9) (ci := 5) (v := .ref (x + 22)) hx hb hts hw0 hown hz (by omega) ((va_up_ne _ _ (by omega)).trans ((va_up_ne _ _ (by omega)).trans hd)) rfl 3 (by decide) hw3 (fun _ h9 => h9) rfl dX6_common_27 ?_
  refine lv_aload_n hx hb dX6_common_30 rfl (lv_at hl 0 rfl) ?_
  refine pw_get (C := RX6) (T := TX6) (N := 9) (ci := 5) (v := .ref (x + 1)) hx hb hts hw0 hown hz (by omega) ((va_up_ne _ _ (by omega)).trans ((va_up_ne _ _ (by omega)).trans hd)) rfl 0 (by decide) hw2 (fun _ h9 => h9) rfl dX6_common_31 ?_
  refine lv_iload_n hx hb dX6_common_34 rfl (lv_at hl 3 rfl) ?_
  refine pw_aldq (v := (x + 1 + 1 + 2 * v)) hx hb hz (by omega) ((va_up_ne _ _ (by omega)).trans ((va_up_ne _ _ (by omega)).trans hs)) 2 rfl (vp_in_nI hv (by decide)) (by rw [nI_clamp (by omega)]; exact hg v hv) dX6_common_35 ?_
  refine pw_callv hz (va_runV (As := [.ref (x + 1 + 1 + 2 * v)]) (rest := []) ⟨hx, hb, hml, hown, hts⟩ (c_Row_become l D cJ cI cR b n _ _ (x + 22) (fun _ => 0) (-1) (by omega) ((va_up_ne _ _ (by omega)).trans ((va_up_ne _ _ (by omega)).trans hri.1)) ((va_up_ne _ _ (by omega)).trans ((va_up_ne _ _ (by omega)).trans hri.2)) (x + 1 + 1 + 2 * v) (fun _ => 0) (-1) (by omega) ((va_up_ne _ _ (by omega)).trans ((va_up_ne _ _ (by omega)).trans (hrows v hv).1)) ((va_up_ne _ _ (by omega)).trans ((va_up_ne _ _ (by omega)).trans (hrows v hv).2)) (by omega)) (cwV 1 hts gX6_common_X4_become rfl rfl rfl (by decide +kernel) ⟨Nat.le_of_ble_eq_true rfl, Nat.le_of_ble_eq_true rfl⟩) (hz.preV (by omega) ((va_up_ne _ _ (by omega)).trans ((va_up_ne _ _ (by omega)).trans hri.1)) rfl) rfl rfl hl.1 rfl (lv_room (Nat.le_of_ble_eq_true rfl)) dX6_common_36 ⟨Nat.le_of_ble_eq_true rfl, Nat.le_of_ble_eq_true rfl⟩) (fun Ev H locs hp hz => ?_)
  rw [hp] at hz
  have hz : PS D vwCl (tys3 cJ cI cR) b n s (va_up (va_up (va_up (va_up E ((x + 20) + 1) (.inl (cJ, 13, .inr (.inl (fun _ => 0))))) (x + 20) (.inr (3, [.ref ((x + 20) + 1), .int (-1)]))) ((x + 22) + 1) (.inl (cJ, 13, .inr (.inl (fun _ => 0))))) (x + 22) (.inr (3, [.ref ((x + 22) + 1), .int (-1)]))) H locs := hz
  refine lv_aload_n hx hb dX6_common_39 rfl (lv_at hl 0 rfl) ?_
  refine pw_get (C := RX6) (T := TX6) (N := 9) (ci := 5) (v := .ref (x + 22)) hx hb hts hw0 hown hz (by omega) ((va_up_ne _ _ (by omega)).trans ((va_up_ne _ _ (by omega)).trans ((va_up_ne _ _ (by omega)).trans ((va_up_ne _ _ (by omega)).trans hd)))) rfl 3 (by decide) hw3 (fun _ h9 => h9) rfl dX6_common_40 ?_
  refine pw_callv hz (va_runV (As := []) (rest := []) ⟨hx, hb, hml, hown, hts⟩ (c_Row_makePrimitive_0 l D cJ cI cR b n _ _ (x + 22) (fun _ => 0) (by omega) (va_up_self _ _ _) ((va_up_ne _ _ (by omega)).trans (va_up_self _ _ _))) (cwV 0 hts gX6_common_X4_makePrimitive rfl rfl rfl (by decide +kernel) ⟨Nat.le_of_ble_eq_true rfl, Nat.le_of_ble_eq_true rfl⟩) (hz.preV (by omega) (va_up_self _ _ _) rfl) rfl rfl hl.1 rfl (lv_room (Nat.le_of_ble_eq_true rfl)) dX6_common_43 ⟨Nat.le_of_ble_eq_true rfl, Nat.le_of_ble_eq_true rfl⟩) (fun Ev H locs hp hz => ?_)
  rw [hp] at hz
  refine lv_aload_n hx hb dX6_common_46 rfl (lv_at hl 0 rfl) ?_
  refine pw_get (C := RX6) (T := TX6) (N := 9) (ci := 5) (v := .ref (x + 20)) hx hb hts hw0 hown hz (by omega) ((va_up_ne _ _ (by omega)).trans ((va_up_ne _ _ (by omega)).trans ((va_up_ne _ _ (by omega)).trans ((va_up_ne _ _ (by omega)).trans hd)))) rfl 2 (by decide) hw1 (fun _ h9 => h9) rfl dX6_common_47 ?_
  refine pw_get (C := RX4) (T := TX4) (N := 2) (ci := 3) (v := .int (-1)) hx hb hts hw4 hown hz (by omega) ((va_up_ne _ _ (by omega)).trans ((va_up_ne _ _ (by omega)).trans (va_up_self _ _ _))) rfl 1 (by decide) hw5 (fun _ h9 => h9) rfl dX6_common_50 ?_
  refine lv_if_ge (tgt := 70) hx hb dX6_common_53 (by decide) (fun q => ?_) (fun _ => ?_)
  · skip
    exact absurd q (by decide)
  · skip
    refine lv_aload_n hx hb dX6_common_56 rfl (lv_at hl 0 rfl) ?_
    refine pw_get (C := RX6) (T := TX6) (N := 9) (ci := 5) (v := .ref (x + 18)) hx hb hts hw0 hown hz (by omega) ((va_up_ne _ _ (by omega)).trans ((va_up_ne _ _ (by omega)).trans ((va_up_ne _ _ (by omega)).trans ((va_up_ne _ _ (by omega)).trans hd)))) rfl 1 (by decide) hw6 (fun _ h9 => h9) rfl dX6_common_57 ?_
    refine lv_aload_n hx hb dX6_common_60 rfl (lv_at hl 0 rfl) ?_
    refine pw_get (C := RX6) (T := TX6) (N := 9) (ci := 5) (v := .ref (x + 22)) hx hb hts hw0 hown hz (by omega) ((va_up_ne _ _ (by omega)).trans ((va_up_ne _ _ (by omega)).trans ((va_up_ne _ _ (by omega)).trans ((va_up_ne _ _ (by omega)).trans hd)))) rfl 3 (by decide) hw3 (fun _ h9 => h9) rfl dX6_common_61 ?_
    refine pw_callv hz (va_runV (As := [.ref (x + 22)]) (rest := []) ⟨hx, hb, hml, hown, hts⟩ (c_Row_become l D cJ cI cR b n _ _ (x + 18) (fun _ => 0) (-1) (by omega) ((va_up_ne _ _ (by omega)).trans ((va_up_ne _ _ (by omega)).trans ((va_up_ne _ _ (by omega)).trans ((va_up_ne _ _ (by omega)).trans hq.1)))) ((va_up_ne _ _ (by omega)).trans ((va_up_ne _ _ (by omega)).trans ((va_up_ne _ _ (by omega)).trans ((va_up_ne _ _ (by omega)).trans hq.2)))) (x + 22) (fun _ => 0) (-1) (by omega) (va_up_self _ _ _) ((va_up_ne _ _ (by omega)).trans (va_up_self _ _ _)) (by omega)) (cwV 1 hts gX6_common_X4_become rfl rfl rfl (by decide +kernel) ⟨Nat.le_of_ble_eq_true rfl, Nat.le_of_ble_eq_true rfl⟩) (hz.preV (by omega) ((va_up_ne _ _ (by omega)).trans ((va_up_ne _ _ (by omega)).trans ((va_up_ne _ _ (by omega)).trans ((va_up_ne _ _ (by omega)).trans hq.1)))) rfl) rfl rfl hl.1 rfl (lv_room (Nat.le_of_ble_eq_true rfl)) dX6_common_64 ⟨Nat.le_of_ble_eq_true rfl, Nat.le_of_ble_eq_true rfl⟩) (fun Ev H locs hp hz => ?_)
    rw [hp] at hz
    have hz : PS D vwCl (tys3 cJ cI cR) b n s (va_up (va_up (va_up (va_up (va_up (va_up E ((x + 20) + 1) (.inl (cJ, 13, .inr (.inl (fun _ => 0))))) (x + 20) (.inr (3, [.ref ((x + 20) + 1), .int (-1)]))) ((x + 22) + 1) (.inl (cJ, 13, .inr (.inl (fun _ => 0))))) (x + 22) (.inr (3, [.ref ((x + 22) + 1), .int (-1)]))) ((x + 18) + 1) (.inl (cJ, 13, .inr (.inl (fun _ => 0))))) (x + 18) (.inr (3, [.ref ((x + 18) + 1), .int (-1)]))) H locs := hz
    refine lv_goto (tgt := 113) hx hb dX6_common_67 (by decide) ?_
    refine lv_aload_n hx hb dX6_common_113 rfl (lv_at hl 0 rfl) ?_
    refine lv_iload_n hx hb dX6_common_114 rfl (lv_at hl 1 rfl) ?_
    refine pw_calli hz (va_runV (As := [.int (nI j)]) (rest := []) ⟨hx, hb, hml, hown, hts⟩ (c_keepResult_0 l D cJ cI cR b n _ _ x 0 g hx0 ((va_up_ne _ _ (by omega)).trans ((va_up_ne _ _ (by omega)).trans ((va_up_ne _ _ (by omega)).trans ((va_up_ne _ _ (by omega)).trans ((va_up_ne _ _ (by omega)).trans ((va_up_ne _ _ (by omega)).trans hd)))))) ((va_up_ne _ _ (by omega)).trans ((va_up_ne _ _ (by omega)).trans ((va_up_ne _ _ (by omega)).trans ((va_up_ne _ _ (by omega)).trans ((va_up_ne _ _ (by omega)).trans ((va_up_ne _ _ (by omega)).trans hs)))))) hg j hj (fun _ => 0) (-1) ((va_up_ne _ _ (by omega)).trans ((va_up_ne _ _ (by omega)).trans ((va_up_ne _ _ (by omega)).trans ((va_up_ne _ _ (by omega)).trans ((va_up_ne _ _ (by omega)).trans ((va_up_ne _ _ (by omega)).trans (hrows j hj).1)))))) ((va_up_ne _ _ (by omega)).trans ((va_up_ne _ _ (by omega)).trans ((va_up_ne _ _ (by omega)).trans ((va_up_ne _ _ (by omega)).trans ((va_up_ne _ _ (by omega)).trans ((va_up_ne _ _ (by omega)).trans (hrows j hj).2)))))) (fun _ => 0) (va_up_self _ _ _) ((va_up_ne _ _ (by omega)).trans (va_up_self _ _ _))) (cwV 1 hts gX6_common_X6_keepResult rfl rfl rfl (by decide +kernel) ⟨Nat.le_of_ble_eq_true rfl, Nat.le_of_ble_eq_true rfl⟩) (hz.preV (by omega) ((va_up_ne _ _ (by omega)).trans ((va_up_ne _ _ (by omega)).trans ((va_up_ne _ _ (by omega)).trans ((va_up_ne _ _ (by omega)).trans ((va_up_ne _ _ (by omega)).trans ((va_up_ne _ _ (by omega)).trans hd)))))) rfl) rfl rfl hl.1 rfl (lv_room (Nat.le_of_ble_eq_true rfl)) dX6_common_115 ⟨Nat.le_of_ble_eq_true rfl, Nat.le_of_ble_eq_true rfl⟩) (fun r_7 Ev H locs hp hz => ?_)
    obtain ⟨hr_7, hp⟩ := hp
    subst hr_7
    rw [hp] at hz
    have hz : PS D vwCl (tys3 cJ cI cR) b n s (va_up (va_up (va_up (va_up (va_up (va_up (va_up (va_up E ((x + 20) + 1) (.inl (cJ, 13, .inr (.inl (fun _ => 0))))) (x + 20) (.inr (3, [.ref ((x + 20) + 1), .int (-1)]))) ((x + 22) + 1) (.inl (cJ, 13, .inr (.inl (fun _ => 0))))) (x + 22) (.inr (3, [.ref ((x + 22) + 1), .int (-1)]))) ((x + 18) + 1) (.inl (cJ, 13, .inr (.inl (fun _ => 0))))) (x + 18) (.inr (3, [.ref ((x + 18) + 1), .int (-1)]))) ((x + 1 + 1 + 2 * j) + 1) (.inl (cJ, 13, .inr (.inl (fun _ => 0))))) (x + 1 + 1 + 2 * j) (.inr (3, [.ref ((x + 1 + 1 + 2 * j) + 1), .int (-1)]))) H locs := hz
    exact pw_iret hx hb hret hlocks hz ⟨rfl, (fun a ha => (va_up_ne _ _ (by omega)).trans ((va_up_ne _ _ (by omega)).trans ((va_up_ne _ _ (by omega)).trans ((va_up_ne _ _ (by omega)).trans ((va_up_ne _ _ (by omega)).trans ((va_up_ne _ _ (by omega)).trans ((va_up_ne _ _ (by omega)).trans (va_up_ne _ _ (by omega)))))))))⟩ dX6_common_118

set_option maxHeartbeats 400000 in
set_option maxRecDepth 100000 in
/-- parts on a fresh desk -/
theorem c_parts_ok (l : Launch) (D : va_G) (cJ cI cR : ClassId) (b n : Nat) (E : Nat → va_E) (sz : Nat) (x : Nat) (hx0 : b ≤ x ∧ x + 124 ≤ b + n) (hF : deskAt cJ cI cR x E) (j : Nat) (hj : j < 8) : Met l yX6_parts wsX6_parts { frames := 1, cells := 0, slots := 0, locals := 20 } (cP D vwCl (tys3 cJ cI cR) b n E sz [.ref x, .int (nI j)]) (cQi D vwCl (tys3 cJ cI cR) b n (fun v E' => v = -3 ∧ ∀ a, x + 124 ≤ a → E' a = E a)) 0 0 (PA b) := by
  refine Met.ofW (cc := cX6_parts) (maxL := 2) (ret := (some .int)) (by decide) rfl ?_
  intro p e s m args below meth c s₁ B hml hv
  obtain ⟨rfl, hsz, hB⟩ := hv
  have hx := B.exec
  have hb := B.bytes
  have hret := B.returns
  have hts := atoms_spec (ws := wsX6_parts) B.pre
  have hown : s.vm.findClass RX6 = some m.cls := findClass_of_methodNamed B.named
  have hlocks := B.notSynchronized
  subst hsz
  have hz := PS.start hB
  have hl := lv_entry ([.ref x, .int (nI j)]) (n := 2) (Nat.le_of_ble_eq_true rfl)
  rw [lg_entry_eq]
  generalize (lg_sl ([.ref x, .int (nI j)]) ++ List.replicate (2 - (lg_sl ([.ref x, .int (nI j)])).length) Slot.unset).toArray = ls at hl ⊢
  have hl : lv_has ls 2 [(0, .ref x), (1, .int (nI j))] := hl
  have hw0 : ∀ w ∈ u_ws RX6 TX6 9, w ∈ wsX6_parts := by decide +kernel
  have hw1 := hts (.fieldLink RX6 13 "GaloisDesk" "slots" "[LGaloisDesk$Row;") (by decide +kernel)
  have hw2 : ∀ w ∈ u_ws RX4 TX4 2, w ∈ wsX6_parts := by decide +kernel
  have hw3 := hts (.fieldLink RX6 75 "GaloisDesk$Row" "top" "I") (by decide +kernel)
  obtain ⟨hd, ⟨⟨g, hs, hg⟩, hrows⟩, hq, hle, hri, ht, hpd, hfa⟩ := hF
  refine lv_iload_n hx hb dX6_parts_0 rfl (lv_at hl 1 rfl) ?_
  refine pw_callv hz (va_runS (As := [.int (nI j)]) (rest := []) ⟨hx, hb, hml, hown, hts⟩ (c_checkSlot_ok l D cJ cI cR b n _ _ ((nI j)) (nI_okS hj)) (va_cwS 1 hts gX6_parts_X6_checkSlot rfl rfl rfl (by decide +kernel) ⟨Nat.le_of_ble_eq_true rfl, Nat.le_of_ble_eq_true rfl⟩) hz.preS rfl rfl hl.1 rfl (lv_room (Nat.le_of_ble_eq_true rfl)) dX6_parts_1 ⟨Nat.le_of_ble_eq_true rfl, Nat.le_of_ble_eq_true rfl⟩) (fun Ev H locs hp hz => ?_)
  rw [hp] at hz
  refine lv_aload_n hx hb dX6_parts_4 rfl (lv_at hl 0 rfl) ?_
  refine pw_get (C := RX6) (T := TX6) (N := 9) (ci := 5) (v := .ref (x + 1)) hx hb hts hw0 hown hz (by omega) hd rfl 0 (by decide) hw1 (fun _ h9 => h9) rfl dX6_parts_5 ?_
  refine lv_iload_n hx hb dX6_parts_8 rfl (lv_at hl 1 rfl) ?_
  refine pw_aldq (v := (x + 1 + 1 + 2 * j)) hx hb hz (by omega) hs 2 rfl (vp_in_nI hj (by decide)) (by rw [nI_clamp (by omega)]; exact hg j hj) dX6_parts_9 ?_
  refine pw_get (C := RX4) (T := TX4) (N := 2) (ci := 3) (v := .int (-1)) hx hb hts hw2 hown hz (by omega) (hrows j hj).1 rfl 1 (by decide) hw3 (fun _ h9 => h9) rfl dX6_parts_10 ?_
  refine lv_if_ge (tgt := 19) hx hb dX6_parts_13 (by decide) (fun q => ?_) (fun _ => ?_)
  · skip
    exact absurd q (by decide)
  · skip
    refine lv_bipush (v := (-3)) hx hb dX6_parts_16 (by decide) ?_
    exact pw_iret hx hb hret hlocks hz ⟨rfl, (fun a ha => rfl)⟩ dX6_parts_18

set_option maxHeartbeats 400000 in
set_option maxRecDepth 100000 in
/-- galois on a fresh desk -/
theorem c_galois_ok (l : Launch) (D : va_G) (cJ cI cR : ClassId) (b n : Nat) (E : Nat → va_E) (sz : Nat) (x : Nat) (hx0 : b ≤ x ∧ x + 124 ≤ b + n) (hF : deskAt cJ cI cR x E) (j : Nat) (hj : j < 8) : Met l yX6_galois wsX6_galois { frames := 1, cells := 0, slots := 0, locals := 20 } (cP D vwCl (tys3 cJ cI cR) b n E sz [.ref x, .int (nI j)]) (cQi D vwCl (tys3 cJ cI cR) b n (fun v E' => v = 0 ∧ ∀ a, x + 124 ≤ a → E' a = E a)) 0 0 (PA b) := by
  refine Met.ofW (cc := cX6_galois) (maxL := 3) (ret := (some .int)) (by decide) rfl ?_
  intro p e s m args below meth c s₁ B hml hv
  obtain ⟨rfl, hsz, hB⟩ := hv
  have hx := B.exec
  have hb := B.bytes
  have hret := B.returns
  have hts := atoms_spec (ws := wsX6_galois) B.pre
  have hown : s.vm.findClass RX6 = some m.cls := findClass_of_methodNamed B.named
  have hlocks := B.notSynchronized
  subst hsz
  have hz := PS.start hB
  have hl := lv_entry ([.ref x, .int (nI j)]) (n := 3) (Nat.le_of_ble_eq_true rfl)
  rw [lg_entry_eq]
  generalize (lg_sl ([.ref x, .int (nI j)]) ++ List.replicate (3 - (lg_sl ([.ref x, .int (nI j)])).length) Slot.unset).toArray = ls at hl ⊢
  have hl : lv_has ls 3 [(0, .ref x), (1, .int (nI j))] := hl
  have hw0 : ∀ w ∈ u_ws RX6 TX6 9, w ∈ wsX6_galois := by decide +kernel
  have hw1 := hts (.fieldLink RX6 13 "GaloisDesk" "slots" "[LGaloisDesk$Row;") (by decide +kernel)
  have hw2 : ∀ w ∈ u_ws RX4 TX4 2, w ∈ wsX6_galois := by decide +kernel
  have hw3 := hts (.fieldLink RX6 75 "GaloisDesk$Row" "top" "I") (by decide +kernel)
  obtain ⟨hd, ⟨⟨g, hs, hg⟩, hrows⟩, hq, hle, hri, ht, hpd, hfa⟩ := hF
  refine lv_iload_n hx hb dX6_galois_0 rfl (lv_at hl 1 rfl) ?_
  refine pw_callv hz (va_runS (As := [.int (nI j)]) (rest := []) ⟨hx, hb, hml, hown, hts⟩ (c_checkSlot_ok l D cJ cI cR b n _ _ ((nI j)) (nI_okS hj)) (va_cwS 1 hts gX6_galois_X6_checkSlot rfl rfl rfl (by decide +kernel) ⟨Nat.le_of_ble_eq_true rfl, Nat.le_of_ble_eq_true rfl⟩) hz.preS rfl rfl hl.1 rfl (lv_room (Nat.le_of_ble_eq_true rfl)) dX6_galois_1 ⟨Nat.le_of_ble_eq_true rfl, Nat.le_of_ble_eq_true rfl⟩) (fun Ev H locs hp hz => ?_)
  rw [hp] at hz
  refine lv_aload_n hx hb dX6_galois_4 rfl (lv_at hl 0 rfl) ?_
  refine pw_get (C := RX6) (T := TX6) (N := 9) (ci := 5) (v := .ref (x + 1)) hx hb hts hw0 hown hz (by omega) hd rfl 0 (by decide) hw1 (fun _ h9 => h9) rfl dX6_galois_5 ?_
  refine lv_iload_n hx hb dX6_galois_8 rfl (lv_at hl 1 rfl) ?_
  refine pw_aldq (v := (x + 1 + 1 + 2 * j)) hx hb hz (by omega) hs 2 rfl (vp_in_nI hj (by decide)) (by rw [nI_clamp (by omega)]; exact hg j hj) dX6_galois_9 ?_
  refine pw_get (C := RX4) (T := TX4) (N := 2) (ci := 3) (v := .int (-1)) hx hb hts hw2 hown hz (by omega) (hrows j hj).1 rfl 1 (by decide) hw3 (fun _ h9 => h9) rfl dX6_galois_10 ?_
  refine lv_istore_n (lv' := [(2, .int (-1)), (0, .ref x), (1, .int (nI j))]) hx hb dX6_galois_13 rfl hl (by decide) rfl (fun ls hl => ?_)
  refine lv_iload_n hx hb dX6_galois_14 rfl (lv_at hl 0 rfl) ?_
  refine lv_iconst (v := 1) hx hb dX6_galois_15 (by decide) ?_
  refine lv_icmp_lt (tgt := 24) hx hb dX6_galois_16 (by decide) (fun _ => ?_) (fun q => ?_)
  · skip
    refine lv_iconst (v := 0) hx hb dX6_galois_24 (by decide) ?_
    exact pw_iret hx hb hret hlocks hz ⟨rfl, (fun a ha => rfl)⟩ dX6_galois_25
  · skip
    exact absurd (by decide) q

set_option maxHeartbeats 400000 in
set_option maxRecDepth 100000 in
/-- pattern on a fresh desk -/
theorem c_pattern_ok (l : Launch) (D : va_G) (cJ cI cR : ClassId) (b n : Nat) (E : Nat → va_E) (sz : Nat) (x : Nat) (hx0 : b ≤ x ∧ x + 124 ≤ b + n) (hF : deskAt cJ cI cR x E) (j : Nat) (hj : j < 8) (p0 : Int32) (hpP : okP p0) : Met l yX6_pattern wsX6_pattern { frames := 1, cells := 0, slots := 0, locals := 21 } (cP D vwCl (tys3 cJ cI cR) b n E sz [.ref x, .int (nI j), .int p0]) (cQi D vwCl (tys3 cJ cI cR) b n (fun v E' => v = -3 ∧ ∀ a, x + 124 ≤ a → E' a = E a)) 0 0 (PA b) := by
  refine Met.ofW (cc := cX6_pattern) (maxL := 3) (ret := (some .int)) (by decide) rfl ?_
  intro p e s m args below meth c s₁ B hml hv
  obtain ⟨rfl, hsz, hB⟩ := hv
  have hx := B.exec
  have hb := B.bytes
  have hret := B.returns
  have hts := atoms_spec (ws := wsX6_pattern) B.pre
  have hown : s.vm.findClass RX6 = some m.cls := findClass_of_methodNamed B.named
  have hlocks := B.notSynchronized
  subst hsz
  have hz := PS.start hB
  have hl := lv_entry ([.ref x, .int (nI j), .int p0]) (n := 3) (Nat.le_of_ble_eq_true rfl)
  rw [lg_entry_eq]
  generalize (lg_sl ([.ref x, .int (nI j), .int p0]) ++ List.replicate (3 - (lg_sl ([.ref x, .int (nI j), .int p0])).length) Slot.unset).toArray = ls at hl ⊢
  have hl : lv_has ls 3 [(0, .ref x), (1, .int (nI j)), (2, .int p0)] := hl
  have hw0 : ∀ w ∈ u_ws RX6 TX6 9, w ∈ wsX6_pattern := by decide +kernel
  have hw1 := hts (.fieldLink RX6 41 "GaloisDesk" "patternCount" "I") (by decide +kernel)
  have hw2 := hts (.fieldLink RX6 13 "GaloisDesk" "slots" "[LGaloisDesk$Row;") (by decide +kernel)
  have hw3 : ∀ w ∈ u_ws RX4 TX4 2, w ∈ wsX6_pattern := by decide +kernel
  have hw4 := hts (.fieldLink RX6 75 "GaloisDesk$Row" "top" "I") (by decide +kernel)
  obtain ⟨hd, ⟨⟨g, hs, hg⟩, hrows⟩, hq, hle, hri, ht, hpd, hfa⟩ := hF
  refine lv_iload_n hx hb dX6_pattern_0 rfl (lv_at hl 1 rfl) ?_
  refine pw_callv hz (va_runS (As := [.int (nI j)]) (rest := []) ⟨hx, hb, hml, hown, hts⟩ (c_checkSlot_ok l D cJ cI cR b n _ _ ((nI j)) (nI_okS hj)) (va_cwS 1 hts gX6_pattern_X6_checkSlot rfl rfl rfl (by decide +kernel) ⟨Nat.le_of_ble_eq_true rfl, Nat.le_of_ble_eq_true rfl⟩) hz.preS rfl rfl hl.1 rfl (lv_room (Nat.le_of_ble_eq_true rfl)) dX6_pattern_1 ⟨Nat.le_of_ble_eq_true rfl, Nat.le_of_ble_eq_true rfl⟩) (fun Ev H locs hp hz => ?_)
  rw [hp] at hz
  refine lv_iload_n hx hb dX6_pattern_4 rfl (lv_at hl 2 rfl) ?_
  refine pw_callv hz (va_runS (As := [.int p0]) (rest := []) ⟨hx, hb, hml, hown, hts⟩ (c_checkPrime_ok l D cJ cI cR b n _ _ (p0) hpP) (va_cwS 1 hts gX6_pattern_X6_checkPrime rfl rfl rfl (by decide +kernel) ⟨Nat.le_of_ble_eq_true rfl, Nat.le_of_ble_eq_true rfl⟩) hz.preS rfl rfl hl.1 rfl (lv_room (Nat.le_of_ble_eq_true rfl)) dX6_pattern_5 ⟨Nat.le_of_ble_eq_true rfl, Nat.le_of_ble_eq_true rfl⟩) (fun Ev H locs hp hz => ?_)
  rw [hp] at hz
  refine lv_aload_n hx hb dX6_pattern_8 rfl (lv_at hl 0 rfl) ?_
  refine lv_iconst (v := 0) hx hb dX6_pattern_9 (by decide) ?_
  refine pw_put (C := RX6) (T := TX6) (N := 9) (ci := 5) (ty := .int) (v := .int 0) hx hb hts hw0 tyX6 tyX6_ok nmX6 hown hz (by omega) hd rfl 6 (by decide) hw1 (fun _ h9 => h9) rfl (by decide +kernel) rfl rfl (Nat.le_of_ble_eq_true rfl) dX6_pattern_10 (fun H locs hz => ?_)
  have hz : PS D vwCl (tys3 cJ cI cR) b n s (va_up E x (.inr (5, [.ref (x + 1), .ref (x + 18), .ref (x + 20), .ref (x + 22), .ref (x + 24), .ref (x + 39), .int 0, .ref (x + 40), .ref (x + 41)]))) H locs := hz
  refine lv_aload_n hx hb dX6_pattern_13 rfl (lv_at hl 0 rfl) ?_
  refine pw_get (C := RX6) (T := TX6) (N := 9) (ci := 5) (v := .ref (x + 1)) hx hb hts hw0 hown hz (by omega) (va_up_self _ _ _) rfl 0 (by decide) hw2 (fun _ h9 => h9) rfl dX6_pattern_14 ?_
  refine lv_iload_n hx hb dX6_pattern_17 rfl (lv_at hl 1 rfl) ?_
  refine pw_aldq (v := (x + 1 + 1 + 2 * j)) hx hb hz (by omega) ((va_up_ne _ _ (by omega)).trans hs) 2 rfl (vp_in_nI hj (by decide)) (by rw [nI_clamp (by omega)]; exact hg j hj) dX6_pattern_18 ?_
  refine pw_get (C := RX4) (T := TX4) (N := 2) (ci := 3) (v := .int (-1)) hx hb hts hw3 hown hz (by omega) ((va_up_ne _ _ (by omega)).trans (hrows j hj).1) rfl 1 (by decide) hw4 (fun _ h9 => h9) rfl dX6_pattern_19 ?_
  refine lv_iconst (v := 1) hx hb dX6_pattern_22 (by decide) ?_
  refine lv_icmp_ge (tgt := 29) hx hb dX6_pattern_23 (by decide) (fun q => ?_) (fun _ => ?_)
  · skip
    exact absurd q (by decide)
  · skip
    refine lv_bipush (v := (-3)) hx hb dX6_pattern_26 (by decide) ?_
    exact pw_iret hx hb hret hlocks hz ⟨rfl, (fun a ha => va_up_ne _ _ (by omega))⟩ dX6_pattern_28

set_option maxHeartbeats 400000 in
set_option maxRecDepth 100000 in
/-- holds of an empty list -/
theorem c_holds_0 (l : Launch) (D : va_G) (cJ cI cR : ClassId) (b n : Nat) (E : Nat → va_E) (sz : Nat) (a : Nat) (r1 r2 nm : Value) (i : Int32) (ha : b ≤ a ∧ a < b + n) (h1 : E a = .inr (1, [r1, r2, .int 0, nm])) : Met l yX2_holds wsX2_holds { frames := 0, cells := 0, slots := 0, locals := 0 } (cP D vwCl (tys3 cJ cI cR) b n E sz [.ref a, .int i]) (cQi D vwCl (tys3 cJ cI cR) b n (fun v E' => v = 0 ∧ E' = E)) 0 0 (PA b) := by
  refine Met.ofW (cc := cX2_holds) (maxL := 2) (ret := (some .boolean)) (by decide) rfl ?_
  intro p e s m args below meth c s₁ B hml hv
  obtain ⟨rfl, hsz, hB⟩ := hv
  have hx := B.exec
  have hb := B.bytes
  have hret := B.returns
  have hts := atoms_spec (ws := wsX2_holds) B.pre
  have hown : s.vm.findClass RX2 = some m.cls := findClass_of_methodNamed B.named
  have hlocks := B.notSynchronized
  subst hsz
  have hz := PS.start hB
  have hl := lv_entry ([.ref a, .int i]) (n := 2) (Nat.le_of_ble_eq_true rfl)
  rw [lg_entry_eq]
  generalize (lg_sl ([.ref a, .int i]) ++ List.replicate (2 - (lg_sl ([.ref a, .int i])).length) Slot.unset).toArray = ls at hl ⊢
  have hl : lv_has ls 2 [(0, .ref a), (1, .int i)] := hl
  have hw0 : ∀ w ∈ u_ws RX2 TX2 4, w ∈ wsX2_holds := by decide +kernel
  have hw1 := hts (.fieldLink RX2 23 "GaloisDesk$PartList" "count" "I") (by decide +kernel)
  refine lv_iload_n hx hb dX2_holds_0 rfl (lv_at hl 1 rfl) ?_
  refine lv_if_lt (tgt := 16) hx hb dX2_holds_1 (by decide) (fun q1 => ?_) (fun q1 => ?_)
  · skip
    refine lv_iconst (v := 0) hx hb dX2_holds_16 (by decide) ?_
    exact pw_zret hx hb hret hlocks (Or.inl rfl) hz ⟨rfl, rfl⟩ dX2_holds_17
  · skip
    refine lv_iload_n hx hb dX2_holds_4 rfl (lv_at hl 1 rfl) ?_
    refine lv_aload_n hx hb dX2_holds_5 rfl (lv_at hl 0 rfl) ?_
    refine pw_get (C := RX2) (T := TX2) (N := 4) (ci := 1) (v := .int 0) hx hb hts hw0 hown hz (by omega) h1 rfl 2 (by decide) hw1 (fun _ h9 => h9) rfl dX2_holds_6 ?_
    refine lv_icmp_ge (tgt := 16) hx hb dX2_holds_9 (by decide) (fun q2 => ?_) (fun q2 => ?_)
    · skip
      refine lv_iconst (v := 0) hx hb dX2_holds_16 (by decide) ?_
      exact pw_zret hx hb hret hlocks (Or.inl rfl) hz ⟨rfl, rfl⟩ dX2_holds_17
    · skip
      exact absurd (by rcases Int32.lt_or_le i 0 with h | h; exact absurd h q1; exact h) q2

set_option maxHeartbeats 400000 in
set_option maxRecDepth 100000 in
/-- part on a fresh desk -/
theorem c_part_ok (l : Launch) (D : va_G) (cJ cI cR : ClassId) (b n : Nat) (E : Nat → va_E) (sz : Nat) (x : Nat) (hx0 : b ≤ x ∧ x + 124 ≤ b + n) (hF : deskAt cJ cI cR x E) (i k : Int32) : Met l yX6_part wsX6_part { frames := 1, cells := 0, slots := 0, locals := 21 } (cP D vwCl (tys3 cJ cI cR) b n E sz [.ref x, .int i, .int k]) (cQl D vwCl (tys3 cJ cI cR) b n (fun v E' => v = 0 ∧ ∀ a, x + 124 ≤ a → E' a = E a)) 0 0 (PA b) := by
  refine Met.ofW (cc := cX6_part) (maxL := 3) (ret := (some .long)) (by decide) rfl ?_
  intro p e s m args below meth c s₁ B hml hv
  obtain ⟨rfl, hsz, hB⟩ := hv
  have hx := B.exec
  have hb := B.bytes
  have hret := B.returns
  have hts := atoms_spec (ws := wsX6_part) B.pre
  have hown : s.vm.findClass RX6 = some m.cls := findClass_of_methodNamed B.named
  have hlocks := B.notSynchronized
  subst hsz
  have hz := PS.start hB
  have hl := lv_entry ([.ref x, .int i, .int k]) (n := 3) (Nat.le_of_ble_eq_true rfl)
  rw [lg_entry_eq]
  generalize (lg_sl ([.ref x, .int i, .int k]) ++ List.replicate (3 - (lg_sl ([.ref x, .int i, .int k])).length) Slot.unset).toArray = ls at hl ⊢
  have hl : lv_has ls 3 [(0, .ref x), (1, .int i), (2, .int k)] := hl
  have hw0 : ∀ w ∈ u_ws RX6 TX6 9, w ∈ wsX6_part := by decide +kernel
  have hw1 := hts (.fieldLink RX6 33 "GaloisDesk" "told" "LGaloisDesk$PartList;") (by decide +kernel)
  obtain ⟨hd, ⟨⟨g, hs, hg⟩, hrows⟩, hq, hle, hri, ht, hpd, hfa⟩ := hF
  refine lv_aload_n hx hb dX6_part_0 rfl (lv_at hl 0 rfl) ?_
  refine pw_get (C := RX6) (T := TX6) (N := 9) (ci := 5) (v := .ref (x + 24)) hx hb hts hw0 hown hz (by omega) hd rfl 4 (by decide) hw1 (fun _ h9 => h9) rfl dX6_part_1 ?_
  refine lv_iload_n hx hb dX6_part_4 rfl (lv_at hl 1 rfl) ?_
  refine pw_calli hz (va_runV (As := [.int i]) (rest := []) ⟨hx, hb, hml, hown, hts⟩ (c_holds_0 l D cJ cI cR b n _ _ (x + 24) _ _ _ i (by omega) ht.1) (cwV 1 hts gX6_part_X2_holds rfl rfl rfl (by decide +kernel) ⟨Nat.le_of_ble_eq_true rfl, Nat.le_of_ble_eq_true rfl⟩) (hz.preV (by omega) ht.1 rfl) rfl rfl hl.1 rfl (lv_room (Nat.le_of_ble_eq_true rfl)) dX6_part_5 ⟨Nat.le_of_ble_eq_true rfl, Nat.le_of_ble_eq_true rfl⟩) (fun r_1 Ev H locs hp hz => ?_)
  obtain ⟨hr_1, hp⟩ := hp
  subst hr_1
  rw [hp] at hz
  refine lv_if_eq (tgt := 27) hx hb dX6_part_8 (by decide) (fun _ => ?_) (fun q => ?_)
  · skip
    refine lv_lconst (v := 0) hx hb dX6_part_27 (by decide) ?_
    exact pw_lret hx hb hret hlocks hz ⟨rfl, (fun a ha => rfl)⟩ dX6_part_28
  · skip
    exact absurd rfl q

set_option maxHeartbeats 400000 in
set_option maxRecDepth 100000 in
/-- times on a fresh desk -/
theorem c_times_ok (l : Launch) (D : va_G) (cJ cI cR : ClassId) (b n : Nat) (E : Nat → va_E) (sz : Nat) (x : Nat) (hx0 : b ≤ x ∧ x + 124 ≤ b + n) (hF : deskAt cJ cI cR x E) (i : Int32) : Met l yX6_times wsX6_times { frames := 1, cells := 0, slots := 0, locals := 21 } (cP D vwCl (tys3 cJ cI cR) b n E sz [.ref x, .int i]) (cQi D vwCl (tys3 cJ cI cR) b n (fun v E' => v = 0 ∧ ∀ a, x + 124 ≤ a → E' a = E a)) 0 0 (PA b) := by
  refine Met.ofW (cc := cX6_times) (maxL := 2) (ret := (some .int)) (by decide) rfl ?_
  intro p e s m args below meth c s₁ B hml hv
  obtain ⟨rfl, hsz, hB⟩ := hv
  have hx := B.exec
  have hb := B.bytes
  have hret := B.returns
  have hts := atoms_spec (ws := wsX6_times) B.pre
  have hown : s.vm.findClass RX6 = some m.cls := findClass_of_methodNamed B.named
  have hlocks := B.notSynchronized
  subst hsz
  have hz := PS.start hB
  have hl := lv_entry ([.ref x, .int i]) (n := 2) (Nat.le_of_ble_eq_true rfl)
  rw [lg_entry_eq]
  generalize (lg_sl ([.ref x, .int i]) ++ List.replicate (2 - (lg_sl ([.ref x, .int i])).length) Slot.unset).toArray = ls at hl ⊢
  have hl : lv_has ls 2 [(0, .ref x), (1, .int i)] := hl
  have hw0 : ∀ w ∈ u_ws RX6 TX6 9, w ∈ wsX6_times := by decide +kernel
  have hw1 := hts (.fieldLink RX6 33 "GaloisDesk" "told" "LGaloisDesk$PartList;") (by decide +kernel)
  obtain ⟨hd, ⟨⟨g, hs, hg⟩, hrows⟩, hq, hle, hri, ht, hpd, hfa⟩ := hF
  refine lv_aload_n hx hb dX6_times_0 rfl (lv_at hl 0 rfl) ?_
  refine pw_get (C := RX6) (T := TX6) (N := 9) (ci := 5) (v := .ref (x + 24)) hx hb hts hw0 hown hz (by omega) hd rfl 4 (by decide) hw1 (fun _ h9 => h9) rfl dX6_times_1 ?_
  refine lv_iload_n hx hb dX6_times_4 rfl (lv_at hl 1 rfl) ?_
  refine pw_calli hz (va_runV (As := [.int i]) (rest := []) ⟨hx, hb, hml, hown, hts⟩ (c_holds_0 l D cJ cI cR b n _ _ (x + 24) _ _ _ i (by omega) ht.1) (cwV 1 hts gX6_times_X2_holds rfl rfl rfl (by decide +kernel) ⟨Nat.le_of_ble_eq_true rfl, Nat.le_of_ble_eq_true rfl⟩) (hz.preV (by omega) ht.1 rfl) rfl rfl hl.1 rfl (lv_room (Nat.le_of_ble_eq_true rfl)) dX6_times_5 ⟨Nat.le_of_ble_eq_true rfl, Nat.le_of_ble_eq_true rfl⟩) (fun r_1 Ev H locs hp hz => ?_)
  obtain ⟨hr_1, hp⟩ := hp
  subst hr_1
  rw [hp] at hz
  refine lv_if_eq (tgt := 23) hx hb dX6_times_8 (by decide) (fun _ => ?_) (fun q => ?_)
  · skip
    refine lv_iconst (v := 0) hx hb dX6_times_23 (by decide) ?_
    exact pw_iret hx hb hret hlocks hz ⟨rfl, (fun a ha => rfl)⟩ dX6_times_24
  · skip
    exact absurd rfl q

set_option maxHeartbeats 400000 in
set_option maxRecDepth 100000 in
/-- content on a fresh desk -/
theorem c_content_ok (l : Launch) (D : va_G) (cJ cI cR : ClassId) (b n : Nat) (E : Nat → va_E) (sz : Nat) (x : Nat) (hx0 : b ≤ x ∧ x + 124 ≤ b + n) (hF : deskAt cJ cI cR x E)  : Met l yX6_content wsX6_content { frames := 0, cells := 0, slots := 0, locals := 0 } (cP D vwCl (tys3 cJ cI cR) b n E sz [.ref x]) (cQi D vwCl (tys3 cJ cI cR) b n (fun v E' => v = 0 ∧ ∀ a, x + 124 ≤ a → E' a = E a)) 0 0 (PA b) := by
  refine Met.ofW (cc := cX6_content) (maxL := 1) (ret := (some .int)) (by decide) rfl ?_
  intro p e s m args below meth c s₁ B hml hv
  obtain ⟨rfl, hsz, hB⟩ := hv
  have hx := B.exec
  have hb := B.bytes
  have hret := B.returns
  have hts := atoms_spec (ws := wsX6_content) B.pre
  have hown : s.vm.findClass RX6 = some m.cls := findClass_of_methodNamed B.named
  have hlocks := B.notSynchronized
  subst hsz
  have hz := PS.start hB
  have hl := lv_entry ([.ref x]) (n := 1) (Nat.le_of_ble_eq_true rfl)
  rw [lg_entry_eq]
  generalize (lg_sl ([.ref x]) ++ List.replicate (1 - (lg_sl ([.ref x])).length) Slot.unset).toArray = ls at hl ⊢
  have hl : lv_has ls 1 [(0, .ref x)] := hl
  have hw0 : ∀ w ∈ u_ws RX6 TX6 9, w ∈ wsX6_content := by decide +kernel
  have hw1 := hts (.fieldLink RX6 33 "GaloisDesk" "told" "LGaloisDesk$PartList;") (by decide +kernel)
  have hw2 : ∀ w ∈ u_ws RX2 TX2 4, w ∈ wsX6_content := by decide +kernel
  have hw3 := hts (.fieldLink RX6 138 "GaloisDesk$PartList" "number" "I") (by decide +kernel)
  obtain ⟨hd, ⟨⟨g, hs, hg⟩, hrows⟩, hq, hle, hri, ht, hpd, hfa⟩ := hF
  refine lv_aload_n hx hb dX6_content_0 rfl (lv_at hl 0 rfl) ?_
  refine pw_get (C := RX6) (T := TX6) (N := 9) (ci := 5) (v := .ref (x + 24)) hx hb hts hw0 hown hz (by omega) hd rfl 4 (by decide) hw1 (fun _ h9 => h9) rfl dX6_content_1 ?_
  refine pw_get (C := RX2) (T := TX2) (N := 4) (ci := 1) (v := .int 0) hx hb hts hw2 hown hz (by omega) ht.1 rfl 3 (by decide) hw3 (fun _ h9 => h9) rfl dX6_content_4 ?_
  exact pw_iret hx hb hret hlocks hz ⟨rfl, (fun a ha => rfl)⟩ dX6_content_7

set_option maxHeartbeats 400000 in
set_option maxRecDepth 100000 in
/-- degree on a fresh desk -/
theorem c_degree_ok (l : Launch) (D : va_G) (cJ cI cR : ClassId) (b n : Nat) (E : Nat → va_E) (sz : Nat) (x : Nat) (hx0 : b ≤ x ∧ x + 124 ≤ b + n) (hF : deskAt cJ cI cR x E) (i : Int32) : Met l yX6_degree wsX6_degree { frames := 0, cells := 0, slots := 0, locals := 0 } (cP D vwCl (tys3 cJ cI cR) b n E sz [.ref x, .int i]) (cQi D vwCl (tys3 cJ cI cR) b n (fun v E' => v = 0 ∧ ∀ a, x + 124 ≤ a → E' a = E a)) 0 0 (PA b) := by
  refine Met.ofW (cc := cX6_degree) (maxL := 2) (ret := (some .int)) (by decide) rfl ?_
  intro p e s m args below meth c s₁ B hml hv
  obtain ⟨rfl, hsz, hB⟩ := hv
  have hx := B.exec
  have hb := B.bytes
  have hret := B.returns
  have hts := atoms_spec (ws := wsX6_degree) B.pre
  have hown : s.vm.findClass RX6 = some m.cls := findClass_of_methodNamed B.named
  have hlocks := B.notSynchronized
  subst hsz
  have hz := PS.start hB
  have hl := lv_entry ([.ref x, .int i]) (n := 2) (Nat.le_of_ble_eq_true rfl)
  rw [lg_entry_eq]
  generalize (lg_sl ([.ref x, .int i]) ++ List.replicate (2 - (lg_sl ([.ref x, .int i])).length) Slot.unset).toArray = ls at hl ⊢
  have hl : lv_has ls 2 [(0, .ref x), (1, .int i)] := hl
  have hw0 : ∀ w ∈ u_ws RX6 TX6 9, w ∈ wsX6_degree := by decide +kernel
  have hw1 := hts (.fieldLink RX6 41 "GaloisDesk" "patternCount" "I") (by decide +kernel)
  obtain ⟨hd, ⟨⟨g, hs, hg⟩, hrows⟩, hq, hle, hri, ht, hpd, hfa⟩ := hF
  refine lv_iload_n hx hb dX6_degree_0 rfl (lv_at hl 1 rfl) ?_
  refine lv_if_lt (tgt := 12) hx hb dX6_degree_1 (by decide) (fun q1 => ?_) (fun q1 => ?_)
  · skip
    refine lv_iconst (v := 0) hx hb dX6_degree_12 (by decide) ?_
    refine lv_goto (tgt := 22) hx hb dX6_degree_13 (by decide) ?_
    exact pw_iret hx hb hret hlocks hz ⟨rfl, (fun a ha => rfl)⟩ dX6_degree_22
  · skip
    refine lv_iload_n hx hb dX6_degree_4 rfl (lv_at hl 1 rfl) ?_
    refine lv_aload_n hx hb dX6_degree_5 rfl (lv_at hl 0 rfl) ?_
    refine pw_get (C := RX6) (T := TX6) (N := 9) (ci := 5) (v := .int 0) hx hb hts hw0 hown hz (by omega) hd rfl 6 (by decide) hw1 (fun _ h9 => h9) rfl dX6_degree_6 ?_
    refine lv_icmp_lt (tgt := 16) hx hb dX6_degree_9 (by decide) (fun q2 => ?_) (fun q2 => ?_)
    · skip
      exact absurd q2 q1
    · skip
      refine lv_iconst (v := 0) hx hb dX6_degree_12 (by decide) ?_
      refine lv_goto (tgt := 22) hx hb dX6_degree_13 (by decide) ?_
      exact pw_iret hx hb hret hlocks hz ⟨rfl, (fun a ha => rfl)⟩ dX6_degree_22
