set_option maxHeartbeats 400000 in
set_option maxRecDepth 100000 in
/-- set throws -/
theorem c_set_no (l : Launch) (hst : l.stackTraces = false) (D : va_G) (cJ cI cR : ClassId) (b n : Nat) (E : Nat → va_E) (sz : Nat) (x : Nat) (a0 : Int32) (a1 : Int32) (a2 : Int32) (h : ¬ (oS a0 ∧ oK a1 ∧ oW a2 300)) : vx_Met l yX6_set wsX6_set { frames := 7, cells := 1, slots := 6, locals := 103 } (cP D vwCl (tys3 cJ cI cR) b n E sz [.ref x, .int a0, .int a1, .int a2]) (cQi D vwCl (tys3 cJ cI cR) b n (fun _ _ => False)) (cX D vwCl b n (fun E' => E' = E)) 1 6 (PA b) := by
  refine vx_ofW (cc := cX6_set) (maxL := 4) (ret := (some .int)) (by decide) rfl ?_
  intro p e s m args below meth c s₁ B hml hnt hv
  obtain ⟨rfl, hsz, hB⟩ := hv
  have hx := B.exec
  have hb := B.bytes
  have hret := B.returns
  have hts := atoms_spec (ws := wsX6_set) B.pre
  have hown : s.vm.findClass RX6 = some m.cls := findClass_of_methodNamed B.named
  have hlocks := B.notSynchronized
  subst hsz
  have hz := PS.start hB
  have hl := lv_entry ([.ref x, .int a0, .int a1, .int a2]) (n := 4) (Nat.le_of_ble_eq_true rfl)
  rw [lg_entry_eq]
  generalize (lg_sl ([.ref x, .int a0, .int a1, .int a2]) ++ List.replicate (4 - (lg_sl ([.ref x, .int a0, .int a1, .int a2])).length) Slot.unset).toArray = ls at hl ⊢
  have hl : lv_has ls 4 [(0, .ref x), (1, .int a0), (2, .int a1), (3, .int a2)] := hl
  refine lv_iload_n hx hb dX6_set_0 rfl (lv_at hl 1 rfl) ?_
  by_cases k1 : oS (a0)
  · skip
    refine pw_callv hz (va_runS (As := [.int a0]) (rest := []) ⟨hx, hb, hml, hown, hts⟩ (c_checkSlot_ok l D cJ cI cR b n _ _ (a0) k1) (va_cwS 1 hts gX6_set_X6_checkSlot rfl rfl rfl (by decide +kernel) ⟨Nat.le_of_ble_eq_true rfl, Nat.le_of_ble_eq_true rfl⟩) hz.preS rfl rfl hl.1 rfl (lv_room (Nat.le_of_ble_eq_true rfl)) dX6_set_1 ⟨Nat.le_of_ble_eq_true rfl, Nat.le_of_ble_eq_true rfl⟩) (fun Ev H locs hp hz => ?_)
    rw [hp] at hz
    refine lv_iload_n hx hb dX6_set_4 rfl (lv_at hl 2 rfl) ?_
    by_cases k2 : oK (a1)
    · skip
      refine pw_callv hz (va_runS (As := [.int a1]) (rest := []) ⟨hx, hb, hml, hown, hts⟩ (c_checkPlace_ok l D cJ cI cR b n _ _ (a1) k2) (va_cwS 1 hts gX6_set_X6_checkPlace rfl rfl rfl (by decide +kernel) ⟨Nat.le_of_ble_eq_true rfl, Nat.le_of_ble_eq_true rfl⟩) hz.preS rfl rfl hl.1 rfl (lv_room (Nat.le_of_ble_eq_true rfl)) dX6_set_5 ⟨Nat.le_of_ble_eq_true rfl, Nat.le_of_ble_eq_true rfl⟩) (fun Ev H locs hp hz => ?_)
      rw [hp] at hz
      refine lv_iload_n hx hb dX6_set_8 rfl (lv_at hl 3 rfl) ?_
      refine lv_sipush (v := 300) hx hb dX6_set_9 (by decide) ?_
      by_cases k3 : oW (a2) (300)
      · skip
        refine pw_callv hz (va_runS (As := [.int a2, .int 300]) (rest := []) ⟨hx, hb, hml, hown, hts⟩ (c_checkWithin_ok l D cJ cI cR b n _ _ (a2) (300) k3) (va_cwS 2 hts gX6_set_X6_checkWithin rfl rfl rfl (by decide +kernel) ⟨Nat.le_of_ble_eq_true rfl, Nat.le_of_ble_eq_true rfl⟩) hz.preS rfl rfl hl.1 rfl (lv_room (Nat.le_of_ble_eq_true rfl)) dX6_set_12 ⟨Nat.le_of_ble_eq_true rfl, Nat.le_of_ble_eq_true rfl⟩) (fun Ev H locs hp hz => ?_)
        rw [hp] at hz
        exact (h ⟨k1, k2, k3⟩).elim
      · skip
        exact pw_xcall hz hnt hlocks rfl (Nat.le_of_ble_eq_true rfl) (Nat.le_of_ble_eq_true rfl) (vx_runS (As := [.int a2, .int 300]) (rest := []) ⟨hx, hb, hml, hown, hts⟩ (c_checkWithin_no l hst D cJ cI cR b n _ _ (a2) (300) k3) (va_cwS 2 hts gX6_set_X6_checkWithin rfl rfl rfl (by decide +kernel) ⟨Nat.le_of_ble_eq_true rfl, Nat.le_of_ble_eq_true rfl⟩) hz.preS rfl rfl hl.1 rfl (lv_room (Nat.le_of_ble_eq_true rfl)) dX6_set_12 ⟨Nat.le_of_ble_eq_true rfl, Nat.le_of_ble_eq_true rfl⟩)
    · skip
      exact pw_xcall hz hnt hlocks rfl (Nat.le_of_ble_eq_true rfl) (Nat.le_of_ble_eq_true rfl) (vx_runS (As := [.int a1]) (rest := []) ⟨hx, hb, hml, hown, hts⟩ (c_checkPlace_no l hst D cJ cI cR b n _ _ (a1) k2) (va_cwS 1 hts gX6_set_X6_checkPlace rfl rfl rfl (by decide +kernel) ⟨Nat.le_of_ble_eq_true rfl, Nat.le_of_ble_eq_true rfl⟩) hz.preS rfl rfl hl.1 rfl (lv_room (Nat.le_of_ble_eq_true rfl)) dX6_set_5 ⟨Nat.le_of_ble_eq_true rfl, Nat.le_of_ble_eq_true rfl⟩)
  · skip
    exact pw_xcall hz hnt hlocks rfl (Nat.le_of_ble_eq_true rfl) (Nat.le_of_ble_eq_true rfl) (vx_runS (As := [.int a0]) (rest := []) ⟨hx, hb, hml, hown, hts⟩ (c_checkSlot_no l hst D cJ cI cR b n _ _ (a0) k1) (va_cwS 1 hts gX6_set_X6_checkSlot rfl rfl rfl (by decide +kernel) ⟨Nat.le_of_ble_eq_true rfl, Nat.le_of_ble_eq_true rfl⟩) hz.preS rfl rfl hl.1 rfl (lv_room (Nat.le_of_ble_eq_true rfl)) dX6_set_1 ⟨Nat.le_of_ble_eq_true rfl, Nat.le_of_ble_eq_true rfl⟩)

set_option maxHeartbeats 400000 in
set_option maxRecDepth 100000 in
/-- get throws -/
theorem c_get_no (l : Launch) (hst : l.stackTraces = false) (D : va_G) (cJ cI cR : ClassId) (b n : Nat) (E : Nat → va_E) (sz : Nat) (x : Nat) (a0 : Int32) (a1 : Int32) (h : ¬ (oS a0 ∧ oK a1)) : vx_Met l yX6_get wsX6_get { frames := 7, cells := 1, slots := 6, locals := 102 } (cP D vwCl (tys3 cJ cI cR) b n E sz [.ref x, .int a0, .int a1]) (cQi D vwCl (tys3 cJ cI cR) b n (fun _ _ => False)) (cX D vwCl b n (fun E' => E' = E)) 1 6 (PA b) := by
  refine vx_ofW (cc := cX6_get) (maxL := 3) (ret := (some .int)) (by decide) rfl ?_
  intro p e s m args below meth c s₁ B hml hnt hv
  obtain ⟨rfl, hsz, hB⟩ := hv
  have hx := B.exec
  have hb := B.bytes
  have hret := B.returns
  have hts := atoms_spec (ws := wsX6_get) B.pre
  have hown : s.vm.findClass RX6 = some m.cls := findClass_of_methodNamed B.named
  have hlocks := B.notSynchronized
  subst hsz
  have hz := PS.start hB
  have hl := lv_entry ([.ref x, .int a0, .int a1]) (n := 3) (Nat.le_of_ble_eq_true rfl)
  rw [lg_entry_eq]
  generalize (lg_sl ([.ref x, .int a0, .int a1]) ++ List.replicate (3 - (lg_sl ([.ref x, .int a0, .int a1])).length) Slot.unset).toArray = ls at hl ⊢
  have hl : lv_has ls 3 [(0, .ref x), (1, .int a0), (2, .int a1)] := hl
  refine lv_iload_n hx hb dX6_get_0 rfl (lv_at hl 1 rfl) ?_
  by_cases k1 : oS (a0)
  · skip
    refine pw_callv hz (va_runS (As := [.int a0]) (rest := []) ⟨hx, hb, hml, hown, hts⟩ (c_checkSlot_ok l D cJ cI cR b n _ _ (a0) k1) (va_cwS 1 hts gX6_get_X6_checkSlot rfl rfl rfl (by decide +kernel) ⟨Nat.le_of_ble_eq_true rfl, Nat.le_of_ble_eq_true rfl⟩) hz.preS rfl rfl hl.1 rfl (lv_room (Nat.le_of_ble_eq_true rfl)) dX6_get_1 ⟨Nat.le_of_ble_eq_true rfl, Nat.le_of_ble_eq_true rfl⟩) (fun Ev H locs hp hz => ?_)
    rw [hp] at hz
    refine lv_iload_n hx hb dX6_get_4 rfl (lv_at hl 2 rfl) ?_
    by_cases k2 : oK (a1)
    · skip
      refine pw_callv hz (va_runS (As := [.int a1]) (rest := []) ⟨hx, hb, hml, hown, hts⟩ (c_checkPlace_ok l D cJ cI cR b n _ _ (a1) k2) (va_cwS 1 hts gX6_get_X6_checkPlace rfl rfl rfl (by decide +kernel) ⟨Nat.le_of_ble_eq_true rfl, Nat.le_of_ble_eq_true rfl⟩) hz.preS rfl rfl hl.1 rfl (lv_room (Nat.le_of_ble_eq_true rfl)) dX6_get_5 ⟨Nat.le_of_ble_eq_true rfl, Nat.le_of_ble_eq_true rfl⟩) (fun Ev H locs hp hz => ?_)
      rw [hp] at hz
      exact (h ⟨k1, k2⟩).elim
    · skip
      exact pw_xcall hz hnt hlocks rfl (Nat.le_of_ble_eq_true rfl) (Nat.le_of_ble_eq_true rfl) (vx_runS (As := [.int a1]) (rest := []) ⟨hx, hb, hml, hown, hts⟩ (c_checkPlace_no l hst D cJ cI cR b n _ _ (a1) k2) (va_cwS 1 hts gX6_get_X6_checkPlace rfl rfl rfl (by decide +kernel) ⟨Nat.le_of_ble_eq_true rfl, Nat.le_of_ble_eq_true rfl⟩) hz.preS rfl rfl hl.1 rfl (lv_room (Nat.le_of_ble_eq_true rfl)) dX6_get_5 ⟨Nat.le_of_ble_eq_true rfl, Nat.le_of_ble_eq_true rfl⟩)
  · skip
    exact pw_xcall hz hnt hlocks rfl (Nat.le_of_ble_eq_true rfl) (Nat.le_of_ble_eq_true rfl) (vx_runS (As := [.int a0]) (rest := []) ⟨hx, hb, hml, hown, hts⟩ (c_checkSlot_no l hst D cJ cI cR b n _ _ (a0) k1) (va_cwS 1 hts gX6_get_X6_checkSlot rfl rfl rfl (by decide +kernel) ⟨Nat.le_of_ble_eq_true rfl, Nat.le_of_ble_eq_true rfl⟩) hz.preS rfl rfl hl.1 rfl (lv_room (Nat.le_of_ble_eq_true rfl)) dX6_get_1 ⟨Nat.le_of_ble_eq_true rfl, Nat.le_of_ble_eq_true rfl⟩)

set_option maxHeartbeats 400000 in
set_option maxRecDepth 100000 in
/-- add throws -/
theorem c_add_no (l : Launch) (hst : l.stackTraces = false) (D : va_G) (cJ cI cR : ClassId) (b n : Nat) (E : Nat → va_E) (sz : Nat) (x : Nat) (a0 : Int32) (a1 : Int32) (a2 : Int32) (a3 : Int32) (a4 : Int32) (h : ¬ (o3 a0 a1 a2 ∧ oW a3 10 ∧ oW a4 10)) : vx_Met l yX6_add wsX6_add { frames := 8, cells := 1, slots := 6, locals := 124 } (cP D vwCl (tys3 cJ cI cR) b n E sz [.ref x, .int a0, .int a1, .int a2, .int a3, .int a4]) (cQi D vwCl (tys3 cJ cI cR) b n (fun _ _ => False)) (cX D vwCl b n (fun E' => E' = E)) 1 6 (PA b) := by
  refine vx_ofW (cc := cX6_add) (maxL := 6) (ret := (some .int)) (by decide) rfl ?_
  intro p e s m args below meth c s₁ B hml hnt hv
  obtain ⟨rfl, hsz, hB⟩ := hv
  have hx := B.exec
  have hb := B.bytes
  have hret := B.returns
  have hts := atoms_spec (ws := wsX6_add) B.pre
  have hown : s.vm.findClass RX6 = some m.cls := findClass_of_methodNamed B.named
  have hlocks := B.notSynchronized
  subst hsz
  have hz := PS.start hB
  have hl := lv_entry ([.ref x, .int a0, .int a1, .int a2, .int a3, .int a4]) (n := 6) (Nat.le_of_ble_eq_true rfl)
  rw [lg_entry_eq]
  generalize (lg_sl ([.ref x, .int a0, .int a1, .int a2, .int a3, .int a4]) ++ List.replicate (6 - (lg_sl ([.ref x, .int a0, .int a1, .int a2, .int a3, .int a4])).length) Slot.unset).toArray = ls at hl ⊢
  have hl : lv_has ls 6 [(0, .ref x), (1, .int a0), (2, .int a1), (3, .int a2), (4, .int a3), (5, .int a4)] := hl
  refine lv_iload_n hx hb dX6_add_0 rfl (lv_at hl 1 rfl) ?_
  refine lv_iload_n hx hb dX6_add_1 rfl (lv_at hl 2 rfl) ?_
  refine lv_iload_n hx hb dX6_add_2 rfl (lv_at hl 3 rfl) ?_
  by_cases k1 : o3 (a0) (a1) (a2)
  · skip
    refine pw_callv hz (va_runS (As := [.int a0, .int a1, .int a2]) (rest := []) ⟨hx, hb, hml, hown, hts⟩ (c_checkThree_ok l D cJ cI cR b n _ _ (a0) (a1) (a2) k1) (va_cwS 3 hts gX6_add_X6_checkThreeSlots rfl rfl rfl (by decide +kernel) ⟨Nat.le_of_ble_eq_true rfl, Nat.le_of_ble_eq_true rfl⟩) hz.preS rfl rfl hl.1 rfl (lv_room (Nat.le_of_ble_eq_true rfl)) dX6_add_3 ⟨Nat.le_of_ble_eq_true rfl, Nat.le_of_ble_eq_true rfl⟩) (fun Ev H locs hp hz => ?_)
    rw [hp] at hz
    refine lv_iload hx hb dX6_add_6 (lv_at hl 4 rfl) ?_
    refine lv_bipush (v := 10) hx hb dX6_add_8 (by decide) ?_
    by_cases k2 : oW (a3) (10)
    · skip
      refine pw_callv hz (va_runS (As := [.int a3, .int 10]) (rest := []) ⟨hx, hb, hml, hown, hts⟩ (c_checkWithin_ok l D cJ cI cR b n _ _ (a3) (10) k2) (va_cwS 2 hts gX6_add_X6_checkWithin rfl rfl rfl (by decide +kernel) ⟨Nat.le_of_ble_eq_true rfl, Nat.le_of_ble_eq_true rfl⟩) hz.preS rfl rfl hl.1 rfl (lv_room (Nat.le_of_ble_eq_true rfl)) dX6_add_10 ⟨Nat.le_of_ble_eq_true rfl, Nat.le_of_ble_eq_true rfl⟩) (fun Ev H locs hp hz => ?_)
      rw [hp] at hz
      refine lv_iload hx hb dX6_add_13 (lv_at hl 5 rfl) ?_
      refine lv_bipush (v := 10) hx hb dX6_add_15 (by decide) ?_
      by_cases k3 : oW (a4) (10)
      · skip
        refine pw_callv hz (va_runS (As := [.int a4, .int 10]) (rest := []) ⟨hx, hb, hml, hown, hts⟩ (c_checkWithin_ok l D cJ cI cR b n _ _ (a4) (10) k3) (va_cwS 2 hts gX6_add_X6_checkWithin rfl rfl rfl (by decide +kernel) ⟨Nat.le_of_ble_eq_true rfl, Nat.le_of_ble_eq_true rfl⟩) hz.preS rfl rfl hl.1 rfl (lv_room (Nat.le_of_ble_eq_true rfl)) dX6_add_17 ⟨Nat.le_of_ble_eq_true rfl, Nat.le_of_ble_eq_true rfl⟩) (fun Ev H locs hp hz => ?_)
        rw [hp] at hz
        exact (h ⟨k1, k2, k3⟩).elim
      · skip
        exact pw_xcall hz hnt hlocks rfl (Nat.le_of_ble_eq_true rfl) (Nat.le_of_ble_eq_true rfl) (vx_runS (As := [.int a4, .int 10]) (rest := []) ⟨hx, hb, hml, hown, hts⟩ (c_checkWithin_no l hst D cJ cI cR b n _ _ (a4) (10) k3) (va_cwS 2 hts gX6_add_X6_checkWithin rfl rfl rfl (by decide +kernel) ⟨Nat.le_of_ble_eq_true rfl, Nat.le_of_ble_eq_true rfl⟩) hz.preS rfl rfl hl.1 rfl (lv_room (Nat.le_of_ble_eq_true rfl)) dX6_add_17 ⟨Nat.le_of_ble_eq_true rfl, Nat.le_of_ble_eq_true rfl⟩)
    · skip
      exact pw_xcall hz hnt hlocks rfl (Nat.le_of_ble_eq_true rfl) (Nat.le_of_ble_eq_true rfl) (vx_runS (As := [.int a3, .int 10]) (rest := []) ⟨hx, hb, hml, hown, hts⟩ (c_checkWithin_no l hst D cJ cI cR b n _ _ (a3) (10) k2) (va_cwS 2 hts gX6_add_X6_checkWithin rfl rfl rfl (by decide +kernel) ⟨Nat.le_of_ble_eq_true rfl, Nat.le_of_ble_eq_true rfl⟩) hz.preS rfl rfl hl.1 rfl (lv_room (Nat.le_of_ble_eq_true rfl)) dX6_add_10 ⟨Nat.le_of_ble_eq_true rfl, Nat.le_of_ble_eq_true rfl⟩)
  · skip
    exact pw_xcall hz hnt hlocks rfl (Nat.le_of_ble_eq_true rfl) (Nat.le_of_ble_eq_true rfl) (vx_runS (As := [.int a0, .int a1, .int a2]) (rest := []) ⟨hx, hb, hml, hown, hts⟩ (c_checkThree_no l hst D cJ cI cR b n _ _ (a0) (a1) (a2) k1) (va_cwS 3 hts gX6_add_X6_checkThreeSlots rfl rfl rfl (by decide +kernel) ⟨Nat.le_of_ble_eq_true rfl, Nat.le_of_ble_eq_true rfl⟩) hz.preS rfl rfl hl.1 rfl (lv_room (Nat.le_of_ble_eq_true rfl)) dX6_add_3 ⟨Nat.le_of_ble_eq_true rfl, Nat.le_of_ble_eq_true rfl⟩)

set_option maxHeartbeats 400000 in
set_option maxRecDepth 100000 in
/-- multiply throws -/
theorem c_multiply_no (l : Launch) (hst : l.stackTraces = false) (D : va_G) (cJ cI cR : ClassId) (b n : Nat) (E : Nat → va_E) (sz : Nat) (x : Nat) (a0 : Int32) (a1 : Int32) (a2 : Int32) (h : ¬ (o3 a0 a1 a2)) : vx_Met l yX6_multiply wsX6_multiply { frames := 8, cells := 1, slots := 6, locals := 124 } (cP D vwCl (tys3 cJ cI cR) b n E sz [.ref x, .int a0, .int a1, .int a2]) (cQi D vwCl (tys3 cJ cI cR) b n (fun _ _ => False)) (cX D vwCl b n (fun E' => E' = E)) 1 6 (PA b) := by
  refine vx_ofW (cc := cX6_multiply) (maxL := 4) (ret := (some .int)) (by decide) rfl ?_
  intro p e s m args below meth c s₁ B hml hnt hv
  obtain ⟨rfl, hsz, hB⟩ := hv
  have hx := B.exec
  have hb := B.bytes
  have hret := B.returns
  have hts := atoms_spec (ws := wsX6_multiply) B.pre
  have hown : s.vm.findClass RX6 = some m.cls := findClass_of_methodNamed B.named
  have hlocks := B.notSynchronized
  subst hsz
  have hz := PS.start hB
  have hl := lv_entry ([.ref x, .int a0, .int a1, .int a2]) (n := 4) (Nat.le_of_ble_eq_true rfl)
  rw [lg_entry_eq]
  generalize (lg_sl ([.ref x, .int a0, .int a1, .int a2]) ++ List.replicate (4 - (lg_sl ([.ref x, .int a0, .int a1, .int a2])).length) Slot.unset).toArray = ls at hl ⊢
  have hl : lv_has ls 4 [(0, .ref x), (1, .int a0), (2, .int a1), (3, .int a2)] := hl
  refine lv_iload_n hx hb dX6_multiply_0 rfl (lv_at hl 1 rfl) ?_
  refine lv_iload_n hx hb dX6_multiply_1 rfl (lv_at hl 2 rfl) ?_
  refine lv_iload_n hx hb dX6_multiply_2 rfl (lv_at hl 3 rfl) ?_
  by_cases k1 : o3 (a0) (a1) (a2)
  · skip
    refine pw_callv hz (va_runS (As := [.int a0, .int a1, .int a2]) (rest := []) ⟨hx, hb, hml, hown, hts⟩ (c_checkThree_ok l D cJ cI cR b n _ _ (a0) (a1) (a2) k1) (va_cwS 3 hts gX6_multiply_X6_checkThreeSlots rfl rfl rfl (by decide +kernel) ⟨Nat.le_of_ble_eq_true rfl, Nat.le_of_ble_eq_true rfl⟩) hz.preS rfl rfl hl.1 rfl (lv_room (Nat.le_of_ble_eq_true rfl)) dX6_multiply_3 ⟨Nat.le_of_ble_eq_true rfl, Nat.le_of_ble_eq_true rfl⟩) (fun Ev H locs hp hz => ?_)
    rw [hp] at hz
    exact (h k1).elim
  · skip
    exact pw_xcall hz hnt hlocks rfl (Nat.le_of_ble_eq_true rfl) (Nat.le_of_ble_eq_true rfl) (vx_runS (As := [.int a0, .int a1, .int a2]) (rest := []) ⟨hx, hb, hml, hown, hts⟩ (c_checkThree_no l hst D cJ cI cR b n _ _ (a0) (a1) (a2) k1) (va_cwS 3 hts gX6_multiply_X6_checkThreeSlots rfl rfl rfl (by decide +kernel) ⟨Nat.le_of_ble_eq_true rfl, Nat.le_of_ble_eq_true rfl⟩) hz.preS rfl rfl hl.1 rfl (lv_room (Nat.le_of_ble_eq_true rfl)) dX6_multiply_3 ⟨Nat.le_of_ble_eq_true rfl, Nat.le_of_ble_eq_true rfl⟩)

set_option maxHeartbeats 400000 in
set_option maxRecDepth 100000 in
/-- divide throws -/
theorem c_divide_no (l : Launch) (hst : l.stackTraces = false) (D : va_G) (cJ cI cR : ClassId) (b n : Nat) (E : Nat → va_E) (sz : Nat) (x : Nat) (a0 : Int32) (a1 : Int32) (a2 : Int32) (h : ¬ (o3 a0 a1 a2)) : vx_Met l yX6_divide wsX6_divide { frames := 8, cells := 1, slots := 6, locals := 124 } (cP D vwCl (tys3 cJ cI cR) b n E sz [.ref x, .int a0, .int a1, .int a2]) (cQi D vwCl (tys3 cJ cI cR) b n (fun _ _ => False)) (cX D vwCl b n (fun E' => E' = E)) 1 6 (PA b) := by
  refine vx_ofW (cc := cX6_divide) (maxL := 4) (ret := (some .int)) (by decide) rfl ?_
  intro p e s m args below meth c s₁ B hml hnt hv
  obtain ⟨rfl, hsz, hB⟩ := hv
  have hx := B.exec
  have hb := B.bytes
  have hret := B.returns
  have hts := atoms_spec (ws := wsX6_divide) B.pre
  have hown : s.vm.findClass RX6 = some m.cls := findClass_of_methodNamed B.named
  have hlocks := B.notSynchronized
  subst hsz
  have hz := PS.start hB
  have hl := lv_entry ([.ref x, .int a0, .int a1, .int a2]) (n := 4) (Nat.le_of_ble_eq_true rfl)
  rw [lg_entry_eq]
  generalize (lg_sl ([.ref x, .int a0, .int a1, .int a2]) ++ List.replicate (4 - (lg_sl ([.ref x, .int a0, .int a1, .int a2])).length) Slot.unset).toArray = ls at hl ⊢
  have hl : lv_has ls 4 [(0, .ref x), (1, .int a0), (2, .int a1), (3, .int a2)] := hl
  refine lv_iload_n hx hb dX6_divide_0 rfl (lv_at hl 1 rfl) ?_
  refine lv_iload_n hx hb dX6_divide_1 rfl (lv_at hl 2 rfl) ?_
  refine lv_iload_n hx hb dX6_divide_2 rfl (lv_at hl 3 rfl) ?_
  by_cases k1 : o3 (a0) (a1) (a2)
  · skip
    refine pw_callv hz (va_runS (As := [.int a0, .int a1, .int a2]) (rest := []) ⟨hx, hb, hml, hown, hts⟩ (c_checkThree_ok l D cJ cI cR b n _ _ (a0) (a1) (a2) k1) (va_cwS 3 hts gX6_divide_X6_checkThreeSlots rfl rfl rfl (by decide +kernel) ⟨Nat.le_of_ble_eq_true rfl, Nat.le_of_ble_eq_true rfl⟩) hz.preS rfl rfl hl.1 rfl (lv_room (Nat.le_of_ble_eq_true rfl)) dX6_divide_3 ⟨Nat.le_of_ble_eq_true rfl, Nat.le_of_ble_eq_true rfl⟩) (fun Ev H locs hp hz => ?_)
    rw [hp] at hz
    exact (h k1).elim
  · skip
    exact pw_xcall hz hnt hlocks rfl (Nat.le_of_ble_eq_true rfl) (Nat.le_of_ble_eq_true rfl) (vx_runS (As := [.int a0, .int a1, .int a2]) (rest := []) ⟨hx, hb, hml, hown, hts⟩ (c_checkThree_no l hst D cJ cI cR b n _ _ (a0) (a1) (a2) k1) (va_cwS 3 hts gX6_divide_X6_checkThreeSlots rfl rfl rfl (by decide +kernel) ⟨Nat.le_of_ble_eq_true rfl, Nat.le_of_ble_eq_true rfl⟩) hz.preS rfl rfl hl.1 rfl (lv_room (Nat.le_of_ble_eq_true rfl)) dX6_divide_3 ⟨Nat.le_of_ble_eq_true rfl, Nat.le_of_ble_eq_true rfl⟩)

set_option maxHeartbeats 400000 in
set_option maxRecDepth 100000 in
/-- common throws -/
theorem c_common_no (l : Launch) (hst : l.stackTraces = false) (D : va_G) (cJ cI cR : ClassId) (b n : Nat) (E : Nat → va_E) (sz : Nat) (x : Nat) (a0 : Int32) (a1 : Int32) (a2 : Int32) (h : ¬ (o3 a0 a1 a2)) : vx_Met l yX6_common wsX6_common { frames := 8, cells := 1, slots := 6, locals := 124 } (cP D vwCl (tys3 cJ cI cR) b n E sz [.ref x, .int a0, .int a1, .int a2]) (cQi D vwCl (tys3 cJ cI cR) b n (fun _ _ => False)) (cX D vwCl b n (fun E' => E' = E)) 1 6 (PA b) := by
  refine vx_ofW (cc := cX6_common) (maxL := 4) (ret := (some .int)) (by decide) rfl ?_
  intro p e s m args below meth c s₁ B hml hnt hv
  obtain ⟨rfl, hsz, hB⟩ := hv
  have hx := B.exec
  have hb := B.bytes
  have hret := B.returns
  have hts := atoms_spec (ws := wsX6_common) B.pre
  have hown : s.vm.findClass RX6 = some m.cls := findClass_of_methodNamed B.named
  have hlocks := B.notSynchronized
  subst hsz
  have hz := PS.start hB
  have hl := lv_entry ([.ref x, .int a0, .int a1, .int a2]) (n := 4) (Nat.le_of_ble_eq_true rfl)
  rw [lg_entry_eq]
  generalize (lg_sl ([.ref x, .int a0, .int a1, .int a2]) ++ List.replicate (4 - (lg_sl ([.ref x, .int a0, .int a1, .int a2])).length) Slot.unset).toArray = ls at hl ⊢
  have hl : lv_has ls 4 [(0, .ref x), (1, .int a0), (2, .int a1), (3, .int a2)] := hl
  refine lv_iload_n hx hb dX6_common_0 rfl (lv_at hl 1 rfl) ?_
  refine lv_iload_n hx hb dX6_common_1 rfl (lv_at hl 2 rfl) ?_
  refine lv_iload_n hx hb dX6_common_2 rfl (lv_at hl 3 rfl) ?_
  by_cases k1 : o3 (a0) (a1) (a2)
  · skip
    refine pw_callv hz (va_runS (As := [.int a0, .int a1, .int a2]) (rest := []) ⟨hx, hb, hml, hown, hts⟩ (c_checkThree_ok l D cJ cI cR b n _ _ (a0) (a1) (a2) k1) (va_cwS 3 hts gX6_common_X6_checkThreeSlots rfl rfl rfl (by decide +kernel) ⟨Nat.le_of_ble_eq_true rfl, Nat.le_of_ble_eq_true rfl⟩) hz.preS rfl rfl hl.1 rfl (lv_room (Nat.le_of_ble_eq_true rfl)) dX6_common_3 ⟨Nat.le_of_ble_eq_true rfl, Nat.le_of_ble_eq_true rfl⟩) (fun Ev H locs hp hz => ?_)
    rw [hp] at hz
    exact (h k1).elim
  · skip
    exact pw_xcall hz hnt hlocks rfl (Nat.le_of_ble_eq_true rfl) (Nat.le_of_ble_eq_true rfl) (vx_runS (As := [.int a0, .int a1, .int a2]) (rest := []) ⟨hx, hb, hml, hown, hts⟩ (c_checkThree_no l hst D cJ cI cR b n _ _ (a0) (a1) (a2) k1) (va_cwS 3 hts gX6_common_X6_checkThreeSlots rfl rfl rfl (by decide +kernel) ⟨Nat.le_of_ble_eq_true rfl, Nat.le_of_ble_eq_true rfl⟩) hz.preS rfl rfl hl.1 rfl (lv_room (Nat.le_of_ble_eq_true rfl)) dX6_common_3 ⟨Nat.le_of_ble_eq_true rfl, Nat.le_of_ble_eq_true rfl⟩)

set_option maxHeartbeats 400000 in
set_option maxRecDepth 100000 in
/-- derive throws -/
theorem c_derive_no (l : Launch) (hst : l.stackTraces = false) (D : va_G) (cJ cI cR : ClassId) (b n : Nat) (E : Nat → va_E) (sz : Nat) (x : Nat) (a0 : Int32) (a1 : Int32) (h : ¬ (oS a0 ∧ oS a1)) : vx_Met l yX6_derive wsX6_derive { frames := 7, cells := 1, slots := 6, locals := 102 } (cP D vwCl (tys3 cJ cI cR) b n E sz [.ref x, .int a0, .int a1]) (cQi D vwCl (tys3 cJ cI cR) b n (fun _ _ => False)) (cX D vwCl b n (fun E' => E' = E)) 1 6 (PA b) := by
  refine vx_ofW (cc := cX6_derive) (maxL := 3) (ret := (some .int)) (by decide) rfl ?_
  intro p e s m args below meth c s₁ B hml hnt hv
  obtain ⟨rfl, hsz, hB⟩ := hv
  have hx := B.exec
  have hb := B.bytes
  have hret := B.returns
  have hts := atoms_spec (ws := wsX6_derive) B.pre
  have hown : s.vm.findClass RX6 = some m.cls := findClass_of_methodNamed B.named
  have hlocks := B.notSynchronized
  subst hsz
  have hz := PS.start hB
  have hl := lv_entry ([.ref x, .int a0, .int a1]) (n := 3) (Nat.le_of_ble_eq_true rfl)
  rw [lg_entry_eq]
  generalize (lg_sl ([.ref x, .int a0, .int a1]) ++ List.replicate (3 - (lg_sl ([.ref x, .int a0, .int a1])).length) Slot.unset).toArray = ls at hl ⊢
  have hl : lv_has ls 3 [(0, .ref x), (1, .int a0), (2, .int a1)] := hl
  refine lv_iload_n hx hb dX6_derive_0 rfl (lv_at hl 1 rfl) ?_
  by_cases k1 : oS (a0)
  · skip
    refine pw_callv hz (va_runS (As := [.int a0]) (rest := []) ⟨hx, hb, hml, hown, hts⟩ (c_checkSlot_ok l D cJ cI cR b n _ _ (a0) k1) (va_cwS 1 hts gX6_derive_X6_checkSlot rfl rfl rfl (by decide +kernel) ⟨Nat.le_of_ble_eq_true rfl, Nat.le_of_ble_eq_true rfl⟩) hz.preS rfl rfl hl.1 rfl (lv_room (Nat.le_of_ble_eq_true rfl)) dX6_derive_1 ⟨Nat.le_of_ble_eq_true rfl, Nat.le_of_ble_eq_true rfl⟩) (fun Ev H locs hp hz => ?_)
    rw [hp] at hz
    refine lv_iload_n hx hb dX6_derive_4 rfl (lv_at hl 2 rfl) ?_
    by_cases k2 : oS (a1)
    · skip
      refine pw_callv hz (va_runS (As := [.int a1]) (rest := []) ⟨hx, hb, hml, hown, hts⟩ (c_checkSlot_ok l D cJ cI cR b n _ _ (a1) k2) (va_cwS 1 hts gX6_derive_X6_checkSlot rfl rfl rfl (by decide +kernel) ⟨Nat.le_of_ble_eq_true rfl, Nat.le_of_ble_eq_true rfl⟩) hz.preS rfl rfl hl.1 rfl (lv_room (Nat.le_of_ble_eq_true rfl)) dX6_derive_5 ⟨Nat.le_of_ble_eq_true rfl, Nat.le_of_ble_eq_true rfl⟩) (fun Ev H locs hp hz => ?_)
      rw [hp] at hz
      exact (h ⟨k1, k2⟩).elim
    · skip
      exact pw_xcall hz hnt hlocks rfl (Nat.le_of_ble_eq_true rfl) (Nat.le_of_ble_eq_true rfl) (vx_runS (As := [.int a1]) (rest := []) ⟨hx, hb, hml, hown, hts⟩ (c_checkSlot_no l hst D cJ cI cR b n _ _ (a1) k2) (va_cwS 1 hts gX6_derive_X6_checkSlot rfl rfl rfl (by decide +kernel) ⟨Nat.le_of_ble_eq_true rfl, Nat.le_of_ble_eq_true rfl⟩) hz.preS rfl rfl hl.1 rfl (lv_room (Nat.le_of_ble_eq_true rfl)) dX6_derive_5 ⟨Nat.le_of_ble_eq_true rfl, Nat.le_of_ble_eq_true rfl⟩)
  · skip
    exact pw_xcall hz hnt hlocks rfl (Nat.le_of_ble_eq_true rfl) (Nat.le_of_ble_eq_true rfl) (vx_runS (As := [.int a0]) (rest := []) ⟨hx, hb, hml, hown, hts⟩ (c_checkSlot_no l hst D cJ cI cR b n _ _ (a0) k1) (va_cwS 1 hts gX6_derive_X6_checkSlot rfl rfl rfl (by decide +kernel) ⟨Nat.le_of_ble_eq_true rfl, Nat.le_of_ble_eq_true rfl⟩) hz.preS rfl rfl hl.1 rfl (lv_room (Nat.le_of_ble_eq_true rfl)) dX6_derive_1 ⟨Nat.le_of_ble_eq_true rfl, Nat.le_of_ble_eq_true rfl⟩)

set_option maxHeartbeats 400000 in
set_option maxRecDepth 100000 in
/-- parts throws -/
theorem c_parts_no (l : Launch) (hst : l.stackTraces = false) (D : va_G) (cJ cI cR : ClassId) (b n : Nat) (E : Nat → va_E) (sz : Nat) (x : Nat) (a0 : Int32) (h : ¬ (oS a0)) : vx_Met l yX6_parts wsX6_parts { frames := 7, cells := 1, slots := 6, locals := 102 } (cP D vwCl (tys3 cJ cI cR) b n E sz [.ref x, .int a0]) (cQi D vwCl (tys3 cJ cI cR) b n (fun _ _ => False)) (cX D vwCl b n (fun E' => E' = E)) 1 6 (PA b) := by
  refine vx_ofW (cc := cX6_parts) (maxL := 2) (ret := (some .int)) (by decide) rfl ?_
  intro p e s m args below meth c s₁ B hml hnt hv
  obtain ⟨rfl, hsz, hB⟩ := hv
  have hx := B.exec
  have hb := B.bytes
  have hret := B.returns
  have hts := atoms_spec (ws := wsX6_parts) B.pre
  have hown : s.vm.findClass RX6 = some m.cls := findClass_of_methodNamed B.named
  have hlocks := B.notSynchronized
  subst hsz
  have hz := PS.start hB
  have hl := lv_entry ([.ref x, .int a0]) (n := 2) (Nat.le_of_ble_eq_true rfl)
  rw [lg_entry_eq]
  generalize (lg_sl ([.ref x, .int a0]) ++ List.replicate (2 - (lg_sl ([.ref x, .int a0])).length) Slot.unset).toArray = ls at hl ⊢
  have hl : lv_has ls 2 [(0, .ref x), (1, .int a0)] := hl
  refine lv_iload_n hx hb dX6_parts_0 rfl (lv_at hl 1 rfl) ?_
  by_cases k1 : oS (a0)
  · skip
    refine pw_callv hz (va_runS (As := [.int a0]) (rest := []) ⟨hx, hb, hml, hown, hts⟩ (c_checkSlot_ok l D cJ cI cR b n _ _ (a0) k1) (va_cwS 1 hts gX6_parts_X6_checkSlot rfl rfl rfl (by decide +kernel) ⟨Nat.le_of_ble_eq_true rfl, Nat.le_of_ble_eq_true rfl⟩) hz.preS rfl rfl hl.1 rfl (lv_room (Nat.le_of_ble_eq_true rfl)) dX6_parts_1 ⟨Nat.le_of_ble_eq_true rfl, Nat.le_of_ble_eq_true rfl⟩) (fun Ev H locs hp hz => ?_)
    rw [hp] at hz
    exact (h k1).elim
  · skip
    exact pw_xcall hz hnt hlocks rfl (Nat.le_of_ble_eq_true rfl) (Nat.le_of_ble_eq_true rfl) (vx_runS (As := [.int a0]) (rest := []) ⟨hx, hb, hml, hown, hts⟩ (c_checkSlot_no l hst D cJ cI cR b n _ _ (a0) k1) (va_cwS 1 hts gX6_parts_X6_checkSlot rfl rfl rfl (by decide +kernel) ⟨Nat.le_of_ble_eq_true rfl, Nat.le_of_ble_eq_true rfl⟩) hz.preS rfl rfl hl.1 rfl (lv_room (Nat.le_of_ble_eq_true rfl)) dX6_parts_1 ⟨Nat.le_of_ble_eq_true rfl, Nat.le_of_ble_eq_true rfl⟩)

set_option maxHeartbeats 400000 in
set_option maxRecDepth 100000 in
/-- galois throws -/
theorem c_galois_no (l : Launch) (hst : l.stackTraces = false) (D : va_G) (cJ cI cR : ClassId) (b n : Nat) (E : Nat → va_E) (sz : Nat) (x : Nat) (a0 : Int32) (h : ¬ (oS a0)) : vx_Met l yX6_galois wsX6_galois { frames := 7, cells := 1, slots := 6, locals := 102 } (cP D vwCl (tys3 cJ cI cR) b n E sz [.ref x, .int a0]) (cQi D vwCl (tys3 cJ cI cR) b n (fun _ _ => False)) (cX D vwCl b n (fun E' => E' = E)) 1 6 (PA b) := by
  refine vx_ofW (cc := cX6_galois) (maxL := 3) (ret := (some .int)) (by decide) rfl ?_
  intro p e s m args below meth c s₁ B hml hnt hv
  obtain ⟨rfl, hsz, hB⟩ := hv
  have hx := B.exec
  have hb := B.bytes
  have hret := B.returns
  have hts := atoms_spec (ws := wsX6_galois) B.pre
  have hown : s.vm.findClass RX6 = some m.cls := findClass_of_methodNamed B.named
  have hlocks := B.notSynchronized
  subst hsz
  have hz := PS.start hB
  have hl := lv_entry ([.ref x, .int a0]) (n := 3) (Nat.le_of_ble_eq_true rfl)
  rw [lg_entry_eq]
  generalize (lg_sl ([.ref x, .int a0]) ++ List.replicate (3 - (lg_sl ([.ref x, .int a0])).length) Slot.unset).toArray = ls at hl ⊢
  have hl : lv_has ls 3 [(0, .ref x), (1, .int a0)] := hl
  refine lv_iload_n hx hb dX6_galois_0 rfl (lv_at hl 1 rfl) ?_
  by_cases k1 : oS (a0)
  · skip
    refine pw_callv hz (va_runS (As := [.int a0]) (rest := []) ⟨hx, hb, hml, hown, hts⟩ (c_checkSlot_ok l D cJ cI cR b n _ _ (a0) k1) (va_cwS 1 hts gX6_galois_X6_checkSlot rfl rfl rfl (by decide +kernel) ⟨Nat.le_of_ble_eq_true rfl, Nat.le_of_ble_eq_true rfl⟩) hz.preS rfl rfl hl.1 rfl (lv_room (Nat.le_of_ble_eq_true rfl)) dX6_galois_1 ⟨Nat.le_of_ble_eq_true rfl, Nat.le_of_ble_eq_true rfl⟩) (fun Ev H locs hp hz => ?_)
    rw [hp] at hz
    exact (h k1).elim
  · skip
    exact pw_xcall hz hnt hlocks rfl (Nat.le_of_ble_eq_true rfl) (Nat.le_of_ble_eq_true rfl) (vx_runS (As := [.int a0]) (rest := []) ⟨hx, hb, hml, hown, hts⟩ (c_checkSlot_no l hst D cJ cI cR b n _ _ (a0) k1) (va_cwS 1 hts gX6_galois_X6_checkSlot rfl rfl rfl (by decide +kernel) ⟨Nat.le_of_ble_eq_true rfl, Nat.le_of_ble_eq_true rfl⟩) hz.preS rfl rfl hl.1 rfl (lv_room (Nat.le_of_ble_eq_true rfl)) dX6_galois_1 ⟨Nat.le_of_ble_eq_true rfl, Nat.le_of_ble_eq_true rfl⟩)

set_option maxHeartbeats 400000 in
set_option maxRecDepth 100000 in
/-- pattern throws -/
theorem c_pattern_no (l : Launch) (hst : l.stackTraces = false) (D : va_G) (cJ cI cR : ClassId) (b n : Nat) (E : Nat → va_E) (sz : Nat) (x : Nat) (a0 : Int32) (a1 : Int32) (h : ¬ (oS a0 ∧ oP a1)) : vx_Met l yX6_pattern wsX6_pattern { frames := 7, cells := 1, slots := 6, locals := 103 } (cP D vwCl (tys3 cJ cI cR) b n E sz [.ref x, .int a0, .int a1]) (cQi D vwCl (tys3 cJ cI cR) b n (fun _ _ => False)) (cX D vwCl b n (fun E' => E' = E)) 1 6 (PA b) := by
  refine vx_ofW (cc := cX6_pattern) (maxL := 3) (ret := (some .int)) (by decide) rfl ?_
  intro p e s m args below meth c s₁ B hml hnt hv
  obtain ⟨rfl, hsz, hB⟩ := hv
  have hx := B.exec
  have hb := B.bytes
  have hret := B.returns
  have hts := atoms_spec (ws := wsX6_pattern) B.pre
  have hown : s.vm.findClass RX6 = some m.cls := findClass_of_methodNamed B.named
  have hlocks := B.notSynchronized
  subst hsz
  have hz := PS.start hB
  have hl := lv_entry ([.ref x, .int a0, .int a1]) (n := 3) (Nat.le_of_ble_eq_true rfl)
  rw [lg_entry_eq]
  generalize (lg_sl ([.ref x, .int a0, .int a1]) ++ List.replicate (3 - (lg_sl ([.ref x, .int a0, .int a1])).length) Slot.unset).toArray = ls at hl ⊢
  have hl : lv_has ls 3 [(0, .ref x), (1, .int a0), (2, .int a1)] := hl
  refine lv_iload_n hx hb dX6_pattern_0 rfl (lv_at hl 1 rfl) ?_
  by_cases k1 : oS (a0)
  · skip
    refine pw_callv hz (va_runS (As := [.int a0]) (rest := []) ⟨hx, hb, hml, hown, hts⟩ (c_checkSlot_ok l D cJ cI cR b n _ _ (a0) k1) (va_cwS 1 hts gX6_pattern_X6_checkSlot rfl rfl rfl (by decide +kernel) ⟨Nat.le_of_ble_eq_true rfl, Nat.le_of_ble_eq_true rfl⟩) hz.preS rfl rfl hl.1 rfl (lv_room (Nat.le_of_ble_eq_true rfl)) dX6_pattern_1 ⟨Nat.le_of_ble_eq_true rfl, Nat.le_of_ble_eq_true rfl⟩) (fun Ev H locs hp hz => ?_)
    rw [hp] at hz
    refine lv_iload_n hx hb dX6_pattern_4 rfl (lv_at hl 2 rfl) ?_
    by_cases k2 : oP (a1)
    · skip
      refine pw_callv hz (va_runS (As := [.int a1]) (rest := []) ⟨hx, hb, hml, hown, hts⟩ (c_checkPrime_ok l D cJ cI cR b n _ _ (a1) k2) (va_cwS 1 hts gX6_pattern_X6_checkPrime rfl rfl rfl (by decide +kernel) ⟨Nat.le_of_ble_eq_true rfl, Nat.le_of_ble_eq_true rfl⟩) hz.preS rfl rfl hl.1 rfl (lv_room (Nat.le_of_ble_eq_true rfl)) dX6_pattern_5 ⟨Nat.le_of_ble_eq_true rfl, Nat.le_of_ble_eq_true rfl⟩) (fun Ev H locs hp hz => ?_)
      rw [hp] at hz
      exact (h ⟨k1, k2⟩).elim
    · skip
      exact pw_xcall hz hnt hlocks rfl (Nat.le_of_ble_eq_true rfl) (Nat.le_of_ble_eq_true rfl) (vx_runS (As := [.int a1]) (rest := []) ⟨hx, hb, hml, hown, hts⟩ (c_checkPrime_no l hst D cJ cI cR b n _ _ (a1) k2) (va_cwS 1 hts gX6_pattern_X6_checkPrime rfl rfl rfl (by decide +kernel) ⟨Nat.le_of_ble_eq_true rfl, Nat.le_of_ble_eq_true rfl⟩) hz.preS rfl rfl hl.1 rfl (lv_room (Nat.le_of_ble_eq_true rfl)) dX6_pattern_5 ⟨Nat.le_of_ble_eq_true rfl, Nat.le_of_ble_eq_true rfl⟩)
  · skip
    exact pw_xcall hz hnt hlocks rfl (Nat.le_of_ble_eq_true rfl) (Nat.le_of_ble_eq_true rfl) (vx_runS (As := [.int a0]) (rest := []) ⟨hx, hb, hml, hown, hts⟩ (c_checkSlot_no l hst D cJ cI cR b n _ _ (a0) k1) (va_cwS 1 hts gX6_pattern_X6_checkSlot rfl rfl rfl (by decide +kernel) ⟨Nat.le_of_ble_eq_true rfl, Nat.le_of_ble_eq_true rfl⟩) hz.preS rfl rfl hl.1 rfl (lv_room (Nat.le_of_ble_eq_true rfl)) dX6_pattern_1 ⟨Nat.le_of_ble_eq_true rfl, Nat.le_of_ble_eq_true rfl⟩)
